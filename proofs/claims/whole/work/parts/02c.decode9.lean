theorem dX9_init_0 : decode cX9_init 0 = .ok (.aload_n 0, 1) := by decide +kernel
theorem dX9_init_1 : decode cX9_init 1 = .ok (.invokespecial 1, 3) := by decide +kernel
theorem dX9_init_4 : decode cX9_init 4 = .ok (.aload_n 0, 1) := by decide +kernel
theorem dX9_init_5 : decode cX9_init 5 = .ok (.bipush 6, 2) := by decide +kernel
theorem dX9_init_7 : decode cX9_init 7 = .ok (.newarray .int, 2) := by decide +kernel
theorem dX9_init_9 : decode cX9_init 9 = .ok (.putfield 7, 3) := by decide +kernel
theorem dX9_init_12 : decode cX9_init 12 = .ok (.aload_n 0, 1) := by decide +kernel
theorem dX9_init_13 : decode cX9_init 13 = .ok (.bipush 6, 2) := by decide +kernel
theorem dX9_init_15 : decode cX9_init 15 = .ok (.newarray .int, 2) := by decide +kernel
theorem dX9_init_17 : decode cX9_init 17 = .ok (.putfield 13, 3) := by decide +kernel
theorem dX9_init_20 : decode cX9_init 20 = .ok (.aload_n 0, 1) := by decide +kernel
theorem dX9_init_21 : decode cX9_init 21 = .ok (.bipush 72, 2) := by decide +kernel
theorem dX9_init_23 : decode cX9_init 23 = .ok (.newarray .boolean, 2) := by decide +kernel
theorem dX9_init_25 : decode cX9_init 25 = .ok (.putfield 16, 3) := by decide +kernel
theorem dX9_init_28 : decode cX9_init 28 = .ok (.aload_n 0, 1) := by decide +kernel
theorem dX9_init_29 : decode cX9_init 29 = .ok (.bipush 72, 2) := by decide +kernel
theorem dX9_init_31 : decode cX9_init 31 = .ok (.newarray .int, 2) := by decide +kernel
theorem dX9_init_33 : decode cX9_init 33 = .ok (.putfield 20, 3) := by decide +kernel
theorem dX9_init_36 : decode cX9_init 36 = .ok (.aload_n 0, 1) := by decide +kernel
theorem dX9_init_37 : decode cX9_init 37 = .ok (.bipush 72, 2) := by decide +kernel
theorem dX9_init_39 : decode cX9_init 39 = .ok (.newarray .int, 2) := by decide +kernel
theorem dX9_init_41 : decode cX9_init 41 = .ok (.putfield 23, 3) := by decide +kernel
theorem dX9_init_44 : decode cX9_init 44 = .ok (.aload_n 0, 1) := by decide +kernel
theorem dX9_init_45 : decode cX9_init 45 = .ok (.bipush 6, 2) := by decide +kernel
theorem dX9_init_47 : decode cX9_init 47 = .ok (.newarray .int, 2) := by decide +kernel
theorem dX9_init_49 : decode cX9_init 49 = .ok (.putfield 26, 3) := by decide +kernel
theorem dX9_init_52 : decode cX9_init 52 = .ok (.aload_n 0, 1) := by decide +kernel
theorem dX9_init_53 : decode cX9_init 53 = .ok (.bipush 72, 2) := by decide +kernel
theorem dX9_init_55 : decode cX9_init 55 = .ok (.newarray .int, 2) := by decide +kernel
theorem dX9_init_57 : decode cX9_init 57 = .ok (.putfield 29, 3) := by decide +kernel
theorem dX9_init_60 : decode cX9_init 60 = .ok (.aload_n 0, 1) := by decide +kernel
theorem dX9_init_61 : decode cX9_init 61 = .ok (.bipush 6, 2) := by decide +kernel
theorem dX9_init_63 : decode cX9_init 63 = .ok (.newarray .int, 2) := by decide +kernel
theorem dX9_init_65 : decode cX9_init 65 = .ok (.putfield 32, 3) := by decide +kernel
theorem dX9_init_68 : decode cX9_init 68 = .ok (.aload_n 0, 1) := by decide +kernel
theorem dX9_init_69 : decode cX9_init 69 = .ok (.iconst 4, 1) := by decide +kernel
theorem dX9_init_70 : decode cX9_init 70 = .ok (.newarray .int, 2) := by decide +kernel
theorem dX9_init_72 : decode cX9_init 72 = .ok (.putfield 35, 3) := by decide +kernel
theorem dX9_init_75 : decode cX9_init 75 = .ok (.aload_n 0, 1) := by decide +kernel
theorem dX9_init_76 : decode cX9_init 76 = .ok (.iconst 4, 1) := by decide +kernel
theorem dX9_init_77 : decode cX9_init 77 = .ok (.newarray .int, 2) := by decide +kernel
theorem dX9_init_79 : decode cX9_init 79 = .ok (.putfield 38, 3) := by decide +kernel
theorem dX9_init_82 : decode cX9_init 82 = .ok (.aload_n 0, 1) := by decide +kernel
theorem dX9_init_83 : decode cX9_init 83 = .ok (.iconst 4, 1) := by decide +kernel
theorem dX9_init_84 : decode cX9_init 84 = .ok (.newarray .int, 2) := by decide +kernel
theorem dX9_init_86 : decode cX9_init 86 = .ok (.putfield 41, 3) := by decide +kernel
theorem dX9_init_89 : decode cX9_init 89 = .ok (.aload_n 0, 1) := by decide +kernel
theorem dX9_init_90 : decode cX9_init 90 = .ok (.bipush 30, 2) := by decide +kernel
theorem dX9_init_92 : decode cX9_init 92 = .ok (.newarray .int, 2) := by decide +kernel
theorem dX9_init_94 : decode cX9_init 94 = .ok (.putfield 44, 3) := by decide +kernel
theorem dX9_init_97 : decode cX9_init 97 = .ok (.aload_n 0, 1) := by decide +kernel
theorem dX9_init_98 : decode cX9_init 98 = .ok (.bipush 10, 2) := by decide +kernel
theorem dX9_init_100 : decode cX9_init 100 = .ok (.newarray .int, 2) := by decide +kernel
theorem dX9_init_102 : decode cX9_init 102 = .ok (.putfield 47, 3) := by decide +kernel
theorem dX9_init_105 : decode cX9_init 105 = .ok (.aload_n 0, 1) := by decide +kernel
theorem dX9_init_106 : decode cX9_init 106 = .ok (.bipush 10, 2) := by decide +kernel
theorem dX9_init_108 : decode cX9_init 108 = .ok (.newarray .int, 2) := by decide +kernel
theorem dX9_init_110 : decode cX9_init 110 = .ok (.putfield 50, 3) := by decide +kernel
theorem dX9_init_113 : decode cX9_init 113 = .ok (.aload_n 0, 1) := by decide +kernel
theorem dX9_init_114 : decode cX9_init 114 = .ok (.bipush 10, 2) := by decide +kernel
theorem dX9_init_116 : decode cX9_init 116 = .ok (.newarray .int, 2) := by decide +kernel
theorem dX9_init_118 : decode cX9_init 118 = .ok (.putfield 53, 3) := by decide +kernel
theorem dX9_init_121 : decode cX9_init 121 = .ok (.aload_n 0, 1) := by decide +kernel
theorem dX9_init_122 : decode cX9_init 122 = .ok (.bipush 8, 2) := by decide +kernel
theorem dX9_init_124 : decode cX9_init 124 = .ok (.newarray .int, 2) := by decide +kernel
theorem dX9_init_126 : decode cX9_init 126 = .ok (.putfield 56, 3) := by decide +kernel
theorem dX9_init_129 : decode cX9_init 129 = .ok (.aload_n 0, 1) := by decide +kernel
theorem dX9_init_130 : decode cX9_init 130 = .ok (.bipush 8, 2) := by decide +kernel
theorem dX9_init_132 : decode cX9_init 132 = .ok (.newarray .int, 2) := by decide +kernel
theorem dX9_init_134 : decode cX9_init 134 = .ok (.putfield 59, 3) := by decide +kernel
theorem dX9_init_137 : decode cX9_init 137 = .ok (.aload_n 0, 1) := by decide +kernel
theorem dX9_init_138 : decode cX9_init 138 = .ok (.bipush 100, 2) := by decide +kernel
theorem dX9_init_140 : decode cX9_init 140 = .ok (.putfield 62, 3) := by decide +kernel
theorem dX9_init_143 : decode cX9_init 143 = .ok (.iconst 0, 1) := by decide +kernel
theorem dX9_init_144 : decode cX9_init 144 = .ok (.istore_n 1, 1) := by decide +kernel
theorem dX9_init_145 : decode cX9_init 145 = .ok (.iload_n 1, 1) := by decide +kernel
theorem dX9_init_146 : decode cX9_init 146 = .ok (.iconst 4, 1) := by decide +kernel
theorem dX9_init_147 : decode cX9_init 147 = .ok (.if_icmp .ge 25, 3) := by decide +kernel
theorem dX9_init_150 : decode cX9_init 150 = .ok (.aload_n 0, 1) := by decide +kernel
theorem dX9_init_151 : decode cX9_init 151 = .ok (.getfield 38, 3) := by decide +kernel
theorem dX9_init_154 : decode cX9_init 154 = .ok (.iload_n 1, 1) := by decide +kernel
theorem dX9_init_155 : decode cX9_init 155 = .ok (.bipush 50, 2) := by decide +kernel
theorem dX9_init_157 : decode cX9_init 157 = .ok (.iastore, 1) := by decide +kernel
theorem dX9_init_158 : decode cX9_init 158 = .ok (.aload_n 0, 1) := by decide +kernel
theorem dX9_init_159 : decode cX9_init 159 = .ok (.getfield 41, 3) := by decide +kernel
theorem dX9_init_162 : decode cX9_init 162 = .ok (.iload_n 1, 1) := by decide +kernel
theorem dX9_init_163 : decode cX9_init 163 = .ok (.bipush (-6), 2) := by decide +kernel
theorem dX9_init_165 : decode cX9_init 165 = .ok (.iastore, 1) := by decide +kernel
theorem dX9_init_166 : decode cX9_init 166 = .ok (.iinc 1 1, 3) := by decide +kernel
theorem dX9_init_169 : decode cX9_init 169 = .ok (.goto (-24), 3) := by decide +kernel
theorem dX9_init_172 : decode cX9_init 172 = .ok (.return_, 1) := by decide +kernel
theorem dX9_in_0 : decode cX9_in 0 = .ok (.lload_n 0, 1) := by decide +kernel
theorem dX9_in_1 : decode cX9_in 1 = .ok (.lload_n 2, 1) := by decide +kernel
theorem dX9_in_2 : decode cX9_in 2 = .ok (.lcmp, 1) := by decide +kernel
theorem dX9_in_3 : decode cX9_in 3 = .ok (.ifCond .lt 14, 3) := by decide +kernel
theorem dX9_in_6 : decode cX9_in 6 = .ok (.lload_n 0, 1) := by decide +kernel
theorem dX9_in_7 : decode cX9_in 7 = .ok (.lload 4, 2) := by decide +kernel
theorem dX9_in_9 : decode cX9_in 9 = .ok (.lcmp, 1) := by decide +kernel
theorem dX9_in_10 : decode cX9_in 10 = .ok (.ifCond .gt 7, 3) := by decide +kernel
theorem dX9_in_13 : decode cX9_in 13 = .ok (.iconst 1, 1) := by decide +kernel
theorem dX9_in_14 : decode cX9_in 14 = .ok (.goto 4, 3) := by decide +kernel
theorem dX9_in_17 : decode cX9_in 17 = .ok (.iconst 0, 1) := by decide +kernel
theorem dX9_in_18 : decode cX9_in 18 = .ok (.ireturn, 1) := by decide +kernel
theorem dX9_ones_0 : decode cX9_ones 0 = .ok (.iconst 0, 1) := by decide +kernel
theorem dX9_ones_1 : decode cX9_ones 1 = .ok (.istore_n 1, 1) := by decide +kernel
theorem dX9_ones_2 : decode cX9_ones 2 = .ok (.iconst 0, 1) := by decide +kernel
theorem dX9_ones_3 : decode cX9_ones 3 = .ok (.istore_n 2, 1) := by decide +kernel
theorem dX9_ones_4 : decode cX9_ones 4 = .ok (.iload_n 2, 1) := by decide +kernel
theorem dX9_ones_5 : decode cX9_ones 5 = .ok (.bipush 8, 2) := by decide +kernel
theorem dX9_ones_7 : decode cX9_ones 7 = .ok (.if_icmp .ge 17, 3) := by decide +kernel
theorem dX9_ones_10 : decode cX9_ones 10 = .ok (.iload_n 1, 1) := by decide +kernel
theorem dX9_ones_11 : decode cX9_ones 11 = .ok (.iload_n 0, 1) := by decide +kernel
theorem dX9_ones_12 : decode cX9_ones 12 = .ok (.iload_n 2, 1) := by decide +kernel
theorem dX9_ones_13 : decode cX9_ones 13 = .ok (.ishr, 1) := by decide +kernel
theorem dX9_ones_14 : decode cX9_ones 14 = .ok (.iconst 1, 1) := by decide +kernel
theorem dX9_ones_15 : decode cX9_ones 15 = .ok (.iand, 1) := by decide +kernel
theorem dX9_ones_16 : decode cX9_ones 16 = .ok (.iadd, 1) := by decide +kernel
theorem dX9_ones_17 : decode cX9_ones 17 = .ok (.istore_n 1, 1) := by decide +kernel
theorem dX9_ones_18 : decode cX9_ones 18 = .ok (.iinc 2 1, 3) := by decide +kernel
theorem dX9_ones_21 : decode cX9_ones 21 = .ok (.goto (-17), 3) := by decide +kernel
theorem dX9_ones_24 : decode cX9_ones 24 = .ok (.iload_n 1, 1) := by decide +kernel
theorem dX9_ones_25 : decode cX9_ones 25 = .ok (.ireturn, 1) := by decide +kernel
theorem dX9_isRunner_0 : decode cX9_isRunner 0 = .ok (.iload_n 1, 1) := by decide +kernel
theorem dX9_isRunner_1 : decode cX9_isRunner 1 = .ok (.i2l, 1) := by decide +kernel
theorem dX9_isRunner_2 : decode cX9_isRunner 2 = .ok (.lconst 0, 1) := by decide +kernel
theorem dX9_isRunner_3 : decode cX9_isRunner 3 = .ok (.aload_n 0, 1) := by decide +kernel
theorem dX9_isRunner_4 : decode cX9_isRunner 4 = .ok (.getfield 66, 3) := by decide +kernel
theorem dX9_isRunner_7 : decode cX9_isRunner 7 = .ok (.iconst 1, 1) := by decide +kernel
theorem dX9_isRunner_8 : decode cX9_isRunner 8 = .ok (.isub, 1) := by decide +kernel
theorem dX9_isRunner_9 : decode cX9_isRunner 9 = .ok (.i2l, 1) := by decide +kernel
theorem dX9_isRunner_10 : decode cX9_isRunner 10 = .ok (.invokestatic 69, 3) := by decide +kernel
theorem dX9_isRunner_13 : decode cX9_isRunner 13 = .ok (.ireturn, 1) := by decide +kernel
theorem dX9_isRow_0 : decode cX9_isRow 0 = .ok (.iload_n 0, 1) := by decide +kernel
theorem dX9_isRow_1 : decode cX9_isRow 1 = .ok (.i2l, 1) := by decide +kernel
theorem dX9_isRow_2 : decode cX9_isRow 2 = .ok (.lconst 0, 1) := by decide +kernel
theorem dX9_isRow_3 : decode cX9_isRow 3 = .ok (.ldc2_w 73, 3) := by decide +kernel
theorem dX9_isRow_6 : decode cX9_isRow 6 = .ok (.invokestatic 69, 3) := by decide +kernel
theorem dX9_isRow_9 : decode cX9_isRow 9 = .ok (.ireturn, 1) := by decide +kernel
theorem dX9_shapeAt_0 : decode cX9_shapeAt 0 = .ok (.iconst 2, 1) := by decide +kernel
theorem dX9_shapeAt_1 : decode cX9_shapeAt 1 = .ok (.bipush 6, 2) := by decide +kernel
theorem dX9_shapeAt_3 : decode cX9_shapeAt 3 = .ok (.iload_n 0, 1) := by decide +kernel
theorem dX9_shapeAt_4 : decode cX9_shapeAt 4 = .ok (.imul, 1) := by decide +kernel
theorem dX9_shapeAt_5 : decode cX9_shapeAt 5 = .ok (.iload_n 1, 1) := by decide +kernel
theorem dX9_shapeAt_6 : decode cX9_shapeAt 6 = .ok (.iadd, 1) := by decide +kernel
theorem dX9_shapeAt_7 : decode cX9_shapeAt 7 = .ok (.imul, 1) := by decide +kernel
theorem dX9_shapeAt_8 : decode cX9_shapeAt 8 = .ok (.iload_n 2, 1) := by decide +kernel
theorem dX9_shapeAt_9 : decode cX9_shapeAt 9 = .ok (.iadd, 1) := by decide +kernel
theorem dX9_shapeAt_10 : decode cX9_shapeAt 10 = .ok (.ireturn, 1) := by decide +kernel
theorem dX9_runner_0 : decode cX9_runner 0 = .ok (.iload_n 1, 1) := by decide +kernel
theorem dX9_runner_1 : decode cX9_runner 1 = .ok (.i2l, 1) := by decide +kernel
theorem dX9_runner_2 : decode cX9_runner 2 = .ok (.ldc2_w 75, 3) := by decide +kernel
theorem dX9_runner_5 : decode cX9_runner 5 = .ok (.lconst 0, 1) := by decide +kernel
theorem dX9_runner_6 : decode cX9_runner 6 = .ok (.invokestatic 69, 3) := by decide +kernel
theorem dX9_runner_9 : decode cX9_runner 9 = .ok (.ifCond .eq 15, 3) := by decide +kernel
theorem dX9_runner_12 : decode cX9_runner 12 = .ok (.iload_n 2, 1) := by decide +kernel
theorem dX9_runner_13 : decode cX9_runner 13 = .ok (.i2l, 1) := by decide +kernel
theorem dX9_runner_14 : decode cX9_runner 14 = .ok (.lconst 1, 1) := by decide +kernel
theorem dX9_runner_15 : decode cX9_runner 15 = .ok (.ldc2_w 77, 3) := by decide +kernel
theorem dX9_runner_18 : decode cX9_runner 18 = .ok (.invokestatic 69, 3) := by decide +kernel
theorem dX9_runner_21 : decode cX9_runner 21 = .ok (.ifCond .ne 6, 3) := by decide +kernel
theorem dX9_runner_24 : decode cX9_runner 24 = .ok (.bipush (-2), 2) := by decide +kernel
theorem dX9_runner_26 : decode cX9_runner 26 = .ok (.ireturn, 1) := by decide +kernel
theorem dX9_runner_27 : decode cX9_runner 27 = .ok (.aload_n 0, 1) := by decide +kernel
theorem dX9_runner_28 : decode cX9_runner 28 = .ok (.getfield 66, 3) := by decide +kernel
theorem dX9_runner_31 : decode cX9_runner 31 = .ok (.bipush 6, 2) := by decide +kernel
theorem dX9_runner_33 : decode cX9_runner 33 = .ok (.if_icmp .ne 6, 3) := by decide +kernel
theorem dX9_runner_36 : decode cX9_runner 36 = .ok (.bipush (-4), 2) := by decide +kernel
theorem dX9_runner_38 : decode cX9_runner 38 = .ok (.ireturn, 1) := by decide +kernel
theorem dX9_runner_39 : decode cX9_runner 39 = .ok (.aload_n 0, 1) := by decide +kernel
theorem dX9_runner_40 : decode cX9_runner 40 = .ok (.getfield 7, 3) := by decide +kernel
theorem dX9_runner_43 : decode cX9_runner 43 = .ok (.aload_n 0, 1) := by decide +kernel
theorem dX9_runner_44 : decode cX9_runner 44 = .ok (.getfield 66, 3) := by decide +kernel
theorem dX9_runner_47 : decode cX9_runner 47 = .ok (.iload_n 1, 1) := by decide +kernel
theorem dX9_runner_48 : decode cX9_runner 48 = .ok (.iastore, 1) := by decide +kernel
theorem dX9_runner_49 : decode cX9_runner 49 = .ok (.aload_n 0, 1) := by decide +kernel
theorem dX9_runner_50 : decode cX9_runner 50 = .ok (.getfield 13, 3) := by decide +kernel
theorem dX9_runner_53 : decode cX9_runner 53 = .ok (.aload_n 0, 1) := by decide +kernel
theorem dX9_runner_54 : decode cX9_runner 54 = .ok (.getfield 66, 3) := by decide +kernel
theorem dX9_runner_57 : decode cX9_runner 57 = .ok (.iload_n 2, 1) := by decide +kernel
theorem dX9_runner_58 : decode cX9_runner 58 = .ok (.iastore, 1) := by decide +kernel
theorem dX9_runner_59 : decode cX9_runner 59 = .ok (.aload_n 0, 1) := by decide +kernel
theorem dX9_runner_60 : decode cX9_runner 60 = .ok (.getfield 26, 3) := by decide +kernel
theorem dX9_runner_63 : decode cX9_runner 63 = .ok (.aload_n 0, 1) := by decide +kernel
theorem dX9_runner_64 : decode cX9_runner 64 = .ok (.getfield 66, 3) := by decide +kernel
theorem dX9_runner_67 : decode cX9_runner 67 = .ok (.bipush (-6), 2) := by decide +kernel
theorem dX9_runner_69 : decode cX9_runner 69 = .ok (.iastore, 1) := by decide +kernel
theorem dX9_runner_70 : decode cX9_runner 70 = .ok (.aload_n 0, 1) := by decide +kernel
theorem dX9_runner_71 : decode cX9_runner 71 = .ok (.dup, 1) := by decide +kernel
theorem dX9_runner_72 : decode cX9_runner 72 = .ok (.getfield 66, 3) := by decide +kernel
theorem dX9_runner_75 : decode cX9_runner 75 = .ok (.iconst 1, 1) := by decide +kernel
theorem dX9_runner_76 : decode cX9_runner 76 = .ok (.iadd, 1) := by decide +kernel
theorem dX9_runner_77 : decode cX9_runner 77 = .ok (.putfield 66, 3) := by decide +kernel
theorem dX9_runner_80 : decode cX9_runner 80 = .ok (.aload_n 0, 1) := by decide +kernel
theorem dX9_runner_81 : decode cX9_runner 81 = .ok (.getfield 66, 3) := by decide +kernel
theorem dX9_runner_84 : decode cX9_runner 84 = .ok (.iconst 1, 1) := by decide +kernel
theorem dX9_runner_85 : decode cX9_runner 85 = .ok (.isub, 1) := by decide +kernel
theorem dX9_runner_86 : decode cX9_runner 86 = .ok (.ireturn, 1) := by decide +kernel
theorem dX9_shape_0 : decode cX9_shape 0 = .ok (.aload_n 0, 1) := by decide +kernel
theorem dX9_shape_1 : decode cX9_shape 1 = .ok (.iload_n 1, 1) := by decide +kernel
theorem dX9_shape_2 : decode cX9_shape 2 = .ok (.invokevirtual 79, 3) := by decide +kernel
theorem dX9_shape_5 : decode cX9_shape 5 = .ok (.ifCond .eq 10, 3) := by decide +kernel
theorem dX9_shape_8 : decode cX9_shape 8 = .ok (.iload_n 2, 1) := by decide +kernel
theorem dX9_shape_9 : decode cX9_shape 9 = .ok (.invokestatic 83, 3) := by decide +kernel
theorem dX9_shape_12 : decode cX9_shape 12 = .ok (.ifCond .ne 5, 3) := by decide +kernel
theorem dX9_shape_15 : decode cX9_shape 15 = .ok (.iconst (-1), 1) := by decide +kernel
theorem dX9_shape_16 : decode cX9_shape 16 = .ok (.ireturn, 1) := by decide +kernel
theorem dX9_shape_17 : decode cX9_shape 17 = .ok (.iload_n 3, 1) := by decide +kernel
theorem dX9_shape_18 : decode cX9_shape 18 = .ok (.i2l, 1) := by decide +kernel
theorem dX9_shape_19 : decode cX9_shape 19 = .ok (.lconst 0, 1) := by decide +kernel
theorem dX9_shape_20 : decode cX9_shape 20 = .ok (.lconst 1, 1) := by decide +kernel
theorem dX9_shape_21 : decode cX9_shape 21 = .ok (.invokestatic 69, 3) := by decide +kernel
theorem dX9_shape_24 : decode cX9_shape 24 = .ok (.ifCond .eq 33, 3) := by decide +kernel
theorem dX9_shape_27 : decode cX9_shape 27 = .ok (.iload 4, 2) := by decide +kernel
theorem dX9_shape_29 : decode cX9_shape 29 = .ok (.i2l, 1) := by decide +kernel
theorem dX9_shape_30 : decode cX9_shape 30 = .ok (.ldc2_w 86, 3) := by decide +kernel
theorem dX9_shape_33 : decode cX9_shape 33 = .ok (.ldc2_w 88, 3) := by decide +kernel
theorem dX9_shape_36 : decode cX9_shape 36 = .ok (.invokestatic 69, 3) := by decide +kernel
theorem dX9_shape_39 : decode cX9_shape 39 = .ok (.ifCond .eq 18, 3) := by decide +kernel
theorem dX9_shape_42 : decode cX9_shape 42 = .ok (.iload 5, 2) := by decide +kernel
theorem dX9_shape_44 : decode cX9_shape 44 = .ok (.i2l, 1) := by decide +kernel
theorem dX9_shape_45 : decode cX9_shape 45 = .ok (.ldc2_w 86, 3) := by decide +kernel
theorem dX9_shape_48 : decode cX9_shape 48 = .ok (.ldc2_w 88, 3) := by decide +kernel
theorem dX9_shape_51 : decode cX9_shape 51 = .ok (.invokestatic 69, 3) := by decide +kernel
theorem dX9_shape_54 : decode cX9_shape 54 = .ok (.ifCond .ne 6, 3) := by decide +kernel
theorem dX9_shape_57 : decode cX9_shape 57 = .ok (.bipush (-2), 2) := by decide +kernel
theorem dX9_shape_59 : decode cX9_shape 59 = .ok (.ireturn, 1) := by decide +kernel
theorem dX9_shape_60 : decode cX9_shape 60 = .ok (.iload_n 1, 1) := by decide +kernel
theorem dX9_shape_61 : decode cX9_shape 61 = .ok (.iload_n 2, 1) := by decide +kernel
theorem dX9_shape_62 : decode cX9_shape 62 = .ok (.iload_n 3, 1) := by decide +kernel
theorem dX9_shape_63 : decode cX9_shape 63 = .ok (.invokestatic 90, 3) := by decide +kernel
theorem dX9_shape_66 : decode cX9_shape 66 = .ok (.istore 6, 2) := by decide +kernel
theorem dX9_shape_68 : decode cX9_shape 68 = .ok (.aload_n 0, 1) := by decide +kernel
theorem dX9_shape_69 : decode cX9_shape 69 = .ok (.getfield 16, 3) := by decide +kernel
theorem dX9_shape_72 : decode cX9_shape 72 = .ok (.iload 6, 2) := by decide +kernel
theorem dX9_shape_74 : decode cX9_shape 74 = .ok (.iload 4, 2) := by decide +kernel
theorem dX9_shape_76 : decode cX9_shape 76 = .ok (.iload 5, 2) := by decide +kernel
theorem dX9_shape_78 : decode cX9_shape 78 = .ok (.if_icmp .gt 7, 3) := by decide +kernel
theorem dX9_shape_81 : decode cX9_shape 81 = .ok (.iconst 1, 1) := by decide +kernel
theorem dX9_shape_82 : decode cX9_shape 82 = .ok (.goto 4, 3) := by decide +kernel
theorem dX9_shape_85 : decode cX9_shape 85 = .ok (.iconst 0, 1) := by decide +kernel
theorem dX9_shape_86 : decode cX9_shape 86 = .ok (.bastore, 1) := by decide +kernel
theorem dX9_shape_87 : decode cX9_shape 87 = .ok (.aload_n 0, 1) := by decide +kernel
theorem dX9_shape_88 : decode cX9_shape 88 = .ok (.getfield 20, 3) := by decide +kernel
theorem dX9_shape_91 : decode cX9_shape 91 = .ok (.iload 6, 2) := by decide +kernel
theorem dX9_shape_93 : decode cX9_shape 93 = .ok (.iload 4, 2) := by decide +kernel
theorem dX9_shape_95 : decode cX9_shape 95 = .ok (.iastore, 1) := by decide +kernel
theorem dX9_shape_96 : decode cX9_shape 96 = .ok (.aload_n 0, 1) := by decide +kernel
theorem dX9_shape_97 : decode cX9_shape 97 = .ok (.getfield 23, 3) := by decide +kernel
theorem dX9_shape_100 : decode cX9_shape 100 = .ok (.iload 6, 2) := by decide +kernel
theorem dX9_shape_102 : decode cX9_shape 102 = .ok (.iload 5, 2) := by decide +kernel
theorem dX9_shape_104 : decode cX9_shape 104 = .ok (.iastore, 1) := by decide +kernel
theorem dX9_shape_105 : decode cX9_shape 105 = .ok (.iconst 1, 1) := by decide +kernel
theorem dX9_shape_106 : decode cX9_shape 106 = .ok (.ireturn, 1) := by decide +kernel
theorem dX9_numberOf_0 : decode cX9_numberOf 0 = .ok (.iload_n 1, 1) := by decide +kernel
theorem dX9_numberOf_1 : decode cX9_numberOf 1 = .ok (.ifCond .ne 10, 3) := by decide +kernel
theorem dX9_numberOf_4 : decode cX9_numberOf 4 = .ok (.aload_n 0, 1) := by decide +kernel
theorem dX9_numberOf_5 : decode cX9_numberOf 5 = .ok (.getfield 94, 3) := by decide +kernel
theorem dX9_numberOf_8 : decode cX9_numberOf 8 = .ok (.goto 31, 3) := by decide +kernel
theorem dX9_numberOf_11 : decode cX9_numberOf 11 = .ok (.iload_n 1, 1) := by decide +kernel
theorem dX9_numberOf_12 : decode cX9_numberOf 12 = .ok (.iconst 1, 1) := by decide +kernel
theorem dX9_numberOf_13 : decode cX9_numberOf 13 = .ok (.if_icmp .ne 10, 3) := by decide +kernel
theorem dX9_numberOf_16 : decode cX9_numberOf 16 = .ok (.aload_n 0, 1) := by decide +kernel
theorem dX9_numberOf_17 : decode cX9_numberOf 17 = .ok (.getfield 97, 3) := by decide +kernel
theorem dX9_numberOf_20 : decode cX9_numberOf 20 = .ok (.goto 19, 3) := by decide +kernel
theorem dX9_numberOf_23 : decode cX9_numberOf 23 = .ok (.iload_n 1, 1) := by decide +kernel
theorem dX9_numberOf_24 : decode cX9_numberOf 24 = .ok (.iconst 2, 1) := by decide +kernel
theorem dX9_numberOf_25 : decode cX9_numberOf 25 = .ok (.if_icmp .ne 10, 3) := by decide +kernel
theorem dX9_numberOf_28 : decode cX9_numberOf 28 = .ok (.aload_n 0, 1) := by decide +kernel
theorem dX9_numberOf_29 : decode cX9_numberOf 29 = .ok (.getfield 62, 3) := by decide +kernel
theorem dX9_numberOf_32 : decode cX9_numberOf 32 = .ok (.goto 7, 3) := by decide +kernel
theorem dX9_numberOf_35 : decode cX9_numberOf 35 = .ok (.aload_n 0, 1) := by decide +kernel
theorem dX9_numberOf_36 : decode cX9_numberOf 36 = .ok (.getfield 100, 3) := by decide +kernel
theorem dX9_numberOf_39 : decode cX9_numberOf 39 = .ok (.ireturn, 1) := by decide +kernel
theorem dX9_set_0 : decode cX9_set 0 = .ok (.iload_n 1, 1) := by decide +kernel
theorem dX9_set_1 : decode cX9_set 1 = .ok (.i2l, 1) := by decide +kernel
theorem dX9_set_2 : decode cX9_set 2 = .ok (.lconst 0, 1) := by decide +kernel
theorem dX9_set_3 : decode cX9_set 3 = .ok (.ldc2_w 103, 3) := by decide +kernel
theorem dX9_set_6 : decode cX9_set 6 = .ok (.invokestatic 69, 3) := by decide +kernel
theorem dX9_set_9 : decode cX9_set 9 = .ok (.ifCond .eq 55, 3) := by decide +kernel
theorem dX9_set_12 : decode cX9_set 12 = .ok (.iload_n 2, 1) := by decide +kernel
theorem dX9_set_13 : decode cX9_set 13 = .ok (.i2l, 1) := by decide +kernel
theorem dX9_set_14 : decode cX9_set 14 = .ok (.iload_n 1, 1) := by decide +kernel
theorem dX9_set_15 : decode cX9_set 15 = .ok (.ifCond .ne 9, 3) := by decide +kernel
theorem dX9_set_18 : decode cX9_set 18 = .ok (.ldc2_w 105, 3) := by decide +kernel
theorem dX9_set_21 : decode cX9_set 21 = .ok (.goto 4, 3) := by decide +kernel
theorem dX9_set_24 : decode cX9_set 24 = .ok (.lconst 0, 1) := by decide +kernel
theorem dX9_set_25 : decode cX9_set 25 = .ok (.iload_n 1, 1) := by decide +kernel
theorem dX9_set_26 : decode cX9_set 26 = .ok (.ifCond .ne 9, 3) := by decide +kernel
theorem dX9_set_29 : decode cX9_set 29 = .ok (.ldc2_w 103, 3) := by decide +kernel
theorem dX9_set_32 : decode cX9_set 32 = .ok (.goto 26, 3) := by decide +kernel
theorem dX9_set_35 : decode cX9_set 35 = .ok (.iload_n 1, 1) := by decide +kernel
theorem dX9_set_36 : decode cX9_set 36 = .ok (.iconst 1, 1) := by decide +kernel
theorem dX9_set_37 : decode cX9_set 37 = .ok (.if_icmp .ne 9, 3) := by decide +kernel
theorem dX9_set_40 : decode cX9_set 40 = .ok (.ldc2_w 88, 3) := by decide +kernel
theorem dX9_set_43 : decode cX9_set 43 = .ok (.goto 15, 3) := by decide +kernel
theorem dX9_set_46 : decode cX9_set 46 = .ok (.iload_n 1, 1) := by decide +kernel
theorem dX9_set_47 : decode cX9_set 47 = .ok (.iconst 2, 1) := by decide +kernel
theorem dX9_set_48 : decode cX9_set 48 = .ok (.if_icmp .ne 9, 3) := by decide +kernel
theorem dX9_set_51 : decode cX9_set 51 = .ok (.ldc2_w 107, 3) := by decide +kernel
theorem dX9_set_54 : decode cX9_set 54 = .ok (.goto 4, 3) := by decide +kernel
theorem dX9_set_57 : decode cX9_set 57 = .ok (.lconst 1, 1) := by decide +kernel
theorem dX9_set_58 : decode cX9_set 58 = .ok (.invokestatic 69, 3) := by decide +kernel
theorem dX9_set_61 : decode cX9_set 61 = .ok (.ifCond .ne 6, 3) := by decide +kernel
theorem dX9_set_64 : decode cX9_set 64 = .ok (.bipush (-2), 2) := by decide +kernel
theorem dX9_set_66 : decode cX9_set 66 = .ok (.ireturn, 1) := by decide +kernel
theorem dX9_set_67 : decode cX9_set 67 = .ok (.aload_n 0, 1) := by decide +kernel
theorem dX9_set_68 : decode cX9_set 68 = .ok (.iload_n 1, 1) := by decide +kernel
theorem dX9_set_69 : decode cX9_set 69 = .ok (.invokevirtual 109, 3) := by decide +kernel
theorem dX9_set_72 : decode cX9_set 72 = .ok (.istore_n 3, 1) := by decide +kernel
theorem dX9_set_73 : decode cX9_set 73 = .ok (.iload_n 1, 1) := by decide +kernel
theorem dX9_set_74 : decode cX9_set 74 = .ok (.ifCond .ne 11, 3) := by decide +kernel
theorem dX9_set_77 : decode cX9_set 77 = .ok (.aload_n 0, 1) := by decide +kernel
theorem dX9_set_78 : decode cX9_set 78 = .ok (.iload_n 2, 1) := by decide +kernel
theorem dX9_set_79 : decode cX9_set 79 = .ok (.putfield 94, 3) := by decide +kernel
theorem dX9_set_82 : decode cX9_set 82 = .ok (.goto 34, 3) := by decide +kernel
theorem dX9_set_85 : decode cX9_set 85 = .ok (.iload_n 1, 1) := by decide +kernel
theorem dX9_set_86 : decode cX9_set 86 = .ok (.iconst 1, 1) := by decide +kernel
theorem dX9_set_87 : decode cX9_set 87 = .ok (.if_icmp .ne 11, 3) := by decide +kernel
theorem dX9_set_90 : decode cX9_set 90 = .ok (.aload_n 0, 1) := by decide +kernel
theorem dX9_set_91 : decode cX9_set 91 = .ok (.iload_n 2, 1) := by decide +kernel
theorem dX9_set_92 : decode cX9_set 92 = .ok (.putfield 97, 3) := by decide +kernel
theorem dX9_set_95 : decode cX9_set 95 = .ok (.goto 21, 3) := by decide +kernel
theorem dX9_set_98 : decode cX9_set 98 = .ok (.iload_n 1, 1) := by decide +kernel
theorem dX9_set_99 : decode cX9_set 99 = .ok (.iconst 2, 1) := by decide +kernel
theorem dX9_set_100 : decode cX9_set 100 = .ok (.if_icmp .ne 11, 3) := by decide +kernel
theorem dX9_set_103 : decode cX9_set 103 = .ok (.aload_n 0, 1) := by decide +kernel
theorem dX9_set_104 : decode cX9_set 104 = .ok (.iload_n 2, 1) := by decide +kernel
theorem dX9_set_105 : decode cX9_set 105 = .ok (.putfield 62, 3) := by decide +kernel
theorem dX9_set_108 : decode cX9_set 108 = .ok (.goto 8, 3) := by decide +kernel
theorem dX9_set_111 : decode cX9_set 111 = .ok (.aload_n 0, 1) := by decide +kernel
theorem dX9_set_112 : decode cX9_set 112 = .ok (.iload_n 2, 1) := by decide +kernel
theorem dX9_set_113 : decode cX9_set 113 = .ok (.putfield 100, 3) := by decide +kernel
theorem dX9_set_116 : decode cX9_set 116 = .ok (.iload_n 3, 1) := by decide +kernel
theorem dX9_set_117 : decode cX9_set 117 = .ok (.ireturn, 1) := by decide +kernel
theorem dX9_covers_0 : decode cX9_covers 0 = .ok (.iload_n 1, 1) := by decide +kernel
theorem dX9_covers_1 : decode cX9_covers 1 = .ok (.iload_n 2, 1) := by decide +kernel
theorem dX9_covers_2 : decode cX9_covers 2 = .ok (.iload_n 3, 1) := by decide +kernel
theorem dX9_covers_3 : decode cX9_covers 3 = .ok (.invokestatic 90, 3) := by decide +kernel
theorem dX9_covers_6 : decode cX9_covers 6 = .ok (.istore 5, 2) := by decide +kernel
theorem dX9_covers_8 : decode cX9_covers 8 = .ok (.aload_n 0, 1) := by decide +kernel
theorem dX9_covers_9 : decode cX9_covers 9 = .ok (.getfield 7, 3) := by decide +kernel
theorem dX9_covers_12 : decode cX9_covers 12 = .ok (.iload_n 1, 1) := by decide +kernel
theorem dX9_covers_13 : decode cX9_covers 13 = .ok (.iaload, 1) := by decide +kernel
theorem dX9_covers_14 : decode cX9_covers 14 = .ok (.aload_n 0, 1) := by decide +kernel
theorem dX9_covers_15 : decode cX9_covers 15 = .ok (.getfield 13, 3) := by decide +kernel
theorem dX9_covers_18 : decode cX9_covers 18 = .ok (.iload_n 1, 1) := by decide +kernel
theorem dX9_covers_19 : decode cX9_covers 19 = .ok (.iaload, 1) := by decide +kernel
theorem dX9_covers_20 : decode cX9_covers 20 = .ok (.iload 4, 2) := by decide +kernel
theorem dX9_covers_22 : decode cX9_covers 22 = .ok (.imul, 1) := by decide +kernel
theorem dX9_covers_23 : decode cX9_covers 23 = .ok (.iadd, 1) := by decide +kernel
theorem dX9_covers_24 : decode cX9_covers 24 = .ok (.istore 6, 2) := by decide +kernel
theorem dX9_covers_26 : decode cX9_covers 26 = .ok (.aload_n 0, 1) := by decide +kernel
theorem dX9_covers_27 : decode cX9_covers 27 = .ok (.getfield 16, 3) := by decide +kernel
theorem dX9_covers_30 : decode cX9_covers 30 = .ok (.iload 5, 2) := by decide +kernel
theorem dX9_covers_32 : decode cX9_covers 32 = .ok (.baload, 1) := by decide +kernel
theorem dX9_covers_33 : decode cX9_covers 33 = .ok (.ifCond .eq 42, 3) := by decide +kernel
theorem dX9_covers_36 : decode cX9_covers 36 = .ok (.aload_n 0, 1) := by decide +kernel
theorem dX9_covers_37 : decode cX9_covers 37 = .ok (.getfield 94, 3) := by decide +kernel
theorem dX9_covers_40 : decode cX9_covers 40 = .ok (.iload_n 2, 1) := by decide +kernel
theorem dX9_covers_41 : decode cX9_covers 41 = .ok (.imul, 1) := by decide +kernel
theorem dX9_covers_42 : decode cX9_covers 42 = .ok (.i2l, 1) := by decide +kernel
theorem dX9_covers_43 : decode cX9_covers 43 = .ok (.iload 6, 2) := by decide +kernel
theorem dX9_covers_45 : decode cX9_covers 45 = .ok (.aload_n 0, 1) := by decide +kernel
theorem dX9_covers_46 : decode cX9_covers 46 = .ok (.getfield 20, 3) := by decide +kernel
theorem dX9_covers_49 : decode cX9_covers 49 = .ok (.iload 5, 2) := by decide +kernel
theorem dX9_covers_51 : decode cX9_covers 51 = .ok (.iaload, 1) := by decide +kernel
theorem dX9_covers_52 : decode cX9_covers 52 = .ok (.iadd, 1) := by decide +kernel
theorem dX9_covers_53 : decode cX9_covers 53 = .ok (.i2l, 1) := by decide +kernel
theorem dX9_covers_54 : decode cX9_covers 54 = .ok (.iload 6, 2) := by decide +kernel
theorem dX9_covers_56 : decode cX9_covers 56 = .ok (.aload_n 0, 1) := by decide +kernel
theorem dX9_covers_57 : decode cX9_covers 57 = .ok (.getfield 23, 3) := by decide +kernel
theorem dX9_covers_60 : decode cX9_covers 60 = .ok (.iload 5, 2) := by decide +kernel
theorem dX9_covers_62 : decode cX9_covers 62 = .ok (.iaload, 1) := by decide +kernel
theorem dX9_covers_63 : decode cX9_covers 63 = .ok (.iadd, 1) := by decide +kernel
theorem dX9_covers_64 : decode cX9_covers 64 = .ok (.i2l, 1) := by decide +kernel
theorem dX9_covers_65 : decode cX9_covers 65 = .ok (.invokestatic 69, 3) := by decide +kernel
theorem dX9_covers_68 : decode cX9_covers 68 = .ok (.ifCond .eq 7, 3) := by decide +kernel
theorem dX9_covers_71 : decode cX9_covers 71 = .ok (.iconst 1, 1) := by decide +kernel
theorem dX9_covers_72 : decode cX9_covers 72 = .ok (.goto 4, 3) := by decide +kernel
theorem dX9_covers_75 : decode cX9_covers 75 = .ok (.iconst 0, 1) := by decide +kernel
theorem dX9_covers_76 : decode cX9_covers 76 = .ok (.ireturn, 1) := by decide +kernel
theorem dX9_shown_0 : decode cX9_shown 0 = .ok (.iconst 0, 1) := by decide +kernel
theorem dX9_shown_1 : decode cX9_shown 1 = .ok (.istore 4, 2) := by decide +kernel
theorem dX9_shown_3 : decode cX9_shown 3 = .ok (.iload 4, 2) := by decide +kernel
theorem dX9_shown_5 : decode cX9_shown 5 = .ok (.aload_n 0, 1) := by decide +kernel
theorem dX9_shown_6 : decode cX9_shown 6 = .ok (.getfield 66, 3) := by decide +kernel
theorem dX9_shown_9 : decode cX9_shown 9 = .ok (.if_icmp .ge 69, 3) := by decide +kernel
theorem dX9_shown_12 : decode cX9_shown 12 = .ok (.iload_n 1, 1) := by decide +kernel
theorem dX9_shown_13 : decode cX9_shown 13 = .ok (.ifCond .ne 8, 3) := by decide +kernel
theorem dX9_shown_16 : decode cX9_shown 16 = .ok (.iload 4, 2) := by decide +kernel
theorem dX9_shown_18 : decode cX9_shown 18 = .ok (.goto 12, 3) := by decide +kernel
theorem dX9_shown_21 : decode cX9_shown 21 = .ok (.aload_n 0, 1) := by decide +kernel
theorem dX9_shown_22 : decode cX9_shown 22 = .ok (.getfield 66, 3) := by decide +kernel
theorem dX9_shown_25 : decode cX9_shown 25 = .ok (.iconst 1, 1) := by decide +kernel
theorem dX9_shown_26 : decode cX9_shown 26 = .ok (.isub, 1) := by decide +kernel
theorem dX9_shown_27 : decode cX9_shown 27 = .ok (.iload 4, 2) := by decide +kernel
theorem dX9_shown_29 : decode cX9_shown 29 = .ok (.isub, 1) := by decide +kernel
theorem dX9_shown_30 : decode cX9_shown 30 = .ok (.istore 5, 2) := by decide +kernel
theorem dX9_shown_32 : decode cX9_shown 32 = .ok (.aload_n 0, 1) := by decide +kernel
theorem dX9_shown_33 : decode cX9_shown 33 = .ok (.iload 5, 2) := by decide +kernel
theorem dX9_shown_35 : decode cX9_shown 35 = .ok (.iload_n 3, 1) := by decide +kernel
theorem dX9_shown_36 : decode cX9_shown 36 = .ok (.iconst 0, 1) := by decide +kernel
theorem dX9_shown_37 : decode cX9_shown 37 = .ok (.iload_n 2, 1) := by decide +kernel
theorem dX9_shown_38 : decode cX9_shown 38 = .ok (.invokevirtual 113, 3) := by decide +kernel
theorem dX9_shown_41 : decode cX9_shown 41 = .ok (.ifCond .eq 11, 3) := by decide +kernel
theorem dX9_shown_44 : decode cX9_shown 44 = .ok (.bipush 10, 2) := by decide +kernel
theorem dX9_shown_46 : decode cX9_shown 46 = .ok (.iload 5, 2) := by decide +kernel
theorem dX9_shown_48 : decode cX9_shown 48 = .ok (.imul, 1) := by decide +kernel
theorem dX9_shown_49 : decode cX9_shown 49 = .ok (.iconst 1, 1) := by decide +kernel
theorem dX9_shown_50 : decode cX9_shown 50 = .ok (.iadd, 1) := by decide +kernel
theorem dX9_shown_51 : decode cX9_shown 51 = .ok (.ireturn, 1) := by decide +kernel
theorem dX9_shown_52 : decode cX9_shown 52 = .ok (.aload_n 0, 1) := by decide +kernel
theorem dX9_shown_53 : decode cX9_shown 53 = .ok (.iload 5, 2) := by decide +kernel
theorem dX9_shown_55 : decode cX9_shown 55 = .ok (.iload_n 3, 1) := by decide +kernel
theorem dX9_shown_56 : decode cX9_shown 56 = .ok (.iconst 1, 1) := by decide +kernel
theorem dX9_shown_57 : decode cX9_shown 57 = .ok (.iload_n 2, 1) := by decide +kernel
theorem dX9_shown_58 : decode cX9_shown 58 = .ok (.invokevirtual 113, 3) := by decide +kernel
theorem dX9_shown_61 : decode cX9_shown 61 = .ok (.ifCond .eq 11, 3) := by decide +kernel
theorem dX9_shown_64 : decode cX9_shown 64 = .ok (.bipush 10, 2) := by decide +kernel
theorem dX9_shown_66 : decode cX9_shown 66 = .ok (.iload 5, 2) := by decide +kernel
theorem dX9_shown_68 : decode cX9_shown 68 = .ok (.imul, 1) := by decide +kernel
theorem dX9_shown_69 : decode cX9_shown 69 = .ok (.iconst 2, 1) := by decide +kernel
theorem dX9_shown_70 : decode cX9_shown 70 = .ok (.iadd, 1) := by decide +kernel
theorem dX9_shown_71 : decode cX9_shown 71 = .ok (.ireturn, 1) := by decide +kernel
theorem dX9_shown_72 : decode cX9_shown 72 = .ok (.iinc 4 1, 3) := by decide +kernel
theorem dX9_shown_75 : decode cX9_shown 75 = .ok (.goto (-72), 3) := by decide +kernel
theorem dX9_shown_78 : decode cX9_shown 78 = .ok (.iconst 0, 1) := by decide +kernel
theorem dX9_shown_79 : decode cX9_shown 79 = .ok (.ireturn, 1) := by decide +kernel
theorem dX9_shows_0 : decode cX9_shows 0 = .ok (.iload_n 3, 1) := by decide +kernel
theorem dX9_shows_1 : decode cX9_shows 1 = .ok (.invokestatic 83, 3) := by decide +kernel
theorem dX9_shows_4 : decode cX9_shows 4 = .ok (.ifCond .ne 5, 3) := by decide +kernel
theorem dX9_shows_7 : decode cX9_shows 7 = .ok (.iconst (-1), 1) := by decide +kernel
theorem dX9_shows_8 : decode cX9_shows 8 = .ok (.ireturn, 1) := by decide +kernel
theorem dX9_shows_9 : decode cX9_shows 9 = .ok (.iload_n 1, 1) := by decide +kernel
theorem dX9_shows_10 : decode cX9_shows 10 = .ok (.i2l, 1) := by decide +kernel
theorem dX9_shows_11 : decode cX9_shows 11 = .ok (.lconst 0, 1) := by decide +kernel
theorem dX9_shows_12 : decode cX9_shows 12 = .ok (.lconst 1, 1) := by decide +kernel
theorem dX9_shows_13 : decode cX9_shows 13 = .ok (.invokestatic 69, 3) := by decide +kernel
theorem dX9_shows_16 : decode cX9_shows 16 = .ok (.ifCond .eq 25, 3) := by decide +kernel
theorem dX9_shows_19 : decode cX9_shows 19 = .ok (.iload_n 2, 1) := by decide +kernel
theorem dX9_shows_20 : decode cX9_shows 20 = .ok (.i2l, 1) := by decide +kernel
theorem dX9_shows_21 : decode cX9_shows 21 = .ok (.lconst 0, 1) := by decide +kernel
theorem dX9_shows_22 : decode cX9_shows 22 = .ok (.ldc2_w 117, 3) := by decide +kernel
theorem dX9_shows_25 : decode cX9_shows 25 = .ok (.invokestatic 69, 3) := by decide +kernel
theorem dX9_shows_28 : decode cX9_shows 28 = .ok (.ifCond .eq 13, 3) := by decide +kernel
theorem dX9_shows_31 : decode cX9_shows 31 = .ok (.aload_n 0, 1) := by decide +kernel
theorem dX9_shows_32 : decode cX9_shows 32 = .ok (.iload_n 1, 1) := by decide +kernel
theorem dX9_shows_33 : decode cX9_shows 33 = .ok (.iload_n 2, 1) := by decide +kernel
theorem dX9_shows_34 : decode cX9_shows 34 = .ok (.iload_n 3, 1) := by decide +kernel
theorem dX9_shows_35 : decode cX9_shows 35 = .ok (.invokevirtual 119, 3) := by decide +kernel
theorem dX9_shows_38 : decode cX9_shows 38 = .ok (.goto 5, 3) := by decide +kernel
theorem dX9_shows_41 : decode cX9_shows 41 = .ok (.bipush (-2), 2) := by decide +kernel
theorem dX9_shows_43 : decode cX9_shows 43 = .ok (.ireturn, 1) := by decide +kernel
theorem dX9_findFirst_0 : decode cX9_findFirst 0 = .ok (.iconst 0, 1) := by decide +kernel
theorem dX9_findFirst_1 : decode cX9_findFirst 1 = .ok (.istore_n 1, 1) := by decide +kernel
theorem dX9_findFirst_2 : decode cX9_findFirst 2 = .ok (.iload_n 1, 1) := by decide +kernel
theorem dX9_findFirst_3 : decode cX9_findFirst 3 = .ok (.bipush 72, 2) := by decide +kernel
theorem dX9_findFirst_5 : decode cX9_findFirst 5 = .ok (.if_icmp .ge 17, 3) := by decide +kernel
theorem dX9_findFirst_8 : decode cX9_findFirst 8 = .ok (.aload_n 0, 1) := by decide +kernel
theorem dX9_findFirst_9 : decode cX9_findFirst 9 = .ok (.getfield 29, 3) := by decide +kernel
theorem dX9_findFirst_12 : decode cX9_findFirst 12 = .ok (.iload_n 1, 1) := by decide +kernel
theorem dX9_findFirst_13 : decode cX9_findFirst 13 = .ok (.bipush (-6), 2) := by decide +kernel
theorem dX9_findFirst_15 : decode cX9_findFirst 15 = .ok (.iastore, 1) := by decide +kernel
theorem dX9_findFirst_16 : decode cX9_findFirst 16 = .ok (.iinc 1 1, 3) := by decide +kernel
theorem dX9_findFirst_19 : decode cX9_findFirst 19 = .ok (.goto (-17), 3) := by decide +kernel
theorem dX9_findFirst_22 : decode cX9_findFirst 22 = .ok (.iconst 0, 1) := by decide +kernel
theorem dX9_findFirst_23 : decode cX9_findFirst 23 = .ok (.istore_n 1, 1) := by decide +kernel
theorem dX9_findFirst_24 : decode cX9_findFirst 24 = .ok (.iload_n 1, 1) := by decide +kernel
theorem dX9_findFirst_25 : decode cX9_findFirst 25 = .ok (.iconst 2, 1) := by decide +kernel
theorem dX9_findFirst_26 : decode cX9_findFirst 26 = .ok (.if_icmp .ge 76, 3) := by decide +kernel
theorem dX9_findFirst_29 : decode cX9_findFirst 29 = .ok (.iconst 0, 1) := by decide +kernel
theorem dX9_findFirst_30 : decode cX9_findFirst 30 = .ok (.istore_n 2, 1) := by decide +kernel
theorem dX9_findFirst_31 : decode cX9_findFirst 31 = .ok (.iload_n 2, 1) := by decide +kernel
theorem dX9_findFirst_32 : decode cX9_findFirst 32 = .ok (.bipush 6, 2) := by decide +kernel
theorem dX9_findFirst_34 : decode cX9_findFirst 34 = .ok (.if_icmp .ge 62, 3) := by decide +kernel
theorem dX9_findFirst_37 : decode cX9_findFirst 37 = .ok (.sipush 299, 3) := by decide +kernel
theorem dX9_findFirst_40 : decode cX9_findFirst 40 = .ok (.istore_n 3, 1) := by decide +kernel
theorem dX9_findFirst_41 : decode cX9_findFirst 41 = .ok (.iload_n 3, 1) := by decide +kernel
theorem dX9_findFirst_42 : decode cX9_findFirst 42 = .ok (.ifCond .lt 48, 3) := by decide +kernel
theorem dX9_findFirst_45 : decode cX9_findFirst 45 = .ok (.aload_n 0, 1) := by decide +kernel
theorem dX9_findFirst_46 : decode cX9_findFirst 46 = .ok (.iload_n 1, 1) := by decide +kernel
theorem dX9_findFirst_47 : decode cX9_findFirst 47 = .ok (.iload_n 3, 1) := by decide +kernel
theorem dX9_findFirst_48 : decode cX9_findFirst 48 = .ok (.iload_n 2, 1) := by decide +kernel
theorem dX9_findFirst_49 : decode cX9_findFirst 49 = .ok (.invokevirtual 119, 3) := by decide +kernel
theorem dX9_findFirst_52 : decode cX9_findFirst 52 = .ok (.istore 4, 2) := by decide +kernel
theorem dX9_findFirst_54 : decode cX9_findFirst 54 = .ok (.iload 4, 2) := by decide +kernel
theorem dX9_findFirst_56 : decode cX9_findFirst 56 = .ok (.bipush 10, 2) := by decide +kernel
theorem dX9_findFirst_58 : decode cX9_findFirst 58 = .ok (.irem, 1) := by decide +kernel
theorem dX9_findFirst_59 : decode cX9_findFirst 59 = .ok (.iconst 1, 1) := by decide +kernel
theorem dX9_findFirst_60 : decode cX9_findFirst 60 = .ok (.if_icmp .ne 24, 3) := by decide +kernel
theorem dX9_findFirst_63 : decode cX9_findFirst 63 = .ok (.aload_n 0, 1) := by decide +kernel
theorem dX9_findFirst_64 : decode cX9_findFirst 64 = .ok (.getfield 29, 3) := by decide +kernel
theorem dX9_findFirst_67 : decode cX9_findFirst 67 = .ok (.bipush 6, 2) := by decide +kernel
theorem dX9_findFirst_69 : decode cX9_findFirst 69 = .ok (.bipush 6, 2) := by decide +kernel
theorem dX9_findFirst_71 : decode cX9_findFirst 71 = .ok (.iload_n 1, 1) := by decide +kernel
theorem dX9_findFirst_72 : decode cX9_findFirst 72 = .ok (.imul, 1) := by decide +kernel
theorem dX9_findFirst_73 : decode cX9_findFirst 73 = .ok (.iload_n 2, 1) := by decide +kernel
theorem dX9_findFirst_74 : decode cX9_findFirst 74 = .ok (.iadd, 1) := by decide +kernel
theorem dX9_findFirst_75 : decode cX9_findFirst 75 = .ok (.imul, 1) := by decide +kernel
theorem dX9_findFirst_76 : decode cX9_findFirst 76 = .ok (.iload 4, 2) := by decide +kernel
theorem dX9_findFirst_78 : decode cX9_findFirst 78 = .ok (.bipush 10, 2) := by decide +kernel
theorem dX9_findFirst_80 : decode cX9_findFirst 80 = .ok (.idiv, 1) := by decide +kernel
theorem dX9_findFirst_81 : decode cX9_findFirst 81 = .ok (.iadd, 1) := by decide +kernel
theorem dX9_findFirst_82 : decode cX9_findFirst 82 = .ok (.iload_n 3, 1) := by decide +kernel
theorem dX9_findFirst_83 : decode cX9_findFirst 83 = .ok (.iastore, 1) := by decide +kernel
theorem dX9_findFirst_84 : decode cX9_findFirst 84 = .ok (.iinc 3 (-1), 3) := by decide +kernel
theorem dX9_findFirst_87 : decode cX9_findFirst 87 = .ok (.goto (-46), 3) := by decide +kernel
theorem dX9_findFirst_90 : decode cX9_findFirst 90 = .ok (.iinc 2 1, 3) := by decide +kernel
theorem dX9_findFirst_93 : decode cX9_findFirst 93 = .ok (.goto (-62), 3) := by decide +kernel
theorem dX9_findFirst_96 : decode cX9_findFirst 96 = .ok (.iinc 1 1, 3) := by decide +kernel
theorem dX9_findFirst_99 : decode cX9_findFirst 99 = .ok (.goto (-75), 3) := by decide +kernel
theorem dX9_findFirst_102 : decode cX9_findFirst 102 = .ok (.return_, 1) := by decide +kernel
theorem dX9_sooner_0 : decode cX9_sooner 0 = .ok (.iload_n 0, 1) := by decide +kernel
theorem dX9_sooner_1 : decode cX9_sooner 1 = .ok (.ifCond .ge 7, 3) := by decide +kernel
theorem dX9_sooner_4 : decode cX9_sooner 4 = .ok (.iload_n 1, 1) := by decide +kernel
theorem dX9_sooner_5 : decode cX9_sooner 5 = .ok (.goto 17, 3) := by decide +kernel
theorem dX9_sooner_8 : decode cX9_sooner 8 = .ok (.iload_n 1, 1) := by decide +kernel
theorem dX9_sooner_9 : decode cX9_sooner 9 = .ok (.ifCond .lt 8, 3) := by decide +kernel
theorem dX9_sooner_12 : decode cX9_sooner 12 = .ok (.iload_n 0, 1) := by decide +kernel
theorem dX9_sooner_13 : decode cX9_sooner 13 = .ok (.iload_n 1, 1) := by decide +kernel
theorem dX9_sooner_14 : decode cX9_sooner 14 = .ok (.if_icmp .ge 7, 3) := by decide +kernel
theorem dX9_sooner_17 : decode cX9_sooner 17 = .ok (.iload_n 0, 1) := by decide +kernel
theorem dX9_sooner_18 : decode cX9_sooner 18 = .ok (.goto 4, 3) := by decide +kernel
theorem dX9_sooner_21 : decode cX9_sooner 21 = .ok (.iload_n 1, 1) := by decide +kernel
theorem dX9_sooner_22 : decode cX9_sooner 22 = .ok (.ireturn, 1) := by decide +kernel
theorem dX9_firstOf_0 : decode cX9_firstOf 0 = .ok (.bipush (-6), 2) := by decide +kernel
theorem dX9_firstOf_2 : decode cX9_firstOf 2 = .ok (.istore 4, 2) := by decide +kernel
theorem dX9_firstOf_4 : decode cX9_firstOf 4 = .ok (.iconst 0, 1) := by decide +kernel
theorem dX9_firstOf_5 : decode cX9_firstOf 5 = .ok (.istore 5, 2) := by decide +kernel
theorem dX9_firstOf_7 : decode cX9_firstOf 7 = .ok (.iload 5, 2) := by decide +kernel
theorem dX9_firstOf_9 : decode cX9_firstOf 9 = .ok (.bipush 6, 2) := by decide +kernel
theorem dX9_firstOf_11 : decode cX9_firstOf 11 = .ok (.if_icmp .ge 48, 3) := by decide +kernel
theorem dX9_firstOf_14 : decode cX9_firstOf 14 = .ok (.iload_n 3, 1) := by decide +kernel
theorem dX9_firstOf_15 : decode cX9_firstOf 15 = .ok (.iload 5, 2) := by decide +kernel
theorem dX9_firstOf_17 : decode cX9_firstOf 17 = .ok (.ishr, 1) := by decide +kernel
theorem dX9_firstOf_18 : decode cX9_firstOf 18 = .ok (.iconst 1, 1) := by decide +kernel
theorem dX9_firstOf_19 : decode cX9_firstOf 19 = .ok (.iand, 1) := by decide +kernel
theorem dX9_firstOf_20 : decode cX9_firstOf 20 = .ok (.iconst 1, 1) := by decide +kernel
theorem dX9_firstOf_21 : decode cX9_firstOf 21 = .ok (.if_icmp .ne 28, 3) := by decide +kernel
theorem dX9_firstOf_24 : decode cX9_firstOf 24 = .ok (.iload 4, 2) := by decide +kernel
theorem dX9_firstOf_26 : decode cX9_firstOf 26 = .ok (.aload_n 0, 1) := by decide +kernel
theorem dX9_firstOf_27 : decode cX9_firstOf 27 = .ok (.getfield 29, 3) := by decide +kernel
theorem dX9_firstOf_30 : decode cX9_firstOf 30 = .ok (.bipush 6, 2) := by decide +kernel
theorem dX9_firstOf_32 : decode cX9_firstOf 32 = .ok (.bipush 6, 2) := by decide +kernel
theorem dX9_firstOf_34 : decode cX9_firstOf 34 = .ok (.iload_n 2, 1) := by decide +kernel
theorem dX9_firstOf_35 : decode cX9_firstOf 35 = .ok (.imul, 1) := by decide +kernel
theorem dX9_firstOf_36 : decode cX9_firstOf 36 = .ok (.iload 5, 2) := by decide +kernel
theorem dX9_firstOf_38 : decode cX9_firstOf 38 = .ok (.iadd, 1) := by decide +kernel
theorem dX9_firstOf_39 : decode cX9_firstOf 39 = .ok (.imul, 1) := by decide +kernel
theorem dX9_firstOf_40 : decode cX9_firstOf 40 = .ok (.iload_n 1, 1) := by decide +kernel
theorem dX9_firstOf_41 : decode cX9_firstOf 41 = .ok (.iadd, 1) := by decide +kernel
theorem dX9_firstOf_42 : decode cX9_firstOf 42 = .ok (.iaload, 1) := by decide +kernel
theorem dX9_firstOf_43 : decode cX9_firstOf 43 = .ok (.invokestatic 122, 3) := by decide +kernel
theorem dX9_firstOf_46 : decode cX9_firstOf 46 = .ok (.goto 5, 3) := by decide +kernel
theorem dX9_firstOf_49 : decode cX9_firstOf 49 = .ok (.iload 4, 2) := by decide +kernel
theorem dX9_firstOf_51 : decode cX9_firstOf 51 = .ok (.istore 4, 2) := by decide +kernel
theorem dX9_firstOf_53 : decode cX9_firstOf 53 = .ok (.iinc 5 1, 3) := by decide +kernel
theorem dX9_firstOf_56 : decode cX9_firstOf 56 = .ok (.goto (-49), 3) := by decide +kernel
theorem dX9_firstOf_59 : decode cX9_firstOf 59 = .ok (.iload 4, 2) := by decide +kernel
theorem dX9_firstOf_61 : decode cX9_firstOf 61 = .ok (.ireturn, 1) := by decide +kernel
theorem dX9_joinedOf_0 : decode cX9_joinedOf 0 = .ok (.aload_n 0, 1) := by decide +kernel
theorem dX9_joinedOf_1 : decode cX9_joinedOf 1 = .ok (.iload_n 1, 1) := by decide +kernel
theorem dX9_joinedOf_2 : decode cX9_joinedOf 2 = .ok (.iconst 0, 1) := by decide +kernel
theorem dX9_joinedOf_3 : decode cX9_joinedOf 3 = .ok (.bipush 63, 2) := by decide +kernel
theorem dX9_joinedOf_5 : decode cX9_joinedOf 5 = .ok (.invokevirtual 126, 3) := by decide +kernel
theorem dX9_joinedOf_8 : decode cX9_joinedOf 8 = .ok (.aload_n 0, 1) := by decide +kernel
theorem dX9_joinedOf_9 : decode cX9_joinedOf 9 = .ok (.iload_n 1, 1) := by decide +kernel
theorem dX9_joinedOf_10 : decode cX9_joinedOf 10 = .ok (.iconst 1, 1) := by decide +kernel
theorem dX9_joinedOf_11 : decode cX9_joinedOf 11 = .ok (.bipush 63, 2) := by decide +kernel
theorem dX9_joinedOf_13 : decode cX9_joinedOf 13 = .ok (.invokevirtual 126, 3) := by decide +kernel
theorem dX9_joinedOf_16 : decode cX9_joinedOf 16 = .ok (.invokestatic 122, 3) := by decide +kernel
theorem dX9_joinedOf_19 : decode cX9_joinedOf 19 = .ok (.ireturn, 1) := by decide +kernel
theorem dX9_crossed_0 : decode cX9_crossed 0 = .ok (.bipush (-6), 2) := by decide +kernel
theorem dX9_crossed_2 : decode cX9_crossed 2 = .ok (.istore_n 3, 1) := by decide +kernel
theorem dX9_crossed_3 : decode cX9_crossed 3 = .ok (.iconst 0, 1) := by decide +kernel
theorem dX9_crossed_4 : decode cX9_crossed 4 = .ok (.istore 4, 2) := by decide +kernel
theorem dX9_crossed_6 : decode cX9_crossed 6 = .ok (.iload 4, 2) := by decide +kernel
theorem dX9_crossed_8 : decode cX9_crossed 8 = .ok (.bipush 6, 2) := by decide +kernel
theorem dX9_crossed_10 : decode cX9_crossed 10 = .ok (.if_icmp .ge 81, 3) := by decide +kernel
theorem dX9_crossed_13 : decode cX9_crossed 13 = .ok (.iload_n 1, 1) := by decide +kernel
theorem dX9_crossed_14 : decode cX9_crossed 14 = .ok (.iload 4, 2) := by decide +kernel
theorem dX9_crossed_16 : decode cX9_crossed 16 = .ok (.iconst 0, 1) := by decide +kernel
theorem dX9_crossed_17 : decode cX9_crossed 17 = .ok (.invokestatic 90, 3) := by decide +kernel
theorem dX9_crossed_20 : decode cX9_crossed 20 = .ok (.istore 5, 2) := by decide +kernel
theorem dX9_crossed_22 : decode cX9_crossed 22 = .ok (.aload_n 0, 1) := by decide +kernel
theorem dX9_crossed_23 : decode cX9_crossed 23 = .ok (.getfield 16, 3) := by decide +kernel
theorem dX9_crossed_26 : decode cX9_crossed 26 = .ok (.iload 5, 2) := by decide +kernel
theorem dX9_crossed_28 : decode cX9_crossed 28 = .ok (.baload, 1) := by decide +kernel
theorem dX9_crossed_29 : decode cX9_crossed 29 = .ok (.ifCond .eq 56, 3) := by decide +kernel
theorem dX9_crossed_32 : decode cX9_crossed 32 = .ok (.iload_n 2, 1) := by decide +kernel
theorem dX9_crossed_33 : decode cX9_crossed 33 = .ok (.iload 4, 2) := by decide +kernel
theorem dX9_crossed_35 : decode cX9_crossed 35 = .ok (.imul, 1) := by decide +kernel
theorem dX9_crossed_36 : decode cX9_crossed 36 = .ok (.aload_n 0, 1) := by decide +kernel
theorem dX9_crossed_37 : decode cX9_crossed 37 = .ok (.getfield 23, 3) := by decide +kernel
theorem dX9_crossed_40 : decode cX9_crossed 40 = .ok (.iload 5, 2) := by decide +kernel
theorem dX9_crossed_42 : decode cX9_crossed 42 = .ok (.iaload, 1) := by decide +kernel
theorem dX9_crossed_43 : decode cX9_crossed 43 = .ok (.isub, 1) := by decide +kernel
theorem dX9_crossed_44 : decode cX9_crossed 44 = .ok (.aload_n 0, 1) := by decide +kernel
theorem dX9_crossed_45 : decode cX9_crossed 45 = .ok (.getfield 7, 3) := by decide +kernel
theorem dX9_crossed_48 : decode cX9_crossed 48 = .ok (.iload_n 1, 1) := by decide +kernel
theorem dX9_crossed_49 : decode cX9_crossed 49 = .ok (.iaload, 1) := by decide +kernel
theorem dX9_crossed_50 : decode cX9_crossed 50 = .ok (.isub, 1) := by decide +kernel
theorem dX9_crossed_51 : decode cX9_crossed 51 = .ok (.istore 6, 2) := by decide +kernel
theorem dX9_crossed_53 : decode cX9_crossed 53 = .ok (.iload_n 3, 1) := by decide +kernel
theorem dX9_crossed_54 : decode cX9_crossed 54 = .ok (.iload 6, 2) := by decide +kernel
theorem dX9_crossed_56 : decode cX9_crossed 56 = .ok (.ifCond .gt 7, 3) := by decide +kernel
theorem dX9_crossed_59 : decode cX9_crossed 59 = .ok (.iconst 0, 1) := by decide +kernel
theorem dX9_crossed_60 : decode cX9_crossed 60 = .ok (.goto 21, 3) := by decide +kernel
theorem dX9_crossed_63 : decode cX9_crossed 63 = .ok (.iload 6, 2) := by decide +kernel
theorem dX9_crossed_65 : decode cX9_crossed 65 = .ok (.aload_n 0, 1) := by decide +kernel
theorem dX9_crossed_66 : decode cX9_crossed 66 = .ok (.getfield 13, 3) := by decide +kernel
theorem dX9_crossed_69 : decode cX9_crossed 69 = .ok (.iload_n 1, 1) := by decide +kernel
theorem dX9_crossed_70 : decode cX9_crossed 70 = .ok (.iaload, 1) := by decide +kernel
theorem dX9_crossed_71 : decode cX9_crossed 71 = .ok (.iadd, 1) := by decide +kernel
theorem dX9_crossed_72 : decode cX9_crossed 72 = .ok (.iconst 1, 1) := by decide +kernel
theorem dX9_crossed_73 : decode cX9_crossed 73 = .ok (.isub, 1) := by decide +kernel
theorem dX9_crossed_74 : decode cX9_crossed 74 = .ok (.aload_n 0, 1) := by decide +kernel
theorem dX9_crossed_75 : decode cX9_crossed 75 = .ok (.getfield 13, 3) := by decide +kernel
theorem dX9_crossed_78 : decode cX9_crossed 78 = .ok (.iload_n 1, 1) := by decide +kernel
theorem dX9_crossed_79 : decode cX9_crossed 79 = .ok (.iaload, 1) := by decide +kernel
theorem dX9_crossed_80 : decode cX9_crossed 80 = .ok (.idiv, 1) := by decide +kernel
theorem dX9_crossed_81 : decode cX9_crossed 81 = .ok (.invokestatic 122, 3) := by decide +kernel
theorem dX9_crossed_84 : decode cX9_crossed 84 = .ok (.istore_n 3, 1) := by decide +kernel
theorem dX9_crossed_85 : decode cX9_crossed 85 = .ok (.iinc 4 1, 3) := by decide +kernel
theorem dX9_crossed_88 : decode cX9_crossed 88 = .ok (.goto (-82), 3) := by decide +kernel
theorem dX9_crossed_91 : decode cX9_crossed 91 = .ok (.iload_n 3, 1) := by decide +kernel
theorem dX9_crossed_92 : decode cX9_crossed 92 = .ok (.ireturn, 1) := by decide +kernel
theorem dX9_hasTorso_0 : decode cX9_hasTorso 0 = .ok (.aload_n 0, 1) := by decide +kernel
theorem dX9_hasTorso_1 : decode cX9_hasTorso 1 = .ok (.iload_n 1, 1) := by decide +kernel
theorem dX9_hasTorso_2 : decode cX9_hasTorso 2 = .ok (.iconst 0, 1) := by decide +kernel
theorem dX9_hasTorso_3 : decode cX9_hasTorso 3 = .ok (.invokevirtual 129, 3) := by decide +kernel
theorem dX9_hasTorso_6 : decode cX9_hasTorso 6 = .ok (.ifCond .lt 7, 3) := by decide +kernel
theorem dX9_hasTorso_9 : decode cX9_hasTorso 9 = .ok (.iconst 1, 1) := by decide +kernel
theorem dX9_hasTorso_10 : decode cX9_hasTorso 10 = .ok (.goto 4, 3) := by decide +kernel
theorem dX9_hasTorso_13 : decode cX9_hasTorso 13 = .ok (.iconst 0, 1) := by decide +kernel
theorem dX9_hasTorso_14 : decode cX9_hasTorso 14 = .ok (.ireturn, 1) := by decide +kernel
theorem dX9_isHidden_0 : decode cX9_isHidden 0 = .ok (.aload_n 0, 1) := by decide +kernel
theorem dX9_isHidden_1 : decode cX9_isHidden 1 = .ok (.iload_n 1, 1) := by decide +kernel
theorem dX9_isHidden_2 : decode cX9_isHidden 2 = .ok (.invokevirtual 132, 3) := by decide +kernel
theorem dX9_isHidden_5 : decode cX9_isHidden 5 = .ok (.istore_n 2, 1) := by decide +kernel
theorem dX9_isHidden_6 : decode cX9_isHidden 6 = .ok (.aload_n 0, 1) := by decide +kernel
theorem dX9_isHidden_7 : decode cX9_isHidden 7 = .ok (.iload_n 1, 1) := by decide +kernel
theorem dX9_isHidden_8 : decode cX9_isHidden 8 = .ok (.invokevirtual 135, 3) := by decide +kernel
theorem dX9_isHidden_11 : decode cX9_isHidden 11 = .ok (.ifCond .eq 24, 3) := by decide +kernel
theorem dX9_isHidden_14 : decode cX9_isHidden 14 = .ok (.iload_n 2, 1) := by decide +kernel
theorem dX9_isHidden_15 : decode cX9_isHidden 15 = .ok (.ifCond .lt 16, 3) := by decide +kernel
theorem dX9_isHidden_18 : decode cX9_isHidden 18 = .ok (.iload_n 2, 1) := by decide +kernel
theorem dX9_isHidden_19 : decode cX9_isHidden 19 = .ok (.aload_n 0, 1) := by decide +kernel
theorem dX9_isHidden_20 : decode cX9_isHidden 20 = .ok (.iload_n 1, 1) := by decide +kernel
theorem dX9_isHidden_21 : decode cX9_isHidden 21 = .ok (.aload_n 0, 1) := by decide +kernel
theorem dX9_isHidden_22 : decode cX9_isHidden 22 = .ok (.getfield 94, 3) := by decide +kernel
theorem dX9_isHidden_25 : decode cX9_isHidden 25 = .ok (.invokevirtual 129, 3) := by decide +kernel
theorem dX9_isHidden_28 : decode cX9_isHidden 28 = .ok (.if_icmp .le 7, 3) := by decide +kernel
theorem dX9_isHidden_31 : decode cX9_isHidden 31 = .ok (.iconst 1, 1) := by decide +kernel
theorem dX9_isHidden_32 : decode cX9_isHidden 32 = .ok (.goto 4, 3) := by decide +kernel
theorem dX9_isHidden_35 : decode cX9_isHidden 35 = .ok (.iconst 0, 1) := by decide +kernel
theorem dX9_isHidden_36 : decode cX9_isHidden 36 = .ok (.ireturn, 1) := by decide +kernel
theorem dX9_hearsOf_0 : decode cX9_hearsOf 0 = .ok (.aload_n 0, 1) := by decide +kernel
theorem dX9_hearsOf_1 : decode cX9_hearsOf 1 = .ok (.getfield 66, 3) := by decide +kernel
theorem dX9_hearsOf_4 : decode cX9_hearsOf 4 = .ok (.iconst 1, 1) := by decide +kernel
theorem dX9_hearsOf_5 : decode cX9_hearsOf 5 = .ok (.isub, 1) := by decide +kernel
theorem dX9_hearsOf_6 : decode cX9_hearsOf 6 = .ok (.iload_n 1, 1) := by decide +kernel
theorem dX9_hearsOf_7 : decode cX9_hearsOf 7 = .ok (.isub, 1) := by decide +kernel
theorem dX9_hearsOf_8 : decode cX9_hearsOf 8 = .ok (.istore_n 2, 1) := by decide +kernel
theorem dX9_hearsOf_9 : decode cX9_hearsOf 9 = .ok (.iconst 3, 1) := by decide +kernel
theorem dX9_hearsOf_10 : decode cX9_hearsOf 10 = .ok (.aload_n 0, 1) := by decide +kernel
theorem dX9_hearsOf_11 : decode cX9_hearsOf 11 = .ok (.getfield 100, 3) := by decide +kernel
theorem dX9_hearsOf_14 : decode cX9_hearsOf 14 = .ok (.iconst 1, 1) := by decide +kernel
theorem dX9_hearsOf_15 : decode cX9_hearsOf 15 = .ok (.if_icmp .ne 12, 3) := by decide +kernel
theorem dX9_hearsOf_18 : decode cX9_hearsOf 18 = .ok (.iload_n 2, 1) := by decide +kernel
theorem dX9_hearsOf_19 : decode cX9_hearsOf 19 = .ok (.iload_n 1, 1) := by decide +kernel
theorem dX9_hearsOf_20 : decode cX9_hearsOf 20 = .ok (.if_icmp .ge 7, 3) := by decide +kernel
theorem dX9_hearsOf_23 : decode cX9_hearsOf 23 = .ok (.iload_n 2, 1) := by decide +kernel
theorem dX9_hearsOf_24 : decode cX9_hearsOf 24 = .ok (.goto 4, 3) := by decide +kernel
theorem dX9_hearsOf_27 : decode cX9_hearsOf 27 = .ok (.iload_n 1, 1) := by decide +kernel
theorem dX9_hearsOf_28 : decode cX9_hearsOf 28 = .ok (.imul, 1) := by decide +kernel
theorem dX9_hearsOf_29 : decode cX9_hearsOf 29 = .ok (.ireturn, 1) := by decide +kernel
theorem dX9_of_0 : decode cX9_of 0 = .ok (.aload_n 0, 1) := by decide +kernel
theorem dX9_of_1 : decode cX9_of 1 = .ok (.iload_n 1, 1) := by decide +kernel
theorem dX9_of_2 : decode cX9_of 2 = .ok (.invokevirtual 79, 3) := by decide +kernel
theorem dX9_of_5 : decode cX9_of 5 = .ok (.ifCond .ne 5, 3) := by decide +kernel
theorem dX9_of_8 : decode cX9_of 8 = .ok (.iconst (-1), 1) := by decide +kernel
theorem dX9_of_9 : decode cX9_of 9 = .ok (.ireturn, 1) := by decide +kernel
theorem dX9_of_10 : decode cX9_of 10 = .ok (.aload_n 0, 1) := by decide +kernel
theorem dX9_of_11 : decode cX9_of 11 = .ok (.invokevirtual 138, 3) := by decide +kernel
theorem dX9_of_14 : decode cX9_of 14 = .ok (.iload_n 2, 1) := by decide +kernel
theorem dX9_of_15 : decode cX9_of 15 = .ok (.tableswitch 136 0 7 #[45, 45, 54, 60, 67, 77, 91, 97], 45) := by decide +kernel
theorem dX9_of_60 : decode cX9_of 60 = .ok (.aload_n 0, 1) := by decide +kernel
theorem dX9_of_61 : decode cX9_of 61 = .ok (.iload_n 1, 1) := by decide +kernel
theorem dX9_of_62 : decode cX9_of 62 = .ok (.iload_n 2, 1) := by decide +kernel
theorem dX9_of_63 : decode cX9_of 63 = .ok (.bipush 63, 2) := by decide +kernel
theorem dX9_of_65 : decode cX9_of 65 = .ok (.invokevirtual 126, 3) := by decide +kernel
theorem dX9_of_68 : decode cX9_of 68 = .ok (.ireturn, 1) := by decide +kernel
theorem dX9_of_69 : decode cX9_of 69 = .ok (.aload_n 0, 1) := by decide +kernel
theorem dX9_of_70 : decode cX9_of 70 = .ok (.iload_n 1, 1) := by decide +kernel
theorem dX9_of_71 : decode cX9_of 71 = .ok (.invokevirtual 132, 3) := by decide +kernel
theorem dX9_of_74 : decode cX9_of 74 = .ok (.ireturn, 1) := by decide +kernel
theorem dX9_of_75 : decode cX9_of 75 = .ok (.aload_n 0, 1) := by decide +kernel
theorem dX9_of_76 : decode cX9_of 76 = .ok (.iload_n 1, 1) := by decide +kernel
theorem dX9_of_77 : decode cX9_of 77 = .ok (.iconst 0, 1) := by decide +kernel
theorem dX9_of_78 : decode cX9_of 78 = .ok (.invokevirtual 129, 3) := by decide +kernel
theorem dX9_of_81 : decode cX9_of 81 = .ok (.ireturn, 1) := by decide +kernel
theorem dX9_of_82 : decode cX9_of 82 = .ok (.aload_n 0, 1) := by decide +kernel
theorem dX9_of_83 : decode cX9_of 83 = .ok (.iload_n 1, 1) := by decide +kernel
theorem dX9_of_84 : decode cX9_of 84 = .ok (.aload_n 0, 1) := by decide +kernel
theorem dX9_of_85 : decode cX9_of 85 = .ok (.getfield 94, 3) := by decide +kernel
theorem dX9_of_88 : decode cX9_of 88 = .ok (.invokevirtual 129, 3) := by decide +kernel
theorem dX9_of_91 : decode cX9_of 91 = .ok (.ireturn, 1) := by decide +kernel
theorem dX9_of_92 : decode cX9_of 92 = .ok (.aload_n 0, 1) := by decide +kernel
theorem dX9_of_93 : decode cX9_of 93 = .ok (.iload_n 1, 1) := by decide +kernel
theorem dX9_of_94 : decode cX9_of 94 = .ok (.invokevirtual 141, 3) := by decide +kernel
theorem dX9_of_97 : decode cX9_of 97 = .ok (.ifCond .eq 7, 3) := by decide +kernel
theorem dX9_of_100 : decode cX9_of 100 = .ok (.iconst 1, 1) := by decide +kernel
theorem dX9_of_101 : decode cX9_of 101 = .ok (.goto 4, 3) := by decide +kernel
theorem dX9_of_104 : decode cX9_of 104 = .ok (.iconst 0, 1) := by decide +kernel
theorem dX9_of_105 : decode cX9_of 105 = .ok (.ireturn, 1) := by decide +kernel
theorem dX9_of_106 : decode cX9_of 106 = .ok (.aload_n 0, 1) := by decide +kernel
theorem dX9_of_107 : decode cX9_of 107 = .ok (.iload_n 1, 1) := by decide +kernel
theorem dX9_of_108 : decode cX9_of 108 = .ok (.invokevirtual 144, 3) := by decide +kernel
theorem dX9_of_111 : decode cX9_of 111 = .ok (.ireturn, 1) := by decide +kernel
theorem dX9_of_112 : decode cX9_of 112 = .ok (.aload_n 0, 1) := by decide +kernel
theorem dX9_of_113 : decode cX9_of 113 = .ok (.getfield 26, 3) := by decide +kernel
theorem dX9_of_116 : decode cX9_of 116 = .ok (.iload_n 1, 1) := by decide +kernel
theorem dX9_of_117 : decode cX9_of 117 = .ok (.iaload, 1) := by decide +kernel
theorem dX9_of_118 : decode cX9_of 118 = .ok (.ifCond .ge 8, 3) := by decide +kernel
theorem dX9_of_121 : decode cX9_of 121 = .ok (.bipush (-6), 2) := by decide +kernel
theorem dX9_of_123 : decode cX9_of 123 = .ok (.goto 27, 3) := by decide +kernel
theorem dX9_of_126 : decode cX9_of 126 = .ok (.aload_n 0, 1) := by decide +kernel
theorem dX9_of_127 : decode cX9_of 127 = .ok (.getfield 26, 3) := by decide +kernel
theorem dX9_of_130 : decode cX9_of 130 = .ok (.iload_n 1, 1) := by decide +kernel
theorem dX9_of_131 : decode cX9_of 131 = .ok (.iaload, 1) := by decide +kernel
theorem dX9_of_132 : decode cX9_of 132 = .ok (.aload_n 0, 1) := by decide +kernel
theorem dX9_of_133 : decode cX9_of 133 = .ok (.iload_n 1, 1) := by decide +kernel
theorem dX9_of_134 : decode cX9_of 134 = .ok (.invokevirtual 144, 3) := by decide +kernel
theorem dX9_of_137 : decode cX9_of 137 = .ok (.aload_n 0, 1) := by decide +kernel
theorem dX9_of_138 : decode cX9_of 138 = .ok (.getfield 62, 3) := by decide +kernel
theorem dX9_of_141 : decode cX9_of 141 = .ok (.iadd, 1) := by decide +kernel
theorem dX9_of_142 : decode cX9_of 142 = .ok (.if_icmp .ge 7, 3) := by decide +kernel
theorem dX9_of_145 : decode cX9_of 145 = .ok (.iconst 1, 1) := by decide +kernel
theorem dX9_of_146 : decode cX9_of 146 = .ok (.goto 4, 3) := by decide +kernel
theorem dX9_of_149 : decode cX9_of 149 = .ok (.iconst 0, 1) := by decide +kernel
theorem dX9_of_150 : decode cX9_of 150 = .ok (.ireturn, 1) := by decide +kernel
theorem dX9_of_151 : decode cX9_of 151 = .ok (.bipush (-2), 2) := by decide +kernel
theorem dX9_of_153 : decode cX9_of 153 = .ok (.ireturn, 1) := by decide +kernel
theorem dX9_sign_0 : decode cX9_sign 0 = .ok (.iload_n 0, 1) := by decide +kernel
theorem dX9_sign_1 : decode cX9_sign 1 = .ok (.ifCond .le 7, 3) := by decide +kernel
theorem dX9_sign_4 : decode cX9_sign 4 = .ok (.iconst 1, 1) := by decide +kernel
theorem dX9_sign_5 : decode cX9_sign 5 = .ok (.goto 12, 3) := by decide +kernel
theorem dX9_sign_8 : decode cX9_sign 8 = .ok (.iload_n 0, 1) := by decide +kernel
theorem dX9_sign_9 : decode cX9_sign 9 = .ok (.ifCond .ge 7, 3) := by decide +kernel
theorem dX9_sign_12 : decode cX9_sign 12 = .ok (.iconst (-1), 1) := by decide +kernel
theorem dX9_sign_13 : decode cX9_sign 13 = .ok (.goto 4, 3) := by decide +kernel
theorem dX9_sign_16 : decode cX9_sign 16 = .ok (.iconst 0, 1) := by decide +kernel
theorem dX9_sign_17 : decode cX9_sign 17 = .ok (.ireturn, 1) := by decide +kernel
theorem dX9_moved_0 : decode cX9_moved 0 = .ok (.iconst 0, 1) := by decide +kernel
theorem dX9_moved_1 : decode cX9_moved 1 = .ok (.istore_n 2, 1) := by decide +kernel
theorem dX9_moved_2 : decode cX9_moved 2 = .ok (.iconst 0, 1) := by decide +kernel
theorem dX9_moved_3 : decode cX9_moved 3 = .ok (.istore_n 3, 1) := by decide +kernel
theorem dX9_moved_4 : decode cX9_moved 4 = .ok (.iload_n 3, 1) := by decide +kernel
theorem dX9_moved_5 : decode cX9_moved 5 = .ok (.aload_n 0, 1) := by decide +kernel
theorem dX9_moved_6 : decode cX9_moved 6 = .ok (.getfield 66, 3) := by decide +kernel
theorem dX9_moved_9 : decode cX9_moved 9 = .ok (.if_icmp .ge 125, 3) := by decide +kernel
theorem dX9_moved_12 : decode cX9_moved 12 = .ok (.iload_n 3, 1) := by decide +kernel
theorem dX9_moved_13 : decode cX9_moved 13 = .ok (.iconst 1, 1) := by decide +kernel
theorem dX9_moved_14 : decode cX9_moved 14 = .ok (.iadd, 1) := by decide +kernel
theorem dX9_moved_15 : decode cX9_moved 15 = .ok (.istore 4, 2) := by decide +kernel
theorem dX9_moved_17 : decode cX9_moved 17 = .ok (.iload 4, 2) := by decide +kernel
theorem dX9_moved_19 : decode cX9_moved 19 = .ok (.aload_n 0, 1) := by decide +kernel
theorem dX9_moved_20 : decode cX9_moved 20 = .ok (.getfield 66, 3) := by decide +kernel
theorem dX9_moved_23 : decode cX9_moved 23 = .ok (.if_icmp .ge 105, 3) := by decide +kernel
theorem dX9_moved_26 : decode cX9_moved 26 = .ok (.aload_n 0, 1) := by decide +kernel
theorem dX9_moved_27 : decode cX9_moved 27 = .ok (.iload_n 3, 1) := by decide +kernel
theorem dX9_moved_28 : decode cX9_moved 28 = .ok (.invokevirtual 135, 3) := by decide +kernel
theorem dX9_moved_31 : decode cX9_moved 31 = .ok (.ifCond .eq 16, 3) := by decide +kernel
theorem dX9_moved_34 : decode cX9_moved 34 = .ok (.aload_n 0, 1) := by decide +kernel
theorem dX9_moved_35 : decode cX9_moved 35 = .ok (.iload 4, 2) := by decide +kernel
theorem dX9_moved_37 : decode cX9_moved 37 = .ok (.invokevirtual 135, 3) := by decide +kernel
theorem dX9_moved_40 : decode cX9_moved 40 = .ok (.ifCond .eq 7, 3) := by decide +kernel
theorem dX9_moved_43 : decode cX9_moved 43 = .ok (.iconst 1, 1) := by decide +kernel
theorem dX9_moved_44 : decode cX9_moved 44 = .ok (.goto 4, 3) := by decide +kernel
theorem dX9_moved_47 : decode cX9_moved 47 = .ok (.iconst 0, 1) := by decide +kernel
theorem dX9_moved_48 : decode cX9_moved 48 = .ok (.istore 5, 2) := by decide +kernel
theorem dX9_moved_50 : decode cX9_moved 50 = .ok (.aload_n 0, 1) := by decide +kernel
theorem dX9_moved_51 : decode cX9_moved 51 = .ok (.iload_n 3, 1) := by decide +kernel
theorem dX9_moved_52 : decode cX9_moved 52 = .ok (.iconst 0, 1) := by decide +kernel
theorem dX9_moved_53 : decode cX9_moved 53 = .ok (.invokevirtual 129, 3) := by decide +kernel
theorem dX9_moved_56 : decode cX9_moved 56 = .ok (.aload_n 0, 1) := by decide +kernel
theorem dX9_moved_57 : decode cX9_moved 57 = .ok (.iload 4, 2) := by decide +kernel
theorem dX9_moved_59 : decode cX9_moved 59 = .ok (.iconst 0, 1) := by decide +kernel
theorem dX9_moved_60 : decode cX9_moved 60 = .ok (.invokevirtual 129, 3) := by decide +kernel
theorem dX9_moved_63 : decode cX9_moved 63 = .ok (.isub, 1) := by decide +kernel
theorem dX9_moved_64 : decode cX9_moved 64 = .ok (.invokestatic 147, 3) := by decide +kernel
theorem dX9_moved_67 : decode cX9_moved 67 = .ok (.istore 6, 2) := by decide +kernel
theorem dX9_moved_69 : decode cX9_moved 69 = .ok (.aload_n 0, 1) := by decide +kernel
theorem dX9_moved_70 : decode cX9_moved 70 = .ok (.iload_n 3, 1) := by decide +kernel
theorem dX9_moved_71 : decode cX9_moved 71 = .ok (.aload_n 0, 1) := by decide +kernel
theorem dX9_moved_72 : decode cX9_moved 72 = .ok (.getfield 94, 3) := by decide +kernel
theorem dX9_moved_75 : decode cX9_moved 75 = .ok (.invokevirtual 129, 3) := by decide +kernel
theorem dX9_moved_78 : decode cX9_moved 78 = .ok (.aload_n 0, 1) := by decide +kernel
theorem dX9_moved_79 : decode cX9_moved 79 = .ok (.iload 4, 2) := by decide +kernel
theorem dX9_moved_81 : decode cX9_moved 81 = .ok (.aload_n 0, 1) := by decide +kernel
theorem dX9_moved_82 : decode cX9_moved 82 = .ok (.getfield 94, 3) := by decide +kernel
theorem dX9_moved_85 : decode cX9_moved 85 = .ok (.invokevirtual 129, 3) := by decide +kernel
theorem dX9_moved_88 : decode cX9_moved 88 = .ok (.isub, 1) := by decide +kernel
theorem dX9_moved_89 : decode cX9_moved 89 = .ok (.invokestatic 147, 3) := by decide +kernel
theorem dX9_moved_92 : decode cX9_moved 92 = .ok (.istore 7, 2) := by decide +kernel
theorem dX9_moved_94 : decode cX9_moved 94 = .ok (.iload 5, 2) := by decide +kernel
theorem dX9_moved_96 : decode cX9_moved 96 = .ok (.ifCond .eq 26, 3) := by decide +kernel
theorem dX9_moved_99 : decode cX9_moved 99 = .ok (.iload 6, 2) := by decide +kernel
theorem dX9_moved_101 : decode cX9_moved 101 = .ok (.iload 7, 2) := by decide +kernel
theorem dX9_moved_103 : decode cX9_moved 103 = .ok (.if_icmp .eq 19, 3) := by decide +kernel
theorem dX9_moved_106 : decode cX9_moved 106 = .ok (.iload_n 2, 1) := by decide +kernel
theorem dX9_moved_107 : decode cX9_moved 107 = .ok (.iload_n 1, 1) := by decide +kernel
theorem dX9_moved_108 : decode cX9_moved 108 = .ok (.if_icmp .ne 11, 3) := by decide +kernel
theorem dX9_moved_111 : decode cX9_moved 111 = .ok (.bipush 10, 2) := by decide +kernel
theorem dX9_moved_113 : decode cX9_moved 113 = .ok (.iload_n 3, 1) := by decide +kernel
theorem dX9_moved_114 : decode cX9_moved 114 = .ok (.imul, 1) := by decide +kernel
theorem dX9_moved_115 : decode cX9_moved 115 = .ok (.iload 4, 2) := by decide +kernel
theorem dX9_moved_117 : decode cX9_moved 117 = .ok (.iadd, 1) := by decide +kernel
theorem dX9_moved_118 : decode cX9_moved 118 = .ok (.ireturn, 1) := by decide +kernel
theorem dX9_moved_119 : decode cX9_moved 119 = .ok (.iinc 2 1, 3) := by decide +kernel
theorem dX9_moved_122 : decode cX9_moved 122 = .ok (.iinc 4 1, 3) := by decide +kernel
theorem dX9_moved_125 : decode cX9_moved 125 = .ok (.goto (-108), 3) := by decide +kernel
theorem dX9_moved_128 : decode cX9_moved 128 = .ok (.iinc 3 1, 3) := by decide +kernel
theorem dX9_moved_131 : decode cX9_moved 131 = .ok (.goto (-127), 3) := by decide +kernel
theorem dX9_moved_134 : decode cX9_moved 134 = .ok (.iload_n 1, 1) := by decide +kernel
theorem dX9_moved_135 : decode cX9_moved 135 = .ok (.iconst (-1), 1) := by decide +kernel
theorem dX9_moved_136 : decode cX9_moved 136 = .ok (.if_icmp .ne 7, 3) := by decide +kernel
theorem dX9_moved_139 : decode cX9_moved 139 = .ok (.iload_n 2, 1) := by decide +kernel
theorem dX9_moved_140 : decode cX9_moved 140 = .ok (.goto 5, 3) := by decide +kernel
theorem dX9_moved_143 : decode cX9_moved 143 = .ok (.bipush (-6), 2) := by decide +kernel
theorem dX9_moved_145 : decode cX9_moved 145 = .ok (.ireturn, 1) := by decide +kernel
theorem dX9_findOrder_0 : decode cX9_findOrder 0 = .ok (.aload_n 0, 1) := by decide +kernel
theorem dX9_findOrder_1 : decode cX9_findOrder 1 = .ok (.invokevirtual 138, 3) := by decide +kernel
theorem dX9_findOrder_4 : decode cX9_findOrder 4 = .ok (.aload_n 0, 1) := by decide +kernel
theorem dX9_findOrder_5 : decode cX9_findOrder 5 = .ok (.iconst 0, 1) := by decide +kernel
theorem dX9_findOrder_6 : decode cX9_findOrder 6 = .ok (.putfield 150, 3) := by decide +kernel
theorem dX9_findOrder_9 : decode cX9_findOrder 9 = .ok (.iconst 0, 1) := by decide +kernel
theorem dX9_findOrder_10 : decode cX9_findOrder 10 = .ok (.istore_n 2, 1) := by decide +kernel
theorem dX9_findOrder_11 : decode cX9_findOrder 11 = .ok (.iload_n 2, 1) := by decide +kernel
theorem dX9_findOrder_12 : decode cX9_findOrder 12 = .ok (.aload_n 0, 1) := by decide +kernel
theorem dX9_findOrder_13 : decode cX9_findOrder 13 = .ok (.getfield 66, 3) := by decide +kernel
theorem dX9_findOrder_16 : decode cX9_findOrder 16 = .ok (.if_icmp .ge 85, 3) := by decide +kernel
theorem dX9_findOrder_19 : decode cX9_findOrder 19 = .ok (.aload_n 0, 1) := by decide +kernel
theorem dX9_findOrder_20 : decode cX9_findOrder 20 = .ok (.iload_n 2, 1) := by decide +kernel
theorem dX9_findOrder_21 : decode cX9_findOrder 21 = .ok (.invokevirtual 132, 3) := by decide +kernel
theorem dX9_findOrder_24 : decode cX9_findOrder 24 = .ok (.ifCond .lt 71, 3) := by decide +kernel
theorem dX9_findOrder_27 : decode cX9_findOrder 27 = .ok (.aload_n 0, 1) := by decide +kernel
theorem dX9_findOrder_28 : decode cX9_findOrder 28 = .ok (.getfield 150, 3) := by decide +kernel
theorem dX9_findOrder_31 : decode cX9_findOrder 31 = .ok (.istore_n 3, 1) := by decide +kernel
theorem dX9_findOrder_32 : decode cX9_findOrder 32 = .ok (.iload_n 3, 1) := by decide +kernel
theorem dX9_findOrder_33 : decode cX9_findOrder 33 = .ok (.ifCond .le 45, 3) := by decide +kernel
theorem dX9_findOrder_36 : decode cX9_findOrder 36 = .ok (.aload_n 0, 1) := by decide +kernel
theorem dX9_findOrder_37 : decode cX9_findOrder 37 = .ok (.aload_n 0, 1) := by decide +kernel
theorem dX9_findOrder_38 : decode cX9_findOrder 38 = .ok (.getfield 32, 3) := by decide +kernel
theorem dX9_findOrder_41 : decode cX9_findOrder 41 = .ok (.iload_n 3, 1) := by decide +kernel
theorem dX9_findOrder_42 : decode cX9_findOrder 42 = .ok (.iconst 1, 1) := by decide +kernel
theorem dX9_findOrder_43 : decode cX9_findOrder 43 = .ok (.isub, 1) := by decide +kernel
theorem dX9_findOrder_44 : decode cX9_findOrder 44 = .ok (.iaload, 1) := by decide +kernel
theorem dX9_findOrder_45 : decode cX9_findOrder 45 = .ok (.iload_n 1, 1) := by decide +kernel
theorem dX9_findOrder_46 : decode cX9_findOrder 46 = .ok (.invokevirtual 153, 3) := by decide +kernel
theorem dX9_findOrder_49 : decode cX9_findOrder 49 = .ok (.aload_n 0, 1) := by decide +kernel
theorem dX9_findOrder_50 : decode cX9_findOrder 50 = .ok (.iload_n 2, 1) := by decide +kernel
theorem dX9_findOrder_51 : decode cX9_findOrder 51 = .ok (.iload_n 1, 1) := by decide +kernel
theorem dX9_findOrder_52 : decode cX9_findOrder 52 = .ok (.invokevirtual 153, 3) := by decide +kernel
theorem dX9_findOrder_55 : decode cX9_findOrder 55 = .ok (.if_icmp .le 23, 3) := by decide +kernel
theorem dX9_findOrder_58 : decode cX9_findOrder 58 = .ok (.aload_n 0, 1) := by decide +kernel
theorem dX9_findOrder_59 : decode cX9_findOrder 59 = .ok (.getfield 32, 3) := by decide +kernel
theorem dX9_findOrder_62 : decode cX9_findOrder 62 = .ok (.iload_n 3, 1) := by decide +kernel
theorem dX9_findOrder_63 : decode cX9_findOrder 63 = .ok (.aload_n 0, 1) := by decide +kernel
theorem dX9_findOrder_64 : decode cX9_findOrder 64 = .ok (.getfield 32, 3) := by decide +kernel
theorem dX9_findOrder_67 : decode cX9_findOrder 67 = .ok (.iload_n 3, 1) := by decide +kernel
theorem dX9_findOrder_68 : decode cX9_findOrder 68 = .ok (.iconst 1, 1) := by decide +kernel
theorem dX9_findOrder_69 : decode cX9_findOrder 69 = .ok (.isub, 1) := by decide +kernel
theorem dX9_findOrder_70 : decode cX9_findOrder 70 = .ok (.iaload, 1) := by decide +kernel
theorem dX9_findOrder_71 : decode cX9_findOrder 71 = .ok (.iastore, 1) := by decide +kernel
theorem dX9_findOrder_72 : decode cX9_findOrder 72 = .ok (.iinc 3 (-1), 3) := by decide +kernel
theorem dX9_findOrder_75 : decode cX9_findOrder 75 = .ok (.goto (-43), 3) := by decide +kernel
theorem dX9_findOrder_78 : decode cX9_findOrder 78 = .ok (.aload_n 0, 1) := by decide +kernel
theorem dX9_findOrder_79 : decode cX9_findOrder 79 = .ok (.getfield 32, 3) := by decide +kernel
theorem dX9_findOrder_82 : decode cX9_findOrder 82 = .ok (.iload_n 3, 1) := by decide +kernel
theorem dX9_findOrder_83 : decode cX9_findOrder 83 = .ok (.iload_n 2, 1) := by decide +kernel
theorem dX9_findOrder_84 : decode cX9_findOrder 84 = .ok (.iastore, 1) := by decide +kernel
theorem dX9_findOrder_85 : decode cX9_findOrder 85 = .ok (.aload_n 0, 1) := by decide +kernel
theorem dX9_findOrder_86 : decode cX9_findOrder 86 = .ok (.dup, 1) := by decide +kernel
theorem dX9_findOrder_87 : decode cX9_findOrder 87 = .ok (.getfield 150, 3) := by decide +kernel
theorem dX9_findOrder_90 : decode cX9_findOrder 90 = .ok (.iconst 1, 1) := by decide +kernel
theorem dX9_findOrder_91 : decode cX9_findOrder 91 = .ok (.iadd, 1) := by decide +kernel
theorem dX9_findOrder_92 : decode cX9_findOrder 92 = .ok (.putfield 150, 3) := by decide +kernel
theorem dX9_findOrder_95 : decode cX9_findOrder 95 = .ok (.iinc 2 1, 3) := by decide +kernel
theorem dX9_findOrder_98 : decode cX9_findOrder 98 = .ok (.goto (-87), 3) := by decide +kernel
theorem dX9_findOrder_101 : decode cX9_findOrder 101 = .ok (.return_, 1) := by decide +kernel
theorem dX9_timeOf_0 : decode cX9_timeOf 0 = .ok (.aload_n 0, 1) := by decide +kernel
theorem dX9_timeOf_1 : decode cX9_timeOf 1 = .ok (.iload_n 1, 1) := by decide +kernel
theorem dX9_timeOf_2 : decode cX9_timeOf 2 = .ok (.invokevirtual 132, 3) := by decide +kernel
theorem dX9_timeOf_5 : decode cX9_timeOf 5 = .ok (.iload_n 2, 1) := by decide +kernel
theorem dX9_timeOf_6 : decode cX9_timeOf 6 = .ok (.ifCond .eq 11, 3) := by decide +kernel
theorem dX9_timeOf_9 : decode cX9_timeOf 9 = .ok (.aload_n 0, 1) := by decide +kernel
theorem dX9_timeOf_10 : decode cX9_timeOf 10 = .ok (.iload_n 1, 1) := by decide +kernel
theorem dX9_timeOf_11 : decode cX9_timeOf 11 = .ok (.invokevirtual 144, 3) := by decide +kernel
theorem dX9_timeOf_14 : decode cX9_timeOf 14 = .ok (.goto 4, 3) := by decide +kernel
theorem dX9_timeOf_17 : decode cX9_timeOf 17 = .ok (.iconst 0, 1) := by decide +kernel
theorem dX9_timeOf_18 : decode cX9_timeOf 18 = .ok (.isub, 1) := by decide +kernel
theorem dX9_timeOf_19 : decode cX9_timeOf 19 = .ok (.ireturn, 1) := by decide +kernel
theorem dX9_order_0 : decode cX9_order 0 = .ok (.aload_n 0, 1) := by decide +kernel
theorem dX9_order_1 : decode cX9_order 1 = .ok (.iconst 0, 1) := by decide +kernel
theorem dX9_order_2 : decode cX9_order 2 = .ok (.invokevirtual 157, 3) := by decide +kernel
theorem dX9_order_5 : decode cX9_order 5 = .ok (.iload_n 1, 1) := by decide +kernel
theorem dX9_order_6 : decode cX9_order 6 = .ok (.iconst (-1), 1) := by decide +kernel
theorem dX9_order_7 : decode cX9_order 7 = .ok (.if_icmp .ne 10, 3) := by decide +kernel
theorem dX9_order_10 : decode cX9_order 10 = .ok (.aload_n 0, 1) := by decide +kernel
theorem dX9_order_11 : decode cX9_order 11 = .ok (.getfield 150, 3) := by decide +kernel
theorem dX9_order_14 : decode cX9_order 14 = .ok (.goto 30, 3) := by decide +kernel
theorem dX9_order_17 : decode cX9_order 17 = .ok (.iload_n 1, 1) := by decide +kernel
theorem dX9_order_18 : decode cX9_order 18 = .ok (.i2l, 1) := by decide +kernel
theorem dX9_order_19 : decode cX9_order 19 = .ok (.lconst 0, 1) := by decide +kernel
theorem dX9_order_20 : decode cX9_order 20 = .ok (.aload_n 0, 1) := by decide +kernel
theorem dX9_order_21 : decode cX9_order 21 = .ok (.getfield 150, 3) := by decide +kernel
theorem dX9_order_24 : decode cX9_order 24 = .ok (.iconst 1, 1) := by decide +kernel
theorem dX9_order_25 : decode cX9_order 25 = .ok (.isub, 1) := by decide +kernel
theorem dX9_order_26 : decode cX9_order 26 = .ok (.i2l, 1) := by decide +kernel
theorem dX9_order_27 : decode cX9_order 27 = .ok (.invokestatic 69, 3) := by decide +kernel
theorem dX9_order_30 : decode cX9_order 30 = .ok (.ifCond .eq 12, 3) := by decide +kernel
theorem dX9_order_33 : decode cX9_order 33 = .ok (.aload_n 0, 1) := by decide +kernel
theorem dX9_order_34 : decode cX9_order 34 = .ok (.getfield 32, 3) := by decide +kernel
theorem dX9_order_37 : decode cX9_order 37 = .ok (.iload_n 1, 1) := by decide +kernel
theorem dX9_order_38 : decode cX9_order 38 = .ok (.iaload, 1) := by decide +kernel
theorem dX9_order_39 : decode cX9_order 39 = .ok (.goto 5, 3) := by decide +kernel
theorem dX9_order_42 : decode cX9_order 42 = .ok (.bipush (-6), 2) := by decide +kernel
theorem dX9_order_44 : decode cX9_order 44 = .ok (.ireturn, 1) := by decide +kernel
theorem dX9_place_0 : decode cX9_place 0 = .ok (.aload_n 0, 1) := by decide +kernel
theorem dX9_place_1 : decode cX9_place 1 = .ok (.iload_n 1, 1) := by decide +kernel
theorem dX9_place_2 : decode cX9_place 2 = .ok (.invokevirtual 79, 3) := by decide +kernel
theorem dX9_place_5 : decode cX9_place 5 = .ok (.ifCond .ne 5, 3) := by decide +kernel
theorem dX9_place_8 : decode cX9_place 8 = .ok (.iconst (-1), 1) := by decide +kernel
theorem dX9_place_9 : decode cX9_place 9 = .ok (.ireturn, 1) := by decide +kernel
theorem dX9_place_10 : decode cX9_place 10 = .ok (.iload_n 2, 1) := by decide +kernel
theorem dX9_place_11 : decode cX9_place 11 = .ok (.i2l, 1) := by decide +kernel
theorem dX9_place_12 : decode cX9_place 12 = .ok (.lconst 0, 1) := by decide +kernel
theorem dX9_place_13 : decode cX9_place 13 = .ok (.lconst 1, 1) := by decide +kernel
theorem dX9_place_14 : decode cX9_place 14 = .ok (.invokestatic 69, 3) := by decide +kernel
theorem dX9_place_17 : decode cX9_place 17 = .ok (.ifCond .ne 6, 3) := by decide +kernel
theorem dX9_place_20 : decode cX9_place 20 = .ok (.bipush (-2), 2) := by decide +kernel
theorem dX9_place_22 : decode cX9_place 22 = .ok (.ireturn, 1) := by decide +kernel
theorem dX9_place_23 : decode cX9_place 23 = .ok (.aload_n 0, 1) := by decide +kernel
theorem dX9_place_24 : decode cX9_place 24 = .ok (.iconst 0, 1) := by decide +kernel
theorem dX9_place_25 : decode cX9_place 25 = .ok (.invokevirtual 157, 3) := by decide +kernel
theorem dX9_place_28 : decode cX9_place 28 = .ok (.iconst 0, 1) := by decide +kernel
theorem dX9_place_29 : decode cX9_place 29 = .ok (.istore_n 3, 1) := by decide +kernel
theorem dX9_place_30 : decode cX9_place 30 = .ok (.iconst 0, 1) := by decide +kernel
theorem dX9_place_31 : decode cX9_place 31 = .ok (.istore 4, 2) := by decide +kernel
theorem dX9_place_33 : decode cX9_place 33 = .ok (.iload 4, 2) := by decide +kernel
theorem dX9_place_35 : decode cX9_place 35 = .ok (.aload_n 0, 1) := by decide +kernel
theorem dX9_place_36 : decode cX9_place 36 = .ok (.getfield 150, 3) := by decide +kernel
theorem dX9_place_39 : decode cX9_place 39 = .ok (.if_icmp .ge 84, 3) := by decide +kernel
theorem dX9_place_42 : decode cX9_place 42 = .ok (.iload 4, 2) := by decide +kernel
theorem dX9_place_44 : decode cX9_place 44 = .ok (.ifCond .ne 7, 3) := by decide +kernel
theorem dX9_place_47 : decode cX9_place 47 = .ok (.iconst 0, 1) := by decide +kernel
theorem dX9_place_48 : decode cX9_place 48 = .ok (.goto 15, 3) := by decide +kernel
theorem dX9_place_51 : decode cX9_place 51 = .ok (.iload_n 2, 1) := by decide +kernel
theorem dX9_place_52 : decode cX9_place 52 = .ok (.ifCond .ne 10, 3) := by decide +kernel
theorem dX9_place_55 : decode cX9_place 55 = .ok (.iload 4, 2) := by decide +kernel
theorem dX9_place_57 : decode cX9_place 57 = .ok (.iconst 1, 1) := by decide +kernel
theorem dX9_place_58 : decode cX9_place 58 = .ok (.isub, 1) := by decide +kernel
theorem dX9_place_59 : decode cX9_place 59 = .ok (.goto 4, 3) := by decide +kernel
theorem dX9_place_62 : decode cX9_place 62 = .ok (.iload_n 3, 1) := by decide +kernel
theorem dX9_place_63 : decode cX9_place 63 = .ok (.istore 5, 2) := by decide +kernel
theorem dX9_place_65 : decode cX9_place 65 = .ok (.aload_n 0, 1) := by decide +kernel
theorem dX9_place_66 : decode cX9_place 66 = .ok (.aload_n 0, 1) := by decide +kernel
theorem dX9_place_67 : decode cX9_place 67 = .ok (.getfield 32, 3) := by decide +kernel
theorem dX9_place_70 : decode cX9_place 70 = .ok (.iload 4, 2) := by decide +kernel
theorem dX9_place_72 : decode cX9_place 72 = .ok (.iaload, 1) := by decide +kernel
theorem dX9_place_73 : decode cX9_place 73 = .ok (.invokevirtual 132, 3) := by decide +kernel
theorem dX9_place_76 : decode cX9_place 76 = .ok (.aload_n 0, 1) := by decide +kernel
theorem dX9_place_77 : decode cX9_place 77 = .ok (.aload_n 0, 1) := by decide +kernel
theorem dX9_place_78 : decode cX9_place 78 = .ok (.getfield 32, 3) := by decide +kernel
theorem dX9_place_81 : decode cX9_place 81 = .ok (.iload 5, 2) := by decide +kernel
theorem dX9_place_83 : decode cX9_place 83 = .ok (.iaload, 1) := by decide +kernel
theorem dX9_place_84 : decode cX9_place 84 = .ok (.invokevirtual 132, 3) := by decide +kernel
theorem dX9_place_87 : decode cX9_place 87 = .ok (.isub, 1) := by decide +kernel
theorem dX9_place_88 : decode cX9_place 88 = .ok (.aload_n 0, 1) := by decide +kernel
theorem dX9_place_89 : decode cX9_place 89 = .ok (.getfield 97, 3) := by decide +kernel
theorem dX9_place_92 : decode cX9_place 92 = .ok (.if_icmp .le 8, 3) := by decide +kernel
theorem dX9_place_95 : decode cX9_place 95 = .ok (.iload 4, 2) := by decide +kernel
theorem dX9_place_97 : decode cX9_place 97 = .ok (.goto 4, 3) := by decide +kernel
theorem dX9_place_100 : decode cX9_place 100 = .ok (.iload_n 3, 1) := by decide +kernel
theorem dX9_place_101 : decode cX9_place 101 = .ok (.istore_n 3, 1) := by decide +kernel
theorem dX9_place_102 : decode cX9_place 102 = .ok (.aload_n 0, 1) := by decide +kernel
theorem dX9_place_103 : decode cX9_place 103 = .ok (.getfield 32, 3) := by decide +kernel
theorem dX9_place_106 : decode cX9_place 106 = .ok (.iload 4, 2) := by decide +kernel
theorem dX9_place_108 : decode cX9_place 108 = .ok (.iaload, 1) := by decide +kernel
theorem dX9_place_109 : decode cX9_place 109 = .ok (.iload_n 1, 1) := by decide +kernel
theorem dX9_place_110 : decode cX9_place 110 = .ok (.if_icmp .ne 7, 3) := by decide +kernel
theorem dX9_place_113 : decode cX9_place 113 = .ok (.iload_n 3, 1) := by decide +kernel
theorem dX9_place_114 : decode cX9_place 114 = .ok (.iconst 1, 1) := by decide +kernel
theorem dX9_place_115 : decode cX9_place 115 = .ok (.iadd, 1) := by decide +kernel
theorem dX9_place_116 : decode cX9_place 116 = .ok (.ireturn, 1) := by decide +kernel
theorem dX9_place_117 : decode cX9_place 117 = .ok (.iinc 4 1, 3) := by decide +kernel
theorem dX9_place_120 : decode cX9_place 120 = .ok (.goto (-87), 3) := by decide +kernel
theorem dX9_place_123 : decode cX9_place 123 = .ok (.bipush (-6), 2) := by decide +kernel
theorem dX9_place_125 : decode cX9_place 125 = .ok (.ireturn, 1) := by decide +kernel
theorem dX9_stretch_0 : decode cX9_stretch 0 = .ok (.aload_n 0, 1) := by decide +kernel
theorem dX9_stretch_1 : decode cX9_stretch 1 = .ok (.iload_n 1, 1) := by decide +kernel
theorem dX9_stretch_2 : decode cX9_stretch 2 = .ok (.invokevirtual 79, 3) := by decide +kernel
theorem dX9_stretch_5 : decode cX9_stretch 5 = .ok (.ifCond .eq 10, 3) := by decide +kernel
theorem dX9_stretch_8 : decode cX9_stretch 8 = .ok (.iload_n 2, 1) := by decide +kernel
theorem dX9_stretch_9 : decode cX9_stretch 9 = .ok (.invokestatic 83, 3) := by decide +kernel
theorem dX9_stretch_12 : decode cX9_stretch 12 = .ok (.ifCond .ne 5, 3) := by decide +kernel
theorem dX9_stretch_15 : decode cX9_stretch 15 = .ok (.iconst (-1), 1) := by decide +kernel
theorem dX9_stretch_16 : decode cX9_stretch 16 = .ok (.ireturn, 1) := by decide +kernel
theorem dX9_stretch_17 : decode cX9_stretch 17 = .ok (.iconst 0, 1) := by decide +kernel
theorem dX9_stretch_18 : decode cX9_stretch 18 = .ok (.istore_n 3, 1) := by decide +kernel
theorem dX9_stretch_19 : decode cX9_stretch 19 = .ok (.iconst 0, 1) := by decide +kernel
theorem dX9_stretch_20 : decode cX9_stretch 20 = .ok (.istore 4, 2) := by decide +kernel
theorem dX9_stretch_22 : decode cX9_stretch 22 = .ok (.iload 4, 2) := by decide +kernel
theorem dX9_stretch_24 : decode cX9_stretch 24 = .ok (.sipush 300, 3) := by decide +kernel
theorem dX9_stretch_27 : decode cX9_stretch 27 = .ok (.if_icmp .ge 29, 3) := by decide +kernel
theorem dX9_stretch_30 : decode cX9_stretch 30 = .ok (.iload_n 3, 1) := by decide +kernel
theorem dX9_stretch_31 : decode cX9_stretch 31 = .ok (.aload_n 0, 1) := by decide +kernel
theorem dX9_stretch_32 : decode cX9_stretch 32 = .ok (.iload_n 1, 1) := by decide +kernel
theorem dX9_stretch_33 : decode cX9_stretch 33 = .ok (.iload_n 2, 1) := by decide +kernel
theorem dX9_stretch_34 : decode cX9_stretch 34 = .ok (.iconst 1, 1) := by decide +kernel
theorem dX9_stretch_35 : decode cX9_stretch 35 = .ok (.iload 4, 2) := by decide +kernel
theorem dX9_stretch_37 : decode cX9_stretch 37 = .ok (.invokevirtual 113, 3) := by decide +kernel
theorem dX9_stretch_40 : decode cX9_stretch 40 = .ok (.ifCond .eq 7, 3) := by decide +kernel
theorem dX9_stretch_43 : decode cX9_stretch 43 = .ok (.iconst 1, 1) := by decide +kernel
theorem dX9_stretch_44 : decode cX9_stretch 44 = .ok (.goto 4, 3) := by decide +kernel
theorem dX9_stretch_47 : decode cX9_stretch 47 = .ok (.iconst 0, 1) := by decide +kernel
theorem dX9_stretch_48 : decode cX9_stretch 48 = .ok (.iadd, 1) := by decide +kernel
theorem dX9_stretch_49 : decode cX9_stretch 49 = .ok (.istore_n 3, 1) := by decide +kernel
theorem dX9_stretch_50 : decode cX9_stretch 50 = .ok (.iinc 4 1, 3) := by decide +kernel
theorem dX9_stretch_53 : decode cX9_stretch 53 = .ok (.goto (-31), 3) := by decide +kernel
theorem dX9_stretch_56 : decode cX9_stretch 56 = .ok (.iload_n 3, 1) := by decide +kernel
theorem dX9_stretch_57 : decode cX9_stretch 57 = .ok (.ireturn, 1) := by decide +kernel
theorem dX9_speeds_0 : decode cX9_speeds 0 = .ok (.iload_n 1, 1) := by decide +kernel
theorem dX9_speeds_1 : decode cX9_speeds 1 = .ok (.i2l, 1) := by decide +kernel
theorem dX9_speeds_2 : decode cX9_speeds 2 = .ok (.lconst 1, 1) := by decide +kernel
theorem dX9_speeds_3 : decode cX9_speeds 3 = .ok (.ldc2_w 161, 3) := by decide +kernel
theorem dX9_speeds_6 : decode cX9_speeds 6 = .ok (.invokestatic 69, 3) := by decide +kernel
theorem dX9_speeds_9 : decode cX9_speeds 9 = .ok (.ifCond .eq 25, 3) := by decide +kernel
theorem dX9_speeds_12 : decode cX9_speeds 12 = .ok (.iload_n 2, 1) := by decide +kernel
theorem dX9_speeds_13 : decode cX9_speeds 13 = .ok (.i2l, 1) := by decide +kernel
theorem dX9_speeds_14 : decode cX9_speeds 14 = .ok (.lconst 0, 1) := by decide +kernel
theorem dX9_speeds_15 : decode cX9_speeds 15 = .ok (.ldc2_w 163, 3) := by decide +kernel
theorem dX9_speeds_18 : decode cX9_speeds 18 = .ok (.invokestatic 69, 3) := by decide +kernel
theorem dX9_speeds_21 : decode cX9_speeds 21 = .ok (.ifCond .eq 13, 3) := by decide +kernel
theorem dX9_speeds_24 : decode cX9_speeds 24 = .ok (.iload_n 3, 1) := by decide +kernel
theorem dX9_speeds_25 : decode cX9_speeds 25 = .ok (.i2l, 1) := by decide +kernel
theorem dX9_speeds_26 : decode cX9_speeds 26 = .ok (.lconst 0, 1) := by decide +kernel
theorem dX9_speeds_27 : decode cX9_speeds 27 = .ok (.lconst 1, 1) := by decide +kernel
theorem dX9_speeds_28 : decode cX9_speeds 28 = .ok (.invokestatic 69, 3) := by decide +kernel
theorem dX9_speeds_31 : decode cX9_speeds 31 = .ok (.ifCond .ne 6, 3) := by decide +kernel
theorem dX9_speeds_34 : decode cX9_speeds 34 = .ok (.bipush (-2), 2) := by decide +kernel
theorem dX9_speeds_36 : decode cX9_speeds 36 = .ok (.ireturn, 1) := by decide +kernel
theorem dX9_speeds_37 : decode cX9_speeds 37 = .ok (.bipush (-6), 2) := by decide +kernel
theorem dX9_speeds_39 : decode cX9_speeds 39 = .ok (.istore 4, 2) := by decide +kernel
theorem dX9_speeds_41 : decode cX9_speeds 41 = .ok (.bipush (-6), 2) := by decide +kernel
theorem dX9_speeds_43 : decode cX9_speeds 43 = .ok (.istore 5, 2) := by decide +kernel
theorem dX9_speeds_45 : decode cX9_speeds 45 = .ok (.iconst 1, 1) := by decide +kernel
theorem dX9_speeds_46 : decode cX9_speeds 46 = .ok (.istore 6, 2) := by decide +kernel
theorem dX9_speeds_48 : decode cX9_speeds 48 = .ok (.iload 6, 2) := by decide +kernel
theorem dX9_speeds_50 : decode cX9_speeds 50 = .ok (.bipush 20, 2) := by decide +kernel
theorem dX9_speeds_52 : decode cX9_speeds 52 = .ok (.if_icmp .gt 48, 3) := by decide +kernel
theorem dX9_speeds_55 : decode cX9_speeds 55 = .ok (.iload_n 2, 1) := by decide +kernel
theorem dX9_speeds_56 : decode cX9_speeds 56 = .ok (.iload_n 1, 1) := by decide +kernel
theorem dX9_speeds_57 : decode cX9_speeds 57 = .ok (.iload 6, 2) := by decide +kernel
theorem dX9_speeds_59 : decode cX9_speeds 59 = .ok (.idiv, 1) := by decide +kernel
theorem dX9_speeds_60 : decode cX9_speeds 60 = .ok (.if_icmp .eq 16, 3) := by decide +kernel
theorem dX9_speeds_63 : decode cX9_speeds 63 = .ok (.iload_n 2, 1) := by decide +kernel
theorem dX9_speeds_64 : decode cX9_speeds 64 = .ok (.iload_n 1, 1) := by decide +kernel
theorem dX9_speeds_65 : decode cX9_speeds 65 = .ok (.iload 6, 2) := by decide +kernel
theorem dX9_speeds_67 : decode cX9_speeds 67 = .ok (.iadd, 1) := by decide +kernel
theorem dX9_speeds_68 : decode cX9_speeds 68 = .ok (.iconst 1, 1) := by decide +kernel
theorem dX9_speeds_69 : decode cX9_speeds 69 = .ok (.isub, 1) := by decide +kernel
theorem dX9_speeds_70 : decode cX9_speeds 70 = .ok (.iload 6, 2) := by decide +kernel
theorem dX9_speeds_72 : decode cX9_speeds 72 = .ok (.idiv, 1) := by decide +kernel
theorem dX9_speeds_73 : decode cX9_speeds 73 = .ok (.if_icmp .ne 21, 3) := by decide +kernel
theorem dX9_speeds_76 : decode cX9_speeds 76 = .ok (.iload 4, 2) := by decide +kernel
theorem dX9_speeds_78 : decode cX9_speeds 78 = .ok (.ifCond .ge 8, 3) := by decide +kernel
theorem dX9_speeds_81 : decode cX9_speeds 81 = .ok (.iload 6, 2) := by decide +kernel
theorem dX9_speeds_83 : decode cX9_speeds 83 = .ok (.goto 5, 3) := by decide +kernel
theorem dX9_speeds_86 : decode cX9_speeds 86 = .ok (.iload 4, 2) := by decide +kernel
theorem dX9_speeds_88 : decode cX9_speeds 88 = .ok (.istore 4, 2) := by decide +kernel
theorem dX9_speeds_90 : decode cX9_speeds 90 = .ok (.iload 6, 2) := by decide +kernel
theorem dX9_speeds_92 : decode cX9_speeds 92 = .ok (.istore 5, 2) := by decide +kernel
theorem dX9_speeds_94 : decode cX9_speeds 94 = .ok (.iinc 6 1, 3) := by decide +kernel
theorem dX9_speeds_97 : decode cX9_speeds 97 = .ok (.goto (-49), 3) := by decide +kernel
theorem dX9_speeds_100 : decode cX9_speeds 100 = .ok (.iload_n 3, 1) := by decide +kernel
theorem dX9_speeds_101 : decode cX9_speeds 101 = .ok (.ifCond .ne 8, 3) := by decide +kernel
theorem dX9_speeds_104 : decode cX9_speeds 104 = .ok (.iload 4, 2) := by decide +kernel
theorem dX9_speeds_106 : decode cX9_speeds 106 = .ok (.goto 5, 3) := by decide +kernel
theorem dX9_speeds_109 : decode cX9_speeds 109 = .ok (.iload 5, 2) := by decide +kernel
theorem dX9_speeds_111 : decode cX9_speeds 111 = .ok (.ireturn, 1) := by decide +kernel
theorem dX9_push_0 : decode cX9_push 0 = .ok (.aload_n 0, 1) := by decide +kernel
theorem dX9_push_1 : decode cX9_push 1 = .ok (.iload_n 1, 1) := by decide +kernel
theorem dX9_push_2 : decode cX9_push 2 = .ok (.invokevirtual 79, 3) := by decide +kernel
theorem dX9_push_5 : decode cX9_push 5 = .ok (.ifCond .ne 5, 3) := by decide +kernel
theorem dX9_push_8 : decode cX9_push 8 = .ok (.iconst (-1), 1) := by decide +kernel
theorem dX9_push_9 : decode cX9_push 9 = .ok (.ireturn, 1) := by decide +kernel
theorem dX9_push_10 : decode cX9_push 10 = .ok (.iload_n 2, 1) := by decide +kernel
theorem dX9_push_11 : decode cX9_push 11 = .ok (.i2l, 1) := by decide +kernel
theorem dX9_push_12 : decode cX9_push 12 = .ok (.ldc2_w 165, 3) := by decide +kernel
theorem dX9_push_15 : decode cX9_push 15 = .ok (.ldc2_w 117, 3) := by decide +kernel
theorem dX9_push_18 : decode cX9_push 18 = .ok (.invokestatic 69, 3) := by decide +kernel
theorem dX9_push_21 : decode cX9_push 21 = .ok (.ifCond .ne 6, 3) := by decide +kernel
theorem dX9_push_24 : decode cX9_push 24 = .ok (.bipush (-2), 2) := by decide +kernel
theorem dX9_push_26 : decode cX9_push 26 = .ok (.ireturn, 1) := by decide +kernel
theorem dX9_push_27 : decode cX9_push 27 = .ok (.aload_n 0, 1) := by decide +kernel
theorem dX9_push_28 : decode cX9_push 28 = .ok (.getfield 26, 3) := by decide +kernel
theorem dX9_push_31 : decode cX9_push 31 = .ok (.iload_n 1, 1) := by decide +kernel
theorem dX9_push_32 : decode cX9_push 32 = .ok (.iaload, 1) := by decide +kernel
theorem dX9_push_33 : decode cX9_push 33 = .ok (.istore_n 3, 1) := by decide +kernel
theorem dX9_push_34 : decode cX9_push 34 = .ok (.aload_n 0, 1) := by decide +kernel
theorem dX9_push_35 : decode cX9_push 35 = .ok (.getfield 26, 3) := by decide +kernel
theorem dX9_push_38 : decode cX9_push 38 = .ok (.iload_n 1, 1) := by decide +kernel
theorem dX9_push_39 : decode cX9_push 39 = .ok (.iload_n 2, 1) := by decide +kernel
theorem dX9_push_40 : decode cX9_push 40 = .ok (.ifCond .ge 8, 3) := by decide +kernel
theorem dX9_push_43 : decode cX9_push 43 = .ok (.bipush (-6), 2) := by decide +kernel
theorem dX9_push_45 : decode cX9_push 45 = .ok (.goto 4, 3) := by decide +kernel
theorem dX9_push_48 : decode cX9_push 48 = .ok (.iload_n 2, 1) := by decide +kernel
theorem dX9_push_49 : decode cX9_push 49 = .ok (.iastore, 1) := by decide +kernel
theorem dX9_push_50 : decode cX9_push 50 = .ok (.iload_n 3, 1) := by decide +kernel
theorem dX9_push_51 : decode cX9_push 51 = .ok (.ireturn, 1) := by decide +kernel
theorem dX9_mended_0 : decode cX9_mended 0 = .ok (.aload_n 0, 1) := by decide +kernel
theorem dX9_mended_1 : decode cX9_mended 1 = .ok (.iconst 1, 1) := by decide +kernel
theorem dX9_mended_2 : decode cX9_mended 2 = .ok (.invokevirtual 157, 3) := by decide +kernel
theorem dX9_mended_5 : decode cX9_mended 5 = .ok (.iload_n 1, 1) := by decide +kernel
theorem dX9_mended_6 : decode cX9_mended 6 = .ok (.i2l, 1) := by decide +kernel
theorem dX9_mended_7 : decode cX9_mended 7 = .ok (.lconst 0, 1) := by decide +kernel
theorem dX9_mended_8 : decode cX9_mended 8 = .ok (.aload_n 0, 1) := by decide +kernel
theorem dX9_mended_9 : decode cX9_mended 9 = .ok (.getfield 150, 3) := by decide +kernel
theorem dX9_mended_12 : decode cX9_mended 12 = .ok (.iconst 1, 1) := by decide +kernel
theorem dX9_mended_13 : decode cX9_mended 13 = .ok (.isub, 1) := by decide +kernel
theorem dX9_mended_14 : decode cX9_mended 14 = .ok (.i2l, 1) := by decide +kernel
theorem dX9_mended_15 : decode cX9_mended 15 = .ok (.invokestatic 69, 3) := by decide +kernel
theorem dX9_mended_18 : decode cX9_mended 18 = .ok (.ifCond .eq 12, 3) := by decide +kernel
theorem dX9_mended_21 : decode cX9_mended 21 = .ok (.aload_n 0, 1) := by decide +kernel
theorem dX9_mended_22 : decode cX9_mended 22 = .ok (.getfield 32, 3) := by decide +kernel
theorem dX9_mended_25 : decode cX9_mended 25 = .ok (.iload_n 1, 1) := by decide +kernel
theorem dX9_mended_26 : decode cX9_mended 26 = .ok (.iaload, 1) := by decide +kernel
theorem dX9_mended_27 : decode cX9_mended 27 = .ok (.goto 5, 3) := by decide +kernel
theorem dX9_mended_30 : decode cX9_mended 30 = .ok (.bipush (-6), 2) := by decide +kernel
theorem dX9_mended_32 : decode cX9_mended 32 = .ok (.ireturn, 1) := by decide +kernel
theorem dX9_power_0 : decode cX9_power 0 = .ok (.lconst 1, 1) := by decide +kernel
theorem dX9_power_1 : decode cX9_power 1 = .ok (.lstore_n 3, 1) := by decide +kernel
theorem dX9_power_2 : decode cX9_power 2 = .ok (.iconst 0, 1) := by decide +kernel
theorem dX9_power_3 : decode cX9_power 3 = .ok (.istore 5, 2) := by decide +kernel
theorem dX9_power_5 : decode cX9_power 5 = .ok (.iload 5, 2) := by decide +kernel
theorem dX9_power_7 : decode cX9_power 7 = .ok (.iload_n 2, 1) := by decide +kernel
theorem dX9_power_8 : decode cX9_power 8 = .ok (.if_icmp .ge 13, 3) := by decide +kernel
theorem dX9_power_11 : decode cX9_power 11 = .ok (.lload_n 3, 1) := by decide +kernel
theorem dX9_power_12 : decode cX9_power 12 = .ok (.lload_n 0, 1) := by decide +kernel
theorem dX9_power_13 : decode cX9_power 13 = .ok (.lmul, 1) := by decide +kernel
theorem dX9_power_14 : decode cX9_power 14 = .ok (.lstore_n 3, 1) := by decide +kernel
theorem dX9_power_15 : decode cX9_power 15 = .ok (.iinc 5 1, 3) := by decide +kernel
theorem dX9_power_18 : decode cX9_power 18 = .ok (.goto (-13), 3) := by decide +kernel
theorem dX9_power_21 : decode cX9_power 21 = .ok (.lload_n 3, 1) := by decide +kernel
theorem dX9_power_22 : decode cX9_power 22 = .ok (.lreturn, 1) := by decide +kernel
theorem dX9_wrong_0 : decode cX9_wrong 0 = .ok (.iload_n 1, 1) := by decide +kernel
theorem dX9_wrong_1 : decode cX9_wrong 1 = .ok (.i2l, 1) := by decide +kernel
theorem dX9_wrong_2 : decode cX9_wrong 2 = .ok (.lconst 0, 1) := by decide +kernel
theorem dX9_wrong_3 : decode cX9_wrong 3 = .ok (.iload_n 2, 1) := by decide +kernel
theorem dX9_wrong_4 : decode cX9_wrong 4 = .ok (.i2l, 1) := by decide +kernel
theorem dX9_wrong_5 : decode cX9_wrong 5 = .ok (.invokestatic 69, 3) := by decide +kernel
theorem dX9_wrong_8 : decode cX9_wrong 8 = .ok (.ifCond .eq 38, 3) := by decide +kernel
theorem dX9_wrong_11 : decode cX9_wrong 11 = .ok (.iload_n 2, 1) := by decide +kernel
theorem dX9_wrong_12 : decode cX9_wrong 12 = .ok (.i2l, 1) := by decide +kernel
theorem dX9_wrong_13 : decode cX9_wrong 13 = .ok (.lconst 0, 1) := by decide +kernel
theorem dX9_wrong_14 : decode cX9_wrong 14 = .ok (.ldc2_w 107, 3) := by decide +kernel
theorem dX9_wrong_17 : decode cX9_wrong 17 = .ok (.invokestatic 69, 3) := by decide +kernel
theorem dX9_wrong_20 : decode cX9_wrong 20 = .ok (.ifCond .eq 26, 3) := by decide +kernel
theorem dX9_wrong_23 : decode cX9_wrong 23 = .ok (.iload_n 3, 1) := by decide +kernel
theorem dX9_wrong_24 : decode cX9_wrong 24 = .ok (.i2l, 1) := by decide +kernel
theorem dX9_wrong_25 : decode cX9_wrong 25 = .ok (.lconst 1, 1) := by decide +kernel
theorem dX9_wrong_26 : decode cX9_wrong 26 = .ok (.ldc2_w 167, 3) := by decide +kernel
theorem dX9_wrong_29 : decode cX9_wrong 29 = .ok (.invokestatic 69, 3) := by decide +kernel
theorem dX9_wrong_32 : decode cX9_wrong 32 = .ok (.ifCond .eq 14, 3) := by decide +kernel
theorem dX9_wrong_35 : decode cX9_wrong 35 = .ok (.iload 4, 2) := by decide +kernel
theorem dX9_wrong_37 : decode cX9_wrong 37 = .ok (.i2l, 1) := by decide +kernel
theorem dX9_wrong_38 : decode cX9_wrong 38 = .ok (.lconst 0, 1) := by decide +kernel
theorem dX9_wrong_39 : decode cX9_wrong 39 = .ok (.lconst 1, 1) := by decide +kernel
theorem dX9_wrong_40 : decode cX9_wrong 40 = .ok (.invokestatic 69, 3) := by decide +kernel
theorem dX9_wrong_43 : decode cX9_wrong 43 = .ok (.ifCond .ne 7, 3) := by decide +kernel
theorem dX9_wrong_46 : decode cX9_wrong 46 = .ok (.ldc2_w 169, 3) := by decide +kernel
theorem dX9_wrong_49 : decode cX9_wrong 49 = .ok (.lreturn, 1) := by decide +kernel
theorem dX9_wrong_50 : decode cX9_wrong 50 = .ok (.iload_n 2, 1) := by decide +kernel
theorem dX9_wrong_51 : decode cX9_wrong 51 = .ok (.iload_n 1, 1) := by decide +kernel
theorem dX9_wrong_52 : decode cX9_wrong 52 = .ok (.isub, 1) := by decide +kernel
theorem dX9_wrong_53 : decode cX9_wrong 53 = .ok (.iconst 1, 1) := by decide +kernel
theorem dX9_wrong_54 : decode cX9_wrong 54 = .ok (.iadd, 1) := by decide +kernel
theorem dX9_wrong_55 : decode cX9_wrong 55 = .ok (.i2l, 1) := by decide +kernel
theorem dX9_wrong_56 : decode cX9_wrong 56 = .ok (.lstore 5, 2) := by decide +kernel
theorem dX9_wrong_58 : decode cX9_wrong 58 = .ok (.lconst 0, 1) := by decide +kernel
theorem dX9_wrong_59 : decode cX9_wrong 59 = .ok (.lstore 7, 2) := by decide +kernel
theorem dX9_wrong_61 : decode cX9_wrong 61 = .ok (.iload_n 1, 1) := by decide +kernel
theorem dX9_wrong_62 : decode cX9_wrong 62 = .ok (.istore 9, 2) := by decide +kernel
theorem dX9_wrong_64 : decode cX9_wrong 64 = .ok (.iload 9, 2) := by decide +kernel
theorem dX9_wrong_66 : decode cX9_wrong 66 = .ok (.iload_n 2, 1) := by decide +kernel
theorem dX9_wrong_67 : decode cX9_wrong 67 = .ok (.if_icmp .gt 28, 3) := by decide +kernel
theorem dX9_wrong_70 : decode cX9_wrong 70 = .ok (.lload 7, 2) := by decide +kernel
theorem dX9_wrong_72 : decode cX9_wrong 72 = .ok (.iload 9, 2) := by decide +kernel
theorem dX9_wrong_74 : decode cX9_wrong 74 = .ok (.aload_n 0, 1) := by decide +kernel
theorem dX9_wrong_75 : decode cX9_wrong 75 = .ok (.getfield 62, 3) := by decide +kernel
theorem dX9_wrong_78 : decode cX9_wrong 78 = .ok (.if_icmp .ge 7, 3) := by decide +kernel
theorem dX9_wrong_81 : decode cX9_wrong 81 = .ok (.lconst 1, 1) := by decide +kernel
theorem dX9_wrong_82 : decode cX9_wrong 82 = .ok (.goto 4, 3) := by decide +kernel
theorem dX9_wrong_85 : decode cX9_wrong 85 = .ok (.lconst 0, 1) := by decide +kernel
theorem dX9_wrong_86 : decode cX9_wrong 86 = .ok (.ladd, 1) := by decide +kernel
theorem dX9_wrong_87 : decode cX9_wrong 87 = .ok (.lstore 7, 2) := by decide +kernel
theorem dX9_wrong_89 : decode cX9_wrong 89 = .ok (.iinc 9 1, 3) := by decide +kernel
theorem dX9_wrong_92 : decode cX9_wrong 92 = .ok (.goto (-28), 3) := by decide +kernel
theorem dX9_wrong_95 : decode cX9_wrong 95 = .ok (.lload 5, 2) := by decide +kernel
theorem dX9_wrong_97 : decode cX9_wrong 97 = .ok (.iload_n 3, 1) := by decide +kernel
theorem dX9_wrong_98 : decode cX9_wrong 98 = .ok (.invokestatic 171, 3) := by decide +kernel
theorem dX9_wrong_101 : decode cX9_wrong 101 = .ok (.lstore 9, 2) := by decide +kernel
theorem dX9_wrong_103 : decode cX9_wrong 103 = .ok (.lload 9, 2) := by decide +kernel
theorem dX9_wrong_105 : decode cX9_wrong 105 = .ok (.lload 5, 2) := by decide +kernel
theorem dX9_wrong_107 : decode cX9_wrong 107 = .ok (.lload 7, 2) := by decide +kernel
theorem dX9_wrong_109 : decode cX9_wrong 109 = .ok (.lsub, 1) := by decide +kernel
theorem dX9_wrong_110 : decode cX9_wrong 110 = .ok (.iload_n 3, 1) := by decide +kernel
theorem dX9_wrong_111 : decode cX9_wrong 111 = .ok (.invokestatic 171, 3) := by decide +kernel
theorem dX9_wrong_114 : decode cX9_wrong 114 = .ok (.lsub, 1) := by decide +kernel
theorem dX9_wrong_115 : decode cX9_wrong 115 = .ok (.lstore 11, 2) := by decide +kernel
theorem dX9_wrong_117 : decode cX9_wrong 117 = .ok (.lload 11, 2) := by decide +kernel
theorem dX9_wrong_119 : decode cX9_wrong 119 = .ok (.lstore 13, 2) := by decide +kernel
theorem dX9_wrong_121 : decode cX9_wrong 121 = .ok (.lload 9, 2) := by decide +kernel
theorem dX9_wrong_123 : decode cX9_wrong 123 = .ok (.lstore 15, 2) := by decide +kernel
theorem dX9_wrong_125 : decode cX9_wrong 125 = .ok (.lload 15, 2) := by decide +kernel
theorem dX9_wrong_127 : decode cX9_wrong 127 = .ok (.lconst 0, 1) := by decide +kernel
theorem dX9_wrong_128 : decode cX9_wrong 128 = .ok (.lcmp, 1) := by decide +kernel
theorem dX9_wrong_129 : decode cX9_wrong 129 = .ok (.ifCond .eq 21, 3) := by decide +kernel
theorem dX9_wrong_132 : decode cX9_wrong 132 = .ok (.lload 13, 2) := by decide +kernel
theorem dX9_wrong_134 : decode cX9_wrong 134 = .ok (.lload 15, 2) := by decide +kernel
theorem dX9_wrong_136 : decode cX9_wrong 136 = .ok (.lrem, 1) := by decide +kernel
theorem dX9_wrong_137 : decode cX9_wrong 137 = .ok (.lstore 17, 2) := by decide +kernel
theorem dX9_wrong_139 : decode cX9_wrong 139 = .ok (.lload 15, 2) := by decide +kernel
theorem dX9_wrong_141 : decode cX9_wrong 141 = .ok (.lstore 13, 2) := by decide +kernel
theorem dX9_wrong_143 : decode cX9_wrong 143 = .ok (.lload 17, 2) := by decide +kernel
theorem dX9_wrong_145 : decode cX9_wrong 145 = .ok (.lstore 15, 2) := by decide +kernel
theorem dX9_wrong_147 : decode cX9_wrong 147 = .ok (.goto (-22), 3) := by decide +kernel
theorem dX9_wrong_150 : decode cX9_wrong 150 = .ok (.iload 4, 2) := by decide +kernel
theorem dX9_wrong_152 : decode cX9_wrong 152 = .ok (.ifCond .ne 11, 3) := by decide +kernel
theorem dX9_wrong_155 : decode cX9_wrong 155 = .ok (.lload 11, 2) := by decide +kernel
theorem dX9_wrong_157 : decode cX9_wrong 157 = .ok (.lload 13, 2) := by decide +kernel
theorem dX9_wrong_159 : decode cX9_wrong 159 = .ok (.ldiv, 1) := by decide +kernel
theorem dX9_wrong_160 : decode cX9_wrong 160 = .ok (.goto 8, 3) := by decide +kernel
theorem dX9_wrong_163 : decode cX9_wrong 163 = .ok (.lload 9, 2) := by decide +kernel
theorem dX9_wrong_165 : decode cX9_wrong 165 = .ok (.lload 13, 2) := by decide +kernel
theorem dX9_wrong_167 : decode cX9_wrong 167 = .ok (.ldiv, 1) := by decide +kernel
theorem dX9_wrong_168 : decode cX9_wrong 168 = .ok (.lreturn, 1) := by decide +kernel
theorem dX9_isJudge_0 : decode cX9_isJudge 0 = .ok (.iload_n 0, 1) := by decide +kernel
theorem dX9_isJudge_1 : decode cX9_isJudge 1 = .ok (.i2l, 1) := by decide +kernel
theorem dX9_isJudge_2 : decode cX9_isJudge 2 = .ok (.lconst 0, 1) := by decide +kernel
theorem dX9_isJudge_3 : decode cX9_isJudge 3 = .ok (.ldc2_w 103, 3) := by decide +kernel
theorem dX9_isJudge_6 : decode cX9_isJudge 6 = .ok (.invokestatic 69, 3) := by decide +kernel
theorem dX9_isJudge_9 : decode cX9_isJudge 9 = .ok (.ireturn, 1) := by decide +kernel
theorem dX9_isTime_0 : decode cX9_isTime 0 = .ok (.iload_n 0, 1) := by decide +kernel
theorem dX9_isTime_1 : decode cX9_isTime 1 = .ok (.i2l, 1) := by decide +kernel
theorem dX9_isTime_2 : decode cX9_isTime 2 = .ok (.lconst 0, 1) := by decide +kernel
theorem dX9_isTime_3 : decode cX9_isTime 3 = .ok (.ldc2_w 175, 3) := by decide +kernel
theorem dX9_isTime_6 : decode cX9_isTime 6 = .ok (.invokestatic 69, 3) := by decide +kernel
theorem dX9_isTime_9 : decode cX9_isTime 9 = .ok (.ireturn, 1) := by decide +kernel
theorem dX9_known_0 : decode cX9_known 0 = .ok (.iload_n 1, 1) := by decide +kernel
theorem dX9_known_1 : decode cX9_known 1 = .ok (.invokestatic 177, 3) := by decide +kernel
theorem dX9_known_4 : decode cX9_known 4 = .ok (.ifCond .ne 5, 3) := by decide +kernel
theorem dX9_known_7 : decode cX9_known 7 = .ok (.iconst (-1), 1) := by decide +kernel
theorem dX9_known_8 : decode cX9_known 8 = .ok (.ireturn, 1) := by decide +kernel
theorem dX9_known_9 : decode cX9_known 9 = .ok (.iload_n 2, 1) := by decide +kernel
theorem dX9_known_10 : decode cX9_known 10 = .ok (.invokestatic 180, 3) := by decide +kernel
theorem dX9_known_13 : decode cX9_known 13 = .ok (.ifCond .eq 10, 3) := by decide +kernel
theorem dX9_known_16 : decode cX9_known 16 = .ok (.iload_n 3, 1) := by decide +kernel
theorem dX9_known_17 : decode cX9_known 17 = .ok (.invokestatic 180, 3) := by decide +kernel
theorem dX9_known_20 : decode cX9_known 20 = .ok (.ifCond .ne 6, 3) := by decide +kernel
theorem dX9_known_23 : decode cX9_known 23 = .ok (.bipush (-2), 2) := by decide +kernel
theorem dX9_known_25 : decode cX9_known 25 = .ok (.ireturn, 1) := by decide +kernel
theorem dX9_known_26 : decode cX9_known 26 = .ok (.iload_n 2, 1) := by decide +kernel
theorem dX9_known_27 : decode cX9_known 27 = .ok (.iload_n 3, 1) := by decide +kernel
theorem dX9_known_28 : decode cX9_known 28 = .ok (.isub, 1) := by decide +kernel
theorem dX9_known_29 : decode cX9_known 29 = .ok (.istore 4, 2) := by decide +kernel
theorem dX9_known_31 : decode cX9_known 31 = .ok (.iload 4, 2) := by decide +kernel
theorem dX9_known_33 : decode cX9_known 33 = .ok (.iconst 1, 1) := by decide +kernel
theorem dX9_known_34 : decode cX9_known 34 = .ok (.isub, 1) := by decide +kernel
theorem dX9_known_35 : decode cX9_known 35 = .ok (.aload_n 0, 1) := by decide +kernel
theorem dX9_known_36 : decode cX9_known 36 = .ok (.getfield 35, 3) := by decide +kernel
theorem dX9_known_39 : decode cX9_known 39 = .ok (.iload_n 1, 1) := by decide +kernel
theorem dX9_known_40 : decode cX9_known 40 = .ok (.iaload, 1) := by decide +kernel
theorem dX9_known_41 : decode cX9_known 41 = .ok (.if_icmp .le 10, 3) := by decide +kernel
theorem dX9_known_44 : decode cX9_known 44 = .ok (.iload 4, 2) := by decide +kernel
theorem dX9_known_46 : decode cX9_known 46 = .ok (.iconst 1, 1) := by decide +kernel
theorem dX9_known_47 : decode cX9_known 47 = .ok (.isub, 1) := by decide +kernel
theorem dX9_known_48 : decode cX9_known 48 = .ok (.goto 9, 3) := by decide +kernel
theorem dX9_known_51 : decode cX9_known 51 = .ok (.aload_n 0, 1) := by decide +kernel
theorem dX9_known_52 : decode cX9_known 52 = .ok (.getfield 35, 3) := by decide +kernel
theorem dX9_known_55 : decode cX9_known 55 = .ok (.iload_n 1, 1) := by decide +kernel
theorem dX9_known_56 : decode cX9_known 56 = .ok (.iaload, 1) := by decide +kernel
theorem dX9_known_57 : decode cX9_known 57 = .ok (.istore 5, 2) := by decide +kernel
theorem dX9_known_59 : decode cX9_known 59 = .ok (.iload 4, 2) := by decide +kernel
theorem dX9_known_61 : decode cX9_known 61 = .ok (.iconst 1, 1) := by decide +kernel
theorem dX9_known_62 : decode cX9_known 62 = .ok (.iadd, 1) := by decide +kernel
theorem dX9_known_63 : decode cX9_known 63 = .ok (.aload_n 0, 1) := by decide +kernel
theorem dX9_known_64 : decode cX9_known 64 = .ok (.getfield 38, 3) := by decide +kernel
theorem dX9_known_67 : decode cX9_known 67 = .ok (.iload_n 1, 1) := by decide +kernel
theorem dX9_known_68 : decode cX9_known 68 = .ok (.iaload, 1) := by decide +kernel
theorem dX9_known_69 : decode cX9_known 69 = .ok (.if_icmp .ge 10, 3) := by decide +kernel
theorem dX9_known_72 : decode cX9_known 72 = .ok (.iload 4, 2) := by decide +kernel
theorem dX9_known_74 : decode cX9_known 74 = .ok (.iconst 1, 1) := by decide +kernel
theorem dX9_known_75 : decode cX9_known 75 = .ok (.iadd, 1) := by decide +kernel
theorem dX9_known_76 : decode cX9_known 76 = .ok (.goto 9, 3) := by decide +kernel
theorem dX9_known_79 : decode cX9_known 79 = .ok (.aload_n 0, 1) := by decide +kernel
theorem dX9_known_80 : decode cX9_known 80 = .ok (.getfield 38, 3) := by decide +kernel
theorem dX9_known_83 : decode cX9_known 83 = .ok (.iload_n 1, 1) := by decide +kernel
theorem dX9_known_84 : decode cX9_known 84 = .ok (.iaload, 1) := by decide +kernel
theorem dX9_known_85 : decode cX9_known 85 = .ok (.istore 6, 2) := by decide +kernel
theorem dX9_known_87 : decode cX9_known 87 = .ok (.iload 5, 2) := by decide +kernel
theorem dX9_known_89 : decode cX9_known 89 = .ok (.iload 6, 2) := by decide +kernel
theorem dX9_known_91 : decode cX9_known 91 = .ok (.if_icmp .le 6, 3) := by decide +kernel
theorem dX9_known_94 : decode cX9_known 94 = .ok (.bipush (-5), 2) := by decide +kernel
theorem dX9_known_96 : decode cX9_known 96 = .ok (.ireturn, 1) := by decide +kernel
theorem dX9_known_97 : decode cX9_known 97 = .ok (.aload_n 0, 1) := by decide +kernel
theorem dX9_known_98 : decode cX9_known 98 = .ok (.getfield 35, 3) := by decide +kernel
theorem dX9_known_101 : decode cX9_known 101 = .ok (.iload_n 1, 1) := by decide +kernel
theorem dX9_known_102 : decode cX9_known 102 = .ok (.iload 5, 2) := by decide +kernel
theorem dX9_known_104 : decode cX9_known 104 = .ok (.iastore, 1) := by decide +kernel
theorem dX9_known_105 : decode cX9_known 105 = .ok (.aload_n 0, 1) := by decide +kernel
theorem dX9_known_106 : decode cX9_known 106 = .ok (.getfield 38, 3) := by decide +kernel
theorem dX9_known_109 : decode cX9_known 109 = .ok (.iload_n 1, 1) := by decide +kernel
theorem dX9_known_110 : decode cX9_known 110 = .ok (.iload 6, 2) := by decide +kernel
theorem dX9_known_112 : decode cX9_known 112 = .ok (.iastore, 1) := by decide +kernel
theorem dX9_known_113 : decode cX9_known 113 = .ok (.iconst 1, 1) := by decide +kernel
theorem dX9_known_114 : decode cX9_known 114 = .ok (.ireturn, 1) := by decide +kernel
theorem dX9_late_0 : decode cX9_late 0 = .ok (.iload_n 1, 1) := by decide +kernel
theorem dX9_late_1 : decode cX9_late 1 = .ok (.invokestatic 177, 3) := by decide +kernel
theorem dX9_late_4 : decode cX9_late 4 = .ok (.ifCond .ne 5, 3) := by decide +kernel
theorem dX9_late_7 : decode cX9_late 7 = .ok (.iconst (-1), 1) := by decide +kernel
theorem dX9_late_8 : decode cX9_late 8 = .ok (.ireturn, 1) := by decide +kernel
theorem dX9_late_9 : decode cX9_late 9 = .ok (.iload_n 2, 1) := by decide +kernel
theorem dX9_late_10 : decode cX9_late 10 = .ok (.ifCond .ne 12, 3) := by decide +kernel
theorem dX9_late_13 : decode cX9_late 13 = .ok (.aload_n 0, 1) := by decide +kernel
theorem dX9_late_14 : decode cX9_late 14 = .ok (.getfield 35, 3) := by decide +kernel
theorem dX9_late_17 : decode cX9_late 17 = .ok (.iload_n 1, 1) := by decide +kernel
theorem dX9_late_18 : decode cX9_late 18 = .ok (.iaload, 1) := by decide +kernel
theorem dX9_late_19 : decode cX9_late 19 = .ok (.goto 19, 3) := by decide +kernel
theorem dX9_late_22 : decode cX9_late 22 = .ok (.iload_n 2, 1) := by decide +kernel
theorem dX9_late_23 : decode cX9_late 23 = .ok (.iconst 1, 1) := by decide +kernel
theorem dX9_late_24 : decode cX9_late 24 = .ok (.if_icmp .ne 12, 3) := by decide +kernel
theorem dX9_late_27 : decode cX9_late 27 = .ok (.aload_n 0, 1) := by decide +kernel
theorem dX9_late_28 : decode cX9_late 28 = .ok (.getfield 38, 3) := by decide +kernel
theorem dX9_late_31 : decode cX9_late 31 = .ok (.iload_n 1, 1) := by decide +kernel
theorem dX9_late_32 : decode cX9_late 32 = .ok (.iaload, 1) := by decide +kernel
theorem dX9_late_33 : decode cX9_late 33 = .ok (.goto 5, 3) := by decide +kernel
theorem dX9_late_36 : decode cX9_late 36 = .ok (.bipush (-2), 2) := by decide +kernel
theorem dX9_late_38 : decode cX9_late 38 = .ok (.ireturn, 1) := by decide +kernel
theorem dX9_tell_0 : decode cX9_tell 0 = .ok (.iload_n 1, 1) := by decide +kernel
theorem dX9_tell_1 : decode cX9_tell 1 = .ok (.invokestatic 177, 3) := by decide +kernel
theorem dX9_tell_4 : decode cX9_tell 4 = .ok (.ifCond .ne 5, 3) := by decide +kernel
theorem dX9_tell_7 : decode cX9_tell 7 = .ok (.iconst (-1), 1) := by decide +kernel
theorem dX9_tell_8 : decode cX9_tell 8 = .ok (.ireturn, 1) := by decide +kernel
theorem dX9_tell_9 : decode cX9_tell 9 = .ok (.iload_n 2, 1) := by decide +kernel
theorem dX9_tell_10 : decode cX9_tell 10 = .ok (.i2l, 1) := by decide +kernel
theorem dX9_tell_11 : decode cX9_tell 11 = .ok (.ldc2_w 165, 3) := by decide +kernel
theorem dX9_tell_14 : decode cX9_tell 14 = .ok (.ldc2_w 175, 3) := by decide +kernel
theorem dX9_tell_17 : decode cX9_tell 17 = .ok (.invokestatic 69, 3) := by decide +kernel
theorem dX9_tell_20 : decode cX9_tell 20 = .ok (.ifCond .ne 6, 3) := by decide +kernel
theorem dX9_tell_23 : decode cX9_tell 23 = .ok (.bipush (-2), 2) := by decide +kernel
theorem dX9_tell_25 : decode cX9_tell 25 = .ok (.ireturn, 1) := by decide +kernel
theorem dX9_tell_26 : decode cX9_tell 26 = .ok (.aload_n 0, 1) := by decide +kernel
theorem dX9_tell_27 : decode cX9_tell 27 = .ok (.getfield 41, 3) := by decide +kernel
theorem dX9_tell_30 : decode cX9_tell 30 = .ok (.iload_n 1, 1) := by decide +kernel
theorem dX9_tell_31 : decode cX9_tell 31 = .ok (.iaload, 1) := by decide +kernel
theorem dX9_tell_32 : decode cX9_tell 32 = .ok (.istore_n 3, 1) := by decide +kernel
theorem dX9_tell_33 : decode cX9_tell 33 = .ok (.aload_n 0, 1) := by decide +kernel
theorem dX9_tell_34 : decode cX9_tell 34 = .ok (.getfield 41, 3) := by decide +kernel
theorem dX9_tell_37 : decode cX9_tell 37 = .ok (.iload_n 1, 1) := by decide +kernel
theorem dX9_tell_38 : decode cX9_tell 38 = .ok (.iload_n 2, 1) := by decide +kernel
theorem dX9_tell_39 : decode cX9_tell 39 = .ok (.ifCond .ge 8, 3) := by decide +kernel
theorem dX9_tell_42 : decode cX9_tell 42 = .ok (.bipush (-6), 2) := by decide +kernel
theorem dX9_tell_44 : decode cX9_tell 44 = .ok (.goto 4, 3) := by decide +kernel
theorem dX9_tell_47 : decode cX9_tell 47 = .ok (.iload_n 2, 1) := by decide +kernel
theorem dX9_tell_48 : decode cX9_tell 48 = .ok (.iastore, 1) := by decide +kernel
theorem dX9_tell_49 : decode cX9_tell 49 = .ok (.iload_n 3, 1) := by decide +kernel
theorem dX9_tell_50 : decode cX9_tell 50 = .ok (.ireturn, 1) := by decide +kernel
theorem dX9_findTrue_0 : decode cX9_findTrue 0 = .ok (.iconst 0, 1) := by decide +kernel
theorem dX9_findTrue_1 : decode cX9_findTrue 1 = .ok (.istore_n 1, 1) := by decide +kernel
theorem dX9_findTrue_2 : decode cX9_findTrue 2 = .ok (.iconst 0, 1) := by decide +kernel
theorem dX9_findTrue_3 : decode cX9_findTrue 3 = .ok (.istore_n 2, 1) := by decide +kernel
theorem dX9_findTrue_4 : decode cX9_findTrue 4 = .ok (.iload_n 2, 1) := by decide +kernel
theorem dX9_findTrue_5 : decode cX9_findTrue 5 = .ok (.iconst 4, 1) := by decide +kernel
theorem dX9_findTrue_6 : decode cX9_findTrue 6 = .ok (.if_icmp .ge 99, 3) := by decide +kernel
theorem dX9_findTrue_9 : decode cX9_findTrue 9 = .ok (.aload_n 0, 1) := by decide +kernel
theorem dX9_findTrue_10 : decode cX9_findTrue 10 = .ok (.getfield 41, 3) := by decide +kernel
theorem dX9_findTrue_13 : decode cX9_findTrue 13 = .ok (.iload_n 2, 1) := by decide +kernel
theorem dX9_findTrue_14 : decode cX9_findTrue 14 = .ok (.iaload, 1) := by decide +kernel
theorem dX9_findTrue_15 : decode cX9_findTrue 15 = .ok (.ifCond .lt 84, 3) := by decide +kernel
theorem dX9_findTrue_18 : decode cX9_findTrue 18 = .ok (.aload_n 0, 1) := by decide +kernel
theorem dX9_findTrue_19 : decode cX9_findTrue 19 = .ok (.getfield 41, 3) := by decide +kernel
theorem dX9_findTrue_22 : decode cX9_findTrue 22 = .ok (.iload_n 2, 1) := by decide +kernel
theorem dX9_findTrue_23 : decode cX9_findTrue 23 = .ok (.iaload, 1) := by decide +kernel
theorem dX9_findTrue_24 : decode cX9_findTrue 24 = .ok (.aload_n 0, 1) := by decide +kernel
theorem dX9_findTrue_25 : decode cX9_findTrue 25 = .ok (.getfield 38, 3) := by decide +kernel
theorem dX9_findTrue_28 : decode cX9_findTrue 28 = .ok (.iload_n 2, 1) := by decide +kernel
theorem dX9_findTrue_29 : decode cX9_findTrue 29 = .ok (.iaload, 1) := by decide +kernel
theorem dX9_findTrue_30 : decode cX9_findTrue 30 = .ok (.isub, 1) := by decide +kernel
theorem dX9_findTrue_31 : decode cX9_findTrue 31 = .ok (.istore_n 3, 1) := by decide +kernel
theorem dX9_findTrue_32 : decode cX9_findTrue 32 = .ok (.aload_n 0, 1) := by decide +kernel
theorem dX9_findTrue_33 : decode cX9_findTrue 33 = .ok (.getfield 41, 3) := by decide +kernel
theorem dX9_findTrue_36 : decode cX9_findTrue 36 = .ok (.iload_n 2, 1) := by decide +kernel
theorem dX9_findTrue_37 : decode cX9_findTrue 37 = .ok (.iaload, 1) := by decide +kernel
theorem dX9_findTrue_38 : decode cX9_findTrue 38 = .ok (.aload_n 0, 1) := by decide +kernel
theorem dX9_findTrue_39 : decode cX9_findTrue 39 = .ok (.getfield 35, 3) := by decide +kernel
theorem dX9_findTrue_42 : decode cX9_findTrue 42 = .ok (.iload_n 2, 1) := by decide +kernel
theorem dX9_findTrue_43 : decode cX9_findTrue 43 = .ok (.iaload, 1) := by decide +kernel
theorem dX9_findTrue_44 : decode cX9_findTrue 44 = .ok (.isub, 1) := by decide +kernel
theorem dX9_findTrue_45 : decode cX9_findTrue 45 = .ok (.istore 4, 2) := by decide +kernel
theorem dX9_findTrue_47 : decode cX9_findTrue 47 = .ok (.aload_n 0, 1) := by decide +kernel
theorem dX9_findTrue_48 : decode cX9_findTrue 48 = .ok (.iload_n 1, 1) := by decide +kernel
theorem dX9_findTrue_49 : decode cX9_findTrue 49 = .ok (.ifCond .eq 18, 3) := by decide +kernel
theorem dX9_findTrue_52 : decode cX9_findTrue 52 = .ok (.aload_n 0, 1) := by decide +kernel
theorem dX9_findTrue_53 : decode cX9_findTrue 53 = .ok (.getfield 183, 3) := by decide +kernel
theorem dX9_findTrue_56 : decode cX9_findTrue 56 = .ok (.iload_n 3, 1) := by decide +kernel
theorem dX9_findTrue_57 : decode cX9_findTrue 57 = .ok (.if_icmp .le 10, 3) := by decide +kernel
theorem dX9_findTrue_60 : decode cX9_findTrue 60 = .ok (.aload_n 0, 1) := by decide +kernel
theorem dX9_findTrue_61 : decode cX9_findTrue 61 = .ok (.getfield 183, 3) := by decide +kernel
theorem dX9_findTrue_64 : decode cX9_findTrue 64 = .ok (.goto 4, 3) := by decide +kernel
theorem dX9_findTrue_67 : decode cX9_findTrue 67 = .ok (.iload_n 3, 1) := by decide +kernel
theorem dX9_findTrue_68 : decode cX9_findTrue 68 = .ok (.putfield 183, 3) := by decide +kernel
theorem dX9_findTrue_71 : decode cX9_findTrue 71 = .ok (.aload_n 0, 1) := by decide +kernel
theorem dX9_findTrue_72 : decode cX9_findTrue 72 = .ok (.iload_n 1, 1) := by decide +kernel
theorem dX9_findTrue_73 : decode cX9_findTrue 73 = .ok (.ifCond .eq 19, 3) := by decide +kernel
theorem dX9_findTrue_76 : decode cX9_findTrue 76 = .ok (.aload_n 0, 1) := by decide +kernel
theorem dX9_findTrue_77 : decode cX9_findTrue 77 = .ok (.getfield 186, 3) := by decide +kernel
theorem dX9_findTrue_80 : decode cX9_findTrue 80 = .ok (.iload 4, 2) := by decide +kernel
theorem dX9_findTrue_82 : decode cX9_findTrue 82 = .ok (.if_icmp .ge 10, 3) := by decide +kernel
theorem dX9_findTrue_85 : decode cX9_findTrue 85 = .ok (.aload_n 0, 1) := by decide +kernel
theorem dX9_findTrue_86 : decode cX9_findTrue 86 = .ok (.getfield 186, 3) := by decide +kernel
theorem dX9_findTrue_89 : decode cX9_findTrue 89 = .ok (.goto 5, 3) := by decide +kernel
theorem dX9_findTrue_92 : decode cX9_findTrue 92 = .ok (.iload 4, 2) := by decide +kernel
theorem dX9_findTrue_94 : decode cX9_findTrue 94 = .ok (.putfield 186, 3) := by decide +kernel
theorem dX9_findTrue_97 : decode cX9_findTrue 97 = .ok (.iconst 1, 1) := by decide +kernel
theorem dX9_findTrue_98 : decode cX9_findTrue 98 = .ok (.istore_n 1, 1) := by decide +kernel
theorem dX9_findTrue_99 : decode cX9_findTrue 99 = .ok (.iinc 2 1, 3) := by decide +kernel
theorem dX9_findTrue_102 : decode cX9_findTrue 102 = .ok (.goto (-98), 3) := by decide +kernel
theorem dX9_findTrue_105 : decode cX9_findTrue 105 = .ok (.iload_n 1, 1) := by decide +kernel
theorem dX9_findTrue_106 : decode cX9_findTrue 106 = .ok (.ifCond .ne 8, 3) := by decide +kernel
theorem dX9_findTrue_109 : decode cX9_findTrue 109 = .ok (.bipush (-3), 2) := by decide +kernel
theorem dX9_findTrue_111 : decode cX9_findTrue 111 = .ok (.goto 20, 3) := by decide +kernel
theorem dX9_findTrue_114 : decode cX9_findTrue 114 = .ok (.aload_n 0, 1) := by decide +kernel
theorem dX9_findTrue_115 : decode cX9_findTrue 115 = .ok (.getfield 183, 3) := by decide +kernel
theorem dX9_findTrue_118 : decode cX9_findTrue 118 = .ok (.aload_n 0, 1) := by decide +kernel
theorem dX9_findTrue_119 : decode cX9_findTrue 119 = .ok (.getfield 186, 3) := by decide +kernel
theorem dX9_findTrue_122 : decode cX9_findTrue 122 = .ok (.if_icmp .le 8, 3) := by decide +kernel
theorem dX9_findTrue_125 : decode cX9_findTrue 125 = .ok (.bipush (-5), 2) := by decide +kernel
theorem dX9_findTrue_127 : decode cX9_findTrue 127 = .ok (.goto 4, 3) := by decide +kernel
theorem dX9_findTrue_130 : decode cX9_findTrue 130 = .ok (.iconst 1, 1) := by decide +kernel
theorem dX9_findTrue_131 : decode cX9_findTrue 131 = .ok (.ireturn, 1) := by decide +kernel
theorem dX9_time_0 : decode cX9_time 0 = .ok (.iload_n 1, 1) := by decide +kernel
theorem dX9_time_1 : decode cX9_time 1 = .ok (.i2l, 1) := by decide +kernel
theorem dX9_time_2 : decode cX9_time 2 = .ok (.lconst 0, 1) := by decide +kernel
theorem dX9_time_3 : decode cX9_time 3 = .ok (.lconst 1, 1) := by decide +kernel
theorem dX9_time_4 : decode cX9_time 4 = .ok (.invokestatic 69, 3) := by decide +kernel
theorem dX9_time_7 : decode cX9_time 7 = .ok (.ifCond .ne 6, 3) := by decide +kernel
theorem dX9_time_10 : decode cX9_time 10 = .ok (.bipush (-2), 2) := by decide +kernel
theorem dX9_time_12 : decode cX9_time 12 = .ok (.ireturn, 1) := by decide +kernel
theorem dX9_time_13 : decode cX9_time 13 = .ok (.aload_n 0, 1) := by decide +kernel
theorem dX9_time_14 : decode cX9_time 14 = .ok (.invokevirtual 189, 3) := by decide +kernel
theorem dX9_time_17 : decode cX9_time 17 = .ok (.istore_n 2, 1) := by decide +kernel
theorem dX9_time_18 : decode cX9_time 18 = .ok (.iload_n 2, 1) := by decide +kernel
theorem dX9_time_19 : decode cX9_time 19 = .ok (.ifCond .ge 7, 3) := by decide +kernel
theorem dX9_time_22 : decode cX9_time 22 = .ok (.iload_n 2, 1) := by decide +kernel
theorem dX9_time_23 : decode cX9_time 23 = .ok (.goto 21, 3) := by decide +kernel
theorem dX9_time_26 : decode cX9_time 26 = .ok (.ldc 193, 2) := by decide +kernel
theorem dX9_time_28 : decode cX9_time 28 = .ok (.iload_n 1, 1) := by decide +kernel
theorem dX9_time_29 : decode cX9_time 29 = .ok (.ifCond .ne 10, 3) := by decide +kernel
theorem dX9_time_32 : decode cX9_time 32 = .ok (.aload_n 0, 1) := by decide +kernel
theorem dX9_time_33 : decode cX9_time 33 = .ok (.getfield 183, 3) := by decide +kernel
theorem dX9_time_36 : decode cX9_time 36 = .ok (.goto 7, 3) := by decide +kernel
theorem dX9_time_39 : decode cX9_time 39 = .ok (.aload_n 0, 1) := by decide +kernel
theorem dX9_time_40 : decode cX9_time 40 = .ok (.getfield 186, 3) := by decide +kernel
theorem dX9_time_43 : decode cX9_time 43 = .ok (.iadd, 1) := by decide +kernel
theorem dX9_time_44 : decode cX9_time 44 = .ok (.ireturn, 1) := by decide +kernel
theorem dX9_old_0 : decode cX9_old 0 = .ok (.iload_n 1, 1) := by decide +kernel
theorem dX9_old_1 : decode cX9_old 1 = .ok (.invokestatic 180, 3) := by decide +kernel
theorem dX9_old_4 : decode cX9_old 4 = .ok (.ifCond .ne 6, 3) := by decide +kernel
theorem dX9_old_7 : decode cX9_old 7 = .ok (.bipush (-2), 2) := by decide +kernel
theorem dX9_old_9 : decode cX9_old 9 = .ok (.ireturn, 1) := by decide +kernel
theorem dX9_old_10 : decode cX9_old 10 = .ok (.aload_n 0, 1) := by decide +kernel
theorem dX9_old_11 : decode cX9_old 11 = .ok (.invokevirtual 189, 3) := by decide +kernel
theorem dX9_old_14 : decode cX9_old 14 = .ok (.istore_n 2, 1) := by decide +kernel
theorem dX9_old_15 : decode cX9_old 15 = .ok (.iload_n 2, 1) := by decide +kernel
theorem dX9_old_16 : decode cX9_old 16 = .ok (.ifCond .ge 7, 3) := by decide +kernel
theorem dX9_old_19 : decode cX9_old 19 = .ok (.iload_n 2, 1) := by decide +kernel
theorem dX9_old_20 : decode cX9_old 20 = .ok (.goto 28, 3) := by decide +kernel
theorem dX9_old_23 : decode cX9_old 23 = .ok (.aload_n 0, 1) := by decide +kernel
theorem dX9_old_24 : decode cX9_old 24 = .ok (.getfield 186, 3) := by decide +kernel
theorem dX9_old_27 : decode cX9_old 27 = .ok (.iload_n 1, 1) := by decide +kernel
theorem dX9_old_28 : decode cX9_old 28 = .ok (.if_icmp .ge 7, 3) := by decide +kernel
theorem dX9_old_31 : decode cX9_old 31 = .ok (.iconst 1, 1) := by decide +kernel
theorem dX9_old_32 : decode cX9_old 32 = .ok (.goto 16, 3) := by decide +kernel
theorem dX9_old_35 : decode cX9_old 35 = .ok (.aload_n 0, 1) := by decide +kernel
theorem dX9_old_36 : decode cX9_old 36 = .ok (.getfield 183, 3) := by decide +kernel
theorem dX9_old_39 : decode cX9_old 39 = .ok (.iload_n 1, 1) := by decide +kernel
theorem dX9_old_40 : decode cX9_old 40 = .ok (.if_icmp .lt 7, 3) := by decide +kernel
theorem dX9_old_43 : decode cX9_old 43 = .ok (.iconst 0, 1) := by decide +kernel
theorem dX9_old_44 : decode cX9_old 44 = .ok (.goto 4, 3) := by decide +kernel
theorem dX9_old_47 : decode cX9_old 47 = .ok (.iconst 2, 1) := by decide +kernel
theorem dX9_old_48 : decode cX9_old 48 = .ok (.ireturn, 1) := by decide +kernel
theorem dX9_say_0 : decode cX9_say 0 = .ok (.iload_n 1, 1) := by decide +kernel
theorem dX9_say_1 : decode cX9_say 1 = .ok (.i2l, 1) := by decide +kernel
theorem dX9_say_2 : decode cX9_say 2 = .ok (.ldc2_w 194, 3) := by decide +kernel
theorem dX9_say_5 : decode cX9_say 5 = .ok (.ldc2_w 196, 3) := by decide +kernel
theorem dX9_say_8 : decode cX9_say 8 = .ok (.invokestatic 69, 3) := by decide +kernel
theorem dX9_say_11 : decode cX9_say 11 = .ok (.ifCond .ne 6, 3) := by decide +kernel
theorem dX9_say_14 : decode cX9_say 14 = .ok (.bipush (-2), 2) := by decide +kernel
theorem dX9_say_16 : decode cX9_say 16 = .ok (.ireturn, 1) := by decide +kernel
theorem dX9_say_17 : decode cX9_say 17 = .ok (.aload_n 0, 1) := by decide +kernel
theorem dX9_say_18 : decode cX9_say 18 = .ok (.getfield 198, 3) := by decide +kernel
theorem dX9_say_21 : decode cX9_say 21 = .ok (.bipush 30, 2) := by decide +kernel
theorem dX9_say_23 : decode cX9_say 23 = .ok (.if_icmp .ne 6, 3) := by decide +kernel
theorem dX9_say_26 : decode cX9_say 26 = .ok (.bipush (-4), 2) := by decide +kernel
theorem dX9_say_28 : decode cX9_say 28 = .ok (.ireturn, 1) := by decide +kernel
theorem dX9_say_29 : decode cX9_say 29 = .ok (.aload_n 0, 1) := by decide +kernel
theorem dX9_say_30 : decode cX9_say 30 = .ok (.getfield 44, 3) := by decide +kernel
theorem dX9_say_33 : decode cX9_say 33 = .ok (.aload_n 0, 1) := by decide +kernel
theorem dX9_say_34 : decode cX9_say 34 = .ok (.getfield 198, 3) := by decide +kernel
theorem dX9_say_37 : decode cX9_say 37 = .ok (.iload_n 1, 1) := by decide +kernel
theorem dX9_say_38 : decode cX9_say 38 = .ok (.iastore, 1) := by decide +kernel
theorem dX9_say_39 : decode cX9_say 39 = .ok (.aload_n 0, 1) := by decide +kernel
theorem dX9_say_40 : decode cX9_say 40 = .ok (.dup, 1) := by decide +kernel
theorem dX9_say_41 : decode cX9_say 41 = .ok (.getfield 198, 3) := by decide +kernel
theorem dX9_say_44 : decode cX9_say 44 = .ok (.iconst 1, 1) := by decide +kernel
theorem dX9_say_45 : decode cX9_say 45 = .ok (.iadd, 1) := by decide +kernel
theorem dX9_say_46 : decode cX9_say 46 = .ok (.putfield 198, 3) := by decide +kernel
theorem dX9_say_49 : decode cX9_say 49 = .ok (.aload_n 0, 1) := by decide +kernel
theorem dX9_say_50 : decode cX9_say 50 = .ok (.getfield 198, 3) := by decide +kernel
theorem dX9_say_53 : decode cX9_say 53 = .ok (.ireturn, 1) := by decide +kernel
theorem dX9_wipe_0 : decode cX9_wipe 0 = .ok (.aload_n 0, 1) := by decide +kernel
theorem dX9_wipe_1 : decode cX9_wipe 1 = .ok (.getfield 198, 3) := by decide +kernel
theorem dX9_wipe_4 : decode cX9_wipe 4 = .ok (.istore_n 1, 1) := by decide +kernel
theorem dX9_wipe_5 : decode cX9_wipe 5 = .ok (.aload_n 0, 1) := by decide +kernel
theorem dX9_wipe_6 : decode cX9_wipe 6 = .ok (.iconst 0, 1) := by decide +kernel
theorem dX9_wipe_7 : decode cX9_wipe 7 = .ok (.putfield 198, 3) := by decide +kernel
theorem dX9_wipe_10 : decode cX9_wipe 10 = .ok (.iload_n 1, 1) := by decide +kernel
theorem dX9_wipe_11 : decode cX9_wipe 11 = .ok (.ireturn, 1) := by decide +kernel
theorem dX9_isFact_0 : decode cX9_isFact 0 = .ok (.iload_n 0, 1) := by decide +kernel
theorem dX9_isFact_1 : decode cX9_isFact 1 = .ok (.bipush 116, 2) := by decide +kernel
theorem dX9_isFact_3 : decode cX9_isFact 3 = .ok (.if_icmp .eq 21, 3) := by decide +kernel
theorem dX9_isFact_6 : decode cX9_isFact 6 = .ok (.iload_n 0, 1) := by decide +kernel
theorem dX9_isFact_7 : decode cX9_isFact 7 = .ok (.bipush 119, 2) := by decide +kernel
theorem dX9_isFact_9 : decode cX9_isFact 9 = .ok (.if_icmp .eq 15, 3) := by decide +kernel
theorem dX9_isFact_12 : decode cX9_isFact 12 = .ok (.iload_n 0, 1) := by decide +kernel
theorem dX9_isFact_13 : decode cX9_isFact 13 = .ok (.bipush 104, 2) := by decide +kernel
theorem dX9_isFact_15 : decode cX9_isFact 15 = .ok (.if_icmp .eq 9, 3) := by decide +kernel
theorem dX9_isFact_18 : decode cX9_isFact 18 = .ok (.iload_n 0, 1) := by decide +kernel
theorem dX9_isFact_19 : decode cX9_isFact 19 = .ok (.bipush 101, 2) := by decide +kernel
theorem dX9_isFact_21 : decode cX9_isFact 21 = .ok (.if_icmp .ne 7, 3) := by decide +kernel
theorem dX9_isFact_24 : decode cX9_isFact 24 = .ok (.iconst 1, 1) := by decide +kernel
theorem dX9_isFact_25 : decode cX9_isFact 25 = .ok (.goto 4, 3) := by decide +kernel
theorem dX9_isFact_28 : decode cX9_isFact 28 = .ok (.iconst 0, 1) := by decide +kernel
theorem dX9_isFact_29 : decode cX9_isFact 29 = .ok (.ireturn, 1) := by decide +kernel
theorem dX9_isHow_0 : decode cX9_isHow 0 = .ok (.iload_n 0, 1) := by decide +kernel
theorem dX9_isHow_1 : decode cX9_isHow 1 = .ok (.bipush 60, 2) := by decide +kernel
theorem dX9_isHow_3 : decode cX9_isHow 3 = .ok (.if_icmp .eq 15, 3) := by decide +kernel
theorem dX9_isHow_6 : decode cX9_isHow 6 = .ok (.iload_n 0, 1) := by decide +kernel
theorem dX9_isHow_7 : decode cX9_isHow 7 = .ok (.bipush 62, 2) := by decide +kernel
theorem dX9_isHow_9 : decode cX9_isHow 9 = .ok (.if_icmp .eq 9, 3) := by decide +kernel
theorem dX9_isHow_12 : decode cX9_isHow 12 = .ok (.iload_n 0, 1) := by decide +kernel
theorem dX9_isHow_13 : decode cX9_isHow 13 = .ok (.bipush 61, 2) := by decide +kernel
theorem dX9_isHow_15 : decode cX9_isHow 15 = .ok (.if_icmp .ne 7, 3) := by decide +kernel
theorem dX9_isHow_18 : decode cX9_isHow 18 = .ok (.iconst 1, 1) := by decide +kernel
theorem dX9_isHow_19 : decode cX9_isHow 19 = .ok (.goto 4, 3) := by decide +kernel
theorem dX9_isHow_22 : decode cX9_isHow 22 = .ok (.iconst 0, 1) := by decide +kernel
theorem dX9_isHow_23 : decode cX9_isHow 23 = .ok (.ireturn, 1) := by decide +kernel
theorem dX9_stepOf_0 : decode cX9_stepOf 0 = .ok (.iload_n 1, 1) := by decide +kernel
theorem dX9_stepOf_1 : decode cX9_stepOf 1 = .ok (.i2l, 1) := by decide +kernel
theorem dX9_stepOf_2 : decode cX9_stepOf 2 = .ok (.ldc2_w 201, 3) := by decide +kernel
theorem dX9_stepOf_5 : decode cX9_stepOf 5 = .ok (.ldc2_w 203, 3) := by decide +kernel
theorem dX9_stepOf_8 : decode cX9_stepOf 8 = .ok (.invokestatic 69, 3) := by decide +kernel
theorem dX9_stepOf_11 : decode cX9_stepOf 11 = .ok (.istore_n 2, 1) := by decide +kernel
theorem dX9_stepOf_12 : decode cX9_stepOf 12 = .ok (.iload_n 0, 1) := by decide +kernel
theorem dX9_stepOf_13 : decode cX9_stepOf 13 = .ok (.tableswitch 87 0 3 #[31, 44, 57, 77], 31) := by decide +kernel
theorem dX9_stepOf_44 : decode cX9_stepOf 44 = .ok (.iload_n 1, 1) := by decide +kernel
theorem dX9_stepOf_45 : decode cX9_stepOf 45 = .ok (.invokestatic 205, 3) := by decide +kernel
theorem dX9_stepOf_48 : decode cX9_stepOf 48 = .ok (.ifCond .eq 7, 3) := by decide +kernel
theorem dX9_stepOf_51 : decode cX9_stepOf 51 = .ok (.iconst 1, 1) := by decide +kernel
theorem dX9_stepOf_52 : decode cX9_stepOf 52 = .ok (.goto 4, 3) := by decide +kernel
theorem dX9_stepOf_55 : decode cX9_stepOf 55 = .ok (.iconst (-1), 1) := by decide +kernel
theorem dX9_stepOf_56 : decode cX9_stepOf 56 = .ok (.ireturn, 1) := by decide +kernel
theorem dX9_stepOf_57 : decode cX9_stepOf 57 = .ok (.iload_n 1, 1) := by decide +kernel
theorem dX9_stepOf_58 : decode cX9_stepOf 58 = .ok (.invokestatic 208, 3) := by decide +kernel
theorem dX9_stepOf_61 : decode cX9_stepOf 61 = .ok (.ifCond .eq 7, 3) := by decide +kernel
theorem dX9_stepOf_64 : decode cX9_stepOf 64 = .ok (.iconst 2, 1) := by decide +kernel
theorem dX9_stepOf_65 : decode cX9_stepOf 65 = .ok (.goto 4, 3) := by decide +kernel
theorem dX9_stepOf_68 : decode cX9_stepOf 68 = .ok (.iconst (-1), 1) := by decide +kernel
theorem dX9_stepOf_69 : decode cX9_stepOf 69 = .ok (.ireturn, 1) := by decide +kernel
theorem dX9_stepOf_70 : decode cX9_stepOf 70 = .ok (.iload_n 1, 1) := by decide +kernel
theorem dX9_stepOf_71 : decode cX9_stepOf 71 = .ok (.bipush 45, 2) := by decide +kernel
theorem dX9_stepOf_73 : decode cX9_stepOf 73 = .ok (.if_icmp .ne 7, 3) := by decide +kernel
theorem dX9_stepOf_76 : decode cX9_stepOf 76 = .ok (.iconst 3, 1) := by decide +kernel
theorem dX9_stepOf_77 : decode cX9_stepOf 77 = .ok (.goto 12, 3) := by decide +kernel
theorem dX9_stepOf_80 : decode cX9_stepOf 80 = .ok (.iload_n 2, 1) := by decide +kernel
theorem dX9_stepOf_81 : decode cX9_stepOf 81 = .ok (.ifCond .eq 7, 3) := by decide +kernel
theorem dX9_stepOf_84 : decode cX9_stepOf 84 = .ok (.iconst 4, 1) := by decide +kernel
theorem dX9_stepOf_85 : decode cX9_stepOf 85 = .ok (.goto 4, 3) := by decide +kernel
theorem dX9_stepOf_88 : decode cX9_stepOf 88 = .ok (.iconst (-1), 1) := by decide +kernel
theorem dX9_stepOf_89 : decode cX9_stepOf 89 = .ok (.ireturn, 1) := by decide +kernel
theorem dX9_stepOf_90 : decode cX9_stepOf 90 = .ok (.iload_n 2, 1) := by decide +kernel
theorem dX9_stepOf_91 : decode cX9_stepOf 91 = .ok (.ifCond .eq 7, 3) := by decide +kernel
theorem dX9_stepOf_94 : decode cX9_stepOf 94 = .ok (.iconst 4, 1) := by decide +kernel
theorem dX9_stepOf_95 : decode cX9_stepOf 95 = .ok (.goto 4, 3) := by decide +kernel
theorem dX9_stepOf_98 : decode cX9_stepOf 98 = .ok (.iconst (-1), 1) := by decide +kernel
theorem dX9_stepOf_99 : decode cX9_stepOf 99 = .ok (.ireturn, 1) := by decide +kernel
theorem dX9_stepOf_100 : decode cX9_stepOf 100 = .ok (.iload_n 1, 1) := by decide +kernel
theorem dX9_stepOf_101 : decode cX9_stepOf 101 = .ok (.bipush 59, 2) := by decide +kernel
theorem dX9_stepOf_103 : decode cX9_stepOf 103 = .ok (.if_icmp .ne 7, 3) := by decide +kernel
theorem dX9_stepOf_106 : decode cX9_stepOf 106 = .ok (.iconst 0, 1) := by decide +kernel
theorem dX9_stepOf_107 : decode cX9_stepOf 107 = .ok (.goto 20, 3) := by decide +kernel
theorem dX9_stepOf_110 : decode cX9_stepOf 110 = .ok (.iload_n 2, 1) := by decide +kernel
theorem dX9_stepOf_111 : decode cX9_stepOf 111 = .ok (.ifCond .eq 15, 3) := by decide +kernel
theorem dX9_stepOf_114 : decode cX9_stepOf 114 = .ok (.iload_n 0, 1) := by decide +kernel
theorem dX9_stepOf_115 : decode cX9_stepOf 115 = .ok (.bipush 7, 2) := by decide +kernel
theorem dX9_stepOf_117 : decode cX9_stepOf 117 = .ok (.if_icmp .ge 9, 3) := by decide +kernel
theorem dX9_stepOf_120 : decode cX9_stepOf 120 = .ok (.iload_n 0, 1) := by decide +kernel
theorem dX9_stepOf_121 : decode cX9_stepOf 121 = .ok (.iconst 1, 1) := by decide +kernel
theorem dX9_stepOf_122 : decode cX9_stepOf 122 = .ok (.iadd, 1) := by decide +kernel
theorem dX9_stepOf_123 : decode cX9_stepOf 123 = .ok (.goto 4, 3) := by decide +kernel
theorem dX9_stepOf_126 : decode cX9_stepOf 126 = .ok (.iconst (-1), 1) := by decide +kernel
theorem dX9_stepOf_127 : decode cX9_stepOf 127 = .ok (.ireturn, 1) := by decide +kernel
theorem dX9_fault_0 : decode cX9_fault 0 = .ok (.iconst 0, 1) := by decide +kernel
theorem dX9_fault_1 : decode cX9_fault 1 = .ok (.istore_n 1, 1) := by decide +kernel
theorem dX9_fault_2 : decode cX9_fault 2 = .ok (.iconst 0, 1) := by decide +kernel
theorem dX9_fault_3 : decode cX9_fault 3 = .ok (.istore_n 2, 1) := by decide +kernel
theorem dX9_fault_4 : decode cX9_fault 4 = .ok (.iload_n 2, 1) := by decide +kernel
theorem dX9_fault_5 : decode cX9_fault 5 = .ok (.aload_n 0, 1) := by decide +kernel
theorem dX9_fault_6 : decode cX9_fault 6 = .ok (.getfield 198, 3) := by decide +kernel
theorem dX9_fault_9 : decode cX9_fault 9 = .ok (.if_icmp .ge 26, 3) := by decide +kernel
theorem dX9_fault_12 : decode cX9_fault 12 = .ok (.iload_n 1, 1) := by decide +kernel
theorem dX9_fault_13 : decode cX9_fault 13 = .ok (.aload_n 0, 1) := by decide +kernel
theorem dX9_fault_14 : decode cX9_fault 14 = .ok (.getfield 44, 3) := by decide +kernel
theorem dX9_fault_17 : decode cX9_fault 17 = .ok (.iload_n 2, 1) := by decide +kernel
theorem dX9_fault_18 : decode cX9_fault 18 = .ok (.iaload, 1) := by decide +kernel
theorem dX9_fault_19 : decode cX9_fault 19 = .ok (.invokestatic 211, 3) := by decide +kernel
theorem dX9_fault_22 : decode cX9_fault 22 = .ok (.istore_n 1, 1) := by decide +kernel
theorem dX9_fault_23 : decode cX9_fault 23 = .ok (.iload_n 1, 1) := by decide +kernel
theorem dX9_fault_24 : decode cX9_fault 24 = .ok (.ifCond .ge 5, 3) := by decide +kernel
theorem dX9_fault_27 : decode cX9_fault 27 = .ok (.iload_n 2, 1) := by decide +kernel
theorem dX9_fault_28 : decode cX9_fault 28 = .ok (.ireturn, 1) := by decide +kernel
theorem dX9_fault_29 : decode cX9_fault 29 = .ok (.iinc 2 1, 3) := by decide +kernel
theorem dX9_fault_32 : decode cX9_fault 32 = .ok (.goto (-28), 3) := by decide +kernel
theorem dX9_fault_35 : decode cX9_fault 35 = .ok (.iload_n 1, 1) := by decide +kernel
theorem dX9_fault_36 : decode cX9_fault 36 = .ok (.iconst 3, 1) := by decide +kernel
theorem dX9_fault_37 : decode cX9_fault 37 = .ok (.if_icmp .le 8, 3) := by decide +kernel
theorem dX9_fault_40 : decode cX9_fault 40 = .ok (.bipush (-6), 2) := by decide +kernel
theorem dX9_fault_42 : decode cX9_fault 42 = .ok (.goto 7, 3) := by decide +kernel
theorem dX9_fault_45 : decode cX9_fault 45 = .ok (.aload_n 0, 1) := by decide +kernel
theorem dX9_fault_46 : decode cX9_fault 46 = .ok (.getfield 198, 3) := by decide +kernel
theorem dX9_fault_49 : decode cX9_fault 49 = .ok (.ireturn, 1) := by decide +kernel
theorem dX9_rule_0 : decode cX9_rule 0 = .ok (.aload_n 0, 1) := by decide +kernel
theorem dX9_rule_1 : decode cX9_rule 1 = .ok (.invokevirtual 214, 3) := by decide +kernel
theorem dX9_rule_4 : decode cX9_rule 4 = .ok (.ifCond .lt 6, 3) := by decide +kernel
theorem dX9_rule_7 : decode cX9_rule 7 = .ok (.bipush (-5), 2) := by decide +kernel
theorem dX9_rule_9 : decode cX9_rule 9 = .ok (.ireturn, 1) := by decide +kernel
theorem dX9_rule_10 : decode cX9_rule 10 = .ok (.aload_n 0, 1) := by decide +kernel
theorem dX9_rule_11 : decode cX9_rule 11 = .ok (.iconst 0, 1) := by decide +kernel
theorem dX9_rule_12 : decode cX9_rule 12 = .ok (.putfield 217, 3) := by decide +kernel
theorem dX9_rule_15 : decode cX9_rule 15 = .ok (.iconst 0, 1) := by decide +kernel
theorem dX9_rule_16 : decode cX9_rule 16 = .ok (.istore_n 1, 1) := by decide +kernel
theorem dX9_rule_17 : decode cX9_rule 17 = .ok (.iconst 0, 1) := by decide +kernel
theorem dX9_rule_18 : decode cX9_rule 18 = .ok (.istore_n 2, 1) := by decide +kernel
theorem dX9_rule_19 : decode cX9_rule 19 = .ok (.iconst 0, 1) := by decide +kernel
theorem dX9_rule_20 : decode cX9_rule 20 = .ok (.istore_n 3, 1) := by decide +kernel
theorem dX9_rule_21 : decode cX9_rule 21 = .ok (.iload_n 3, 1) := by decide +kernel
theorem dX9_rule_22 : decode cX9_rule 22 = .ok (.aload_n 0, 1) := by decide +kernel
theorem dX9_rule_23 : decode cX9_rule 23 = .ok (.getfield 198, 3) := by decide +kernel
theorem dX9_rule_26 : decode cX9_rule 26 = .ok (.if_icmp .gt 147, 3) := by decide +kernel
theorem dX9_rule_29 : decode cX9_rule 29 = .ok (.iload_n 3, 1) := by decide +kernel
theorem dX9_rule_30 : decode cX9_rule 30 = .ok (.aload_n 0, 1) := by decide +kernel
theorem dX9_rule_31 : decode cX9_rule 31 = .ok (.getfield 198, 3) := by decide +kernel
theorem dX9_rule_34 : decode cX9_rule 34 = .ok (.if_icmp .ge 12, 3) := by decide +kernel
theorem dX9_rule_37 : decode cX9_rule 37 = .ok (.aload_n 0, 1) := by decide +kernel
theorem dX9_rule_38 : decode cX9_rule 38 = .ok (.getfield 44, 3) := by decide +kernel
theorem dX9_rule_41 : decode cX9_rule 41 = .ok (.iload_n 3, 1) := by decide +kernel
theorem dX9_rule_42 : decode cX9_rule 42 = .ok (.iaload, 1) := by decide +kernel
theorem dX9_rule_43 : decode cX9_rule 43 = .ok (.goto 5, 3) := by decide +kernel
theorem dX9_rule_46 : decode cX9_rule 46 = .ok (.bipush 59, 2) := by decide +kernel
theorem dX9_rule_48 : decode cX9_rule 48 = .ok (.istore 4, 2) := by decide +kernel
theorem dX9_rule_50 : decode cX9_rule 50 = .ok (.iload 4, 2) := by decide +kernel
theorem dX9_rule_52 : decode cX9_rule 52 = .ok (.bipush 59, 2) := by decide +kernel
theorem dX9_rule_54 : decode cX9_rule 54 = .ok (.if_icmp .ne 39, 3) := by decide +kernel
theorem dX9_rule_57 : decode cX9_rule 57 = .ok (.aload_n 0, 1) := by decide +kernel
theorem dX9_rule_58 : decode cX9_rule 58 = .ok (.getfield 53, 3) := by decide +kernel
theorem dX9_rule_61 : decode cX9_rule 61 = .ok (.aload_n 0, 1) := by decide +kernel
theorem dX9_rule_62 : decode cX9_rule 62 = .ok (.getfield 217, 3) := by decide +kernel
theorem dX9_rule_65 : decode cX9_rule 65 = .ok (.iload_n 2, 1) := by decide +kernel
theorem dX9_rule_66 : decode cX9_rule 66 = .ok (.ifCond .eq 8, 3) := by decide +kernel
theorem dX9_rule_69 : decode cX9_rule 69 = .ok (.iload_n 1, 1) := by decide +kernel
theorem dX9_rule_70 : decode cX9_rule 70 = .ok (.ineg, 1) := by decide +kernel
theorem dX9_rule_71 : decode cX9_rule 71 = .ok (.goto 4, 3) := by decide +kernel
theorem dX9_rule_74 : decode cX9_rule 74 = .ok (.iload_n 1, 1) := by decide +kernel
theorem dX9_rule_75 : decode cX9_rule 75 = .ok (.iastore, 1) := by decide +kernel
theorem dX9_rule_76 : decode cX9_rule 76 = .ok (.aload_n 0, 1) := by decide +kernel
theorem dX9_rule_77 : decode cX9_rule 77 = .ok (.dup, 1) := by decide +kernel
theorem dX9_rule_78 : decode cX9_rule 78 = .ok (.getfield 217, 3) := by decide +kernel
theorem dX9_rule_81 : decode cX9_rule 81 = .ok (.iconst 1, 1) := by decide +kernel
theorem dX9_rule_82 : decode cX9_rule 82 = .ok (.iadd, 1) := by decide +kernel
theorem dX9_rule_83 : decode cX9_rule 83 = .ok (.putfield 217, 3) := by decide +kernel
theorem dX9_rule_86 : decode cX9_rule 86 = .ok (.iconst 0, 1) := by decide +kernel
theorem dX9_rule_87 : decode cX9_rule 87 = .ok (.istore_n 1, 1) := by decide +kernel
theorem dX9_rule_88 : decode cX9_rule 88 = .ok (.iconst 0, 1) := by decide +kernel
theorem dX9_rule_89 : decode cX9_rule 89 = .ok (.istore_n 2, 1) := by decide +kernel
theorem dX9_rule_90 : decode cX9_rule 90 = .ok (.goto 77, 3) := by decide +kernel
theorem dX9_rule_93 : decode cX9_rule 93 = .ok (.iload 4, 2) := by decide +kernel
theorem dX9_rule_95 : decode cX9_rule 95 = .ok (.i2l, 1) := by decide +kernel
theorem dX9_rule_96 : decode cX9_rule 96 = .ok (.ldc2_w 201, 3) := by decide +kernel
theorem dX9_rule_99 : decode cX9_rule 99 = .ok (.ldc2_w 203, 3) := by decide +kernel
theorem dX9_rule_102 : decode cX9_rule 102 = .ok (.invokestatic 69, 3) := by decide +kernel
theorem dX9_rule_105 : decode cX9_rule 105 = .ok (.ifCond .eq 17, 3) := by decide +kernel
theorem dX9_rule_108 : decode cX9_rule 108 = .ok (.bipush 10, 2) := by decide +kernel
theorem dX9_rule_110 : decode cX9_rule 110 = .ok (.iload_n 1, 1) := by decide +kernel
theorem dX9_rule_111 : decode cX9_rule 111 = .ok (.imul, 1) := by decide +kernel
theorem dX9_rule_112 : decode cX9_rule 112 = .ok (.iload 4, 2) := by decide +kernel
theorem dX9_rule_114 : decode cX9_rule 114 = .ok (.iadd, 1) := by decide +kernel
theorem dX9_rule_115 : decode cX9_rule 115 = .ok (.bipush 48, 2) := by decide +kernel
theorem dX9_rule_117 : decode cX9_rule 117 = .ok (.isub, 1) := by decide +kernel
theorem dX9_rule_118 : decode cX9_rule 118 = .ok (.istore_n 1, 1) := by decide +kernel
theorem dX9_rule_119 : decode cX9_rule 119 = .ok (.goto 48, 3) := by decide +kernel
theorem dX9_rule_122 : decode cX9_rule 122 = .ok (.iload 4, 2) := by decide +kernel
theorem dX9_rule_124 : decode cX9_rule 124 = .ok (.bipush 45, 2) := by decide +kernel
theorem dX9_rule_126 : decode cX9_rule 126 = .ok (.if_icmp .ne 8, 3) := by decide +kernel
theorem dX9_rule_129 : decode cX9_rule 129 = .ok (.iconst 1, 1) := by decide +kernel
theorem dX9_rule_130 : decode cX9_rule 130 = .ok (.istore_n 2, 1) := by decide +kernel
theorem dX9_rule_131 : decode cX9_rule 131 = .ok (.goto 36, 3) := by decide +kernel
theorem dX9_rule_134 : decode cX9_rule 134 = .ok (.iload 4, 2) := by decide +kernel
theorem dX9_rule_136 : decode cX9_rule 136 = .ok (.invokestatic 208, 3) := by decide +kernel
theorem dX9_rule_139 : decode cX9_rule 139 = .ok (.ifCond .eq 17, 3) := by decide +kernel
theorem dX9_rule_142 : decode cX9_rule 142 = .ok (.aload_n 0, 1) := by decide +kernel
theorem dX9_rule_143 : decode cX9_rule 143 = .ok (.getfield 50, 3) := by decide +kernel
theorem dX9_rule_146 : decode cX9_rule 146 = .ok (.aload_n 0, 1) := by decide +kernel
theorem dX9_rule_147 : decode cX9_rule 147 = .ok (.getfield 217, 3) := by decide +kernel
theorem dX9_rule_150 : decode cX9_rule 150 = .ok (.iload 4, 2) := by decide +kernel
theorem dX9_rule_152 : decode cX9_rule 152 = .ok (.iastore, 1) := by decide +kernel
theorem dX9_rule_153 : decode cX9_rule 153 = .ok (.goto 14, 3) := by decide +kernel
theorem dX9_rule_156 : decode cX9_rule 156 = .ok (.aload_n 0, 1) := by decide +kernel
theorem dX9_rule_157 : decode cX9_rule 157 = .ok (.getfield 47, 3) := by decide +kernel
theorem dX9_rule_160 : decode cX9_rule 160 = .ok (.aload_n 0, 1) := by decide +kernel
theorem dX9_rule_161 : decode cX9_rule 161 = .ok (.getfield 217, 3) := by decide +kernel
theorem dX9_rule_164 : decode cX9_rule 164 = .ok (.iload 4, 2) := by decide +kernel
theorem dX9_rule_166 : decode cX9_rule 166 = .ok (.iastore, 1) := by decide +kernel
theorem dX9_rule_167 : decode cX9_rule 167 = .ok (.iinc 3 1, 3) := by decide +kernel
theorem dX9_rule_170 : decode cX9_rule 170 = .ok (.goto (-149), 3) := by decide +kernel
theorem dX9_rule_173 : decode cX9_rule 173 = .ok (.aload_n 0, 1) := by decide +kernel
theorem dX9_rule_174 : decode cX9_rule 174 = .ok (.iconst 0, 1) := by decide +kernel
theorem dX9_rule_175 : decode cX9_rule 175 = .ok (.putfield 198, 3) := by decide +kernel
theorem dX9_rule_178 : decode cX9_rule 178 = .ok (.aload_n 0, 1) := by decide +kernel
theorem dX9_rule_179 : decode cX9_rule 179 = .ok (.getfield 217, 3) := by decide +kernel
theorem dX9_rule_182 : decode cX9_rule 182 = .ok (.ireturn, 1) := by decide +kernel
theorem dX9_isNumber_0 : decode cX9_isNumber 0 = .ok (.iload_n 0, 1) := by decide +kernel
theorem dX9_isNumber_1 : decode cX9_isNumber 1 = .ok (.i2l, 1) := by decide +kernel
theorem dX9_isNumber_2 : decode cX9_isNumber 2 = .ok (.ldc2_w 220, 3) := by decide +kernel
theorem dX9_isNumber_5 : decode cX9_isNumber 5 = .ok (.ldc2_w 222, 3) := by decide +kernel
theorem dX9_isNumber_8 : decode cX9_isNumber 8 = .ok (.invokestatic 69, 3) := by decide +kernel
theorem dX9_isNumber_11 : decode cX9_isNumber 11 = .ok (.ireturn, 1) := by decide +kernel
theorem dX9_record_0 : decode cX9_record 0 = .ok (.iload_n 1, 1) := by decide +kernel
theorem dX9_record_1 : decode cX9_record 1 = .ok (.invokestatic 224, 3) := by decide +kernel
theorem dX9_record_4 : decode cX9_record 4 = .ok (.ifCond .eq 25, 3) := by decide +kernel
theorem dX9_record_7 : decode cX9_record 7 = .ok (.iload_n 2, 1) := by decide +kernel
theorem dX9_record_8 : decode cX9_record 8 = .ok (.invokestatic 224, 3) := by decide +kernel
theorem dX9_record_11 : decode cX9_record 11 = .ok (.ifCond .eq 18, 3) := by decide +kernel
theorem dX9_record_14 : decode cX9_record 14 = .ok (.iload_n 3, 1) := by decide +kernel
theorem dX9_record_15 : decode cX9_record 15 = .ok (.invokestatic 224, 3) := by decide +kernel
theorem dX9_record_18 : decode cX9_record 18 = .ok (.ifCond .eq 11, 3) := by decide +kernel
theorem dX9_record_21 : decode cX9_record 21 = .ok (.iload 4, 2) := by decide +kernel
theorem dX9_record_23 : decode cX9_record 23 = .ok (.invokestatic 224, 3) := by decide +kernel
theorem dX9_record_26 : decode cX9_record 26 = .ok (.ifCond .ne 6, 3) := by decide +kernel
theorem dX9_record_29 : decode cX9_record 29 = .ok (.bipush (-2), 2) := by decide +kernel
theorem dX9_record_31 : decode cX9_record 31 = .ok (.ireturn, 1) := by decide +kernel
theorem dX9_record_32 : decode cX9_record 32 = .ok (.aload_n 0, 1) := by decide +kernel
theorem dX9_record_33 : decode cX9_record 33 = .ok (.getfield 217, 3) := by decide +kernel
theorem dX9_record_36 : decode cX9_record 36 = .ok (.ifCond .ne 6, 3) := by decide +kernel
theorem dX9_record_39 : decode cX9_record 39 = .ok (.bipush (-3), 2) := by decide +kernel
theorem dX9_record_41 : decode cX9_record 41 = .ok (.ireturn, 1) := by decide +kernel
theorem dX9_record_42 : decode cX9_record 42 = .ok (.iconst 0, 1) := by decide +kernel
theorem dX9_record_43 : decode cX9_record 43 = .ok (.istore 5, 2) := by decide +kernel
theorem dX9_record_45 : decode cX9_record 45 = .ok (.iload 5, 2) := by decide +kernel
theorem dX9_record_47 : decode cX9_record 47 = .ok (.aload_n 0, 1) := by decide +kernel
theorem dX9_record_48 : decode cX9_record 48 = .ok (.getfield 217, 3) := by decide +kernel
theorem dX9_record_51 : decode cX9_record 51 = .ok (.if_icmp .ge 146, 3) := by decide +kernel
theorem dX9_record_54 : decode cX9_record 54 = .ok (.aload_n 0, 1) := by decide +kernel
theorem dX9_record_55 : decode cX9_record 55 = .ok (.getfield 47, 3) := by decide +kernel
theorem dX9_record_58 : decode cX9_record 58 = .ok (.iload 5, 2) := by decide +kernel
theorem dX9_record_60 : decode cX9_record 60 = .ok (.iaload, 1) := by decide +kernel
theorem dX9_record_61 : decode cX9_record 61 = .ok (.istore 6, 2) := by decide +kernel
theorem dX9_record_63 : decode cX9_record 63 = .ok (.iload 6, 2) := by decide +kernel
theorem dX9_record_65 : decode cX9_record 65 = .ok (.bipush 116, 2) := by decide +kernel
theorem dX9_record_67 : decode cX9_record 67 = .ok (.if_icmp .ne 7, 3) := by decide +kernel
theorem dX9_record_70 : decode cX9_record 70 = .ok (.iload_n 1, 1) := by decide +kernel
theorem dX9_record_71 : decode cX9_record 71 = .ok (.goto 27, 3) := by decide +kernel
theorem dX9_record_74 : decode cX9_record 74 = .ok (.iload 6, 2) := by decide +kernel
theorem dX9_record_76 : decode cX9_record 76 = .ok (.bipush 119, 2) := by decide +kernel
theorem dX9_record_78 : decode cX9_record 78 = .ok (.if_icmp .ne 7, 3) := by decide +kernel
theorem dX9_record_81 : decode cX9_record 81 = .ok (.iload_n 2, 1) := by decide +kernel
theorem dX9_record_82 : decode cX9_record 82 = .ok (.goto 16, 3) := by decide +kernel
theorem dX9_record_85 : decode cX9_record 85 = .ok (.iload 6, 2) := by decide +kernel
theorem dX9_record_87 : decode cX9_record 87 = .ok (.bipush 104, 2) := by decide +kernel
theorem dX9_record_89 : decode cX9_record 89 = .ok (.if_icmp .ne 7, 3) := by decide +kernel
theorem dX9_record_92 : decode cX9_record 92 = .ok (.iload_n 3, 1) := by decide +kernel
theorem dX9_record_93 : decode cX9_record 93 = .ok (.goto 5, 3) := by decide +kernel
theorem dX9_record_96 : decode cX9_record 96 = .ok (.iload 4, 2) := by decide +kernel
theorem dX9_record_98 : decode cX9_record 98 = .ok (.istore 7, 2) := by decide +kernel
theorem dX9_record_100 : decode cX9_record 100 = .ok (.aload_n 0, 1) := by decide +kernel
theorem dX9_record_101 : decode cX9_record 101 = .ok (.getfield 50, 3) := by decide +kernel
theorem dX9_record_104 : decode cX9_record 104 = .ok (.iload 5, 2) := by decide +kernel
theorem dX9_record_106 : decode cX9_record 106 = .ok (.iaload, 1) := by decide +kernel
theorem dX9_record_107 : decode cX9_record 107 = .ok (.bipush 60, 2) := by decide +kernel
theorem dX9_record_109 : decode cX9_record 109 = .ok (.if_icmp .ne 23, 3) := by decide +kernel
theorem dX9_record_112 : decode cX9_record 112 = .ok (.iload 7, 2) := by decide +kernel
theorem dX9_record_114 : decode cX9_record 114 = .ok (.aload_n 0, 1) := by decide +kernel
theorem dX9_record_115 : decode cX9_record 115 = .ok (.getfield 53, 3) := by decide +kernel
theorem dX9_record_118 : decode cX9_record 118 = .ok (.iload 5, 2) := by decide +kernel
theorem dX9_record_120 : decode cX9_record 120 = .ok (.iaload, 1) := by decide +kernel
theorem dX9_record_121 : decode cX9_record 121 = .ok (.if_icmp .ge 7, 3) := by decide +kernel
theorem dX9_record_124 : decode cX9_record 124 = .ok (.iconst 1, 1) := by decide +kernel
theorem dX9_record_125 : decode cX9_record 125 = .ok (.goto 56, 3) := by decide +kernel
theorem dX9_record_128 : decode cX9_record 128 = .ok (.iconst 0, 1) := by decide +kernel
theorem dX9_record_129 : decode cX9_record 129 = .ok (.goto 52, 3) := by decide +kernel
theorem dX9_record_132 : decode cX9_record 132 = .ok (.aload_n 0, 1) := by decide +kernel
theorem dX9_record_133 : decode cX9_record 133 = .ok (.getfield 50, 3) := by decide +kernel
theorem dX9_record_136 : decode cX9_record 136 = .ok (.iload 5, 2) := by decide +kernel
theorem dX9_record_138 : decode cX9_record 138 = .ok (.iaload, 1) := by decide +kernel
theorem dX9_record_139 : decode cX9_record 139 = .ok (.bipush 62, 2) := by decide +kernel
theorem dX9_record_141 : decode cX9_record 141 = .ok (.if_icmp .ne 23, 3) := by decide +kernel
theorem dX9_record_144 : decode cX9_record 144 = .ok (.iload 7, 2) := by decide +kernel
theorem dX9_record_146 : decode cX9_record 146 = .ok (.aload_n 0, 1) := by decide +kernel
theorem dX9_record_147 : decode cX9_record 147 = .ok (.getfield 53, 3) := by decide +kernel
theorem dX9_record_150 : decode cX9_record 150 = .ok (.iload 5, 2) := by decide +kernel
theorem dX9_record_152 : decode cX9_record 152 = .ok (.iaload, 1) := by decide +kernel
theorem dX9_record_153 : decode cX9_record 153 = .ok (.if_icmp .le 7, 3) := by decide +kernel
theorem dX9_record_156 : decode cX9_record 156 = .ok (.iconst 1, 1) := by decide +kernel
theorem dX9_record_157 : decode cX9_record 157 = .ok (.goto 24, 3) := by decide +kernel
theorem dX9_record_160 : decode cX9_record 160 = .ok (.iconst 0, 1) := by decide +kernel
theorem dX9_record_161 : decode cX9_record 161 = .ok (.goto 20, 3) := by decide +kernel
theorem dX9_record_164 : decode cX9_record 164 = .ok (.iload 7, 2) := by decide +kernel
theorem dX9_record_166 : decode cX9_record 166 = .ok (.aload_n 0, 1) := by decide +kernel
theorem dX9_record_167 : decode cX9_record 167 = .ok (.getfield 53, 3) := by decide +kernel
theorem dX9_record_170 : decode cX9_record 170 = .ok (.iload 5, 2) := by decide +kernel
theorem dX9_record_172 : decode cX9_record 172 = .ok (.iaload, 1) := by decide +kernel
theorem dX9_record_173 : decode cX9_record 173 = .ok (.if_icmp .ne 7, 3) := by decide +kernel
theorem dX9_record_176 : decode cX9_record 176 = .ok (.iconst 1, 1) := by decide +kernel
theorem dX9_record_177 : decode cX9_record 177 = .ok (.goto 4, 3) := by decide +kernel
theorem dX9_record_180 : decode cX9_record 180 = .ok (.iconst 0, 1) := by decide +kernel
theorem dX9_record_181 : decode cX9_record 181 = .ok (.istore 8, 2) := by decide +kernel
theorem dX9_record_183 : decode cX9_record 183 = .ok (.iload 8, 2) := by decide +kernel
theorem dX9_record_185 : decode cX9_record 185 = .ok (.ifCond .ne 6, 3) := by decide +kernel
theorem dX9_record_188 : decode cX9_record 188 = .ok (.iload 5, 2) := by decide +kernel
theorem dX9_record_190 : decode cX9_record 190 = .ok (.ireturn, 1) := by decide +kernel
theorem dX9_record_191 : decode cX9_record 191 = .ok (.iinc 5 1, 3) := by decide +kernel
theorem dX9_record_194 : decode cX9_record 194 = .ok (.goto (-149), 3) := by decide +kernel
theorem dX9_record_197 : decode cX9_record 197 = .ok (.bipush (-6), 2) := by decide +kernel
theorem dX9_record_199 : decode cX9_record 199 = .ok (.ireturn, 1) := by decide +kernel
theorem dX9_slit_0 : decode cX9_slit 0 = .ok (.iload_n 1, 1) := by decide +kernel
theorem dX9_slit_1 : decode cX9_slit 1 = .ok (.i2l, 1) := by decide +kernel
theorem dX9_slit_2 : decode cX9_slit 2 = .ok (.lconst 0, 1) := by decide +kernel
theorem dX9_slit_3 : decode cX9_slit 3 = .ok (.lconst 1, 1) := by decide +kernel
theorem dX9_slit_4 : decode cX9_slit 4 = .ok (.invokestatic 69, 3) := by decide +kernel
theorem dX9_slit_7 : decode cX9_slit 7 = .ok (.ifCond .eq 15, 3) := by decide +kernel
theorem dX9_slit_10 : decode cX9_slit 10 = .ok (.iload_n 2, 1) := by decide +kernel
theorem dX9_slit_11 : decode cX9_slit 11 = .ok (.i2l, 1) := by decide +kernel
theorem dX9_slit_12 : decode cX9_slit 12 = .ok (.lconst 1, 1) := by decide +kernel
theorem dX9_slit_13 : decode cX9_slit 13 = .ok (.ldc2_w 227, 3) := by decide +kernel
theorem dX9_slit_16 : decode cX9_slit 16 = .ok (.invokestatic 69, 3) := by decide +kernel
theorem dX9_slit_19 : decode cX9_slit 19 = .ok (.ifCond .ne 6, 3) := by decide +kernel
theorem dX9_slit_22 : decode cX9_slit 22 = .ok (.bipush (-2), 2) := by decide +kernel
theorem dX9_slit_24 : decode cX9_slit 24 = .ok (.ireturn, 1) := by decide +kernel
theorem dX9_slit_25 : decode cX9_slit 25 = .ok (.aload_n 0, 1) := by decide +kernel
theorem dX9_slit_26 : decode cX9_slit 26 = .ok (.getfield 229, 3) := by decide +kernel
theorem dX9_slit_29 : decode cX9_slit 29 = .ok (.bipush 8, 2) := by decide +kernel
theorem dX9_slit_31 : decode cX9_slit 31 = .ok (.if_icmp .ne 6, 3) := by decide +kernel
theorem dX9_slit_34 : decode cX9_slit 34 = .ok (.bipush (-4), 2) := by decide +kernel
theorem dX9_slit_36 : decode cX9_slit 36 = .ok (.ireturn, 1) := by decide +kernel
theorem dX9_slit_37 : decode cX9_slit 37 = .ok (.aload_n 0, 1) := by decide +kernel
theorem dX9_slit_38 : decode cX9_slit 38 = .ok (.getfield 56, 3) := by decide +kernel
theorem dX9_slit_41 : decode cX9_slit 41 = .ok (.aload_n 0, 1) := by decide +kernel
theorem dX9_slit_42 : decode cX9_slit 42 = .ok (.getfield 229, 3) := by decide +kernel
theorem dX9_slit_45 : decode cX9_slit 45 = .ok (.iload_n 1, 1) := by decide +kernel
theorem dX9_slit_46 : decode cX9_slit 46 = .ok (.iastore, 1) := by decide +kernel
theorem dX9_slit_47 : decode cX9_slit 47 = .ok (.aload_n 0, 1) := by decide +kernel
theorem dX9_slit_48 : decode cX9_slit 48 = .ok (.getfield 59, 3) := by decide +kernel
theorem dX9_slit_51 : decode cX9_slit 51 = .ok (.aload_n 0, 1) := by decide +kernel
theorem dX9_slit_52 : decode cX9_slit 52 = .ok (.getfield 229, 3) := by decide +kernel
theorem dX9_slit_55 : decode cX9_slit 55 = .ok (.iload_n 2, 1) := by decide +kernel
theorem dX9_slit_56 : decode cX9_slit 56 = .ok (.iastore, 1) := by decide +kernel
theorem dX9_slit_57 : decode cX9_slit 57 = .ok (.aload_n 0, 1) := by decide +kernel
theorem dX9_slit_58 : decode cX9_slit 58 = .ok (.dup, 1) := by decide +kernel
theorem dX9_slit_59 : decode cX9_slit 59 = .ok (.getfield 229, 3) := by decide +kernel
theorem dX9_slit_62 : decode cX9_slit 62 = .ok (.iconst 1, 1) := by decide +kernel
theorem dX9_slit_63 : decode cX9_slit 63 = .ok (.iadd, 1) := by decide +kernel
theorem dX9_slit_64 : decode cX9_slit 64 = .ok (.putfield 229, 3) := by decide +kernel
theorem dX9_slit_67 : decode cX9_slit 67 = .ok (.aload_n 0, 1) := by decide +kernel
theorem dX9_slit_68 : decode cX9_slit 68 = .ok (.getfield 229, 3) := by decide +kernel
theorem dX9_slit_71 : decode cX9_slit 71 = .ok (.iconst 1, 1) := by decide +kernel
theorem dX9_slit_72 : decode cX9_slit 72 = .ok (.isub, 1) := by decide +kernel
theorem dX9_slit_73 : decode cX9_slit 73 = .ok (.ireturn, 1) := by decide +kernel
theorem dX9_seenBy_0 : decode cX9_seenBy 0 = .ok (.iconst 0, 1) := by decide +kernel
theorem dX9_seenBy_1 : decode cX9_seenBy 1 = .ok (.istore_n 2, 1) := by decide +kernel
theorem dX9_seenBy_2 : decode cX9_seenBy 2 = .ok (.iconst 0, 1) := by decide +kernel
theorem dX9_seenBy_3 : decode cX9_seenBy 3 = .ok (.istore_n 3, 1) := by decide +kernel
theorem dX9_seenBy_4 : decode cX9_seenBy 4 = .ok (.iload_n 3, 1) := by decide +kernel
theorem dX9_seenBy_5 : decode cX9_seenBy 5 = .ok (.aload_n 0, 1) := by decide +kernel
theorem dX9_seenBy_6 : decode cX9_seenBy 6 = .ok (.getfield 66, 3) := by decide +kernel
theorem dX9_seenBy_9 : decode cX9_seenBy 9 = .ok (.if_icmp .ge 101, 3) := by decide +kernel
theorem dX9_seenBy_12 : decode cX9_seenBy 12 = .ok (.bipush (-6), 2) := by decide +kernel
theorem dX9_seenBy_14 : decode cX9_seenBy 14 = .ok (.istore 4, 2) := by decide +kernel
theorem dX9_seenBy_16 : decode cX9_seenBy 16 = .ok (.iconst 0, 1) := by decide +kernel
theorem dX9_seenBy_17 : decode cX9_seenBy 17 = .ok (.istore 5, 2) := by decide +kernel
theorem dX9_seenBy_19 : decode cX9_seenBy 19 = .ok (.iload 5, 2) := by decide +kernel
theorem dX9_seenBy_21 : decode cX9_seenBy 21 = .ok (.aload_n 0, 1) := by decide +kernel
theorem dX9_seenBy_22 : decode cX9_seenBy 22 = .ok (.getfield 229, 3) := by decide +kernel
theorem dX9_seenBy_25 : decode cX9_seenBy 25 = .ok (.if_icmp .ge 50, 3) := by decide +kernel
theorem dX9_seenBy_28 : decode cX9_seenBy 28 = .ok (.iload_n 1, 1) := by decide +kernel
theorem dX9_seenBy_29 : decode cX9_seenBy 29 = .ok (.iload 5, 2) := by decide +kernel
theorem dX9_seenBy_31 : decode cX9_seenBy 31 = .ok (.ishr, 1) := by decide +kernel
theorem dX9_seenBy_32 : decode cX9_seenBy 32 = .ok (.iconst 1, 1) := by decide +kernel
theorem dX9_seenBy_33 : decode cX9_seenBy 33 = .ok (.iand, 1) := by decide +kernel
theorem dX9_seenBy_34 : decode cX9_seenBy 34 = .ok (.iconst 1, 1) := by decide +kernel
theorem dX9_seenBy_35 : decode cX9_seenBy 35 = .ok (.if_icmp .ne 30, 3) := by decide +kernel
theorem dX9_seenBy_38 : decode cX9_seenBy 38 = .ok (.iload 4, 2) := by decide +kernel
theorem dX9_seenBy_40 : decode cX9_seenBy 40 = .ok (.aload_n 0, 1) := by decide +kernel
theorem dX9_seenBy_41 : decode cX9_seenBy 41 = .ok (.iload_n 3, 1) := by decide +kernel
theorem dX9_seenBy_42 : decode cX9_seenBy 42 = .ok (.aload_n 0, 1) := by decide +kernel
theorem dX9_seenBy_43 : decode cX9_seenBy 43 = .ok (.getfield 56, 3) := by decide +kernel
theorem dX9_seenBy_46 : decode cX9_seenBy 46 = .ok (.iload 5, 2) := by decide +kernel
theorem dX9_seenBy_48 : decode cX9_seenBy 48 = .ok (.iaload, 1) := by decide +kernel
theorem dX9_seenBy_49 : decode cX9_seenBy 49 = .ok (.aload_n 0, 1) := by decide +kernel
theorem dX9_seenBy_50 : decode cX9_seenBy 50 = .ok (.getfield 59, 3) := by decide +kernel
theorem dX9_seenBy_53 : decode cX9_seenBy 53 = .ok (.iload 5, 2) := by decide +kernel
theorem dX9_seenBy_55 : decode cX9_seenBy 55 = .ok (.iaload, 1) := by decide +kernel
theorem dX9_seenBy_56 : decode cX9_seenBy 56 = .ok (.invokevirtual 126, 3) := by decide +kernel
theorem dX9_seenBy_59 : decode cX9_seenBy 59 = .ok (.invokestatic 122, 3) := by decide +kernel
theorem dX9_seenBy_62 : decode cX9_seenBy 62 = .ok (.goto 5, 3) := by decide +kernel
theorem dX9_seenBy_65 : decode cX9_seenBy 65 = .ok (.iload 4, 2) := by decide +kernel
theorem dX9_seenBy_67 : decode cX9_seenBy 67 = .ok (.istore 4, 2) := by decide +kernel
theorem dX9_seenBy_69 : decode cX9_seenBy 69 = .ok (.iinc 5 1, 3) := by decide +kernel
theorem dX9_seenBy_72 : decode cX9_seenBy 72 = .ok (.goto (-53), 3) := by decide +kernel
theorem dX9_seenBy_75 : decode cX9_seenBy 75 = .ok (.iload_n 2, 1) := by decide +kernel
theorem dX9_seenBy_76 : decode cX9_seenBy 76 = .ok (.iload 4, 2) := by decide +kernel
theorem dX9_seenBy_78 : decode cX9_seenBy 78 = .ok (.ifCond .lt 23, 3) := by decide +kernel
theorem dX9_seenBy_81 : decode cX9_seenBy 81 = .ok (.iload 4, 2) := by decide +kernel
theorem dX9_seenBy_83 : decode cX9_seenBy 83 = .ok (.aload_n 0, 1) := by decide +kernel
theorem dX9_seenBy_84 : decode cX9_seenBy 84 = .ok (.iload_n 3, 1) := by decide +kernel
theorem dX9_seenBy_85 : decode cX9_seenBy 85 = .ok (.aload_n 0, 1) := by decide +kernel
theorem dX9_seenBy_86 : decode cX9_seenBy 86 = .ok (.getfield 94, 3) := by decide +kernel
theorem dX9_seenBy_89 : decode cX9_seenBy 89 = .ok (.invokevirtual 129, 3) := by decide +kernel
theorem dX9_seenBy_92 : decode cX9_seenBy 92 = .ok (.if_icmp .ne 9, 3) := by decide +kernel
theorem dX9_seenBy_95 : decode cX9_seenBy 95 = .ok (.iconst 1, 1) := by decide +kernel
theorem dX9_seenBy_96 : decode cX9_seenBy 96 = .ok (.iload_n 3, 1) := by decide +kernel
theorem dX9_seenBy_97 : decode cX9_seenBy 97 = .ok (.ishl, 1) := by decide +kernel
theorem dX9_seenBy_98 : decode cX9_seenBy 98 = .ok (.goto 4, 3) := by decide +kernel
theorem dX9_seenBy_101 : decode cX9_seenBy 101 = .ok (.iconst 0, 1) := by decide +kernel
theorem dX9_seenBy_102 : decode cX9_seenBy 102 = .ok (.ior, 1) := by decide +kernel
theorem dX9_seenBy_103 : decode cX9_seenBy 103 = .ok (.istore_n 2, 1) := by decide +kernel
theorem dX9_seenBy_104 : decode cX9_seenBy 104 = .ok (.iinc 3 1, 3) := by decide +kernel
theorem dX9_seenBy_107 : decode cX9_seenBy 107 = .ok (.goto (-103), 3) := by decide +kernel
theorem dX9_seenBy_110 : decode cX9_seenBy 110 = .ok (.iload_n 2, 1) := by decide +kernel
theorem dX9_seenBy_111 : decode cX9_seenBy 111 = .ok (.ireturn, 1) := by decide +kernel
theorem dX9_untold_0 : decode cX9_untold 0 = .ok (.iconst 0, 1) := by decide +kernel
theorem dX9_untold_1 : decode cX9_untold 1 = .ok (.istore_n 2, 1) := by decide +kernel
theorem dX9_untold_2 : decode cX9_untold 2 = .ok (.iconst 0, 1) := by decide +kernel
theorem dX9_untold_3 : decode cX9_untold 3 = .ok (.istore_n 3, 1) := by decide +kernel
theorem dX9_untold_4 : decode cX9_untold 4 = .ok (.iload_n 3, 1) := by decide +kernel
theorem dX9_untold_5 : decode cX9_untold 5 = .ok (.aload_n 0, 1) := by decide +kernel
theorem dX9_untold_6 : decode cX9_untold 6 = .ok (.getfield 66, 3) := by decide +kernel
theorem dX9_untold_9 : decode cX9_untold 9 = .ok (.if_icmp .ge 80, 3) := by decide +kernel
theorem dX9_untold_12 : decode cX9_untold 12 = .ok (.iconst 0, 1) := by decide +kernel
theorem dX9_untold_13 : decode cX9_untold 13 = .ok (.istore 4, 2) := by decide +kernel
theorem dX9_untold_15 : decode cX9_untold 15 = .ok (.iload 4, 2) := by decide +kernel
theorem dX9_untold_17 : decode cX9_untold 17 = .ok (.iload_n 3, 1) := by decide +kernel
theorem dX9_untold_18 : decode cX9_untold 18 = .ok (.if_icmp .ge 65, 3) := by decide +kernel
theorem dX9_untold_21 : decode cX9_untold 21 = .ok (.iload_n 1, 1) := by decide +kernel
theorem dX9_untold_22 : decode cX9_untold 22 = .ok (.iload_n 3, 1) := by decide +kernel
theorem dX9_untold_23 : decode cX9_untold 23 = .ok (.ishr, 1) := by decide +kernel
theorem dX9_untold_24 : decode cX9_untold 24 = .ok (.iconst 1, 1) := by decide +kernel
theorem dX9_untold_25 : decode cX9_untold 25 = .ok (.iand, 1) := by decide +kernel
theorem dX9_untold_26 : decode cX9_untold 26 = .ok (.iconst 1, 1) := by decide +kernel
theorem dX9_untold_27 : decode cX9_untold 27 = .ok (.if_icmp .ne 17, 3) := by decide +kernel
theorem dX9_untold_30 : decode cX9_untold 30 = .ok (.iload_n 1, 1) := by decide +kernel
theorem dX9_untold_31 : decode cX9_untold 31 = .ok (.iload 4, 2) := by decide +kernel
theorem dX9_untold_33 : decode cX9_untold 33 = .ok (.ishr, 1) := by decide +kernel
theorem dX9_untold_34 : decode cX9_untold 34 = .ok (.iconst 1, 1) := by decide +kernel
theorem dX9_untold_35 : decode cX9_untold 35 = .ok (.iand, 1) := by decide +kernel
theorem dX9_untold_36 : decode cX9_untold 36 = .ok (.iconst 1, 1) := by decide +kernel
theorem dX9_untold_37 : decode cX9_untold 37 = .ok (.if_icmp .ne 7, 3) := by decide +kernel
theorem dX9_untold_40 : decode cX9_untold 40 = .ok (.iconst 1, 1) := by decide +kernel
theorem dX9_untold_41 : decode cX9_untold 41 = .ok (.goto 4, 3) := by decide +kernel
theorem dX9_untold_44 : decode cX9_untold 44 = .ok (.iconst 0, 1) := by decide +kernel
theorem dX9_untold_45 : decode cX9_untold 45 = .ok (.istore 5, 2) := by decide +kernel
theorem dX9_untold_47 : decode cX9_untold 47 = .ok (.iload_n 2, 1) := by decide +kernel
theorem dX9_untold_48 : decode cX9_untold 48 = .ok (.aload_n 0, 1) := by decide +kernel
theorem dX9_untold_49 : decode cX9_untold 49 = .ok (.iload_n 3, 1) := by decide +kernel
theorem dX9_untold_50 : decode cX9_untold 50 = .ok (.invokevirtual 135, 3) := by decide +kernel
theorem dX9_untold_53 : decode cX9_untold 53 = .ok (.ifCond .eq 21, 3) := by decide +kernel
theorem dX9_untold_56 : decode cX9_untold 56 = .ok (.aload_n 0, 1) := by decide +kernel
theorem dX9_untold_57 : decode cX9_untold 57 = .ok (.iload 4, 2) := by decide +kernel
theorem dX9_untold_59 : decode cX9_untold 59 = .ok (.invokevirtual 135, 3) := by decide +kernel
theorem dX9_untold_62 : decode cX9_untold 62 = .ok (.ifCond .eq 12, 3) := by decide +kernel
theorem dX9_untold_65 : decode cX9_untold 65 = .ok (.iload 5, 2) := by decide +kernel
theorem dX9_untold_67 : decode cX9_untold 67 = .ok (.ifCond .ne 7, 3) := by decide +kernel
theorem dX9_untold_70 : decode cX9_untold 70 = .ok (.iconst 1, 1) := by decide +kernel
theorem dX9_untold_71 : decode cX9_untold 71 = .ok (.goto 4, 3) := by decide +kernel
theorem dX9_untold_74 : decode cX9_untold 74 = .ok (.iconst 0, 1) := by decide +kernel
theorem dX9_untold_75 : decode cX9_untold 75 = .ok (.iadd, 1) := by decide +kernel
theorem dX9_untold_76 : decode cX9_untold 76 = .ok (.istore_n 2, 1) := by decide +kernel
theorem dX9_untold_77 : decode cX9_untold 77 = .ok (.iinc 4 1, 3) := by decide +kernel
theorem dX9_untold_80 : decode cX9_untold 80 = .ok (.goto (-65), 3) := by decide +kernel
theorem dX9_untold_83 : decode cX9_untold 83 = .ok (.iinc 3 1, 3) := by decide +kernel
theorem dX9_untold_86 : decode cX9_untold 86 = .ok (.goto (-82), 3) := by decide +kernel
theorem dX9_untold_89 : decode cX9_untold 89 = .ok (.iload_n 2, 1) := by decide +kernel
theorem dX9_untold_90 : decode cX9_untold 90 = .ok (.ireturn, 1) := by decide +kernel
theorem dX9_seen_0 : decode cX9_seen 0 = .ok (.iload_n 1, 1) := by decide +kernel
theorem dX9_seen_1 : decode cX9_seen 1 = .ok (.i2l, 1) := by decide +kernel
theorem dX9_seen_2 : decode cX9_seen 2 = .ok (.lconst 0, 1) := by decide +kernel
theorem dX9_seen_3 : decode cX9_seen 3 = .ok (.iconst 1, 1) := by decide +kernel
theorem dX9_seen_4 : decode cX9_seen 4 = .ok (.aload_n 0, 1) := by decide +kernel
theorem dX9_seen_5 : decode cX9_seen 5 = .ok (.getfield 229, 3) := by decide +kernel
theorem dX9_seen_8 : decode cX9_seen 8 = .ok (.ishl, 1) := by decide +kernel
theorem dX9_seen_9 : decode cX9_seen 9 = .ok (.iconst 1, 1) := by decide +kernel
theorem dX9_seen_10 : decode cX9_seen 10 = .ok (.isub, 1) := by decide +kernel
theorem dX9_seen_11 : decode cX9_seen 11 = .ok (.i2l, 1) := by decide +kernel
theorem dX9_seen_12 : decode cX9_seen 12 = .ok (.invokestatic 69, 3) := by decide +kernel
theorem dX9_seen_15 : decode cX9_seen 15 = .ok (.ifCond .eq 13, 3) := by decide +kernel
theorem dX9_seen_18 : decode cX9_seen 18 = .ok (.iload_n 2, 1) := by decide +kernel
theorem dX9_seen_19 : decode cX9_seen 19 = .ok (.i2l, 1) := by decide +kernel
theorem dX9_seen_20 : decode cX9_seen 20 = .ok (.lconst 0, 1) := by decide +kernel
theorem dX9_seen_21 : decode cX9_seen 21 = .ok (.lconst 1, 1) := by decide +kernel
theorem dX9_seen_22 : decode cX9_seen 22 = .ok (.invokestatic 69, 3) := by decide +kernel
theorem dX9_seen_25 : decode cX9_seen 25 = .ok (.ifCond .ne 6, 3) := by decide +kernel
theorem dX9_seen_28 : decode cX9_seen 28 = .ok (.bipush (-2), 2) := by decide +kernel
theorem dX9_seen_30 : decode cX9_seen 30 = .ok (.ireturn, 1) := by decide +kernel
theorem dX9_seen_31 : decode cX9_seen 31 = .ok (.aload_n 0, 1) := by decide +kernel
theorem dX9_seen_32 : decode cX9_seen 32 = .ok (.invokevirtual 138, 3) := by decide +kernel
theorem dX9_seen_35 : decode cX9_seen 35 = .ok (.aload_n 0, 1) := by decide +kernel
theorem dX9_seen_36 : decode cX9_seen 36 = .ok (.iload_n 1, 1) := by decide +kernel
theorem dX9_seen_37 : decode cX9_seen 37 = .ok (.invokevirtual 232, 3) := by decide +kernel
theorem dX9_seen_40 : decode cX9_seen 40 = .ok (.istore_n 3, 1) := by decide +kernel
theorem dX9_seen_41 : decode cX9_seen 41 = .ok (.iload_n 2, 1) := by decide +kernel
theorem dX9_seen_42 : decode cX9_seen 42 = .ok (.ifCond .ne 7, 3) := by decide +kernel
theorem dX9_seen_45 : decode cX9_seen 45 = .ok (.iload_n 3, 1) := by decide +kernel
theorem dX9_seen_46 : decode cX9_seen 46 = .ok (.goto 8, 3) := by decide +kernel
theorem dX9_seen_49 : decode cX9_seen 49 = .ok (.aload_n 0, 1) := by decide +kernel
theorem dX9_seen_50 : decode cX9_seen 50 = .ok (.iload_n 3, 1) := by decide +kernel
theorem dX9_seen_51 : decode cX9_seen 51 = .ok (.invokevirtual 235, 3) := by decide +kernel
theorem dX9_seen_54 : decode cX9_seen 54 = .ok (.ireturn, 1) := by decide +kernel
theorem dX9_best_0 : decode cX9_best 0 = .ok (.iload_n 1, 1) := by decide +kernel
theorem dX9_best_1 : decode cX9_best 1 = .ok (.i2l, 1) := by decide +kernel
theorem dX9_best_2 : decode cX9_best 2 = .ok (.lconst 0, 1) := by decide +kernel
theorem dX9_best_3 : decode cX9_best 3 = .ok (.ldc2_w 238, 3) := by decide +kernel
theorem dX9_best_6 : decode cX9_best 6 = .ok (.invokestatic 69, 3) := by decide +kernel
theorem dX9_best_9 : decode cX9_best 9 = .ok (.ifCond .eq 13, 3) := by decide +kernel
theorem dX9_best_12 : decode cX9_best 12 = .ok (.iload_n 2, 1) := by decide +kernel
theorem dX9_best_13 : decode cX9_best 13 = .ok (.i2l, 1) := by decide +kernel
theorem dX9_best_14 : decode cX9_best 14 = .ok (.lconst 0, 1) := by decide +kernel
theorem dX9_best_15 : decode cX9_best 15 = .ok (.lconst 1, 1) := by decide +kernel
theorem dX9_best_16 : decode cX9_best 16 = .ok (.invokestatic 69, 3) := by decide +kernel
theorem dX9_best_19 : decode cX9_best 19 = .ok (.ifCond .ne 6, 3) := by decide +kernel
theorem dX9_best_22 : decode cX9_best 22 = .ok (.bipush (-2), 2) := by decide +kernel
theorem dX9_best_24 : decode cX9_best 24 = .ok (.ireturn, 1) := by decide +kernel
theorem dX9_best_25 : decode cX9_best 25 = .ok (.aload_n 0, 1) := by decide +kernel
theorem dX9_best_26 : decode cX9_best 26 = .ok (.invokevirtual 138, 3) := by decide +kernel
theorem dX9_best_29 : decode cX9_best 29 = .ok (.iconst 0, 1) := by decide +kernel
theorem dX9_best_30 : decode cX9_best 30 = .ok (.istore_n 3, 1) := by decide +kernel
theorem dX9_best_31 : decode cX9_best 31 = .ok (.aload_n 0, 1) := by decide +kernel
theorem dX9_best_32 : decode cX9_best 32 = .ok (.aload_n 0, 1) := by decide +kernel
theorem dX9_best_33 : decode cX9_best 33 = .ok (.iconst 0, 1) := by decide +kernel
theorem dX9_best_34 : decode cX9_best 34 = .ok (.invokevirtual 232, 3) := by decide +kernel
theorem dX9_best_37 : decode cX9_best 37 = .ok (.invokevirtual 235, 3) := by decide +kernel
theorem dX9_best_40 : decode cX9_best 40 = .ok (.istore 4, 2) := by decide +kernel
theorem dX9_best_42 : decode cX9_best 42 = .ok (.iconst 1, 1) := by decide +kernel
theorem dX9_best_43 : decode cX9_best 43 = .ok (.istore 5, 2) := by decide +kernel
theorem dX9_best_45 : decode cX9_best 45 = .ok (.iload 5, 2) := by decide +kernel
theorem dX9_best_47 : decode cX9_best 47 = .ok (.iconst 1, 1) := by decide +kernel
theorem dX9_best_48 : decode cX9_best 48 = .ok (.aload_n 0, 1) := by decide +kernel
theorem dX9_best_49 : decode cX9_best 49 = .ok (.getfield 229, 3) := by decide +kernel
theorem dX9_best_52 : decode cX9_best 52 = .ok (.ishl, 1) := by decide +kernel
theorem dX9_best_53 : decode cX9_best 53 = .ok (.if_icmp .ge 63, 3) := by decide +kernel
theorem dX9_best_56 : decode cX9_best 56 = .ok (.iload 5, 2) := by decide +kernel
theorem dX9_best_58 : decode cX9_best 58 = .ok (.invokestatic 240, 3) := by decide +kernel
theorem dX9_best_61 : decode cX9_best 61 = .ok (.iload_n 1, 1) := by decide +kernel
theorem dX9_best_62 : decode cX9_best 62 = .ok (.if_icmp .gt 48, 3) := by decide +kernel
theorem dX9_best_65 : decode cX9_best 65 = .ok (.aload_n 0, 1) := by decide +kernel
theorem dX9_best_66 : decode cX9_best 66 = .ok (.aload_n 0, 1) := by decide +kernel
theorem dX9_best_67 : decode cX9_best 67 = .ok (.iload 5, 2) := by decide +kernel
theorem dX9_best_69 : decode cX9_best 69 = .ok (.invokevirtual 232, 3) := by decide +kernel
theorem dX9_best_72 : decode cX9_best 72 = .ok (.invokevirtual 235, 3) := by decide +kernel
theorem dX9_best_75 : decode cX9_best 75 = .ok (.istore 6, 2) := by decide +kernel
theorem dX9_best_77 : decode cX9_best 77 = .ok (.iload 6, 2) := by decide +kernel
theorem dX9_best_79 : decode cX9_best 79 = .ok (.iload 4, 2) := by decide +kernel
theorem dX9_best_81 : decode cX9_best 81 = .ok (.if_icmp .lt 22, 3) := by decide +kernel
theorem dX9_best_84 : decode cX9_best 84 = .ok (.iload 6, 2) := by decide +kernel
theorem dX9_best_86 : decode cX9_best 86 = .ok (.iload 4, 2) := by decide +kernel
theorem dX9_best_88 : decode cX9_best 88 = .ok (.if_icmp .ne 22, 3) := by decide +kernel
theorem dX9_best_91 : decode cX9_best 91 = .ok (.iload 5, 2) := by decide +kernel
theorem dX9_best_93 : decode cX9_best 93 = .ok (.invokestatic 240, 3) := by decide +kernel
theorem dX9_best_96 : decode cX9_best 96 = .ok (.iload_n 3, 1) := by decide +kernel
theorem dX9_best_97 : decode cX9_best 97 = .ok (.invokestatic 240, 3) := by decide +kernel
theorem dX9_best_100 : decode cX9_best 100 = .ok (.if_icmp .ge 10, 3) := by decide +kernel
theorem dX9_best_103 : decode cX9_best 103 = .ok (.iload 6, 2) := by decide +kernel
theorem dX9_best_105 : decode cX9_best 105 = .ok (.istore 4, 2) := by decide +kernel
theorem dX9_best_107 : decode cX9_best 107 = .ok (.iload 5, 2) := by decide +kernel
theorem dX9_best_109 : decode cX9_best 109 = .ok (.istore_n 3, 1) := by decide +kernel
theorem dX9_best_110 : decode cX9_best 110 = .ok (.iinc 5 1, 3) := by decide +kernel
theorem dX9_best_113 : decode cX9_best 113 = .ok (.goto (-68), 3) := by decide +kernel
theorem dX9_best_116 : decode cX9_best 116 = .ok (.iload_n 2, 1) := by decide +kernel
theorem dX9_best_117 : decode cX9_best 117 = .ok (.ifCond .ne 7, 3) := by decide +kernel
theorem dX9_best_120 : decode cX9_best 120 = .ok (.iload_n 3, 1) := by decide +kernel
theorem dX9_best_121 : decode cX9_best 121 = .ok (.goto 5, 3) := by decide +kernel
theorem dX9_best_124 : decode cX9_best 124 = .ok (.iload 4, 2) := by decide +kernel
theorem dX9_best_126 : decode cX9_best 126 = .ok (.ireturn, 1) := by decide +kernel
theorem dX9_told_0 : decode cX9_told 0 = .ok (.iload_n 1, 1) := by decide +kernel
theorem dX9_told_1 : decode cX9_told 1 = .ok (.i2l, 1) := by decide +kernel
theorem dX9_told_2 : decode cX9_told 2 = .ok (.ldc2_w 243, 3) := by decide +kernel
theorem dX9_told_5 : decode cX9_told 5 = .ok (.ldc2_w 245, 3) := by decide +kernel
theorem dX9_told_8 : decode cX9_told 8 = .ok (.invokestatic 69, 3) := by decide +kernel
theorem dX9_told_11 : decode cX9_told 11 = .ok (.ifCond .eq 12, 3) := by decide +kernel
theorem dX9_told_14 : decode cX9_told 14 = .ok (.aload_n 0, 1) := by decide +kernel
theorem dX9_told_15 : decode cX9_told 15 = .ok (.iload_n 1, 1) := by decide +kernel
theorem dX9_told_16 : decode cX9_told 16 = .ok (.bipush 10, 2) := by decide +kernel
theorem dX9_told_18 : decode cX9_told 18 = .ok (.isub, 1) := by decide +kernel
theorem dX9_told_19 : decode cX9_told 19 = .ok (.invokevirtual 109, 3) := by decide +kernel
theorem dX9_told_22 : decode cX9_told 22 = .ok (.ireturn, 1) := by decide +kernel
theorem dX9_told_23 : decode cX9_told 23 = .ok (.iload_n 1, 1) := by decide +kernel
theorem dX9_told_24 : decode cX9_told 24 = .ok (.ifCond .ne 10, 3) := by decide +kernel
theorem dX9_told_27 : decode cX9_told 27 = .ok (.aload_n 0, 1) := by decide +kernel
theorem dX9_told_28 : decode cX9_told 28 = .ok (.getfield 66, 3) := by decide +kernel
theorem dX9_told_31 : decode cX9_told 31 = .ok (.goto 41, 3) := by decide +kernel
theorem dX9_told_34 : decode cX9_told 34 = .ok (.iload_n 1, 1) := by decide +kernel
theorem dX9_told_35 : decode cX9_told 35 = .ok (.iconst 1, 1) := by decide +kernel
theorem dX9_told_36 : decode cX9_told 36 = .ok (.if_icmp .ne 10, 3) := by decide +kernel
theorem dX9_told_39 : decode cX9_told 39 = .ok (.aload_n 0, 1) := by decide +kernel
theorem dX9_told_40 : decode cX9_told 40 = .ok (.getfield 229, 3) := by decide +kernel
theorem dX9_told_43 : decode cX9_told 43 = .ok (.goto 29, 3) := by decide +kernel
theorem dX9_told_46 : decode cX9_told 46 = .ok (.iload_n 1, 1) := by decide +kernel
theorem dX9_told_47 : decode cX9_told 47 = .ok (.iconst 2, 1) := by decide +kernel
theorem dX9_told_48 : decode cX9_told 48 = .ok (.if_icmp .ne 10, 3) := by decide +kernel
theorem dX9_told_51 : decode cX9_told 51 = .ok (.aload_n 0, 1) := by decide +kernel
theorem dX9_told_52 : decode cX9_told 52 = .ok (.getfield 198, 3) := by decide +kernel
theorem dX9_told_55 : decode cX9_told 55 = .ok (.goto 17, 3) := by decide +kernel
theorem dX9_told_58 : decode cX9_told 58 = .ok (.iload_n 1, 1) := by decide +kernel
theorem dX9_told_59 : decode cX9_told 59 = .ok (.iconst 3, 1) := by decide +kernel
theorem dX9_told_60 : decode cX9_told 60 = .ok (.if_icmp .ne 10, 3) := by decide +kernel
theorem dX9_told_63 : decode cX9_told 63 = .ok (.aload_n 0, 1) := by decide +kernel
theorem dX9_told_64 : decode cX9_told 64 = .ok (.getfield 217, 3) := by decide +kernel
theorem dX9_told_67 : decode cX9_told 67 = .ok (.goto 5, 3) := by decide +kernel
theorem dX9_told_70 : decode cX9_told 70 = .ok (.bipush (-2), 2) := by decide +kernel
theorem dX9_told_72 : decode cX9_told 72 = .ok (.ireturn, 1) := by decide +kernel
