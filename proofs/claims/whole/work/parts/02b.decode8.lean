theorem dX8_init_0 : decode cX8_init 0 = .ok (.aload_n 0, 1) := by decide +kernel
theorem dX8_init_1 : decode cX8_init 1 = .ok (.invokespecial 1, 3) := by decide +kernel
theorem dX8_init_4 : decode cX8_init 4 = .ok (.aload_n 0, 1) := by decide +kernel
theorem dX8_init_5 : decode cX8_init 5 = .ok (.new 7, 3) := by decide +kernel
theorem dX8_init_8 : decode cX8_init 8 = .ok (.dup, 1) := by decide +kernel
theorem dX8_init_9 : decode cX8_init 9 = .ok (.invokespecial 9, 3) := by decide +kernel
theorem dX8_init_12 : decode cX8_init 12 = .ok (.putfield 10, 3) := by decide +kernel
theorem dX8_init_15 : decode cX8_init 15 = .ok (.aload_n 0, 1) := by decide +kernel
theorem dX8_init_16 : decode cX8_init 16 = .ok (.new 16, 3) := by decide +kernel
theorem dX8_init_19 : decode cX8_init 19 = .ok (.dup, 1) := by decide +kernel
theorem dX8_init_20 : decode cX8_init 20 = .ok (.invokespecial 18, 3) := by decide +kernel
theorem dX8_init_23 : decode cX8_init 23 = .ok (.putfield 19, 3) := by decide +kernel
theorem dX8_init_26 : decode cX8_init 26 = .ok (.aload_n 0, 1) := by decide +kernel
theorem dX8_init_27 : decode cX8_init 27 = .ok (.new 23, 3) := by decide +kernel
theorem dX8_init_30 : decode cX8_init 30 = .ok (.dup, 1) := by decide +kernel
theorem dX8_init_31 : decode cX8_init 31 = .ok (.invokespecial 25, 3) := by decide +kernel
theorem dX8_init_34 : decode cX8_init 34 = .ok (.putfield 26, 3) := by decide +kernel
theorem dX8_init_37 : decode cX8_init 37 = .ok (.aload_n 0, 1) := by decide +kernel
theorem dX8_init_38 : decode cX8_init 38 = .ok (.new 30, 3) := by decide +kernel
theorem dX8_init_41 : decode cX8_init 41 = .ok (.dup, 1) := by decide +kernel
theorem dX8_init_42 : decode cX8_init 42 = .ok (.invokespecial 32, 3) := by decide +kernel
theorem dX8_init_45 : decode cX8_init 45 = .ok (.putfield 33, 3) := by decide +kernel
theorem dX8_init_48 : decode cX8_init 48 = .ok (.aload_n 0, 1) := by decide +kernel
theorem dX8_init_49 : decode cX8_init 49 = .ok (.new 37, 3) := by decide +kernel
theorem dX8_init_52 : decode cX8_init 52 = .ok (.dup, 1) := by decide +kernel
theorem dX8_init_53 : decode cX8_init 53 = .ok (.invokespecial 39, 3) := by decide +kernel
theorem dX8_init_56 : decode cX8_init 56 = .ok (.putfield 40, 3) := by decide +kernel
theorem dX8_init_59 : decode cX8_init 59 = .ok (.aload_n 0, 1) := by decide +kernel
theorem dX8_init_60 : decode cX8_init 60 = .ok (.new 44, 3) := by decide +kernel
theorem dX8_init_63 : decode cX8_init 63 = .ok (.dup, 1) := by decide +kernel
theorem dX8_init_64 : decode cX8_init 64 = .ok (.invokespecial 46, 3) := by decide +kernel
theorem dX8_init_67 : decode cX8_init 67 = .ok (.putfield 47, 3) := by decide +kernel
theorem dX8_init_70 : decode cX8_init 70 = .ok (.return_, 1) := by decide +kernel
theorem dX8_runner_0 : decode cX8_runner 0 = .ok (.iload_n 1, 1) := by decide +kernel
theorem dX8_runner_1 : decode cX8_runner 1 = .ok (.sipush (-3000), 3) := by decide +kernel
theorem dX8_runner_4 : decode cX8_runner 4 = .ok (.iconst 0, 1) := by decide +kernel
theorem dX8_runner_5 : decode cX8_runner 5 = .ok (.invokestatic 51, 3) := by decide +kernel
theorem dX8_runner_8 : decode cX8_runner 8 = .ok (.ifCond .eq 13, 3) := by decide +kernel
theorem dX8_runner_11 : decode cX8_runner 11 = .ok (.iload_n 2, 1) := by decide +kernel
theorem dX8_runner_12 : decode cX8_runner 12 = .ok (.iconst 1, 1) := by decide +kernel
theorem dX8_runner_13 : decode cX8_runner 13 = .ok (.bipush 20, 2) := by decide +kernel
theorem dX8_runner_15 : decode cX8_runner 15 = .ok (.invokestatic 51, 3) := by decide +kernel
theorem dX8_runner_18 : decode cX8_runner 18 = .ok (.ifCond .ne 6, 3) := by decide +kernel
theorem dX8_runner_21 : decode cX8_runner 21 = .ok (.bipush (-2), 2) := by decide +kernel
theorem dX8_runner_23 : decode cX8_runner 23 = .ok (.ireturn, 1) := by decide +kernel
theorem dX8_runner_24 : decode cX8_runner 24 = .ok (.aload_n 0, 1) := by decide +kernel
theorem dX8_runner_25 : decode cX8_runner 25 = .ok (.getfield 10, 3) := by decide +kernel
theorem dX8_runner_28 : decode cX8_runner 28 = .ok (.iload_n 1, 1) := by decide +kernel
theorem dX8_runner_29 : decode cX8_runner 29 = .ok (.iload_n 2, 1) := by decide +kernel
theorem dX8_runner_30 : decode cX8_runner 30 = .ok (.invokevirtual 55, 3) := by decide +kernel
theorem dX8_runner_33 : decode cX8_runner 33 = .ok (.ireturn, 1) := by decide +kernel
theorem dX8_shape_0 : decode cX8_shape 0 = .ok (.aload_n 0, 1) := by decide +kernel
theorem dX8_shape_1 : decode cX8_shape 1 = .ok (.getfield 10, 3) := by decide +kernel
theorem dX8_shape_4 : decode cX8_shape 4 = .ok (.iload_n 1, 1) := by decide +kernel
theorem dX8_shape_5 : decode cX8_shape 5 = .ok (.invokevirtual 59, 3) := by decide +kernel
theorem dX8_shape_8 : decode cX8_shape 8 = .ok (.ifCond .eq 10, 3) := by decide +kernel
theorem dX8_shape_11 : decode cX8_shape 11 = .ok (.iload_n 2, 1) := by decide +kernel
theorem dX8_shape_12 : decode cX8_shape 12 = .ok (.invokestatic 63, 3) := by decide +kernel
theorem dX8_shape_15 : decode cX8_shape 15 = .ok (.ifCond .ne 5, 3) := by decide +kernel
theorem dX8_shape_18 : decode cX8_shape 18 = .ok (.iconst (-1), 1) := by decide +kernel
theorem dX8_shape_19 : decode cX8_shape 19 = .ok (.ireturn, 1) := by decide +kernel
theorem dX8_shape_20 : decode cX8_shape 20 = .ok (.iload_n 3, 1) := by decide +kernel
theorem dX8_shape_21 : decode cX8_shape 21 = .ok (.iconst 0, 1) := by decide +kernel
theorem dX8_shape_22 : decode cX8_shape 22 = .ok (.iconst 1, 1) := by decide +kernel
theorem dX8_shape_23 : decode cX8_shape 23 = .ok (.invokestatic 51, 3) := by decide +kernel
theorem dX8_shape_26 : decode cX8_shape 26 = .ok (.ifCond .eq 27, 3) := by decide +kernel
theorem dX8_shape_29 : decode cX8_shape 29 = .ok (.iload 4, 2) := by decide +kernel
theorem dX8_shape_31 : decode cX8_shape 31 = .ok (.bipush (-9), 2) := by decide +kernel
theorem dX8_shape_33 : decode cX8_shape 33 = .ok (.bipush 9, 2) := by decide +kernel
theorem dX8_shape_35 : decode cX8_shape 35 = .ok (.invokestatic 51, 3) := by decide +kernel
theorem dX8_shape_38 : decode cX8_shape 38 = .ok (.ifCond .eq 15, 3) := by decide +kernel
theorem dX8_shape_41 : decode cX8_shape 41 = .ok (.iload 5, 2) := by decide +kernel
theorem dX8_shape_43 : decode cX8_shape 43 = .ok (.bipush (-9), 2) := by decide +kernel
theorem dX8_shape_45 : decode cX8_shape 45 = .ok (.bipush 9, 2) := by decide +kernel
theorem dX8_shape_47 : decode cX8_shape 47 = .ok (.invokestatic 51, 3) := by decide +kernel
theorem dX8_shape_50 : decode cX8_shape 50 = .ok (.ifCond .ne 6, 3) := by decide +kernel
theorem dX8_shape_53 : decode cX8_shape 53 = .ok (.bipush (-2), 2) := by decide +kernel
theorem dX8_shape_55 : decode cX8_shape 55 = .ok (.ireturn, 1) := by decide +kernel
theorem dX8_shape_56 : decode cX8_shape 56 = .ok (.aload_n 0, 1) := by decide +kernel
theorem dX8_shape_57 : decode cX8_shape 57 = .ok (.getfield 10, 3) := by decide +kernel
theorem dX8_shape_60 : decode cX8_shape 60 = .ok (.getfield 66, 3) := by decide +kernel
theorem dX8_shape_63 : decode cX8_shape 63 = .ok (.iload_n 1, 1) := by decide +kernel
theorem dX8_shape_64 : decode cX8_shape 64 = .ok (.aaload, 1) := by decide +kernel
theorem dX8_shape_65 : decode cX8_shape 65 = .ok (.iload_n 3, 1) := by decide +kernel
theorem dX8_shape_66 : decode cX8_shape 66 = .ok (.iload_n 2, 1) := by decide +kernel
theorem dX8_shape_67 : decode cX8_shape 67 = .ok (.iload 4, 2) := by decide +kernel
theorem dX8_shape_69 : decode cX8_shape 69 = .ok (.iload 5, 2) := by decide +kernel
theorem dX8_shape_71 : decode cX8_shape 71 = .ok (.invokevirtual 70, 3) := by decide +kernel
theorem dX8_shape_74 : decode cX8_shape 74 = .ok (.iconst 1, 1) := by decide +kernel
theorem dX8_shape_75 : decode cX8_shape 75 = .ok (.ireturn, 1) := by decide +kernel
theorem dX8_set_0 : decode cX8_set 0 = .ok (.iload_n 1, 1) := by decide +kernel
theorem dX8_set_1 : decode cX8_set 1 = .ok (.iconst 0, 1) := by decide +kernel
theorem dX8_set_2 : decode cX8_set 2 = .ok (.iconst 3, 1) := by decide +kernel
theorem dX8_set_3 : decode cX8_set 3 = .ok (.invokestatic 51, 3) := by decide +kernel
theorem dX8_set_6 : decode cX8_set 6 = .ok (.ifCond .eq 20, 3) := by decide +kernel
theorem dX8_set_9 : decode cX8_set 9 = .ok (.iload_n 2, 1) := by decide +kernel
theorem dX8_set_10 : decode cX8_set 10 = .ok (.getstatic 76, 3) := by decide +kernel
theorem dX8_set_13 : decode cX8_set 13 = .ok (.iload_n 1, 1) := by decide +kernel
theorem dX8_set_14 : decode cX8_set 14 = .ok (.iaload, 1) := by decide +kernel
theorem dX8_set_15 : decode cX8_set 15 = .ok (.getstatic 80, 3) := by decide +kernel
theorem dX8_set_18 : decode cX8_set 18 = .ok (.iload_n 1, 1) := by decide +kernel
theorem dX8_set_19 : decode cX8_set 19 = .ok (.iaload, 1) := by decide +kernel
theorem dX8_set_20 : decode cX8_set 20 = .ok (.invokestatic 51, 3) := by decide +kernel
theorem dX8_set_23 : decode cX8_set 23 = .ok (.ifCond .ne 6, 3) := by decide +kernel
theorem dX8_set_26 : decode cX8_set 26 = .ok (.bipush (-2), 2) := by decide +kernel
theorem dX8_set_28 : decode cX8_set 28 = .ok (.ireturn, 1) := by decide +kernel
theorem dX8_set_29 : decode cX8_set 29 = .ok (.aload_n 0, 1) := by decide +kernel
theorem dX8_set_30 : decode cX8_set 30 = .ok (.getfield 10, 3) := by decide +kernel
theorem dX8_set_33 : decode cX8_set 33 = .ok (.getfield 83, 3) := by decide +kernel
theorem dX8_set_36 : decode cX8_set 36 = .ok (.iload_n 1, 1) := by decide +kernel
theorem dX8_set_37 : decode cX8_set 37 = .ok (.iaload, 1) := by decide +kernel
theorem dX8_set_38 : decode cX8_set 38 = .ok (.istore_n 3, 1) := by decide +kernel
theorem dX8_set_39 : decode cX8_set 39 = .ok (.aload_n 0, 1) := by decide +kernel
theorem dX8_set_40 : decode cX8_set 40 = .ok (.getfield 10, 3) := by decide +kernel
theorem dX8_set_43 : decode cX8_set 43 = .ok (.getfield 83, 3) := by decide +kernel
theorem dX8_set_46 : decode cX8_set 46 = .ok (.iload_n 1, 1) := by decide +kernel
theorem dX8_set_47 : decode cX8_set 47 = .ok (.iload_n 2, 1) := by decide +kernel
theorem dX8_set_48 : decode cX8_set 48 = .ok (.iastore, 1) := by decide +kernel
theorem dX8_set_49 : decode cX8_set 49 = .ok (.iload_n 3, 1) := by decide +kernel
theorem dX8_set_50 : decode cX8_set 50 = .ok (.ireturn, 1) := by decide +kernel
theorem dX8_shows_0 : decode cX8_shows 0 = .ok (.iload_n 3, 1) := by decide +kernel
theorem dX8_shows_1 : decode cX8_shows 1 = .ok (.invokestatic 63, 3) := by decide +kernel
theorem dX8_shows_4 : decode cX8_shows 4 = .ok (.ifCond .ne 5, 3) := by decide +kernel
theorem dX8_shows_7 : decode cX8_shows 7 = .ok (.iconst (-1), 1) := by decide +kernel
theorem dX8_shows_8 : decode cX8_shows 8 = .ok (.ireturn, 1) := by decide +kernel
theorem dX8_shows_9 : decode cX8_shows 9 = .ok (.iload_n 1, 1) := by decide +kernel
theorem dX8_shows_10 : decode cX8_shows 10 = .ok (.invokestatic 86, 3) := by decide +kernel
theorem dX8_shows_13 : decode cX8_shows 13 = .ok (.ifCond .eq 14, 3) := by decide +kernel
theorem dX8_shows_16 : decode cX8_shows 16 = .ok (.iload_n 2, 1) := by decide +kernel
theorem dX8_shows_17 : decode cX8_shows 17 = .ok (.iconst 0, 1) := by decide +kernel
theorem dX8_shows_18 : decode cX8_shows 18 = .ok (.sipush 299, 3) := by decide +kernel
theorem dX8_shows_21 : decode cX8_shows 21 = .ok (.invokestatic 51, 3) := by decide +kernel
theorem dX8_shows_24 : decode cX8_shows 24 = .ok (.ifCond .ne 6, 3) := by decide +kernel
theorem dX8_shows_27 : decode cX8_shows 27 = .ok (.bipush (-2), 2) := by decide +kernel
theorem dX8_shows_29 : decode cX8_shows 29 = .ok (.ireturn, 1) := by decide +kernel
theorem dX8_shows_30 : decode cX8_shows 30 = .ok (.aload_n 0, 1) := by decide +kernel
theorem dX8_shows_31 : decode cX8_shows 31 = .ok (.getfield 10, 3) := by decide +kernel
theorem dX8_shows_34 : decode cX8_shows 34 = .ok (.iload_n 1, 1) := by decide +kernel
theorem dX8_shows_35 : decode cX8_shows 35 = .ok (.iload_n 2, 1) := by decide +kernel
theorem dX8_shows_36 : decode cX8_shows 36 = .ok (.iload_n 3, 1) := by decide +kernel
theorem dX8_shows_37 : decode cX8_shows 37 = .ok (.invokevirtual 89, 3) := by decide +kernel
theorem dX8_shows_40 : decode cX8_shows 40 = .ok (.ireturn, 1) := by decide +kernel
theorem dX8_of_0 : decode cX8_of 0 = .ok (.aload_n 0, 1) := by decide +kernel
theorem dX8_of_1 : decode cX8_of 1 = .ok (.getfield 10, 3) := by decide +kernel
theorem dX8_of_4 : decode cX8_of 4 = .ok (.iload_n 1, 1) := by decide +kernel
theorem dX8_of_5 : decode cX8_of 5 = .ok (.invokevirtual 59, 3) := by decide +kernel
theorem dX8_of_8 : decode cX8_of 8 = .ok (.ifCond .ne 5, 3) := by decide +kernel
theorem dX8_of_11 : decode cX8_of 11 = .ok (.iconst (-1), 1) := by decide +kernel
theorem dX8_of_12 : decode cX8_of 12 = .ok (.ireturn, 1) := by decide +kernel
theorem dX8_of_13 : decode cX8_of 13 = .ok (.iload_n 2, 1) := by decide +kernel
theorem dX8_of_14 : decode cX8_of 14 = .ok (.tableswitch 135 0 7 #[46, 46, 59, 71, 88, 100, 117, 126], 46) := by decide +kernel
theorem dX8_of_60 : decode cX8_of 60 = .ok (.aload_n 0, 1) := by decide +kernel
theorem dX8_of_61 : decode cX8_of 61 = .ok (.getfield 10, 3) := by decide +kernel
theorem dX8_of_64 : decode cX8_of 64 = .ok (.iload_n 2, 1) := by decide +kernel
theorem dX8_of_65 : decode cX8_of 65 = .ok (.iload_n 1, 1) := by decide +kernel
theorem dX8_of_66 : decode cX8_of 66 = .ok (.invokevirtual 93, 3) := by decide +kernel
theorem dX8_of_69 : decode cX8_of 69 = .ok (.invokestatic 96, 3) := by decide +kernel
theorem dX8_of_72 : decode cX8_of 72 = .ok (.ireturn, 1) := by decide +kernel
theorem dX8_of_73 : decode cX8_of 73 = .ok (.aload_n 0, 1) := by decide +kernel
theorem dX8_of_74 : decode cX8_of 74 = .ok (.getfield 10, 3) := by decide +kernel
theorem dX8_of_77 : decode cX8_of 77 = .ok (.iload_n 1, 1) := by decide +kernel
theorem dX8_of_78 : decode cX8_of 78 = .ok (.invokevirtual 100, 3) := by decide +kernel
theorem dX8_of_81 : decode cX8_of 81 = .ok (.invokestatic 96, 3) := by decide +kernel
theorem dX8_of_84 : decode cX8_of 84 = .ok (.ireturn, 1) := by decide +kernel
theorem dX8_of_85 : decode cX8_of 85 = .ok (.aload_n 0, 1) := by decide +kernel
theorem dX8_of_86 : decode cX8_of 86 = .ok (.getfield 10, 3) := by decide +kernel
theorem dX8_of_89 : decode cX8_of 89 = .ok (.getfield 66, 3) := by decide +kernel
theorem dX8_of_92 : decode cX8_of 92 = .ok (.iload_n 1, 1) := by decide +kernel
theorem dX8_of_93 : decode cX8_of 93 = .ok (.aaload, 1) := by decide +kernel
theorem dX8_of_94 : decode cX8_of 94 = .ok (.iconst 0, 1) := by decide +kernel
theorem dX8_of_95 : decode cX8_of 95 = .ok (.invokevirtual 103, 3) := by decide +kernel
theorem dX8_of_98 : decode cX8_of 98 = .ok (.invokestatic 96, 3) := by decide +kernel
theorem dX8_of_101 : decode cX8_of 101 = .ok (.ireturn, 1) := by decide +kernel
theorem dX8_of_102 : decode cX8_of 102 = .ok (.aload_n 0, 1) := by decide +kernel
theorem dX8_of_103 : decode cX8_of 103 = .ok (.getfield 10, 3) := by decide +kernel
theorem dX8_of_106 : decode cX8_of 106 = .ok (.iload_n 1, 1) := by decide +kernel
theorem dX8_of_107 : decode cX8_of 107 = .ok (.invokevirtual 106, 3) := by decide +kernel
theorem dX8_of_110 : decode cX8_of 110 = .ok (.invokestatic 96, 3) := by decide +kernel
theorem dX8_of_113 : decode cX8_of 113 = .ok (.ireturn, 1) := by decide +kernel
theorem dX8_of_114 : decode cX8_of 114 = .ok (.aload_n 0, 1) := by decide +kernel
theorem dX8_of_115 : decode cX8_of 115 = .ok (.getfield 10, 3) := by decide +kernel
theorem dX8_of_118 : decode cX8_of 118 = .ok (.iload_n 1, 1) := by decide +kernel
theorem dX8_of_119 : decode cX8_of 119 = .ok (.invokevirtual 109, 3) := by decide +kernel
theorem dX8_of_122 : decode cX8_of 122 = .ok (.ifCond .eq 7, 3) := by decide +kernel
theorem dX8_of_125 : decode cX8_of 125 = .ok (.iconst 1, 1) := by decide +kernel
theorem dX8_of_126 : decode cX8_of 126 = .ok (.goto 4, 3) := by decide +kernel
theorem dX8_of_129 : decode cX8_of 129 = .ok (.iconst 0, 1) := by decide +kernel
theorem dX8_of_130 : decode cX8_of 130 = .ok (.ireturn, 1) := by decide +kernel
theorem dX8_of_131 : decode cX8_of 131 = .ok (.aload_n 0, 1) := by decide +kernel
theorem dX8_of_132 : decode cX8_of 132 = .ok (.getfield 10, 3) := by decide +kernel
theorem dX8_of_135 : decode cX8_of 135 = .ok (.iload_n 1, 1) := by decide +kernel
theorem dX8_of_136 : decode cX8_of 136 = .ok (.invokevirtual 112, 3) := by decide +kernel
theorem dX8_of_139 : decode cX8_of 139 = .ok (.ireturn, 1) := by decide +kernel
theorem dX8_of_140 : decode cX8_of 140 = .ok (.aload_n 0, 1) := by decide +kernel
theorem dX8_of_141 : decode cX8_of 141 = .ok (.getfield 10, 3) := by decide +kernel
theorem dX8_of_144 : decode cX8_of 144 = .ok (.iload_n 1, 1) := by decide +kernel
theorem dX8_of_145 : decode cX8_of 145 = .ok (.invokevirtual 115, 3) := by decide +kernel
theorem dX8_of_148 : decode cX8_of 148 = .ok (.ireturn, 1) := by decide +kernel
theorem dX8_of_149 : decode cX8_of 149 = .ok (.bipush (-2), 2) := by decide +kernel
theorem dX8_of_151 : decode cX8_of 151 = .ok (.ireturn, 1) := by decide +kernel
theorem dX8_moved_0 : decode cX8_moved 0 = .ok (.iconst 0, 1) := by decide +kernel
theorem dX8_moved_1 : decode cX8_moved 1 = .ok (.istore_n 2, 1) := by decide +kernel
theorem dX8_moved_2 : decode cX8_moved 2 = .ok (.iconst 0, 1) := by decide +kernel
theorem dX8_moved_3 : decode cX8_moved 3 = .ok (.istore_n 3, 1) := by decide +kernel
theorem dX8_moved_4 : decode cX8_moved 4 = .ok (.iload_n 3, 1) := by decide +kernel
theorem dX8_moved_5 : decode cX8_moved 5 = .ok (.aload_n 0, 1) := by decide +kernel
theorem dX8_moved_6 : decode cX8_moved 6 = .ok (.getfield 10, 3) := by decide +kernel
theorem dX8_moved_9 : decode cX8_moved 9 = .ok (.getfield 118, 3) := by decide +kernel
theorem dX8_moved_12 : decode cX8_moved 12 = .ok (.if_icmp .ge 61, 3) := by decide +kernel
theorem dX8_moved_15 : decode cX8_moved 15 = .ok (.iload_n 3, 1) := by decide +kernel
theorem dX8_moved_16 : decode cX8_moved 16 = .ok (.iconst 1, 1) := by decide +kernel
theorem dX8_moved_17 : decode cX8_moved 17 = .ok (.iadd, 1) := by decide +kernel
theorem dX8_moved_18 : decode cX8_moved 18 = .ok (.istore 4, 2) := by decide +kernel
theorem dX8_moved_20 : decode cX8_moved 20 = .ok (.iload 4, 2) := by decide +kernel
theorem dX8_moved_22 : decode cX8_moved 22 = .ok (.aload_n 0, 1) := by decide +kernel
theorem dX8_moved_23 : decode cX8_moved 23 = .ok (.getfield 10, 3) := by decide +kernel
theorem dX8_moved_26 : decode cX8_moved 26 = .ok (.getfield 118, 3) := by decide +kernel
theorem dX8_moved_29 : decode cX8_moved 29 = .ok (.if_icmp .ge 38, 3) := by decide +kernel
theorem dX8_moved_32 : decode cX8_moved 32 = .ok (.aload_n 0, 1) := by decide +kernel
theorem dX8_moved_33 : decode cX8_moved 33 = .ok (.getfield 10, 3) := by decide +kernel
theorem dX8_moved_36 : decode cX8_moved 36 = .ok (.iload_n 3, 1) := by decide +kernel
theorem dX8_moved_37 : decode cX8_moved 37 = .ok (.iload 4, 2) := by decide +kernel
theorem dX8_moved_39 : decode cX8_moved 39 = .ok (.invokevirtual 122, 3) := by decide +kernel
theorem dX8_moved_42 : decode cX8_moved 42 = .ok (.ifCond .eq 19, 3) := by decide +kernel
theorem dX8_moved_45 : decode cX8_moved 45 = .ok (.iload_n 2, 1) := by decide +kernel
theorem dX8_moved_46 : decode cX8_moved 46 = .ok (.iload_n 1, 1) := by decide +kernel
theorem dX8_moved_47 : decode cX8_moved 47 = .ok (.if_icmp .ne 11, 3) := by decide +kernel
theorem dX8_moved_50 : decode cX8_moved 50 = .ok (.bipush 10, 2) := by decide +kernel
theorem dX8_moved_52 : decode cX8_moved 52 = .ok (.iload_n 3, 1) := by decide +kernel
theorem dX8_moved_53 : decode cX8_moved 53 = .ok (.imul, 1) := by decide +kernel
theorem dX8_moved_54 : decode cX8_moved 54 = .ok (.iload 4, 2) := by decide +kernel
theorem dX8_moved_56 : decode cX8_moved 56 = .ok (.iadd, 1) := by decide +kernel
theorem dX8_moved_57 : decode cX8_moved 57 = .ok (.ireturn, 1) := by decide +kernel
theorem dX8_moved_58 : decode cX8_moved 58 = .ok (.iinc 2 1, 3) := by decide +kernel
theorem dX8_moved_61 : decode cX8_moved 61 = .ok (.iinc 4 1, 3) := by decide +kernel
theorem dX8_moved_64 : decode cX8_moved 64 = .ok (.goto (-44), 3) := by decide +kernel
theorem dX8_moved_67 : decode cX8_moved 67 = .ok (.iinc 3 1, 3) := by decide +kernel
theorem dX8_moved_70 : decode cX8_moved 70 = .ok (.goto (-66), 3) := by decide +kernel
theorem dX8_moved_73 : decode cX8_moved 73 = .ok (.iload_n 1, 1) := by decide +kernel
theorem dX8_moved_74 : decode cX8_moved 74 = .ok (.iconst (-1), 1) := by decide +kernel
theorem dX8_moved_75 : decode cX8_moved 75 = .ok (.if_icmp .ne 7, 3) := by decide +kernel
theorem dX8_moved_78 : decode cX8_moved 78 = .ok (.iload_n 2, 1) := by decide +kernel
theorem dX8_moved_79 : decode cX8_moved 79 = .ok (.goto 5, 3) := by decide +kernel
theorem dX8_moved_82 : decode cX8_moved 82 = .ok (.bipush (-6), 2) := by decide +kernel
theorem dX8_moved_84 : decode cX8_moved 84 = .ok (.ireturn, 1) := by decide +kernel
theorem dX8_order_0 : decode cX8_order 0 = .ok (.aload_n 0, 1) := by decide +kernel
theorem dX8_order_1 : decode cX8_order 1 = .ok (.iconst 0, 1) := by decide +kernel
theorem dX8_order_2 : decode cX8_order 2 = .ok (.invokevirtual 126, 3) := by decide +kernel
theorem dX8_order_5 : decode cX8_order 5 = .ok (.iload_n 1, 1) := by decide +kernel
theorem dX8_order_6 : decode cX8_order 6 = .ok (.iconst (-1), 1) := by decide +kernel
theorem dX8_order_7 : decode cX8_order 7 = .ok (.if_icmp .ne 13, 3) := by decide +kernel
theorem dX8_order_10 : decode cX8_order 10 = .ok (.aload_n 0, 1) := by decide +kernel
theorem dX8_order_11 : decode cX8_order 11 = .ok (.getfield 19, 3) := by decide +kernel
theorem dX8_order_14 : decode cX8_order 14 = .ok (.getfield 130, 3) := by decide +kernel
theorem dX8_order_17 : decode cX8_order 17 = .ok (.goto 11, 3) := by decide +kernel
theorem dX8_order_20 : decode cX8_order 20 = .ok (.aload_n 0, 1) := by decide +kernel
theorem dX8_order_21 : decode cX8_order 21 = .ok (.getfield 19, 3) := by decide +kernel
theorem dX8_order_24 : decode cX8_order 24 = .ok (.iload_n 1, 1) := by decide +kernel
theorem dX8_order_25 : decode cX8_order 25 = .ok (.invokevirtual 133, 3) := by decide +kernel
theorem dX8_order_28 : decode cX8_order 28 = .ok (.ireturn, 1) := by decide +kernel
theorem dX8_place_0 : decode cX8_place 0 = .ok (.aload_n 0, 1) := by decide +kernel
theorem dX8_place_1 : decode cX8_place 1 = .ok (.getfield 10, 3) := by decide +kernel
theorem dX8_place_4 : decode cX8_place 4 = .ok (.iload_n 1, 1) := by decide +kernel
theorem dX8_place_5 : decode cX8_place 5 = .ok (.invokevirtual 59, 3) := by decide +kernel
theorem dX8_place_8 : decode cX8_place 8 = .ok (.ifCond .ne 5, 3) := by decide +kernel
theorem dX8_place_11 : decode cX8_place 11 = .ok (.iconst (-1), 1) := by decide +kernel
theorem dX8_place_12 : decode cX8_place 12 = .ok (.ireturn, 1) := by decide +kernel
theorem dX8_place_13 : decode cX8_place 13 = .ok (.iload_n 2, 1) := by decide +kernel
theorem dX8_place_14 : decode cX8_place 14 = .ok (.invokestatic 86, 3) := by decide +kernel
theorem dX8_place_17 : decode cX8_place 17 = .ok (.ifCond .ne 6, 3) := by decide +kernel
theorem dX8_place_20 : decode cX8_place 20 = .ok (.bipush (-2), 2) := by decide +kernel
theorem dX8_place_22 : decode cX8_place 22 = .ok (.ireturn, 1) := by decide +kernel
theorem dX8_place_23 : decode cX8_place 23 = .ok (.aload_n 0, 1) := by decide +kernel
theorem dX8_place_24 : decode cX8_place 24 = .ok (.iconst 0, 1) := by decide +kernel
theorem dX8_place_25 : decode cX8_place 25 = .ok (.invokevirtual 126, 3) := by decide +kernel
theorem dX8_place_28 : decode cX8_place 28 = .ok (.aload_n 0, 1) := by decide +kernel
theorem dX8_place_29 : decode cX8_place 29 = .ok (.getfield 19, 3) := by decide +kernel
theorem dX8_place_32 : decode cX8_place 32 = .ok (.iload_n 1, 1) := by decide +kernel
theorem dX8_place_33 : decode cX8_place 33 = .ok (.iload_n 2, 1) := by decide +kernel
theorem dX8_place_34 : decode cX8_place 34 = .ok (.aload_n 0, 1) := by decide +kernel
theorem dX8_place_35 : decode cX8_place 35 = .ok (.getfield 10, 3) := by decide +kernel
theorem dX8_place_38 : decode cX8_place 38 = .ok (.getfield 83, 3) := by decide +kernel
theorem dX8_place_41 : decode cX8_place 41 = .ok (.iconst 1, 1) := by decide +kernel
theorem dX8_place_42 : decode cX8_place 42 = .ok (.iaload, 1) := by decide +kernel
theorem dX8_place_43 : decode cX8_place 43 = .ok (.invokevirtual 136, 3) := by decide +kernel
theorem dX8_place_46 : decode cX8_place 46 = .ok (.ireturn, 1) := by decide +kernel
theorem dX8_stretch_0 : decode cX8_stretch 0 = .ok (.aload_n 0, 1) := by decide +kernel
theorem dX8_stretch_1 : decode cX8_stretch 1 = .ok (.getfield 10, 3) := by decide +kernel
theorem dX8_stretch_4 : decode cX8_stretch 4 = .ok (.iload_n 1, 1) := by decide +kernel
theorem dX8_stretch_5 : decode cX8_stretch 5 = .ok (.invokevirtual 59, 3) := by decide +kernel
theorem dX8_stretch_8 : decode cX8_stretch 8 = .ok (.ifCond .eq 10, 3) := by decide +kernel
theorem dX8_stretch_11 : decode cX8_stretch 11 = .ok (.iload_n 2, 1) := by decide +kernel
theorem dX8_stretch_12 : decode cX8_stretch 12 = .ok (.invokestatic 63, 3) := by decide +kernel
theorem dX8_stretch_15 : decode cX8_stretch 15 = .ok (.ifCond .ne 5, 3) := by decide +kernel
theorem dX8_stretch_18 : decode cX8_stretch 18 = .ok (.iconst (-1), 1) := by decide +kernel
theorem dX8_stretch_19 : decode cX8_stretch 19 = .ok (.ireturn, 1) := by decide +kernel
theorem dX8_stretch_20 : decode cX8_stretch 20 = .ok (.aload_n 0, 1) := by decide +kernel
theorem dX8_stretch_21 : decode cX8_stretch 21 = .ok (.getfield 10, 3) := by decide +kernel
theorem dX8_stretch_24 : decode cX8_stretch 24 = .ok (.getfield 66, 3) := by decide +kernel
theorem dX8_stretch_27 : decode cX8_stretch 27 = .ok (.iload_n 1, 1) := by decide +kernel
theorem dX8_stretch_28 : decode cX8_stretch 28 = .ok (.aaload, 1) := by decide +kernel
theorem dX8_stretch_29 : decode cX8_stretch 29 = .ok (.iconst 1, 1) := by decide +kernel
theorem dX8_stretch_30 : decode cX8_stretch 30 = .ok (.iload_n 2, 1) := by decide +kernel
theorem dX8_stretch_31 : decode cX8_stretch 31 = .ok (.aload_n 0, 1) := by decide +kernel
theorem dX8_stretch_32 : decode cX8_stretch 32 = .ok (.getfield 10, 3) := by decide +kernel
theorem dX8_stretch_35 : decode cX8_stretch 35 = .ok (.iload_n 2, 1) := by decide +kernel
theorem dX8_stretch_36 : decode cX8_stretch 36 = .ok (.invokevirtual 139, 3) := by decide +kernel
theorem dX8_stretch_39 : decode cX8_stretch 39 = .ok (.invokevirtual 142, 3) := by decide +kernel
theorem dX8_stretch_42 : decode cX8_stretch 42 = .ok (.ireturn, 1) := by decide +kernel
theorem dX8_speeds_0 : decode cX8_speeds 0 = .ok (.iload_n 1, 1) := by decide +kernel
theorem dX8_speeds_1 : decode cX8_speeds 1 = .ok (.iconst 1, 1) := by decide +kernel
theorem dX8_speeds_2 : decode cX8_speeds 2 = .ok (.bipush 19, 2) := by decide +kernel
theorem dX8_speeds_4 : decode cX8_speeds 4 = .ok (.invokestatic 51, 3) := by decide +kernel
theorem dX8_speeds_7 : decode cX8_speeds 7 = .ok (.ifCond .eq 20, 3) := by decide +kernel
theorem dX8_speeds_10 : decode cX8_speeds 10 = .ok (.iload_n 2, 1) := by decide +kernel
theorem dX8_speeds_11 : decode cX8_speeds 11 = .ok (.iconst 0, 1) := by decide +kernel
theorem dX8_speeds_12 : decode cX8_speeds 12 = .ok (.bipush 30, 2) := by decide +kernel
theorem dX8_speeds_14 : decode cX8_speeds 14 = .ok (.invokestatic 51, 3) := by decide +kernel
theorem dX8_speeds_17 : decode cX8_speeds 17 = .ok (.ifCond .eq 10, 3) := by decide +kernel
theorem dX8_speeds_20 : decode cX8_speeds 20 = .ok (.iload_n 3, 1) := by decide +kernel
theorem dX8_speeds_21 : decode cX8_speeds 21 = .ok (.invokestatic 86, 3) := by decide +kernel
theorem dX8_speeds_24 : decode cX8_speeds 24 = .ok (.ifCond .ne 6, 3) := by decide +kernel
theorem dX8_speeds_27 : decode cX8_speeds 27 = .ok (.bipush (-2), 2) := by decide +kernel
theorem dX8_speeds_29 : decode cX8_speeds 29 = .ok (.ireturn, 1) := by decide +kernel
theorem dX8_speeds_30 : decode cX8_speeds 30 = .ok (.bipush (-6), 2) := by decide +kernel
theorem dX8_speeds_32 : decode cX8_speeds 32 = .ok (.istore 4, 2) := by decide +kernel
theorem dX8_speeds_34 : decode cX8_speeds 34 = .ok (.iconst 1, 1) := by decide +kernel
theorem dX8_speeds_35 : decode cX8_speeds 35 = .ok (.istore 5, 2) := by decide +kernel
theorem dX8_speeds_37 : decode cX8_speeds 37 = .ok (.iload 5, 2) := by decide +kernel
theorem dX8_speeds_39 : decode cX8_speeds 39 = .ok (.bipush 20, 2) := by decide +kernel
theorem dX8_speeds_41 : decode cX8_speeds 41 = .ok (.if_icmp .gt 30, 3) := by decide +kernel
theorem dX8_speeds_44 : decode cX8_speeds 44 = .ok (.iload_n 1, 1) := by decide +kernel
theorem dX8_speeds_45 : decode cX8_speeds 45 = .ok (.iload_n 2, 1) := by decide +kernel
theorem dX8_speeds_46 : decode cX8_speeds 46 = .ok (.iload 5, 2) := by decide +kernel
theorem dX8_speeds_48 : decode cX8_speeds 48 = .ok (.invokestatic 145, 3) := by decide +kernel
theorem dX8_speeds_51 : decode cX8_speeds 51 = .ok (.ifCond .eq 14, 3) := by decide +kernel
theorem dX8_speeds_54 : decode cX8_speeds 54 = .ok (.iload_n 3, 1) := by decide +kernel
theorem dX8_speeds_55 : decode cX8_speeds 55 = .ok (.ifCond .ne 6, 3) := by decide +kernel
theorem dX8_speeds_58 : decode cX8_speeds 58 = .ok (.iload 5, 2) := by decide +kernel
theorem dX8_speeds_60 : decode cX8_speeds 60 = .ok (.ireturn, 1) := by decide +kernel
theorem dX8_speeds_61 : decode cX8_speeds 61 = .ok (.iload 5, 2) := by decide +kernel
theorem dX8_speeds_63 : decode cX8_speeds 63 = .ok (.istore 4, 2) := by decide +kernel
theorem dX8_speeds_65 : decode cX8_speeds 65 = .ok (.iinc 5 1, 3) := by decide +kernel
theorem dX8_speeds_68 : decode cX8_speeds 68 = .ok (.goto (-31), 3) := by decide +kernel
theorem dX8_speeds_71 : decode cX8_speeds 71 = .ok (.iload 4, 2) := by decide +kernel
theorem dX8_speeds_73 : decode cX8_speeds 73 = .ok (.ireturn, 1) := by decide +kernel
theorem dX8_push_0 : decode cX8_push 0 = .ok (.aload_n 0, 1) := by decide +kernel
theorem dX8_push_1 : decode cX8_push 1 = .ok (.getfield 10, 3) := by decide +kernel
theorem dX8_push_4 : decode cX8_push 4 = .ok (.iload_n 1, 1) := by decide +kernel
theorem dX8_push_5 : decode cX8_push 5 = .ok (.invokevirtual 59, 3) := by decide +kernel
theorem dX8_push_8 : decode cX8_push 8 = .ok (.ifCond .ne 5, 3) := by decide +kernel
theorem dX8_push_11 : decode cX8_push 11 = .ok (.iconst (-1), 1) := by decide +kernel
theorem dX8_push_12 : decode cX8_push 12 = .ok (.ireturn, 1) := by decide +kernel
theorem dX8_push_13 : decode cX8_push 13 = .ok (.iload_n 2, 1) := by decide +kernel
theorem dX8_push_14 : decode cX8_push 14 = .ok (.iconst (-1), 1) := by decide +kernel
theorem dX8_push_15 : decode cX8_push 15 = .ok (.sipush 299, 3) := by decide +kernel
theorem dX8_push_18 : decode cX8_push 18 = .ok (.invokestatic 51, 3) := by decide +kernel
theorem dX8_push_21 : decode cX8_push 21 = .ok (.ifCond .ne 6, 3) := by decide +kernel
theorem dX8_push_24 : decode cX8_push 24 = .ok (.bipush (-2), 2) := by decide +kernel
theorem dX8_push_26 : decode cX8_push 26 = .ok (.ireturn, 1) := by decide +kernel
theorem dX8_push_27 : decode cX8_push 27 = .ok (.aload_n 0, 1) := by decide +kernel
theorem dX8_push_28 : decode cX8_push 28 = .ok (.getfield 10, 3) := by decide +kernel
theorem dX8_push_31 : decode cX8_push 31 = .ok (.getfield 66, 3) := by decide +kernel
theorem dX8_push_34 : decode cX8_push 34 = .ok (.iload_n 1, 1) := by decide +kernel
theorem dX8_push_35 : decode cX8_push 35 = .ok (.aaload, 1) := by decide +kernel
theorem dX8_push_36 : decode cX8_push 36 = .ok (.astore_n 3, 1) := by decide +kernel
theorem dX8_push_37 : decode cX8_push 37 = .ok (.aload_n 3, 1) := by decide +kernel
theorem dX8_push_38 : decode cX8_push 38 = .ok (.getfield 148, 3) := by decide +kernel
theorem dX8_push_41 : decode cX8_push 41 = .ok (.istore 4, 2) := by decide +kernel
theorem dX8_push_43 : decode cX8_push 43 = .ok (.aload_n 3, 1) := by decide +kernel
theorem dX8_push_44 : decode cX8_push 44 = .ok (.iload_n 2, 1) := by decide +kernel
theorem dX8_push_45 : decode cX8_push 45 = .ok (.iconst (-1), 1) := by decide +kernel
theorem dX8_push_46 : decode cX8_push 46 = .ok (.if_icmp .ne 8, 3) := by decide +kernel
theorem dX8_push_49 : decode cX8_push 49 = .ok (.bipush (-6), 2) := by decide +kernel
theorem dX8_push_51 : decode cX8_push 51 = .ok (.goto 4, 3) := by decide +kernel
theorem dX8_push_54 : decode cX8_push 54 = .ok (.iload_n 2, 1) := by decide +kernel
theorem dX8_push_55 : decode cX8_push 55 = .ok (.putfield 148, 3) := by decide +kernel
theorem dX8_push_58 : decode cX8_push 58 = .ok (.iload 4, 2) := by decide +kernel
theorem dX8_push_60 : decode cX8_push 60 = .ok (.ireturn, 1) := by decide +kernel
theorem dX8_mended_0 : decode cX8_mended 0 = .ok (.aload_n 0, 1) := by decide +kernel
theorem dX8_mended_1 : decode cX8_mended 1 = .ok (.iconst 1, 1) := by decide +kernel
theorem dX8_mended_2 : decode cX8_mended 2 = .ok (.invokevirtual 126, 3) := by decide +kernel
theorem dX8_mended_5 : decode cX8_mended 5 = .ok (.aload_n 0, 1) := by decide +kernel
theorem dX8_mended_6 : decode cX8_mended 6 = .ok (.getfield 19, 3) := by decide +kernel
theorem dX8_mended_9 : decode cX8_mended 9 = .ok (.iload_n 1, 1) := by decide +kernel
theorem dX8_mended_10 : decode cX8_mended 10 = .ok (.invokevirtual 133, 3) := by decide +kernel
theorem dX8_mended_13 : decode cX8_mended 13 = .ok (.ireturn, 1) := by decide +kernel
theorem dX8_wrong_0 : decode cX8_wrong 0 = .ok (.iload_n 1, 1) := by decide +kernel
theorem dX8_wrong_1 : decode cX8_wrong 1 = .ok (.iconst 0, 1) := by decide +kernel
theorem dX8_wrong_2 : decode cX8_wrong 2 = .ok (.sipush 200, 3) := by decide +kernel
theorem dX8_wrong_5 : decode cX8_wrong 5 = .ok (.invokestatic 51, 3) := by decide +kernel
theorem dX8_wrong_8 : decode cX8_wrong 8 = .ok (.ifCond .eq 14, 3) := by decide +kernel
theorem dX8_wrong_11 : decode cX8_wrong 11 = .ok (.iload_n 2, 1) := by decide +kernel
theorem dX8_wrong_12 : decode cX8_wrong 12 = .ok (.iload_n 1, 1) := by decide +kernel
theorem dX8_wrong_13 : decode cX8_wrong 13 = .ok (.sipush 200, 3) := by decide +kernel
theorem dX8_wrong_16 : decode cX8_wrong 16 = .ok (.invokestatic 51, 3) := by decide +kernel
theorem dX8_wrong_19 : decode cX8_wrong 19 = .ok (.ifCond .ne 7, 3) := by decide +kernel
theorem dX8_wrong_22 : decode cX8_wrong 22 = .ok (.ldc2_w 151, 3) := by decide +kernel
theorem dX8_wrong_25 : decode cX8_wrong 25 = .ok (.lreturn, 1) := by decide +kernel
theorem dX8_wrong_26 : decode cX8_wrong 26 = .ok (.iload_n 3, 1) := by decide +kernel
theorem dX8_wrong_27 : decode cX8_wrong 27 = .ok (.iconst 1, 1) := by decide +kernel
theorem dX8_wrong_28 : decode cX8_wrong 28 = .ok (.bipush 6, 2) := by decide +kernel
theorem dX8_wrong_30 : decode cX8_wrong 30 = .ok (.invokestatic 51, 3) := by decide +kernel
theorem dX8_wrong_33 : decode cX8_wrong 33 = .ok (.ifCond .eq 11, 3) := by decide +kernel
theorem dX8_wrong_36 : decode cX8_wrong 36 = .ok (.iload 4, 2) := by decide +kernel
theorem dX8_wrong_38 : decode cX8_wrong 38 = .ok (.invokestatic 86, 3) := by decide +kernel
theorem dX8_wrong_41 : decode cX8_wrong 41 = .ok (.ifCond .ne 7, 3) := by decide +kernel
theorem dX8_wrong_44 : decode cX8_wrong 44 = .ok (.ldc2_w 151, 3) := by decide +kernel
theorem dX8_wrong_47 : decode cX8_wrong 47 = .ok (.lreturn, 1) := by decide +kernel
theorem dX8_wrong_48 : decode cX8_wrong 48 = .ok (.iload_n 2, 1) := by decide +kernel
theorem dX8_wrong_49 : decode cX8_wrong 49 = .ok (.iload_n 1, 1) := by decide +kernel
theorem dX8_wrong_50 : decode cX8_wrong 50 = .ok (.isub, 1) := by decide +kernel
theorem dX8_wrong_51 : decode cX8_wrong 51 = .ok (.iconst 1, 1) := by decide +kernel
theorem dX8_wrong_52 : decode cX8_wrong 52 = .ok (.iadd, 1) := by decide +kernel
theorem dX8_wrong_53 : decode cX8_wrong 53 = .ok (.istore 5, 2) := by decide +kernel
theorem dX8_wrong_55 : decode cX8_wrong 55 = .ok (.iconst 0, 1) := by decide +kernel
theorem dX8_wrong_56 : decode cX8_wrong 56 = .ok (.iload_n 2, 1) := by decide +kernel
theorem dX8_wrong_57 : decode cX8_wrong 57 = .ok (.aload_n 0, 1) := by decide +kernel
theorem dX8_wrong_58 : decode cX8_wrong 58 = .ok (.getfield 10, 3) := by decide +kernel
theorem dX8_wrong_61 : decode cX8_wrong 61 = .ok (.getfield 83, 3) := by decide +kernel
theorem dX8_wrong_64 : decode cX8_wrong 64 = .ok (.iconst 2, 1) := by decide +kernel
theorem dX8_wrong_65 : decode cX8_wrong 65 = .ok (.iaload, 1) := by decide +kernel
theorem dX8_wrong_66 : decode cX8_wrong 66 = .ok (.iconst 1, 1) := by decide +kernel
theorem dX8_wrong_67 : decode cX8_wrong 67 = .ok (.isub, 1) := by decide +kernel
theorem dX8_wrong_68 : decode cX8_wrong 68 = .ok (.invokestatic 153, 3) := by decide +kernel
theorem dX8_wrong_71 : decode cX8_wrong 71 = .ok (.iload_n 1, 1) := by decide +kernel
theorem dX8_wrong_72 : decode cX8_wrong 72 = .ok (.isub, 1) := by decide +kernel
theorem dX8_wrong_73 : decode cX8_wrong 73 = .ok (.iconst 1, 1) := by decide +kernel
theorem dX8_wrong_74 : decode cX8_wrong 74 = .ok (.iadd, 1) := by decide +kernel
theorem dX8_wrong_75 : decode cX8_wrong 75 = .ok (.invokestatic 158, 3) := by decide +kernel
theorem dX8_wrong_78 : decode cX8_wrong 78 = .ok (.istore 6, 2) := by decide +kernel
theorem dX8_wrong_80 : decode cX8_wrong 80 = .ok (.iload 5, 2) := by decide +kernel
theorem dX8_wrong_82 : decode cX8_wrong 82 = .ok (.i2l, 1) := by decide +kernel
theorem dX8_wrong_83 : decode cX8_wrong 83 = .ok (.iload_n 3, 1) := by decide +kernel
theorem dX8_wrong_84 : decode cX8_wrong 84 = .ok (.invokestatic 161, 3) := by decide +kernel
theorem dX8_wrong_87 : decode cX8_wrong 87 = .ok (.lstore 7, 2) := by decide +kernel
theorem dX8_wrong_89 : decode cX8_wrong 89 = .ok (.lload 7, 2) := by decide +kernel
theorem dX8_wrong_91 : decode cX8_wrong 91 = .ok (.iload 5, 2) := by decide +kernel
theorem dX8_wrong_93 : decode cX8_wrong 93 = .ok (.iload 6, 2) := by decide +kernel
theorem dX8_wrong_95 : decode cX8_wrong 95 = .ok (.isub, 1) := by decide +kernel
theorem dX8_wrong_96 : decode cX8_wrong 96 = .ok (.i2l, 1) := by decide +kernel
theorem dX8_wrong_97 : decode cX8_wrong 97 = .ok (.iload_n 3, 1) := by decide +kernel
theorem dX8_wrong_98 : decode cX8_wrong 98 = .ok (.invokestatic 161, 3) := by decide +kernel
theorem dX8_wrong_101 : decode cX8_wrong 101 = .ok (.lsub, 1) := by decide +kernel
theorem dX8_wrong_102 : decode cX8_wrong 102 = .ok (.lstore 9, 2) := by decide +kernel
theorem dX8_wrong_104 : decode cX8_wrong 104 = .ok (.iload 4, 2) := by decide +kernel
theorem dX8_wrong_106 : decode cX8_wrong 106 = .ok (.ifCond .ne 8, 3) := by decide +kernel
theorem dX8_wrong_109 : decode cX8_wrong 109 = .ok (.lload 9, 2) := by decide +kernel
theorem dX8_wrong_111 : decode cX8_wrong 111 = .ok (.goto 5, 3) := by decide +kernel
theorem dX8_wrong_114 : decode cX8_wrong 114 = .ok (.lload 7, 2) := by decide +kernel
theorem dX8_wrong_116 : decode cX8_wrong 116 = .ok (.lstore 11, 2) := by decide +kernel
theorem dX8_wrong_118 : decode cX8_wrong 118 = .ok (.lload 9, 2) := by decide +kernel
theorem dX8_wrong_120 : decode cX8_wrong 120 = .ok (.lload 7, 2) := by decide +kernel
theorem dX8_wrong_122 : decode cX8_wrong 122 = .ok (.invokestatic 165, 3) := by decide +kernel
theorem dX8_wrong_125 : decode cX8_wrong 125 = .ok (.lstore 13, 2) := by decide +kernel
theorem dX8_wrong_127 : decode cX8_wrong 127 = .ok (.lload 13, 2) := by decide +kernel
theorem dX8_wrong_129 : decode cX8_wrong 129 = .ok (.lconst 1, 1) := by decide +kernel
theorem dX8_wrong_130 : decode cX8_wrong 130 = .ok (.lcmp, 1) := by decide +kernel
theorem dX8_wrong_131 : decode cX8_wrong 131 = .ok (.ifCond .ge 8, 3) := by decide +kernel
theorem dX8_wrong_134 : decode cX8_wrong 134 = .ok (.lload 11, 2) := by decide +kernel
theorem dX8_wrong_136 : decode cX8_wrong 136 = .ok (.goto 8, 3) := by decide +kernel
theorem dX8_wrong_139 : decode cX8_wrong 139 = .ok (.lload 11, 2) := by decide +kernel
theorem dX8_wrong_141 : decode cX8_wrong 141 = .ok (.lload 13, 2) := by decide +kernel
theorem dX8_wrong_143 : decode cX8_wrong 143 = .ok (.ldiv, 1) := by decide +kernel
theorem dX8_wrong_144 : decode cX8_wrong 144 = .ok (.lreturn, 1) := by decide +kernel
theorem dX8_known_0 : decode cX8_known 0 = .ok (.iload_n 1, 1) := by decide +kernel
theorem dX8_known_1 : decode cX8_known 1 = .ok (.invokestatic 169, 3) := by decide +kernel
theorem dX8_known_4 : decode cX8_known 4 = .ok (.ifCond .ne 5, 3) := by decide +kernel
theorem dX8_known_7 : decode cX8_known 7 = .ok (.iconst (-1), 1) := by decide +kernel
theorem dX8_known_8 : decode cX8_known 8 = .ok (.ireturn, 1) := by decide +kernel
theorem dX8_known_9 : decode cX8_known 9 = .ok (.iload_n 2, 1) := by decide +kernel
theorem dX8_known_10 : decode cX8_known 10 = .ok (.iconst 0, 1) := by decide +kernel
theorem dX8_known_11 : decode cX8_known 11 = .ok (.ldc 172, 2) := by decide +kernel
theorem dX8_known_13 : decode cX8_known 13 = .ok (.invokestatic 51, 3) := by decide +kernel
theorem dX8_known_16 : decode cX8_known 16 = .ok (.ifCond .eq 13, 3) := by decide +kernel
theorem dX8_known_19 : decode cX8_known 19 = .ok (.iload_n 3, 1) := by decide +kernel
theorem dX8_known_20 : decode cX8_known 20 = .ok (.iconst 0, 1) := by decide +kernel
theorem dX8_known_21 : decode cX8_known 21 = .ok (.ldc 172, 2) := by decide +kernel
theorem dX8_known_23 : decode cX8_known 23 = .ok (.invokestatic 51, 3) := by decide +kernel
theorem dX8_known_26 : decode cX8_known 26 = .ok (.ifCond .ne 6, 3) := by decide +kernel
theorem dX8_known_29 : decode cX8_known 29 = .ok (.bipush (-2), 2) := by decide +kernel
theorem dX8_known_31 : decode cX8_known 31 = .ok (.ireturn, 1) := by decide +kernel
theorem dX8_known_32 : decode cX8_known 32 = .ok (.iload_n 2, 1) := by decide +kernel
theorem dX8_known_33 : decode cX8_known 33 = .ok (.iload_n 3, 1) := by decide +kernel
theorem dX8_known_34 : decode cX8_known 34 = .ok (.isub, 1) := by decide +kernel
theorem dX8_known_35 : decode cX8_known 35 = .ok (.istore 4, 2) := by decide +kernel
theorem dX8_known_37 : decode cX8_known 37 = .ok (.aload_n 0, 1) := by decide +kernel
theorem dX8_known_38 : decode cX8_known 38 = .ok (.getfield 26, 3) := by decide +kernel
theorem dX8_known_41 : decode cX8_known 41 = .ok (.getfield 173, 3) := by decide +kernel
theorem dX8_known_44 : decode cX8_known 44 = .ok (.iload_n 1, 1) := by decide +kernel
theorem dX8_known_45 : decode cX8_known 45 = .ok (.aaload, 1) := by decide +kernel
theorem dX8_known_46 : decode cX8_known 46 = .ok (.iload 4, 2) := by decide +kernel
theorem dX8_known_48 : decode cX8_known 48 = .ok (.iconst 1, 1) := by decide +kernel
theorem dX8_known_49 : decode cX8_known 49 = .ok (.isub, 1) := by decide +kernel
theorem dX8_known_50 : decode cX8_known 50 = .ok (.iload 4, 2) := by decide +kernel
theorem dX8_known_52 : decode cX8_known 52 = .ok (.iconst 1, 1) := by decide +kernel
theorem dX8_known_53 : decode cX8_known 53 = .ok (.iadd, 1) := by decide +kernel
theorem dX8_known_54 : decode cX8_known 54 = .ok (.invokevirtual 177, 3) := by decide +kernel
theorem dX8_known_57 : decode cX8_known 57 = .ok (.ifCond .eq 7, 3) := by decide +kernel
theorem dX8_known_60 : decode cX8_known 60 = .ok (.iconst 1, 1) := by decide +kernel
theorem dX8_known_61 : decode cX8_known 61 = .ok (.goto 5, 3) := by decide +kernel
theorem dX8_known_64 : decode cX8_known 64 = .ok (.bipush (-5), 2) := by decide +kernel
theorem dX8_known_66 : decode cX8_known 66 = .ok (.ireturn, 1) := by decide +kernel
theorem dX8_late_0 : decode cX8_late 0 = .ok (.iload_n 1, 1) := by decide +kernel
theorem dX8_late_1 : decode cX8_late 1 = .ok (.invokestatic 169, 3) := by decide +kernel
theorem dX8_late_4 : decode cX8_late 4 = .ok (.ifCond .ne 5, 3) := by decide +kernel
theorem dX8_late_7 : decode cX8_late 7 = .ok (.iconst (-1), 1) := by decide +kernel
theorem dX8_late_8 : decode cX8_late 8 = .ok (.ireturn, 1) := by decide +kernel
theorem dX8_late_9 : decode cX8_late 9 = .ok (.iload_n 2, 1) := by decide +kernel
theorem dX8_late_10 : decode cX8_late 10 = .ok (.invokestatic 86, 3) := by decide +kernel
theorem dX8_late_13 : decode cX8_late 13 = .ok (.ifCond .ne 6, 3) := by decide +kernel
theorem dX8_late_16 : decode cX8_late 16 = .ok (.bipush (-2), 2) := by decide +kernel
theorem dX8_late_18 : decode cX8_late 18 = .ok (.ireturn, 1) := by decide +kernel
theorem dX8_late_19 : decode cX8_late 19 = .ok (.aload_n 0, 1) := by decide +kernel
theorem dX8_late_20 : decode cX8_late 20 = .ok (.getfield 26, 3) := by decide +kernel
theorem dX8_late_23 : decode cX8_late 23 = .ok (.getfield 173, 3) := by decide +kernel
theorem dX8_late_26 : decode cX8_late 26 = .ok (.iload_n 1, 1) := by decide +kernel
theorem dX8_late_27 : decode cX8_late 27 = .ok (.aaload, 1) := by decide +kernel
theorem dX8_late_28 : decode cX8_late 28 = .ok (.iload_n 2, 1) := by decide +kernel
theorem dX8_late_29 : decode cX8_late 29 = .ok (.invokevirtual 182, 3) := by decide +kernel
theorem dX8_late_32 : decode cX8_late 32 = .ok (.ireturn, 1) := by decide +kernel
theorem dX8_tell_0 : decode cX8_tell 0 = .ok (.iload_n 1, 1) := by decide +kernel
theorem dX8_tell_1 : decode cX8_tell 1 = .ok (.invokestatic 169, 3) := by decide +kernel
theorem dX8_tell_4 : decode cX8_tell 4 = .ok (.ifCond .ne 5, 3) := by decide +kernel
theorem dX8_tell_7 : decode cX8_tell 7 = .ok (.iconst (-1), 1) := by decide +kernel
theorem dX8_tell_8 : decode cX8_tell 8 = .ok (.ireturn, 1) := by decide +kernel
theorem dX8_tell_9 : decode cX8_tell 9 = .ok (.iload_n 2, 1) := by decide +kernel
theorem dX8_tell_10 : decode cX8_tell 10 = .ok (.iconst (-1), 1) := by decide +kernel
theorem dX8_tell_11 : decode cX8_tell 11 = .ok (.ldc 172, 2) := by decide +kernel
theorem dX8_tell_13 : decode cX8_tell 13 = .ok (.invokestatic 51, 3) := by decide +kernel
theorem dX8_tell_16 : decode cX8_tell 16 = .ok (.ifCond .ne 6, 3) := by decide +kernel
theorem dX8_tell_19 : decode cX8_tell 19 = .ok (.bipush (-2), 2) := by decide +kernel
theorem dX8_tell_21 : decode cX8_tell 21 = .ok (.ireturn, 1) := by decide +kernel
theorem dX8_tell_22 : decode cX8_tell 22 = .ok (.aload_n 0, 1) := by decide +kernel
theorem dX8_tell_23 : decode cX8_tell 23 = .ok (.getfield 26, 3) := by decide +kernel
theorem dX8_tell_26 : decode cX8_tell 26 = .ok (.getfield 185, 3) := by decide +kernel
theorem dX8_tell_29 : decode cX8_tell 29 = .ok (.iload_n 1, 1) := by decide +kernel
theorem dX8_tell_30 : decode cX8_tell 30 = .ok (.iaload, 1) := by decide +kernel
theorem dX8_tell_31 : decode cX8_tell 31 = .ok (.istore_n 3, 1) := by decide +kernel
theorem dX8_tell_32 : decode cX8_tell 32 = .ok (.aload_n 0, 1) := by decide +kernel
theorem dX8_tell_33 : decode cX8_tell 33 = .ok (.getfield 26, 3) := by decide +kernel
theorem dX8_tell_36 : decode cX8_tell 36 = .ok (.getfield 185, 3) := by decide +kernel
theorem dX8_tell_39 : decode cX8_tell 39 = .ok (.iload_n 1, 1) := by decide +kernel
theorem dX8_tell_40 : decode cX8_tell 40 = .ok (.iload_n 2, 1) := by decide +kernel
theorem dX8_tell_41 : decode cX8_tell 41 = .ok (.iconst (-1), 1) := by decide +kernel
theorem dX8_tell_42 : decode cX8_tell 42 = .ok (.if_icmp .ne 8, 3) := by decide +kernel
theorem dX8_tell_45 : decode cX8_tell 45 = .ok (.bipush (-6), 2) := by decide +kernel
theorem dX8_tell_47 : decode cX8_tell 47 = .ok (.goto 4, 3) := by decide +kernel
theorem dX8_tell_50 : decode cX8_tell 50 = .ok (.iload_n 2, 1) := by decide +kernel
theorem dX8_tell_51 : decode cX8_tell 51 = .ok (.iastore, 1) := by decide +kernel
theorem dX8_tell_52 : decode cX8_tell 52 = .ok (.iload_n 3, 1) := by decide +kernel
theorem dX8_tell_53 : decode cX8_tell 53 = .ok (.ireturn, 1) := by decide +kernel
theorem dX8_time_0 : decode cX8_time 0 = .ok (.iload_n 1, 1) := by decide +kernel
theorem dX8_time_1 : decode cX8_time 1 = .ok (.invokestatic 86, 3) := by decide +kernel
theorem dX8_time_4 : decode cX8_time 4 = .ok (.ifCond .ne 6, 3) := by decide +kernel
theorem dX8_time_7 : decode cX8_time 7 = .ok (.bipush (-2), 2) := by decide +kernel
theorem dX8_time_9 : decode cX8_time 9 = .ok (.ireturn, 1) := by decide +kernel
theorem dX8_time_10 : decode cX8_time 10 = .ok (.aload_n 0, 1) := by decide +kernel
theorem dX8_time_11 : decode cX8_time 11 = .ok (.getfield 26, 3) := by decide +kernel
theorem dX8_time_14 : decode cX8_time 14 = .ok (.invokevirtual 188, 3) := by decide +kernel
theorem dX8_time_17 : decode cX8_time 17 = .ok (.istore_n 2, 1) := by decide +kernel
theorem dX8_time_18 : decode cX8_time 18 = .ok (.iload_n 2, 1) := by decide +kernel
theorem dX8_time_19 : decode cX8_time 19 = .ok (.bipush (-6), 2) := by decide +kernel
theorem dX8_time_21 : decode cX8_time 21 = .ok (.if_icmp .eq 7, 3) := by decide +kernel
theorem dX8_time_24 : decode cX8_time 24 = .ok (.iload_n 2, 1) := by decide +kernel
theorem dX8_time_25 : decode cX8_time 25 = .ok (.goto 17, 3) := by decide +kernel
theorem dX8_time_28 : decode cX8_time 28 = .ok (.ldc 192, 2) := by decide +kernel
theorem dX8_time_30 : decode cX8_time 30 = .ok (.aload_n 0, 1) := by decide +kernel
theorem dX8_time_31 : decode cX8_time 31 = .ok (.getfield 26, 3) := by decide +kernel
theorem dX8_time_34 : decode cX8_time 34 = .ok (.getfield 193, 3) := by decide +kernel
theorem dX8_time_37 : decode cX8_time 37 = .ok (.iload_n 1, 1) := by decide +kernel
theorem dX8_time_38 : decode cX8_time 38 = .ok (.invokevirtual 182, 3) := by decide +kernel
theorem dX8_time_41 : decode cX8_time 41 = .ok (.iadd, 1) := by decide +kernel
theorem dX8_time_42 : decode cX8_time 42 = .ok (.ireturn, 1) := by decide +kernel
theorem dX8_old_0 : decode cX8_old 0 = .ok (.iload_n 1, 1) := by decide +kernel
theorem dX8_old_1 : decode cX8_old 1 = .ok (.iconst 0, 1) := by decide +kernel
theorem dX8_old_2 : decode cX8_old 2 = .ok (.ldc 172, 2) := by decide +kernel
theorem dX8_old_4 : decode cX8_old 4 = .ok (.invokestatic 51, 3) := by decide +kernel
theorem dX8_old_7 : decode cX8_old 7 = .ok (.ifCond .ne 6, 3) := by decide +kernel
theorem dX8_old_10 : decode cX8_old 10 = .ok (.bipush (-2), 2) := by decide +kernel
theorem dX8_old_12 : decode cX8_old 12 = .ok (.ireturn, 1) := by decide +kernel
theorem dX8_old_13 : decode cX8_old 13 = .ok (.aload_n 0, 1) := by decide +kernel
theorem dX8_old_14 : decode cX8_old 14 = .ok (.getfield 26, 3) := by decide +kernel
theorem dX8_old_17 : decode cX8_old 17 = .ok (.invokevirtual 188, 3) := by decide +kernel
theorem dX8_old_20 : decode cX8_old 20 = .ok (.istore_n 2, 1) := by decide +kernel
theorem dX8_old_21 : decode cX8_old 21 = .ok (.iload_n 2, 1) := by decide +kernel
theorem dX8_old_22 : decode cX8_old 22 = .ok (.bipush (-6), 2) := by decide +kernel
theorem dX8_old_24 : decode cX8_old 24 = .ok (.if_icmp .eq 5, 3) := by decide +kernel
theorem dX8_old_27 : decode cX8_old 27 = .ok (.iload_n 2, 1) := by decide +kernel
theorem dX8_old_28 : decode cX8_old 28 = .ok (.ireturn, 1) := by decide +kernel
theorem dX8_old_29 : decode cX8_old 29 = .ok (.aload_n 0, 1) := by decide +kernel
theorem dX8_old_30 : decode cX8_old 30 = .ok (.getfield 26, 3) := by decide +kernel
theorem dX8_old_33 : decode cX8_old 33 = .ok (.getfield 193, 3) := by decide +kernel
theorem dX8_old_36 : decode cX8_old 36 = .ok (.getfield 197, 3) := by decide +kernel
theorem dX8_old_39 : decode cX8_old 39 = .ok (.iload_n 1, 1) := by decide +kernel
theorem dX8_old_40 : decode cX8_old 40 = .ok (.if_icmp .ge 5, 3) := by decide +kernel
theorem dX8_old_43 : decode cX8_old 43 = .ok (.iconst 1, 1) := by decide +kernel
theorem dX8_old_44 : decode cX8_old 44 = .ok (.ireturn, 1) := by decide +kernel
theorem dX8_old_45 : decode cX8_old 45 = .ok (.aload_n 0, 1) := by decide +kernel
theorem dX8_old_46 : decode cX8_old 46 = .ok (.getfield 26, 3) := by decide +kernel
theorem dX8_old_49 : decode cX8_old 49 = .ok (.getfield 193, 3) := by decide +kernel
theorem dX8_old_52 : decode cX8_old 52 = .ok (.getfield 200, 3) := by decide +kernel
theorem dX8_old_55 : decode cX8_old 55 = .ok (.iload_n 1, 1) := by decide +kernel
theorem dX8_old_56 : decode cX8_old 56 = .ok (.if_icmp .lt 7, 3) := by decide +kernel
theorem dX8_old_59 : decode cX8_old 59 = .ok (.iconst 0, 1) := by decide +kernel
theorem dX8_old_60 : decode cX8_old 60 = .ok (.goto 4, 3) := by decide +kernel
theorem dX8_old_63 : decode cX8_old 63 = .ok (.iconst 2, 1) := by decide +kernel
theorem dX8_old_64 : decode cX8_old 64 = .ok (.ireturn, 1) := by decide +kernel
theorem dX8_say_0 : decode cX8_say 0 = .ok (.iload_n 1, 1) := by decide +kernel
theorem dX8_say_1 : decode cX8_say 1 = .ok (.bipush 33, 2) := by decide +kernel
theorem dX8_say_3 : decode cX8_say 3 = .ok (.bipush 126, 2) := by decide +kernel
theorem dX8_say_5 : decode cX8_say 5 = .ok (.invokestatic 51, 3) := by decide +kernel
theorem dX8_say_8 : decode cX8_say 8 = .ok (.ifCond .ne 6, 3) := by decide +kernel
theorem dX8_say_11 : decode cX8_say 11 = .ok (.bipush (-2), 2) := by decide +kernel
theorem dX8_say_13 : decode cX8_say 13 = .ok (.ireturn, 1) := by decide +kernel
theorem dX8_say_14 : decode cX8_say 14 = .ok (.aload_n 0, 1) := by decide +kernel
theorem dX8_say_15 : decode cX8_say 15 = .ok (.getfield 33, 3) := by decide +kernel
theorem dX8_say_18 : decode cX8_say 18 = .ok (.iload_n 1, 1) := by decide +kernel
theorem dX8_say_19 : decode cX8_say 19 = .ok (.invokevirtual 203, 3) := by decide +kernel
theorem dX8_say_22 : decode cX8_say 22 = .ok (.ireturn, 1) := by decide +kernel
theorem dX8_wipe_0 : decode cX8_wipe 0 = .ok (.aload_n 0, 1) := by decide +kernel
theorem dX8_wipe_1 : decode cX8_wipe 1 = .ok (.getfield 33, 3) := by decide +kernel
theorem dX8_wipe_4 : decode cX8_wipe 4 = .ok (.getfield 206, 3) := by decide +kernel
theorem dX8_wipe_7 : decode cX8_wipe 7 = .ok (.istore_n 1, 1) := by decide +kernel
theorem dX8_wipe_8 : decode cX8_wipe 8 = .ok (.aload_n 0, 1) := by decide +kernel
theorem dX8_wipe_9 : decode cX8_wipe 9 = .ok (.getfield 33, 3) := by decide +kernel
theorem dX8_wipe_12 : decode cX8_wipe 12 = .ok (.iconst 0, 1) := by decide +kernel
theorem dX8_wipe_13 : decode cX8_wipe 13 = .ok (.putfield 206, 3) := by decide +kernel
theorem dX8_wipe_16 : decode cX8_wipe 16 = .ok (.iload_n 1, 1) := by decide +kernel
theorem dX8_wipe_17 : decode cX8_wipe 17 = .ok (.ireturn, 1) := by decide +kernel
theorem dX8_fault_0 : decode cX8_fault 0 = .ok (.aload_n 0, 1) := by decide +kernel
theorem dX8_fault_1 : decode cX8_fault 1 = .ok (.getfield 33, 3) := by decide +kernel
theorem dX8_fault_4 : decode cX8_fault 4 = .ok (.invokevirtual 207, 3) := by decide +kernel
theorem dX8_fault_7 : decode cX8_fault 7 = .ok (.ireturn, 1) := by decide +kernel
theorem dX8_rule_0 : decode cX8_rule 0 = .ok (.aload_n 0, 1) := by decide +kernel
theorem dX8_rule_1 : decode cX8_rule 1 = .ok (.getfield 33, 3) := by decide +kernel
theorem dX8_rule_4 : decode cX8_rule 4 = .ok (.invokevirtual 207, 3) := by decide +kernel
theorem dX8_rule_7 : decode cX8_rule 7 = .ok (.bipush (-6), 2) := by decide +kernel
theorem dX8_rule_9 : decode cX8_rule 9 = .ok (.if_icmp .eq 6, 3) := by decide +kernel
theorem dX8_rule_12 : decode cX8_rule 12 = .ok (.bipush (-5), 2) := by decide +kernel
theorem dX8_rule_14 : decode cX8_rule 14 = .ok (.ireturn, 1) := by decide +kernel
theorem dX8_rule_15 : decode cX8_rule 15 = .ok (.aload_n 0, 1) := by decide +kernel
theorem dX8_rule_16 : decode cX8_rule 16 = .ok (.getfield 40, 3) := by decide +kernel
theorem dX8_rule_19 : decode cX8_rule 19 = .ok (.aload_n 0, 1) := by decide +kernel
theorem dX8_rule_20 : decode cX8_rule 20 = .ok (.getfield 33, 3) := by decide +kernel
theorem dX8_rule_23 : decode cX8_rule 23 = .ok (.invokevirtual 210, 3) := by decide +kernel
theorem dX8_rule_26 : decode cX8_rule 26 = .ok (.aload_n 0, 1) := by decide +kernel
theorem dX8_rule_27 : decode cX8_rule 27 = .ok (.getfield 33, 3) := by decide +kernel
theorem dX8_rule_30 : decode cX8_rule 30 = .ok (.iconst 0, 1) := by decide +kernel
theorem dX8_rule_31 : decode cX8_rule 31 = .ok (.putfield 206, 3) := by decide +kernel
theorem dX8_rule_34 : decode cX8_rule 34 = .ok (.aload_n 0, 1) := by decide +kernel
theorem dX8_rule_35 : decode cX8_rule 35 = .ok (.getfield 40, 3) := by decide +kernel
theorem dX8_rule_38 : decode cX8_rule 38 = .ok (.getfield 214, 3) := by decide +kernel
theorem dX8_rule_41 : decode cX8_rule 41 = .ok (.ireturn, 1) := by decide +kernel
theorem dX8_record_0 : decode cX8_record 0 = .ok (.iload_n 1, 1) := by decide +kernel
theorem dX8_record_1 : decode cX8_record 1 = .ok (.invokestatic 215, 3) := by decide +kernel
theorem dX8_record_4 : decode cX8_record 4 = .ok (.ifCond .eq 25, 3) := by decide +kernel
theorem dX8_record_7 : decode cX8_record 7 = .ok (.iload_n 2, 1) := by decide +kernel
theorem dX8_record_8 : decode cX8_record 8 = .ok (.invokestatic 215, 3) := by decide +kernel
theorem dX8_record_11 : decode cX8_record 11 = .ok (.ifCond .eq 18, 3) := by decide +kernel
theorem dX8_record_14 : decode cX8_record 14 = .ok (.iload_n 3, 1) := by decide +kernel
theorem dX8_record_15 : decode cX8_record 15 = .ok (.invokestatic 215, 3) := by decide +kernel
theorem dX8_record_18 : decode cX8_record 18 = .ok (.ifCond .eq 11, 3) := by decide +kernel
theorem dX8_record_21 : decode cX8_record 21 = .ok (.iload 4, 2) := by decide +kernel
theorem dX8_record_23 : decode cX8_record 23 = .ok (.invokestatic 215, 3) := by decide +kernel
theorem dX8_record_26 : decode cX8_record 26 = .ok (.ifCond .ne 6, 3) := by decide +kernel
theorem dX8_record_29 : decode cX8_record 29 = .ok (.bipush (-2), 2) := by decide +kernel
theorem dX8_record_31 : decode cX8_record 31 = .ok (.ireturn, 1) := by decide +kernel
theorem dX8_record_32 : decode cX8_record 32 = .ok (.aload_n 0, 1) := by decide +kernel
theorem dX8_record_33 : decode cX8_record 33 = .ok (.getfield 40, 3) := by decide +kernel
theorem dX8_record_36 : decode cX8_record 36 = .ok (.getfield 214, 3) := by decide +kernel
theorem dX8_record_39 : decode cX8_record 39 = .ok (.ifCond .ne 6, 3) := by decide +kernel
theorem dX8_record_42 : decode cX8_record 42 = .ok (.bipush (-3), 2) := by decide +kernel
theorem dX8_record_44 : decode cX8_record 44 = .ok (.ireturn, 1) := by decide +kernel
theorem dX8_record_45 : decode cX8_record 45 = .ok (.iconst 0, 1) := by decide +kernel
theorem dX8_record_46 : decode cX8_record 46 = .ok (.istore 5, 2) := by decide +kernel
theorem dX8_record_48 : decode cX8_record 48 = .ok (.iload 5, 2) := by decide +kernel
theorem dX8_record_50 : decode cX8_record 50 = .ok (.aload_n 0, 1) := by decide +kernel
theorem dX8_record_51 : decode cX8_record 51 = .ok (.getfield 40, 3) := by decide +kernel
theorem dX8_record_54 : decode cX8_record 54 = .ok (.getfield 214, 3) := by decide +kernel
theorem dX8_record_57 : decode cX8_record 57 = .ok (.if_icmp .ge 46, 3) := by decide +kernel
theorem dX8_record_60 : decode cX8_record 60 = .ok (.aload_n 0, 1) := by decide +kernel
theorem dX8_record_61 : decode cX8_record 61 = .ok (.getfield 40, 3) := by decide +kernel
theorem dX8_record_64 : decode cX8_record 64 = .ok (.getfield 218, 3) := by decide +kernel
theorem dX8_record_67 : decode cX8_record 67 = .ok (.iload 5, 2) := by decide +kernel
theorem dX8_record_69 : decode cX8_record 69 = .ok (.iaload, 1) := by decide +kernel
theorem dX8_record_70 : decode cX8_record 70 = .ok (.iload_n 1, 1) := by decide +kernel
theorem dX8_record_71 : decode cX8_record 71 = .ok (.iload_n 2, 1) := by decide +kernel
theorem dX8_record_72 : decode cX8_record 72 = .ok (.iload_n 3, 1) := by decide +kernel
theorem dX8_record_73 : decode cX8_record 73 = .ok (.iload 4, 2) := by decide +kernel
theorem dX8_record_75 : decode cX8_record 75 = .ok (.invokestatic 221, 3) := by decide +kernel
theorem dX8_record_78 : decode cX8_record 78 = .ok (.istore 6, 2) := by decide +kernel
theorem dX8_record_80 : decode cX8_record 80 = .ok (.aload_n 0, 1) := by decide +kernel
theorem dX8_record_81 : decode cX8_record 81 = .ok (.getfield 40, 3) := by decide +kernel
theorem dX8_record_84 : decode cX8_record 84 = .ok (.iload 5, 2) := by decide +kernel
theorem dX8_record_86 : decode cX8_record 86 = .ok (.iload 6, 2) := by decide +kernel
theorem dX8_record_88 : decode cX8_record 88 = .ok (.invokevirtual 225, 3) := by decide +kernel
theorem dX8_record_91 : decode cX8_record 91 = .ok (.ifCond .ne 6, 3) := by decide +kernel
theorem dX8_record_94 : decode cX8_record 94 = .ok (.iload 5, 2) := by decide +kernel
theorem dX8_record_96 : decode cX8_record 96 = .ok (.ireturn, 1) := by decide +kernel
theorem dX8_record_97 : decode cX8_record 97 = .ok (.iinc 5 1, 3) := by decide +kernel
theorem dX8_record_100 : decode cX8_record 100 = .ok (.goto (-52), 3) := by decide +kernel
theorem dX8_record_103 : decode cX8_record 103 = .ok (.bipush (-6), 2) := by decide +kernel
theorem dX8_record_105 : decode cX8_record 105 = .ok (.ireturn, 1) := by decide +kernel
theorem dX8_slit_0 : decode cX8_slit 0 = .ok (.iload_n 1, 1) := by decide +kernel
theorem dX8_slit_1 : decode cX8_slit 1 = .ok (.invokestatic 86, 3) := by decide +kernel
theorem dX8_slit_4 : decode cX8_slit 4 = .ok (.ifCond .eq 13, 3) := by decide +kernel
theorem dX8_slit_7 : decode cX8_slit 7 = .ok (.iload_n 2, 1) := by decide +kernel
theorem dX8_slit_8 : decode cX8_slit 8 = .ok (.iconst 1, 1) := by decide +kernel
theorem dX8_slit_9 : decode cX8_slit 9 = .ok (.bipush 63, 2) := by decide +kernel
theorem dX8_slit_11 : decode cX8_slit 11 = .ok (.invokestatic 51, 3) := by decide +kernel
theorem dX8_slit_14 : decode cX8_slit 14 = .ok (.ifCond .ne 6, 3) := by decide +kernel
theorem dX8_slit_17 : decode cX8_slit 17 = .ok (.bipush (-2), 2) := by decide +kernel
theorem dX8_slit_19 : decode cX8_slit 19 = .ok (.ireturn, 1) := by decide +kernel
theorem dX8_slit_20 : decode cX8_slit 20 = .ok (.aload_n 0, 1) := by decide +kernel
theorem dX8_slit_21 : decode cX8_slit 21 = .ok (.getfield 47, 3) := by decide +kernel
theorem dX8_slit_24 : decode cX8_slit 24 = .ok (.iload_n 1, 1) := by decide +kernel
theorem dX8_slit_25 : decode cX8_slit 25 = .ok (.iload_n 2, 1) := by decide +kernel
theorem dX8_slit_26 : decode cX8_slit 26 = .ok (.invokevirtual 228, 3) := by decide +kernel
theorem dX8_slit_29 : decode cX8_slit 29 = .ok (.ireturn, 1) := by decide +kernel
theorem dX8_seen_0 : decode cX8_seen 0 = .ok (.iload_n 1, 1) := by decide +kernel
theorem dX8_seen_1 : decode cX8_seen 1 = .ok (.iconst 0, 1) := by decide +kernel
theorem dX8_seen_2 : decode cX8_seen 2 = .ok (.iconst 1, 1) := by decide +kernel
theorem dX8_seen_3 : decode cX8_seen 3 = .ok (.aload_n 0, 1) := by decide +kernel
theorem dX8_seen_4 : decode cX8_seen 4 = .ok (.getfield 47, 3) := by decide +kernel
theorem dX8_seen_7 : decode cX8_seen 7 = .ok (.getfield 230, 3) := by decide +kernel
theorem dX8_seen_10 : decode cX8_seen 10 = .ok (.ishl, 1) := by decide +kernel
theorem dX8_seen_11 : decode cX8_seen 11 = .ok (.iconst 1, 1) := by decide +kernel
theorem dX8_seen_12 : decode cX8_seen 12 = .ok (.isub, 1) := by decide +kernel
theorem dX8_seen_13 : decode cX8_seen 13 = .ok (.invokestatic 51, 3) := by decide +kernel
theorem dX8_seen_16 : decode cX8_seen 16 = .ok (.ifCond .eq 10, 3) := by decide +kernel
theorem dX8_seen_19 : decode cX8_seen 19 = .ok (.iload_n 2, 1) := by decide +kernel
theorem dX8_seen_20 : decode cX8_seen 20 = .ok (.invokestatic 86, 3) := by decide +kernel
theorem dX8_seen_23 : decode cX8_seen 23 = .ok (.ifCond .ne 6, 3) := by decide +kernel
theorem dX8_seen_26 : decode cX8_seen 26 = .ok (.bipush (-2), 2) := by decide +kernel
theorem dX8_seen_28 : decode cX8_seen 28 = .ok (.ireturn, 1) := by decide +kernel
theorem dX8_seen_29 : decode cX8_seen 29 = .ok (.aload_n 0, 1) := by decide +kernel
theorem dX8_seen_30 : decode cX8_seen 30 = .ok (.getfield 47, 3) := by decide +kernel
theorem dX8_seen_33 : decode cX8_seen 33 = .ok (.aload_n 0, 1) := by decide +kernel
theorem dX8_seen_34 : decode cX8_seen 34 = .ok (.getfield 10, 3) := by decide +kernel
theorem dX8_seen_37 : decode cX8_seen 37 = .ok (.invokevirtual 231, 3) := by decide +kernel
theorem dX8_seen_40 : decode cX8_seen 40 = .ok (.aload_n 0, 1) := by decide +kernel
theorem dX8_seen_41 : decode cX8_seen 41 = .ok (.getfield 47, 3) := by decide +kernel
theorem dX8_seen_44 : decode cX8_seen 44 = .ok (.iload_n 1, 1) := by decide +kernel
theorem dX8_seen_45 : decode cX8_seen 45 = .ok (.invokevirtual 235, 3) := by decide +kernel
theorem dX8_seen_48 : decode cX8_seen 48 = .ok (.istore_n 3, 1) := by decide +kernel
theorem dX8_seen_49 : decode cX8_seen 49 = .ok (.iload_n 2, 1) := by decide +kernel
theorem dX8_seen_50 : decode cX8_seen 50 = .ok (.ifCond .ne 7, 3) := by decide +kernel
theorem dX8_seen_53 : decode cX8_seen 53 = .ok (.iload_n 3, 1) := by decide +kernel
theorem dX8_seen_54 : decode cX8_seen 54 = .ok (.goto 14, 3) := by decide +kernel
theorem dX8_seen_57 : decode cX8_seen 57 = .ok (.aload_n 0, 1) := by decide +kernel
theorem dX8_seen_58 : decode cX8_seen 58 = .ok (.getfield 10, 3) := by decide +kernel
theorem dX8_seen_61 : decode cX8_seen 61 = .ok (.invokevirtual 238, 3) := by decide +kernel
theorem dX8_seen_64 : decode cX8_seen 64 = .ok (.iload_n 3, 1) := by decide +kernel
theorem dX8_seen_65 : decode cX8_seen 65 = .ok (.invokestatic 241, 3) := by decide +kernel
theorem dX8_seen_68 : decode cX8_seen 68 = .ok (.ireturn, 1) := by decide +kernel
theorem dX8_best_0 : decode cX8_best 0 = .ok (.iload_n 1, 1) := by decide +kernel
theorem dX8_best_1 : decode cX8_best 1 = .ok (.iconst 0, 1) := by decide +kernel
theorem dX8_best_2 : decode cX8_best 2 = .ok (.bipush 8, 2) := by decide +kernel
theorem dX8_best_4 : decode cX8_best 4 = .ok (.invokestatic 51, 3) := by decide +kernel
theorem dX8_best_7 : decode cX8_best 7 = .ok (.ifCond .eq 10, 3) := by decide +kernel
theorem dX8_best_10 : decode cX8_best 10 = .ok (.iload_n 2, 1) := by decide +kernel
theorem dX8_best_11 : decode cX8_best 11 = .ok (.invokestatic 86, 3) := by decide +kernel
theorem dX8_best_14 : decode cX8_best 14 = .ok (.ifCond .ne 6, 3) := by decide +kernel
theorem dX8_best_17 : decode cX8_best 17 = .ok (.bipush (-2), 2) := by decide +kernel
theorem dX8_best_19 : decode cX8_best 19 = .ok (.ireturn, 1) := by decide +kernel
theorem dX8_best_20 : decode cX8_best 20 = .ok (.aload_n 0, 1) := by decide +kernel
theorem dX8_best_21 : decode cX8_best 21 = .ok (.getfield 47, 3) := by decide +kernel
theorem dX8_best_24 : decode cX8_best 24 = .ok (.aload_n 0, 1) := by decide +kernel
theorem dX8_best_25 : decode cX8_best 25 = .ok (.getfield 10, 3) := by decide +kernel
theorem dX8_best_28 : decode cX8_best 28 = .ok (.invokevirtual 231, 3) := by decide +kernel
theorem dX8_best_31 : decode cX8_best 31 = .ok (.iconst 0, 1) := by decide +kernel
theorem dX8_best_32 : decode cX8_best 32 = .ok (.istore_n 3, 1) := by decide +kernel
theorem dX8_best_33 : decode cX8_best 33 = .ok (.aload_n 0, 1) := by decide +kernel
theorem dX8_best_34 : decode cX8_best 34 = .ok (.getfield 10, 3) := by decide +kernel
theorem dX8_best_37 : decode cX8_best 37 = .ok (.invokevirtual 238, 3) := by decide +kernel
theorem dX8_best_40 : decode cX8_best 40 = .ok (.istore 4, 2) := by decide +kernel
theorem dX8_best_42 : decode cX8_best 42 = .ok (.iload 4, 2) := by decide +kernel
theorem dX8_best_44 : decode cX8_best 44 = .ok (.iconst 0, 1) := by decide +kernel
theorem dX8_best_45 : decode cX8_best 45 = .ok (.invokestatic 241, 3) := by decide +kernel
theorem dX8_best_48 : decode cX8_best 48 = .ok (.istore 5, 2) := by decide +kernel
theorem dX8_best_50 : decode cX8_best 50 = .ok (.iconst 1, 1) := by decide +kernel
theorem dX8_best_51 : decode cX8_best 51 = .ok (.istore 6, 2) := by decide +kernel
theorem dX8_best_53 : decode cX8_best 53 = .ok (.iload 6, 2) := by decide +kernel
theorem dX8_best_55 : decode cX8_best 55 = .ok (.iconst 1, 1) := by decide +kernel
theorem dX8_best_56 : decode cX8_best 56 = .ok (.aload_n 0, 1) := by decide +kernel
theorem dX8_best_57 : decode cX8_best 57 = .ok (.getfield 47, 3) := by decide +kernel
theorem dX8_best_60 : decode cX8_best 60 = .ok (.getfield 230, 3) := by decide +kernel
theorem dX8_best_63 : decode cX8_best 63 = .ok (.ishl, 1) := by decide +kernel
theorem dX8_best_64 : decode cX8_best 64 = .ok (.if_icmp .ge 80, 3) := by decide +kernel
theorem dX8_best_67 : decode cX8_best 67 = .ok (.iload 6, 2) := by decide +kernel
theorem dX8_best_69 : decode cX8_best 69 = .ok (.invokestatic 244, 3) := by decide +kernel
theorem dX8_best_72 : decode cX8_best 72 = .ok (.istore 7, 2) := by decide +kernel
theorem dX8_best_74 : decode cX8_best 74 = .ok (.iload 4, 2) := by decide +kernel
theorem dX8_best_76 : decode cX8_best 76 = .ok (.aload_n 0, 1) := by decide +kernel
theorem dX8_best_77 : decode cX8_best 77 = .ok (.getfield 47, 3) := by decide +kernel
theorem dX8_best_80 : decode cX8_best 80 = .ok (.iload 6, 2) := by decide +kernel
theorem dX8_best_82 : decode cX8_best 82 = .ok (.invokevirtual 235, 3) := by decide +kernel
theorem dX8_best_85 : decode cX8_best 85 = .ok (.invokestatic 241, 3) := by decide +kernel
theorem dX8_best_88 : decode cX8_best 88 = .ok (.istore 8, 2) := by decide +kernel
theorem dX8_best_90 : decode cX8_best 90 = .ok (.iload 8, 2) := by decide +kernel
theorem dX8_best_92 : decode cX8_best 92 = .ok (.iload 5, 2) := by decide +kernel
theorem dX8_best_94 : decode cX8_best 94 = .ok (.if_icmp .lt 19, 3) := by decide +kernel
theorem dX8_best_97 : decode cX8_best 97 = .ok (.iload 8, 2) := by decide +kernel
theorem dX8_best_99 : decode cX8_best 99 = .ok (.iload 5, 2) := by decide +kernel
theorem dX8_best_101 : decode cX8_best 101 = .ok (.if_icmp .ne 16, 3) := by decide +kernel
theorem dX8_best_104 : decode cX8_best 104 = .ok (.iload 7, 2) := by decide +kernel
theorem dX8_best_106 : decode cX8_best 106 = .ok (.iload_n 3, 1) := by decide +kernel
theorem dX8_best_107 : decode cX8_best 107 = .ok (.invokestatic 244, 3) := by decide +kernel
theorem dX8_best_110 : decode cX8_best 110 = .ok (.if_icmp .ge 7, 3) := by decide +kernel
theorem dX8_best_113 : decode cX8_best 113 = .ok (.iconst 1, 1) := by decide +kernel
theorem dX8_best_114 : decode cX8_best 114 = .ok (.goto 4, 3) := by decide +kernel
theorem dX8_best_117 : decode cX8_best 117 = .ok (.iconst 0, 1) := by decide +kernel
theorem dX8_best_118 : decode cX8_best 118 = .ok (.istore 9, 2) := by decide +kernel
theorem dX8_best_120 : decode cX8_best 120 = .ok (.iload 7, 2) := by decide +kernel
theorem dX8_best_122 : decode cX8_best 122 = .ok (.iload_n 1, 1) := by decide +kernel
theorem dX8_best_123 : decode cX8_best 123 = .ok (.if_icmp .gt 15, 3) := by decide +kernel
theorem dX8_best_126 : decode cX8_best 126 = .ok (.iload 9, 2) := by decide +kernel
theorem dX8_best_128 : decode cX8_best 128 = .ok (.ifCond .eq 10, 3) := by decide +kernel
theorem dX8_best_131 : decode cX8_best 131 = .ok (.iload 6, 2) := by decide +kernel
theorem dX8_best_133 : decode cX8_best 133 = .ok (.istore_n 3, 1) := by decide +kernel
theorem dX8_best_134 : decode cX8_best 134 = .ok (.iload 8, 2) := by decide +kernel
theorem dX8_best_136 : decode cX8_best 136 = .ok (.istore 5, 2) := by decide +kernel
theorem dX8_best_138 : decode cX8_best 138 = .ok (.iinc 6 1, 3) := by decide +kernel
theorem dX8_best_141 : decode cX8_best 141 = .ok (.goto (-88), 3) := by decide +kernel
theorem dX8_best_144 : decode cX8_best 144 = .ok (.iload_n 2, 1) := by decide +kernel
theorem dX8_best_145 : decode cX8_best 145 = .ok (.ifCond .ne 7, 3) := by decide +kernel
theorem dX8_best_148 : decode cX8_best 148 = .ok (.iload_n 3, 1) := by decide +kernel
theorem dX8_best_149 : decode cX8_best 149 = .ok (.goto 5, 3) := by decide +kernel
theorem dX8_best_152 : decode cX8_best 152 = .ok (.iload 5, 2) := by decide +kernel
theorem dX8_best_154 : decode cX8_best 154 = .ok (.ireturn, 1) := by decide +kernel
theorem dX8_told_0 : decode cX8_told 0 = .ok (.iload_n 1, 1) := by decide +kernel
theorem dX8_told_1 : decode cX8_told 1 = .ok (.tableswitch 63 0 3 #[31, 39, 47, 55], 31) := by decide +kernel
theorem dX8_told_32 : decode cX8_told 32 = .ok (.aload_n 0, 1) := by decide +kernel
theorem dX8_told_33 : decode cX8_told 33 = .ok (.getfield 10, 3) := by decide +kernel
theorem dX8_told_36 : decode cX8_told 36 = .ok (.getfield 118, 3) := by decide +kernel
theorem dX8_told_39 : decode cX8_told 39 = .ok (.ireturn, 1) := by decide +kernel
theorem dX8_told_40 : decode cX8_told 40 = .ok (.aload_n 0, 1) := by decide +kernel
theorem dX8_told_41 : decode cX8_told 41 = .ok (.getfield 47, 3) := by decide +kernel
theorem dX8_told_44 : decode cX8_told 44 = .ok (.getfield 230, 3) := by decide +kernel
theorem dX8_told_47 : decode cX8_told 47 = .ok (.ireturn, 1) := by decide +kernel
theorem dX8_told_48 : decode cX8_told 48 = .ok (.aload_n 0, 1) := by decide +kernel
theorem dX8_told_49 : decode cX8_told 49 = .ok (.getfield 33, 3) := by decide +kernel
theorem dX8_told_52 : decode cX8_told 52 = .ok (.getfield 206, 3) := by decide +kernel
theorem dX8_told_55 : decode cX8_told 55 = .ok (.ireturn, 1) := by decide +kernel
theorem dX8_told_56 : decode cX8_told 56 = .ok (.aload_n 0, 1) := by decide +kernel
theorem dX8_told_57 : decode cX8_told 57 = .ok (.getfield 40, 3) := by decide +kernel
theorem dX8_told_60 : decode cX8_told 60 = .ok (.getfield 214, 3) := by decide +kernel
theorem dX8_told_63 : decode cX8_told 63 = .ok (.ireturn, 1) := by decide +kernel
theorem dX8_told_64 : decode cX8_told 64 = .ok (.iload_n 1, 1) := by decide +kernel
theorem dX8_told_65 : decode cX8_told 65 = .ok (.bipush 10, 2) := by decide +kernel
theorem dX8_told_67 : decode cX8_told 67 = .ok (.bipush 13, 2) := by decide +kernel
theorem dX8_told_69 : decode cX8_told 69 = .ok (.invokestatic 51, 3) := by decide +kernel
theorem dX8_told_72 : decode cX8_told 72 = .ok (.ifCond .eq 18, 3) := by decide +kernel
theorem dX8_told_75 : decode cX8_told 75 = .ok (.aload_n 0, 1) := by decide +kernel
theorem dX8_told_76 : decode cX8_told 76 = .ok (.getfield 10, 3) := by decide +kernel
theorem dX8_told_79 : decode cX8_told 79 = .ok (.getfield 83, 3) := by decide +kernel
theorem dX8_told_82 : decode cX8_told 82 = .ok (.iload_n 1, 1) := by decide +kernel
theorem dX8_told_83 : decode cX8_told 83 = .ok (.bipush 10, 2) := by decide +kernel
theorem dX8_told_85 : decode cX8_told 85 = .ok (.isub, 1) := by decide +kernel
theorem dX8_told_86 : decode cX8_told 86 = .ok (.iaload, 1) := by decide +kernel
theorem dX8_told_87 : decode cX8_told 87 = .ok (.goto 5, 3) := by decide +kernel
theorem dX8_told_90 : decode cX8_told 90 = .ok (.bipush (-2), 2) := by decide +kernel
theorem dX8_told_92 : decode cX8_told 92 = .ok (.ireturn, 1) := by decide +kernel
theorem dX8_within_0 : decode cX8_within 0 = .ok (.iload_n 1, 1) := by decide +kernel
theorem dX8_within_1 : decode cX8_within 1 = .ok (.iload_n 0, 1) := by decide +kernel
theorem dX8_within_2 : decode cX8_within 2 = .ok (.if_icmp .gt 12, 3) := by decide +kernel
theorem dX8_within_5 : decode cX8_within 5 = .ok (.iload_n 0, 1) := by decide +kernel
theorem dX8_within_6 : decode cX8_within 6 = .ok (.iload_n 2, 1) := by decide +kernel
theorem dX8_within_7 : decode cX8_within 7 = .ok (.if_icmp .gt 7, 3) := by decide +kernel
theorem dX8_within_10 : decode cX8_within 10 = .ok (.iconst 1, 1) := by decide +kernel
theorem dX8_within_11 : decode cX8_within 11 = .ok (.goto 4, 3) := by decide +kernel
theorem dX8_within_14 : decode cX8_within 14 = .ok (.iconst 0, 1) := by decide +kernel
theorem dX8_within_15 : decode cX8_within 15 = .ok (.ireturn, 1) := by decide +kernel
theorem dX8_isEither_0 : decode cX8_isEither 0 = .ok (.iload_n 0, 1) := by decide +kernel
theorem dX8_isEither_1 : decode cX8_isEither 1 = .ok (.ifCond .eq 8, 3) := by decide +kernel
theorem dX8_isEither_4 : decode cX8_isEither 4 = .ok (.iload_n 0, 1) := by decide +kernel
theorem dX8_isEither_5 : decode cX8_isEither 5 = .ok (.iconst 1, 1) := by decide +kernel
theorem dX8_isEither_6 : decode cX8_isEither 6 = .ok (.if_icmp .ne 7, 3) := by decide +kernel
theorem dX8_isEither_9 : decode cX8_isEither 9 = .ok (.iconst 1, 1) := by decide +kernel
theorem dX8_isEither_10 : decode cX8_isEither 10 = .ok (.goto 4, 3) := by decide +kernel
theorem dX8_isEither_13 : decode cX8_isEither 13 = .ok (.iconst 0, 1) := by decide +kernel
theorem dX8_isEither_14 : decode cX8_isEither 14 = .ok (.ireturn, 1) := by decide +kernel
theorem dX8_isRow_0 : decode cX8_isRow 0 = .ok (.iload_n 0, 1) := by decide +kernel
theorem dX8_isRow_1 : decode cX8_isRow 1 = .ok (.iconst 0, 1) := by decide +kernel
theorem dX8_isRow_2 : decode cX8_isRow 2 = .ok (.iconst 5, 1) := by decide +kernel
theorem dX8_isRow_3 : decode cX8_isRow 3 = .ok (.invokestatic 51, 3) := by decide +kernel
theorem dX8_isRow_6 : decode cX8_isRow 6 = .ok (.ireturn, 1) := by decide +kernel
theorem dX8_isJudge_0 : decode cX8_isJudge 0 = .ok (.iload_n 0, 1) := by decide +kernel
theorem dX8_isJudge_1 : decode cX8_isJudge 1 = .ok (.iconst 0, 1) := by decide +kernel
theorem dX8_isJudge_2 : decode cX8_isJudge 2 = .ok (.iconst 3, 1) := by decide +kernel
theorem dX8_isJudge_3 : decode cX8_isJudge 3 = .ok (.invokestatic 51, 3) := by decide +kernel
theorem dX8_isJudge_6 : decode cX8_isJudge 6 = .ok (.ireturn, 1) := by decide +kernel
theorem dX8_isFact_0 : decode cX8_isFact 0 = .ok (.iload_n 0, 1) := by decide +kernel
theorem dX8_isFact_1 : decode cX8_isFact 1 = .ok (.sipush (-9999), 3) := by decide +kernel
theorem dX8_isFact_4 : decode cX8_isFact 4 = .ok (.sipush 9999, 3) := by decide +kernel
theorem dX8_isFact_7 : decode cX8_isFact 7 = .ok (.invokestatic 51, 3) := by decide +kernel
theorem dX8_isFact_10 : decode cX8_isFact 10 = .ok (.ireturn, 1) := by decide +kernel
theorem dX8_orNone_0 : decode cX8_orNone 0 = .ok (.iload_n 0, 1) := by decide +kernel
theorem dX8_orNone_1 : decode cX8_orNone 1 = .ok (.ldc 249, 2) := by decide +kernel
theorem dX8_orNone_3 : decode cX8_orNone 3 = .ok (.if_icmp .lt 8, 3) := by decide +kernel
theorem dX8_orNone_6 : decode cX8_orNone 6 = .ok (.bipush (-6), 2) := by decide +kernel
theorem dX8_orNone_8 : decode cX8_orNone 8 = .ok (.goto 4, 3) := by decide +kernel
theorem dX8_orNone_11 : decode cX8_orNone 11 = .ok (.iload_n 0, 1) := by decide +kernel
theorem dX8_orNone_12 : decode cX8_orNone 12 = .ok (.ireturn, 1) := by decide +kernel
theorem dX8_torsoMark_0 : decode cX8_torsoMark 0 = .ok (.bipush 10, 2) := by decide +kernel
theorem dX8_torsoMark_2 : decode cX8_torsoMark 2 = .ok (.iload_n 0, 1) := by decide +kernel
theorem dX8_torsoMark_3 : decode cX8_torsoMark 3 = .ok (.imul, 1) := by decide +kernel
theorem dX8_torsoMark_4 : decode cX8_torsoMark 4 = .ok (.iconst 1, 1) := by decide +kernel
theorem dX8_torsoMark_5 : decode cX8_torsoMark 5 = .ok (.iadd, 1) := by decide +kernel
theorem dX8_torsoMark_6 : decode cX8_torsoMark 6 = .ok (.ireturn, 1) := by decide +kernel
theorem dX8_floorQuotient_0 : decode cX8_floorQuotient 0 = .ok (.iload_n 1, 1) := by decide +kernel
theorem dX8_floorQuotient_1 : decode cX8_floorQuotient 1 = .ok (.iconst 1, 1) := by decide +kernel
theorem dX8_floorQuotient_2 : decode cX8_floorQuotient 2 = .ok (.if_icmp .ge 7, 3) := by decide +kernel
theorem dX8_floorQuotient_5 : decode cX8_floorQuotient 5 = .ok (.iconst 0, 1) := by decide +kernel
theorem dX8_floorQuotient_6 : decode cX8_floorQuotient 6 = .ok (.goto 8, 3) := by decide +kernel
theorem dX8_floorQuotient_9 : decode cX8_floorQuotient 9 = .ok (.iload_n 0, 1) := by decide +kernel
theorem dX8_floorQuotient_10 : decode cX8_floorQuotient 10 = .ok (.iload_n 1, 1) := by decide +kernel
theorem dX8_floorQuotient_11 : decode cX8_floorQuotient 11 = .ok (.invokestatic 250, 3) := by decide +kernel
theorem dX8_floorQuotient_14 : decode cX8_floorQuotient 14 = .ok (.ireturn, 1) := by decide +kernel
theorem dX8_ceilQuotient_0 : decode cX8_ceilQuotient 0 = .ok (.iload_n 1, 1) := by decide +kernel
theorem dX8_ceilQuotient_1 : decode cX8_ceilQuotient 1 = .ok (.iconst 1, 1) := by decide +kernel
theorem dX8_ceilQuotient_2 : decode cX8_ceilQuotient 2 = .ok (.if_icmp .ge 7, 3) := by decide +kernel
theorem dX8_ceilQuotient_5 : decode cX8_ceilQuotient 5 = .ok (.iconst 0, 1) := by decide +kernel
theorem dX8_ceilQuotient_6 : decode cX8_ceilQuotient 6 = .ok (.goto 10, 3) := by decide +kernel
theorem dX8_ceilQuotient_9 : decode cX8_ceilQuotient 9 = .ok (.iload_n 0, 1) := by decide +kernel
theorem dX8_ceilQuotient_10 : decode cX8_ceilQuotient 10 = .ok (.ineg, 1) := by decide +kernel
theorem dX8_ceilQuotient_11 : decode cX8_ceilQuotient 11 = .ok (.iload_n 1, 1) := by decide +kernel
theorem dX8_ceilQuotient_12 : decode cX8_ceilQuotient 12 = .ok (.invokestatic 250, 3) := by decide +kernel
theorem dX8_ceilQuotient_15 : decode cX8_ceilQuotient 15 = .ok (.ineg, 1) := by decide +kernel
theorem dX8_ceilQuotient_16 : decode cX8_ceilQuotient 16 = .ok (.ireturn, 1) := by decide +kernel
theorem dX8_power_0 : decode cX8_power 0 = .ok (.lconst 1, 1) := by decide +kernel
theorem dX8_power_1 : decode cX8_power 1 = .ok (.lstore_n 3, 1) := by decide +kernel
theorem dX8_power_2 : decode cX8_power 2 = .ok (.iconst 0, 1) := by decide +kernel
theorem dX8_power_3 : decode cX8_power 3 = .ok (.istore 5, 2) := by decide +kernel
theorem dX8_power_5 : decode cX8_power 5 = .ok (.iload 5, 2) := by decide +kernel
theorem dX8_power_7 : decode cX8_power 7 = .ok (.iload_n 2, 1) := by decide +kernel
theorem dX8_power_8 : decode cX8_power 8 = .ok (.if_icmp .ge 13, 3) := by decide +kernel
theorem dX8_power_11 : decode cX8_power 11 = .ok (.lload_n 3, 1) := by decide +kernel
theorem dX8_power_12 : decode cX8_power 12 = .ok (.lload_n 0, 1) := by decide +kernel
theorem dX8_power_13 : decode cX8_power 13 = .ok (.lmul, 1) := by decide +kernel
theorem dX8_power_14 : decode cX8_power 14 = .ok (.lstore_n 3, 1) := by decide +kernel
theorem dX8_power_15 : decode cX8_power 15 = .ok (.iinc 5 1, 3) := by decide +kernel
theorem dX8_power_18 : decode cX8_power 18 = .ok (.goto (-13), 3) := by decide +kernel
theorem dX8_power_21 : decode cX8_power 21 = .ok (.lload_n 3, 1) := by decide +kernel
theorem dX8_power_22 : decode cX8_power 22 = .ok (.lreturn, 1) := by decide +kernel
theorem dX8_commonDivisor_0 : decode cX8_commonDivisor 0 = .ok (.lload_n 0, 1) := by decide +kernel
theorem dX8_commonDivisor_1 : decode cX8_commonDivisor 1 = .ok (.lstore 4, 2) := by decide +kernel
theorem dX8_commonDivisor_3 : decode cX8_commonDivisor 3 = .ok (.lload_n 2, 1) := by decide +kernel
theorem dX8_commonDivisor_4 : decode cX8_commonDivisor 4 = .ok (.lstore 6, 2) := by decide +kernel
theorem dX8_commonDivisor_6 : decode cX8_commonDivisor 6 = .ok (.iconst 0, 1) := by decide +kernel
theorem dX8_commonDivisor_7 : decode cX8_commonDivisor 7 = .ok (.istore 8, 2) := by decide +kernel
theorem dX8_commonDivisor_9 : decode cX8_commonDivisor 9 = .ok (.iload 8, 2) := by decide +kernel
theorem dX8_commonDivisor_11 : decode cX8_commonDivisor 11 = .ok (.bipush 100, 2) := by decide +kernel
theorem dX8_commonDivisor_13 : decode cX8_commonDivisor 13 = .ok (.if_icmp .ge 31, 3) := by decide +kernel
theorem dX8_commonDivisor_16 : decode cX8_commonDivisor 16 = .ok (.lload 6, 2) := by decide +kernel
theorem dX8_commonDivisor_18 : decode cX8_commonDivisor 18 = .ok (.lconst 0, 1) := by decide +kernel
theorem dX8_commonDivisor_19 : decode cX8_commonDivisor 19 = .ok (.lcmp, 1) := by decide +kernel
theorem dX8_commonDivisor_20 : decode cX8_commonDivisor 20 = .ok (.ifCond .le 24, 3) := by decide +kernel
theorem dX8_commonDivisor_23 : decode cX8_commonDivisor 23 = .ok (.lload 4, 2) := by decide +kernel
theorem dX8_commonDivisor_25 : decode cX8_commonDivisor 25 = .ok (.lload 6, 2) := by decide +kernel
theorem dX8_commonDivisor_27 : decode cX8_commonDivisor 27 = .ok (.lrem, 1) := by decide +kernel
theorem dX8_commonDivisor_28 : decode cX8_commonDivisor 28 = .ok (.lstore 9, 2) := by decide +kernel
theorem dX8_commonDivisor_30 : decode cX8_commonDivisor 30 = .ok (.lload 6, 2) := by decide +kernel
theorem dX8_commonDivisor_32 : decode cX8_commonDivisor 32 = .ok (.lstore 4, 2) := by decide +kernel
theorem dX8_commonDivisor_34 : decode cX8_commonDivisor 34 = .ok (.lload 9, 2) := by decide +kernel
theorem dX8_commonDivisor_36 : decode cX8_commonDivisor 36 = .ok (.lstore 6, 2) := by decide +kernel
theorem dX8_commonDivisor_38 : decode cX8_commonDivisor 38 = .ok (.iinc 8 1, 3) := by decide +kernel
theorem dX8_commonDivisor_41 : decode cX8_commonDivisor 41 = .ok (.goto (-32), 3) := by decide +kernel
theorem dX8_commonDivisor_44 : decode cX8_commonDivisor 44 = .ok (.lload 4, 2) := by decide +kernel
theorem dX8_commonDivisor_46 : decode cX8_commonDivisor 46 = .ok (.lreturn, 1) := by decide +kernel
theorem dX8_canStretch_0 : decode cX8_canStretch 0 = .ok (.iload_n 1, 1) := by decide +kernel
theorem dX8_canStretch_1 : decode cX8_canStretch 1 = .ok (.iload_n 0, 1) := by decide +kernel
theorem dX8_canStretch_2 : decode cX8_canStretch 2 = .ok (.iload_n 2, 1) := by decide +kernel
theorem dX8_canStretch_3 : decode cX8_canStretch 3 = .ok (.invokestatic 253, 3) := by decide +kernel
theorem dX8_canStretch_6 : decode cX8_canStretch 6 = .ok (.iload_n 0, 1) := by decide +kernel
theorem dX8_canStretch_7 : decode cX8_canStretch 7 = .ok (.iload_n 2, 1) := by decide +kernel
theorem dX8_canStretch_8 : decode cX8_canStretch 8 = .ok (.invokestatic 256, 3) := by decide +kernel
theorem dX8_canStretch_11 : decode cX8_canStretch 11 = .ok (.invokestatic 51, 3) := by decide +kernel
theorem dX8_canStretch_14 : decode cX8_canStretch 14 = .ok (.ireturn, 1) := by decide +kernel
theorem dX8_chosen_0 : decode cX8_chosen 0 = .ok (.iload_n 0, 1) := by decide +kernel
theorem dX8_chosen_1 : decode cX8_chosen 1 = .ok (.lookupswitch 41 #[(104, 39), (116, 35), (119, 37)], 35) := by decide +kernel
theorem dX8_chosen_36 : decode cX8_chosen 36 = .ok (.iload_n 1, 1) := by decide +kernel
theorem dX8_chosen_37 : decode cX8_chosen 37 = .ok (.ireturn, 1) := by decide +kernel
theorem dX8_chosen_38 : decode cX8_chosen 38 = .ok (.iload_n 2, 1) := by decide +kernel
theorem dX8_chosen_39 : decode cX8_chosen 39 = .ok (.ireturn, 1) := by decide +kernel
theorem dX8_chosen_40 : decode cX8_chosen 40 = .ok (.iload_n 3, 1) := by decide +kernel
theorem dX8_chosen_41 : decode cX8_chosen 41 = .ok (.ireturn, 1) := by decide +kernel
theorem dX8_chosen_42 : decode cX8_chosen 42 = .ok (.iload 4, 2) := by decide +kernel
theorem dX8_chosen_44 : decode cX8_chosen 44 = .ok (.ireturn, 1) := by decide +kernel
theorem dX8_pairsOf_0 : decode cX8_pairsOf 0 = .ok (.iload_n 0, 1) := by decide +kernel
theorem dX8_pairsOf_1 : decode cX8_pairsOf 1 = .ok (.iload_n 0, 1) := by decide +kernel
theorem dX8_pairsOf_2 : decode cX8_pairsOf 2 = .ok (.iconst 1, 1) := by decide +kernel
theorem dX8_pairsOf_3 : decode cX8_pairsOf 3 = .ok (.isub, 1) := by decide +kernel
theorem dX8_pairsOf_4 : decode cX8_pairsOf 4 = .ok (.imul, 1) := by decide +kernel
theorem dX8_pairsOf_5 : decode cX8_pairsOf 5 = .ok (.iconst 2, 1) := by decide +kernel
theorem dX8_pairsOf_6 : decode cX8_pairsOf 6 = .ok (.idiv, 1) := by decide +kernel
theorem dX8_pairsOf_7 : decode cX8_pairsOf 7 = .ok (.ireturn, 1) := by decide +kernel
theorem dX8_untold_0 : decode cX8_untold 0 = .ok (.iload_n 0, 1) := by decide +kernel
theorem dX8_untold_1 : decode cX8_untold 1 = .ok (.invokestatic 259, 3) := by decide +kernel
theorem dX8_untold_4 : decode cX8_untold 4 = .ok (.iload_n 1, 1) := by decide +kernel
theorem dX8_untold_5 : decode cX8_untold 5 = .ok (.invokestatic 244, 3) := by decide +kernel
theorem dX8_untold_8 : decode cX8_untold 8 = .ok (.invokestatic 259, 3) := by decide +kernel
theorem dX8_untold_11 : decode cX8_untold 11 = .ok (.isub, 1) := by decide +kernel
theorem dX8_untold_12 : decode cX8_untold 12 = .ok (.ireturn, 1) := by decide +kernel
theorem dX8_rank_0 : decode cX8_rank 0 = .ok (.aload_n 0, 1) := by decide +kernel
theorem dX8_rank_1 : decode cX8_rank 1 = .ok (.getfield 19, 3) := by decide +kernel
theorem dX8_rank_4 : decode cX8_rank 4 = .ok (.iconst 0, 1) := by decide +kernel
theorem dX8_rank_5 : decode cX8_rank 5 = .ok (.putfield 130, 3) := by decide +kernel
theorem dX8_rank_8 : decode cX8_rank 8 = .ok (.iconst 0, 1) := by decide +kernel
theorem dX8_rank_9 : decode cX8_rank 9 = .ok (.istore_n 2, 1) := by decide +kernel
theorem dX8_rank_10 : decode cX8_rank 10 = .ok (.iload_n 2, 1) := by decide +kernel
theorem dX8_rank_11 : decode cX8_rank 11 = .ok (.aload_n 0, 1) := by decide +kernel
theorem dX8_rank_12 : decode cX8_rank 12 = .ok (.getfield 10, 3) := by decide +kernel
theorem dX8_rank_15 : decode cX8_rank 15 = .ok (.getfield 118, 3) := by decide +kernel
theorem dX8_rank_18 : decode cX8_rank 18 = .ok (.if_icmp .ge 50, 3) := by decide +kernel
theorem dX8_rank_21 : decode cX8_rank 21 = .ok (.aload_n 0, 1) := by decide +kernel
theorem dX8_rank_22 : decode cX8_rank 22 = .ok (.getfield 10, 3) := by decide +kernel
theorem dX8_rank_25 : decode cX8_rank 25 = .ok (.iload_n 2, 1) := by decide +kernel
theorem dX8_rank_26 : decode cX8_rank 26 = .ok (.invokevirtual 100, 3) := by decide +kernel
theorem dX8_rank_29 : decode cX8_rank 29 = .ok (.istore_n 3, 1) := by decide +kernel
theorem dX8_rank_30 : decode cX8_rank 30 = .ok (.iload_n 3, 1) := by decide +kernel
theorem dX8_rank_31 : decode cX8_rank 31 = .ok (.ldc 249, 2) := by decide +kernel
theorem dX8_rank_33 : decode cX8_rank 33 = .ok (.if_icmp .ge 29, 3) := by decide +kernel
theorem dX8_rank_36 : decode cX8_rank 36 = .ok (.aload_n 0, 1) := by decide +kernel
theorem dX8_rank_37 : decode cX8_rank 37 = .ok (.getfield 19, 3) := by decide +kernel
theorem dX8_rank_40 : decode cX8_rank 40 = .ok (.iload_n 2, 1) := by decide +kernel
theorem dX8_rank_41 : decode cX8_rank 41 = .ok (.iload_n 1, 1) := by decide +kernel
theorem dX8_rank_42 : decode cX8_rank 42 = .ok (.ifCond .eq 16, 3) := by decide +kernel
theorem dX8_rank_45 : decode cX8_rank 45 = .ok (.iload_n 3, 1) := by decide +kernel
theorem dX8_rank_46 : decode cX8_rank 46 = .ok (.aload_n 0, 1) := by decide +kernel
theorem dX8_rank_47 : decode cX8_rank 47 = .ok (.getfield 10, 3) := by decide +kernel
theorem dX8_rank_50 : decode cX8_rank 50 = .ok (.iload_n 2, 1) := by decide +kernel
theorem dX8_rank_51 : decode cX8_rank 51 = .ok (.invokevirtual 112, 3) := by decide +kernel
theorem dX8_rank_54 : decode cX8_rank 54 = .ok (.isub, 1) := by decide +kernel
theorem dX8_rank_55 : decode cX8_rank 55 = .ok (.goto 4, 3) := by decide +kernel
theorem dX8_rank_58 : decode cX8_rank 58 = .ok (.iload_n 3, 1) := by decide +kernel
theorem dX8_rank_59 : decode cX8_rank 59 = .ok (.invokevirtual 262, 3) := by decide +kernel
theorem dX8_rank_62 : decode cX8_rank 62 = .ok (.iinc 2 1, 3) := by decide +kernel
theorem dX8_rank_65 : decode cX8_rank 65 = .ok (.goto (-55), 3) := by decide +kernel
theorem dX8_rank_68 : decode cX8_rank 68 = .ok (.return_, 1) := by decide +kernel
