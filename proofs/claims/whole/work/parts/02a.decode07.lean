theorem dX0_init_0 : decode cX0_init 0 = .ok (.aload_n 0, 1) := by decide +kernel
theorem dX0_init_1 : decode cX0_init 1 = .ok (.invokespecial 3, 3) := by decide +kernel
theorem dX0_init_4 : decode cX0_init 4 = .ok (.aload_n 0, 1) := by decide +kernel
theorem dX0_init_5 : decode cX0_init 5 = .ok (.bipush 8, 2) := by decide +kernel
theorem dX0_init_7 : decode cX0_init 7 = .ok (.newarray .int, 2) := by decide +kernel
theorem dX0_init_9 : decode cX0_init 9 = .ok (.putfield 9, 3) := by decide +kernel
theorem dX0_init_12 : decode cX0_init 12 = .ok (.aload_n 0, 1) := by decide +kernel
theorem dX0_init_13 : decode cX0_init 13 = .ok (.bipush 8, 2) := by decide +kernel
theorem dX0_init_15 : decode cX0_init 15 = .ok (.newarray .int, 2) := by decide +kernel
theorem dX0_init_17 : decode cX0_init 17 = .ok (.putfield 15, 3) := by decide +kernel
theorem dX0_init_20 : decode cX0_init 20 = .ok (.aload_n 0, 1) := by decide +kernel
theorem dX0_init_21 : decode cX0_init 21 = .ok (.bipush 8, 2) := by decide +kernel
theorem dX0_init_23 : decode cX0_init 23 = .ok (.newarray .int, 2) := by decide +kernel
theorem dX0_init_25 : decode cX0_init 25 = .ok (.putfield 18, 3) := by decide +kernel
theorem dX0_init_28 : decode cX0_init 28 = .ok (.aload_n 0, 1) := by decide +kernel
theorem dX0_init_29 : decode cX0_init 29 = .ok (.bipush 8, 2) := by decide +kernel
theorem dX0_init_31 : decode cX0_init 31 = .ok (.newarray .int, 2) := by decide +kernel
theorem dX0_init_33 : decode cX0_init 33 = .ok (.putfield 21, 3) := by decide +kernel
theorem dX0_init_36 : decode cX0_init 36 = .ok (.return_, 1) := by decide +kernel
theorem dX0_read_0 : decode cX0_read 0 = .ok (.aload_n 0, 1) := by decide +kernel
theorem dX0_read_1 : decode cX0_read 1 = .ok (.iconst 0, 1) := by decide +kernel
theorem dX0_read_2 : decode cX0_read 2 = .ok (.putfield 24, 3) := by decide +kernel
theorem dX0_read_5 : decode cX0_read 5 = .ok (.iconst 0, 1) := by decide +kernel
theorem dX0_read_6 : decode cX0_read 6 = .ok (.istore_n 2, 1) := by decide +kernel
theorem dX0_read_7 : decode cX0_read 7 = .ok (.iload_n 2, 1) := by decide +kernel
theorem dX0_read_8 : decode cX0_read 8 = .ok (.aload_n 1, 1) := by decide +kernel
theorem dX0_read_9 : decode cX0_read 9 = .ok (.getfield 28, 3) := by decide +kernel
theorem dX0_read_12 : decode cX0_read 12 = .ok (.if_icmp .ge 19, 3) := by decide +kernel
theorem dX0_read_15 : decode cX0_read 15 = .ok (.aload_n 0, 1) := by decide +kernel
theorem dX0_read_16 : decode cX0_read 16 = .ok (.aload_n 1, 1) := by decide +kernel
theorem dX0_read_17 : decode cX0_read 17 = .ok (.getfield 31, 3) := by decide +kernel
theorem dX0_read_20 : decode cX0_read 20 = .ok (.iload_n 2, 1) := by decide +kernel
theorem dX0_read_21 : decode cX0_read 21 = .ok (.iaload, 1) := by decide +kernel
theorem dX0_read_22 : decode cX0_read 22 = .ok (.invokevirtual 34, 3) := by decide +kernel
theorem dX0_read_25 : decode cX0_read 25 = .ok (.iinc 2 1, 3) := by decide +kernel
theorem dX0_read_28 : decode cX0_read 28 = .ok (.goto (-21), 3) := by decide +kernel
theorem dX0_read_31 : decode cX0_read 31 = .ok (.return_, 1) := by decide +kernel
theorem dX0_take_0 : decode cX0_take 0 = .ok (.iload_n 1, 1) := by decide +kernel
theorem dX0_take_1 : decode cX0_take 1 = .ok (.invokestatic 38, 3) := by decide +kernel
theorem dX0_take_4 : decode cX0_take 4 = .ok (.ifCond .eq 9, 3) := by decide +kernel
theorem dX0_take_7 : decode cX0_take 7 = .ok (.aload_n 0, 1) := by decide +kernel
theorem dX0_take_8 : decode cX0_take 8 = .ok (.iload_n 1, 1) := by decide +kernel
theorem dX0_take_9 : decode cX0_take 9 = .ok (.invokevirtual 42, 3) := by decide +kernel
theorem dX0_take_12 : decode cX0_take 12 = .ok (.return_, 1) := by decide +kernel
theorem dX0_take_13 : decode cX0_take 13 = .ok (.aload_n 0, 1) := by decide +kernel
theorem dX0_take_14 : decode cX0_take 14 = .ok (.getfield 24, 3) := by decide +kernel
theorem dX0_take_17 : decode cX0_take 17 = .ok (.iconst 1, 1) := by decide +kernel
theorem dX0_take_18 : decode cX0_take 18 = .ok (.isub, 1) := by decide +kernel
theorem dX0_take_19 : decode cX0_take 19 = .ok (.istore_n 2, 1) := by decide +kernel
theorem dX0_take_20 : decode cX0_take 20 = .ok (.iload_n 2, 1) := by decide +kernel
theorem dX0_take_21 : decode cX0_take 21 = .ok (.ifCond .ge 4, 3) := by decide +kernel
theorem dX0_take_24 : decode cX0_take 24 = .ok (.return_, 1) := by decide +kernel
theorem dX0_take_25 : decode cX0_take 25 = .ok (.iload_n 1, 1) := by decide +kernel
theorem dX0_take_26 : decode cX0_take 26 = .ok (.invokestatic 45, 3) := by decide +kernel
theorem dX0_take_29 : decode cX0_take 29 = .ok (.ifCond .eq 13, 3) := by decide +kernel
theorem dX0_take_32 : decode cX0_take 32 = .ok (.aload_n 0, 1) := by decide +kernel
theorem dX0_take_33 : decode cX0_take 33 = .ok (.getfield 15, 3) := by decide +kernel
theorem dX0_take_36 : decode cX0_take 36 = .ok (.iload_n 2, 1) := by decide +kernel
theorem dX0_take_37 : decode cX0_take 37 = .ok (.iload_n 1, 1) := by decide +kernel
theorem dX0_take_38 : decode cX0_take 38 = .ok (.iastore, 1) := by decide +kernel
theorem dX0_take_39 : decode cX0_take 39 = .ok (.goto 46, 3) := by decide +kernel
theorem dX0_take_42 : decode cX0_take 42 = .ok (.iload_n 1, 1) := by decide +kernel
theorem dX0_take_43 : decode cX0_take 43 = .ok (.bipush 45, 2) := by decide +kernel
theorem dX0_take_45 : decode cX0_take 45 = .ok (.if_icmp .ne 13, 3) := by decide +kernel
theorem dX0_take_48 : decode cX0_take 48 = .ok (.aload_n 0, 1) := by decide +kernel
theorem dX0_take_49 : decode cX0_take 49 = .ok (.getfield 18, 3) := by decide +kernel
theorem dX0_take_52 : decode cX0_take 52 = .ok (.iload_n 2, 1) := by decide +kernel
theorem dX0_take_53 : decode cX0_take 53 = .ok (.iconst (-1), 1) := by decide +kernel
theorem dX0_take_54 : decode cX0_take 54 = .ok (.iastore, 1) := by decide +kernel
theorem dX0_take_55 : decode cX0_take 55 = .ok (.goto 30, 3) := by decide +kernel
theorem dX0_take_58 : decode cX0_take 58 = .ok (.iload_n 1, 1) := by decide +kernel
theorem dX0_take_59 : decode cX0_take 59 = .ok (.invokestatic 48, 3) := by decide +kernel
theorem dX0_take_62 : decode cX0_take 62 = .ok (.ifCond .eq 23, 3) := by decide +kernel
theorem dX0_take_65 : decode cX0_take 65 = .ok (.aload_n 0, 1) := by decide +kernel
theorem dX0_take_66 : decode cX0_take 66 = .ok (.getfield 21, 3) := by decide +kernel
theorem dX0_take_69 : decode cX0_take 69 = .ok (.iload_n 2, 1) := by decide +kernel
theorem dX0_take_70 : decode cX0_take 70 = .ok (.bipush 10, 2) := by decide +kernel
theorem dX0_take_72 : decode cX0_take 72 = .ok (.aload_n 0, 1) := by decide +kernel
theorem dX0_take_73 : decode cX0_take 73 = .ok (.getfield 21, 3) := by decide +kernel
theorem dX0_take_76 : decode cX0_take 76 = .ok (.iload_n 2, 1) := by decide +kernel
theorem dX0_take_77 : decode cX0_take 77 = .ok (.iaload, 1) := by decide +kernel
theorem dX0_take_78 : decode cX0_take 78 = .ok (.imul, 1) := by decide +kernel
theorem dX0_take_79 : decode cX0_take 79 = .ok (.iload_n 1, 1) := by decide +kernel
theorem dX0_take_80 : decode cX0_take 80 = .ok (.iadd, 1) := by decide +kernel
theorem dX0_take_81 : decode cX0_take 81 = .ok (.bipush 48, 2) := by decide +kernel
theorem dX0_take_83 : decode cX0_take 83 = .ok (.isub, 1) := by decide +kernel
theorem dX0_take_84 : decode cX0_take 84 = .ok (.iastore, 1) := by decide +kernel
theorem dX0_take_85 : decode cX0_take 85 = .ok (.return_, 1) := by decide +kernel
theorem dX0_open_0 : decode cX0_open 0 = .ok (.aload_n 0, 1) := by decide +kernel
theorem dX0_open_1 : decode cX0_open 1 = .ok (.getfield 24, 3) := by decide +kernel
theorem dX0_open_4 : decode cX0_open 4 = .ok (.bipush 8, 2) := by decide +kernel
theorem dX0_open_6 : decode cX0_open 6 = .ok (.if_icmp .lt 4, 3) := by decide +kernel
theorem dX0_open_9 : decode cX0_open 9 = .ok (.return_, 1) := by decide +kernel
theorem dX0_open_10 : decode cX0_open 10 = .ok (.aload_n 0, 1) := by decide +kernel
theorem dX0_open_11 : decode cX0_open 11 = .ok (.getfield 9, 3) := by decide +kernel
theorem dX0_open_14 : decode cX0_open 14 = .ok (.aload_n 0, 1) := by decide +kernel
theorem dX0_open_15 : decode cX0_open 15 = .ok (.getfield 24, 3) := by decide +kernel
theorem dX0_open_18 : decode cX0_open 18 = .ok (.iload_n 1, 1) := by decide +kernel
theorem dX0_open_19 : decode cX0_open 19 = .ok (.iastore, 1) := by decide +kernel
theorem dX0_open_20 : decode cX0_open 20 = .ok (.aload_n 0, 1) := by decide +kernel
theorem dX0_open_21 : decode cX0_open 21 = .ok (.getfield 18, 3) := by decide +kernel
theorem dX0_open_24 : decode cX0_open 24 = .ok (.aload_n 0, 1) := by decide +kernel
theorem dX0_open_25 : decode cX0_open 25 = .ok (.getfield 24, 3) := by decide +kernel
theorem dX0_open_28 : decode cX0_open 28 = .ok (.iconst 1, 1) := by decide +kernel
theorem dX0_open_29 : decode cX0_open 29 = .ok (.iastore, 1) := by decide +kernel
theorem dX0_open_30 : decode cX0_open 30 = .ok (.aload_n 0, 1) := by decide +kernel
theorem dX0_open_31 : decode cX0_open 31 = .ok (.getfield 21, 3) := by decide +kernel
theorem dX0_open_34 : decode cX0_open 34 = .ok (.aload_n 0, 1) := by decide +kernel
theorem dX0_open_35 : decode cX0_open 35 = .ok (.getfield 24, 3) := by decide +kernel
theorem dX0_open_38 : decode cX0_open 38 = .ok (.iconst 0, 1) := by decide +kernel
theorem dX0_open_39 : decode cX0_open 39 = .ok (.iastore, 1) := by decide +kernel
theorem dX0_open_40 : decode cX0_open 40 = .ok (.aload_n 0, 1) := by decide +kernel
theorem dX0_open_41 : decode cX0_open 41 = .ok (.dup, 1) := by decide +kernel
theorem dX0_open_42 : decode cX0_open 42 = .ok (.getfield 24, 3) := by decide +kernel
theorem dX0_open_45 : decode cX0_open 45 = .ok (.iconst 1, 1) := by decide +kernel
theorem dX0_open_46 : decode cX0_open 46 = .ok (.iadd, 1) := by decide +kernel
theorem dX0_open_47 : decode cX0_open 47 = .ok (.putfield 24, 3) := by decide +kernel
theorem dX0_open_50 : decode cX0_open 50 = .ok (.return_, 1) := by decide +kernel
theorem dX0_isSo_0 : decode cX0_isSo 0 = .ok (.aload_n 0, 1) := by decide +kernel
theorem dX0_isSo_1 : decode cX0_isSo 1 = .ok (.getfield 18, 3) := by decide +kernel
theorem dX0_isSo_4 : decode cX0_isSo 4 = .ok (.iload_n 1, 1) := by decide +kernel
theorem dX0_isSo_5 : decode cX0_isSo 5 = .ok (.iaload, 1) := by decide +kernel
theorem dX0_isSo_6 : decode cX0_isSo 6 = .ok (.aload_n 0, 1) := by decide +kernel
theorem dX0_isSo_7 : decode cX0_isSo 7 = .ok (.getfield 21, 3) := by decide +kernel
theorem dX0_isSo_10 : decode cX0_isSo 10 = .ok (.iload_n 1, 1) := by decide +kernel
theorem dX0_isSo_11 : decode cX0_isSo 11 = .ok (.iaload, 1) := by decide +kernel
theorem dX0_isSo_12 : decode cX0_isSo 12 = .ok (.imul, 1) := by decide +kernel
theorem dX0_isSo_13 : decode cX0_isSo 13 = .ok (.istore_n 3, 1) := by decide +kernel
theorem dX0_isSo_14 : decode cX0_isSo 14 = .ok (.aload_n 0, 1) := by decide +kernel
theorem dX0_isSo_15 : decode cX0_isSo 15 = .ok (.getfield 15, 3) := by decide +kernel
theorem dX0_isSo_18 : decode cX0_isSo 18 = .ok (.iload_n 1, 1) := by decide +kernel
theorem dX0_isSo_19 : decode cX0_isSo 19 = .ok (.iaload, 1) := by decide +kernel
theorem dX0_isSo_20 : decode cX0_isSo 20 = .ok (.lookupswitch 50 #[(60, 28), (62, 39)], 28) := by decide +kernel
theorem dX0_isSo_48 : decode cX0_isSo 48 = .ok (.iload_n 2, 1) := by decide +kernel
theorem dX0_isSo_49 : decode cX0_isSo 49 = .ok (.iload_n 3, 1) := by decide +kernel
theorem dX0_isSo_50 : decode cX0_isSo 50 = .ok (.if_icmp .ge 7, 3) := by decide +kernel
theorem dX0_isSo_53 : decode cX0_isSo 53 = .ok (.iconst 1, 1) := by decide +kernel
theorem dX0_isSo_54 : decode cX0_isSo 54 = .ok (.goto 4, 3) := by decide +kernel
theorem dX0_isSo_57 : decode cX0_isSo 57 = .ok (.iconst 0, 1) := by decide +kernel
theorem dX0_isSo_58 : decode cX0_isSo 58 = .ok (.ireturn, 1) := by decide +kernel
theorem dX0_isSo_59 : decode cX0_isSo 59 = .ok (.iload_n 2, 1) := by decide +kernel
theorem dX0_isSo_60 : decode cX0_isSo 60 = .ok (.iload_n 3, 1) := by decide +kernel
theorem dX0_isSo_61 : decode cX0_isSo 61 = .ok (.if_icmp .le 7, 3) := by decide +kernel
theorem dX0_isSo_64 : decode cX0_isSo 64 = .ok (.iconst 1, 1) := by decide +kernel
theorem dX0_isSo_65 : decode cX0_isSo 65 = .ok (.goto 4, 3) := by decide +kernel
theorem dX0_isSo_68 : decode cX0_isSo 68 = .ok (.iconst 0, 1) := by decide +kernel
theorem dX0_isSo_69 : decode cX0_isSo 69 = .ok (.ireturn, 1) := by decide +kernel
theorem dX0_isSo_70 : decode cX0_isSo 70 = .ok (.iload_n 2, 1) := by decide +kernel
theorem dX0_isSo_71 : decode cX0_isSo 71 = .ok (.iload_n 3, 1) := by decide +kernel
theorem dX0_isSo_72 : decode cX0_isSo 72 = .ok (.if_icmp .ne 7, 3) := by decide +kernel
theorem dX0_isSo_75 : decode cX0_isSo 75 = .ok (.iconst 1, 1) := by decide +kernel
theorem dX0_isSo_76 : decode cX0_isSo 76 = .ok (.goto 4, 3) := by decide +kernel
theorem dX0_isSo_79 : decode cX0_isSo 79 = .ok (.iconst 0, 1) := by decide +kernel
theorem dX0_isSo_80 : decode cX0_isSo 80 = .ok (.ireturn, 1) := by decide +kernel
theorem dX1_init_0 : decode cX1_init 0 = .ok (.aload_n 0, 1) := by decide +kernel
theorem dX1_init_1 : decode cX1_init 1 = .ok (.invokespecial 3, 3) := by decide +kernel
theorem dX1_init_4 : decode cX1_init 4 = .ok (.aload_n 0, 1) := by decide +kernel
theorem dX1_init_5 : decode cX1_init 5 = .ok (.iconst 4, 1) := by decide +kernel
theorem dX1_init_6 : decode cX1_init 6 = .ok (.anewarray 9, 3) := by decide +kernel
theorem dX1_init_9 : decode cX1_init 9 = .ok (.putfield 11, 3) := by decide +kernel
theorem dX1_init_12 : decode cX1_init 12 = .ok (.aload_n 0, 1) := by decide +kernel
theorem dX1_init_13 : decode cX1_init 13 = .ok (.iconst 4, 1) := by decide +kernel
theorem dX1_init_14 : decode cX1_init 14 = .ok (.newarray .int, 2) := by decide +kernel
theorem dX1_init_16 : decode cX1_init 16 = .ok (.putfield 17, 3) := by decide +kernel
theorem dX1_init_19 : decode cX1_init 19 = .ok (.aload_n 0, 1) := by decide +kernel
theorem dX1_init_20 : decode cX1_init 20 = .ok (.new 9, 3) := by decide +kernel
theorem dX1_init_23 : decode cX1_init 23 = .ok (.dup, 1) := by decide +kernel
theorem dX1_init_24 : decode cX1_init 24 = .ok (.invokespecial 21, 3) := by decide +kernel
theorem dX1_init_27 : decode cX1_init 27 = .ok (.putfield 22, 3) := by decide +kernel
theorem dX1_init_30 : decode cX1_init 30 = .ok (.iconst 0, 1) := by decide +kernel
theorem dX1_init_31 : decode cX1_init 31 = .ok (.istore_n 1, 1) := by decide +kernel
theorem dX1_init_32 : decode cX1_init 32 = .ok (.iload_n 1, 1) := by decide +kernel
theorem dX1_init_33 : decode cX1_init 33 = .ok (.iconst 4, 1) := by decide +kernel
theorem dX1_init_34 : decode cX1_init 34 = .ok (.if_icmp .ge 42, 3) := by decide +kernel
theorem dX1_init_37 : decode cX1_init 37 = .ok (.aload_n 0, 1) := by decide +kernel
theorem dX1_init_38 : decode cX1_init 38 = .ok (.getfield 11, 3) := by decide +kernel
theorem dX1_init_41 : decode cX1_init 41 = .ok (.iload_n 1, 1) := by decide +kernel
theorem dX1_init_42 : decode cX1_init 42 = .ok (.new 9, 3) := by decide +kernel
theorem dX1_init_45 : decode cX1_init 45 = .ok (.dup, 1) := by decide +kernel
theorem dX1_init_46 : decode cX1_init 46 = .ok (.invokespecial 21, 3) := by decide +kernel
theorem dX1_init_49 : decode cX1_init 49 = .ok (.aastore, 1) := by decide +kernel
theorem dX1_init_50 : decode cX1_init 50 = .ok (.aload_n 0, 1) := by decide +kernel
theorem dX1_init_51 : decode cX1_init 51 = .ok (.getfield 11, 3) := by decide +kernel
theorem dX1_init_54 : decode cX1_init 54 = .ok (.iload_n 1, 1) := by decide +kernel
theorem dX1_init_55 : decode cX1_init 55 = .ok (.aaload, 1) := by decide +kernel
theorem dX1_init_56 : decode cX1_init 56 = .ok (.iconst 0, 1) := by decide +kernel
theorem dX1_init_57 : decode cX1_init 57 = .ok (.bipush 50, 2) := by decide +kernel
theorem dX1_init_59 : decode cX1_init 59 = .ok (.invokevirtual 26, 3) := by decide +kernel
theorem dX1_init_62 : decode cX1_init 62 = .ok (.aload_n 0, 1) := by decide +kernel
theorem dX1_init_63 : decode cX1_init 63 = .ok (.getfield 17, 3) := by decide +kernel
theorem dX1_init_66 : decode cX1_init 66 = .ok (.iload_n 1, 1) := by decide +kernel
theorem dX1_init_67 : decode cX1_init 67 = .ok (.bipush (-6), 2) := by decide +kernel
theorem dX1_init_69 : decode cX1_init 69 = .ok (.iastore, 1) := by decide +kernel
theorem dX1_init_70 : decode cX1_init 70 = .ok (.iinc 1 1, 3) := by decide +kernel
theorem dX1_init_73 : decode cX1_init 73 = .ok (.goto (-41), 3) := by decide +kernel
theorem dX1_init_76 : decode cX1_init 76 = .ok (.return_, 1) := by decide +kernel
theorem dX1_agree_0 : decode cX1_agree 0 = .ok (.iconst 0, 1) := by decide +kernel
theorem dX1_agree_1 : decode cX1_agree 1 = .ok (.istore_n 1, 1) := by decide +kernel
theorem dX1_agree_2 : decode cX1_agree 2 = .ok (.aload_n 0, 1) := by decide +kernel
theorem dX1_agree_3 : decode cX1_agree 3 = .ok (.getfield 22, 3) := by decide +kernel
theorem dX1_agree_6 : decode cX1_agree 6 = .ok (.ldc 30, 2) := by decide +kernel
theorem dX1_agree_8 : decode cX1_agree 8 = .ok (.ldc 31, 2) := by decide +kernel
theorem dX1_agree_10 : decode cX1_agree 10 = .ok (.invokevirtual 26, 3) := by decide +kernel
theorem dX1_agree_13 : decode cX1_agree 13 = .ok (.iconst 0, 1) := by decide +kernel
theorem dX1_agree_14 : decode cX1_agree 14 = .ok (.istore_n 2, 1) := by decide +kernel
theorem dX1_agree_15 : decode cX1_agree 15 = .ok (.iload_n 2, 1) := by decide +kernel
theorem dX1_agree_16 : decode cX1_agree 16 = .ok (.iconst 4, 1) := by decide +kernel
theorem dX1_agree_17 : decode cX1_agree 17 = .ok (.if_icmp .ge 65, 3) := by decide +kernel
theorem dX1_agree_20 : decode cX1_agree 20 = .ok (.aload_n 0, 1) := by decide +kernel
theorem dX1_agree_21 : decode cX1_agree 21 = .ok (.getfield 17, 3) := by decide +kernel
theorem dX1_agree_24 : decode cX1_agree 24 = .ok (.iload_n 2, 1) := by decide +kernel
theorem dX1_agree_25 : decode cX1_agree 25 = .ok (.iaload, 1) := by decide +kernel
theorem dX1_agree_26 : decode cX1_agree 26 = .ok (.bipush (-6), 2) := by decide +kernel
theorem dX1_agree_28 : decode cX1_agree 28 = .ok (.if_icmp .eq 48, 3) := by decide +kernel
theorem dX1_agree_31 : decode cX1_agree 31 = .ok (.iinc 1 1, 3) := by decide +kernel
theorem dX1_agree_34 : decode cX1_agree 34 = .ok (.aload_n 0, 1) := by decide +kernel
theorem dX1_agree_35 : decode cX1_agree 35 = .ok (.getfield 11, 3) := by decide +kernel
theorem dX1_agree_38 : decode cX1_agree 38 = .ok (.iload_n 2, 1) := by decide +kernel
theorem dX1_agree_39 : decode cX1_agree 39 = .ok (.aaload, 1) := by decide +kernel
theorem dX1_agree_40 : decode cX1_agree 40 = .ok (.astore_n 3, 1) := by decide +kernel
theorem dX1_agree_41 : decode cX1_agree 41 = .ok (.aload_n 0, 1) := by decide +kernel
theorem dX1_agree_42 : decode cX1_agree 42 = .ok (.getfield 22, 3) := by decide +kernel
theorem dX1_agree_45 : decode cX1_agree 45 = .ok (.aload_n 0, 1) := by decide +kernel
theorem dX1_agree_46 : decode cX1_agree 46 = .ok (.getfield 17, 3) := by decide +kernel
theorem dX1_agree_49 : decode cX1_agree 49 = .ok (.iload_n 2, 1) := by decide +kernel
theorem dX1_agree_50 : decode cX1_agree 50 = .ok (.iaload, 1) := by decide +kernel
theorem dX1_agree_51 : decode cX1_agree 51 = .ok (.aload_n 3, 1) := by decide +kernel
theorem dX1_agree_52 : decode cX1_agree 52 = .ok (.getfield 32, 3) := by decide +kernel
theorem dX1_agree_55 : decode cX1_agree 55 = .ok (.isub, 1) := by decide +kernel
theorem dX1_agree_56 : decode cX1_agree 56 = .ok (.aload_n 0, 1) := by decide +kernel
theorem dX1_agree_57 : decode cX1_agree 57 = .ok (.getfield 17, 3) := by decide +kernel
theorem dX1_agree_60 : decode cX1_agree 60 = .ok (.iload_n 2, 1) := by decide +kernel
theorem dX1_agree_61 : decode cX1_agree 61 = .ok (.iaload, 1) := by decide +kernel
theorem dX1_agree_62 : decode cX1_agree 62 = .ok (.aload_n 3, 1) := by decide +kernel
theorem dX1_agree_63 : decode cX1_agree 63 = .ok (.getfield 36, 3) := by decide +kernel
theorem dX1_agree_66 : decode cX1_agree 66 = .ok (.isub, 1) := by decide +kernel
theorem dX1_agree_67 : decode cX1_agree 67 = .ok (.invokevirtual 39, 3) := by decide +kernel
theorem dX1_agree_70 : decode cX1_agree 70 = .ok (.ifCond .ne 6, 3) := by decide +kernel
theorem dX1_agree_73 : decode cX1_agree 73 = .ok (.bipush (-5), 2) := by decide +kernel
theorem dX1_agree_75 : decode cX1_agree 75 = .ok (.ireturn, 1) := by decide +kernel
theorem dX1_agree_76 : decode cX1_agree 76 = .ok (.iinc 2 1, 3) := by decide +kernel
theorem dX1_agree_79 : decode cX1_agree 79 = .ok (.goto (-64), 3) := by decide +kernel
theorem dX1_agree_82 : decode cX1_agree 82 = .ok (.iload_n 1, 1) := by decide +kernel
theorem dX1_agree_83 : decode cX1_agree 83 = .ok (.ifCond .ne 8, 3) := by decide +kernel
theorem dX1_agree_86 : decode cX1_agree 86 = .ok (.bipush (-3), 2) := by decide +kernel
theorem dX1_agree_88 : decode cX1_agree 88 = .ok (.goto 5, 3) := by decide +kernel
theorem dX1_agree_91 : decode cX1_agree 91 = .ok (.bipush (-6), 2) := by decide +kernel
theorem dX1_agree_93 : decode cX1_agree 93 = .ok (.ireturn, 1) := by decide +kernel
theorem dX2_init_0 : decode cX2_init 0 = .ok (.aload_n 0, 1) := by decide +kernel
theorem dX2_init_1 : decode cX2_init 1 = .ok (.invokespecial 3, 3) := by decide +kernel
theorem dX2_init_4 : decode cX2_init 4 = .ok (.aload_n 0, 1) := by decide +kernel
theorem dX2_init_5 : decode cX2_init 5 = .ok (.bipush 8, 2) := by decide +kernel
theorem dX2_init_7 : decode cX2_init 7 = .ok (.newarray .int, 2) := by decide +kernel
theorem dX2_init_9 : decode cX2_init 9 = .ok (.putfield 9, 3) := by decide +kernel
theorem dX2_init_12 : decode cX2_init 12 = .ok (.aload_n 0, 1) := by decide +kernel
theorem dX2_init_13 : decode cX2_init 13 = .ok (.bipush 8, 2) := by decide +kernel
theorem dX2_init_15 : decode cX2_init 15 = .ok (.newarray .int, 2) := by decide +kernel
theorem dX2_init_17 : decode cX2_init 17 = .ok (.putfield 15, 3) := by decide +kernel
theorem dX2_init_20 : decode cX2_init 20 = .ok (.aload_n 0, 1) := by decide +kernel
theorem dX2_init_21 : decode cX2_init 21 = .ok (.bipush 8, 2) := by decide +kernel
theorem dX2_init_23 : decode cX2_init 23 = .ok (.newarray .int, 2) := by decide +kernel
theorem dX2_init_25 : decode cX2_init 25 = .ok (.putfield 18, 3) := by decide +kernel
theorem dX2_init_28 : decode cX2_init 28 = .ok (.return_, 1) := by decide +kernel
theorem dX2_add_0 : decode cX2_add 0 = .ok (.aload_n 0, 1) := by decide +kernel
theorem dX2_add_1 : decode cX2_add 1 = .ok (.getfield 21, 3) := by decide +kernel
theorem dX2_add_4 : decode cX2_add 4 = .ok (.bipush 8, 2) := by decide +kernel
theorem dX2_add_6 : decode cX2_add 6 = .ok (.if_icmp .lt 6, 3) := by decide +kernel
theorem dX2_add_9 : decode cX2_add 9 = .ok (.bipush (-4), 2) := by decide +kernel
theorem dX2_add_11 : decode cX2_add 11 = .ok (.ireturn, 1) := by decide +kernel
theorem dX2_add_12 : decode cX2_add 12 = .ok (.aload_n 0, 1) := by decide +kernel
theorem dX2_add_13 : decode cX2_add 13 = .ok (.getfield 9, 3) := by decide +kernel
theorem dX2_add_16 : decode cX2_add 16 = .ok (.aload_n 0, 1) := by decide +kernel
theorem dX2_add_17 : decode cX2_add 17 = .ok (.getfield 21, 3) := by decide +kernel
theorem dX2_add_20 : decode cX2_add 20 = .ok (.iload_n 1, 1) := by decide +kernel
theorem dX2_add_21 : decode cX2_add 21 = .ok (.iastore, 1) := by decide +kernel
theorem dX2_add_22 : decode cX2_add 22 = .ok (.aload_n 0, 1) := by decide +kernel
theorem dX2_add_23 : decode cX2_add 23 = .ok (.getfield 15, 3) := by decide +kernel
theorem dX2_add_26 : decode cX2_add 26 = .ok (.aload_n 0, 1) := by decide +kernel
theorem dX2_add_27 : decode cX2_add 27 = .ok (.getfield 21, 3) := by decide +kernel
theorem dX2_add_30 : decode cX2_add 30 = .ok (.iload_n 2, 1) := by decide +kernel
theorem dX2_add_31 : decode cX2_add 31 = .ok (.iastore, 1) := by decide +kernel
theorem dX2_add_32 : decode cX2_add 32 = .ok (.aload_n 0, 1) := by decide +kernel
theorem dX2_add_33 : decode cX2_add 33 = .ok (.dup, 1) := by decide +kernel
theorem dX2_add_34 : decode cX2_add 34 = .ok (.getfield 21, 3) := by decide +kernel
theorem dX2_add_37 : decode cX2_add 37 = .ok (.iconst 1, 1) := by decide +kernel
theorem dX2_add_38 : decode cX2_add 38 = .ok (.iadd, 1) := by decide +kernel
theorem dX2_add_39 : decode cX2_add 39 = .ok (.putfield 21, 3) := by decide +kernel
theorem dX2_add_42 : decode cX2_add 42 = .ok (.aload_n 0, 1) := by decide +kernel
theorem dX2_add_43 : decode cX2_add 43 = .ok (.getfield 21, 3) := by decide +kernel
theorem dX2_add_46 : decode cX2_add 46 = .ok (.iconst 1, 1) := by decide +kernel
theorem dX2_add_47 : decode cX2_add 47 = .ok (.isub, 1) := by decide +kernel
theorem dX2_add_48 : decode cX2_add 48 = .ok (.ireturn, 1) := by decide +kernel
theorem dX2_look_0 : decode cX2_look 0 = .ok (.iconst 0, 1) := by decide +kernel
theorem dX2_look_1 : decode cX2_look 1 = .ok (.istore_n 2, 1) := by decide +kernel
theorem dX2_look_2 : decode cX2_look 2 = .ok (.iload_n 2, 1) := by decide +kernel
theorem dX2_look_3 : decode cX2_look 3 = .ok (.aload_n 0, 1) := by decide +kernel
theorem dX2_look_4 : decode cX2_look 4 = .ok (.getfield 21, 3) := by decide +kernel
theorem dX2_look_7 : decode cX2_look 7 = .ok (.if_icmp .ge 54, 3) := by decide +kernel
theorem dX2_look_10 : decode cX2_look 10 = .ok (.aload_n 0, 1) := by decide +kernel
theorem dX2_look_11 : decode cX2_look 11 = .ok (.getfield 18, 3) := by decide +kernel
theorem dX2_look_14 : decode cX2_look 14 = .ok (.iload_n 2, 1) := by decide +kernel
theorem dX2_look_15 : decode cX2_look 15 = .ok (.iconst 0, 1) := by decide +kernel
theorem dX2_look_16 : decode cX2_look 16 = .ok (.iastore, 1) := by decide +kernel
theorem dX2_look_17 : decode cX2_look 17 = .ok (.iconst 0, 1) := by decide +kernel
theorem dX2_look_18 : decode cX2_look 18 = .ok (.istore_n 3, 1) := by decide +kernel
theorem dX2_look_19 : decode cX2_look 19 = .ok (.iload_n 3, 1) := by decide +kernel
theorem dX2_look_20 : decode cX2_look 20 = .ok (.aload_n 1, 1) := by decide +kernel
theorem dX2_look_21 : decode cX2_look 21 = .ok (.getfield 25, 3) := by decide +kernel
theorem dX2_look_24 : decode cX2_look 24 = .ok (.if_icmp .ge 31, 3) := by decide +kernel
theorem dX2_look_27 : decode cX2_look 27 = .ok (.aload_n 0, 1) := by decide +kernel
theorem dX2_look_28 : decode cX2_look 28 = .ok (.iload_n 2, 1) := by decide +kernel
theorem dX2_look_29 : decode cX2_look 29 = .ok (.iload_n 3, 1) := by decide +kernel
theorem dX2_look_30 : decode cX2_look 30 = .ok (.aload_n 1, 1) := by decide +kernel
theorem dX2_look_31 : decode cX2_look 31 = .ok (.invokevirtual 28, 3) := by decide +kernel
theorem dX2_look_34 : decode cX2_look 34 = .ok (.ifCond .eq 15, 3) := by decide +kernel
theorem dX2_look_37 : decode cX2_look 37 = .ok (.aload_n 0, 1) := by decide +kernel
theorem dX2_look_38 : decode cX2_look 38 = .ok (.getfield 18, 3) := by decide +kernel
theorem dX2_look_41 : decode cX2_look 41 = .ok (.iload_n 2, 1) := by decide +kernel
theorem dX2_look_42 : decode cX2_look 42 = .ok (.dup2, 1) := by decide +kernel
theorem dX2_look_43 : decode cX2_look 43 = .ok (.iaload, 1) := by decide +kernel
theorem dX2_look_44 : decode cX2_look 44 = .ok (.iconst 1, 1) := by decide +kernel
theorem dX2_look_45 : decode cX2_look 45 = .ok (.iload_n 3, 1) := by decide +kernel
theorem dX2_look_46 : decode cX2_look 46 = .ok (.ishl, 1) := by decide +kernel
theorem dX2_look_47 : decode cX2_look 47 = .ok (.ior, 1) := by decide +kernel
theorem dX2_look_48 : decode cX2_look 48 = .ok (.iastore, 1) := by decide +kernel
theorem dX2_look_49 : decode cX2_look 49 = .ok (.iinc 3 1, 3) := by decide +kernel
theorem dX2_look_52 : decode cX2_look 52 = .ok (.goto (-33), 3) := by decide +kernel
theorem dX2_look_55 : decode cX2_look 55 = .ok (.iinc 2 1, 3) := by decide +kernel
theorem dX2_look_58 : decode cX2_look 58 = .ok (.goto (-56), 3) := by decide +kernel
theorem dX2_look_61 : decode cX2_look 61 = .ok (.return_, 1) := by decide +kernel
theorem dX2_catches_0 : decode cX2_catches 0 = .ok (.aload_n 3, 1) := by decide +kernel
theorem dX2_catches_1 : decode cX2_catches 1 = .ok (.iload_n 2, 1) := by decide +kernel
theorem dX2_catches_2 : decode cX2_catches 2 = .ok (.invokevirtual 32, 3) := by decide +kernel
theorem dX2_catches_5 : decode cX2_catches 5 = .ok (.istore 4, 2) := by decide +kernel
theorem dX2_catches_7 : decode cX2_catches 7 = .ok (.iload 4, 2) := by decide +kernel
theorem dX2_catches_9 : decode cX2_catches 9 = .ok (.sipush 300, 3) := by decide +kernel
theorem dX2_catches_12 : decode cX2_catches 12 = .ok (.if_icmp .lt 5, 3) := by decide +kernel
theorem dX2_catches_15 : decode cX2_catches 15 = .ok (.iconst 0, 1) := by decide +kernel
theorem dX2_catches_16 : decode cX2_catches 16 = .ok (.ireturn, 1) := by decide +kernel
theorem dX2_catches_17 : decode cX2_catches 17 = .ok (.iconst 0, 1) := by decide +kernel
theorem dX2_catches_18 : decode cX2_catches 18 = .ok (.istore 5, 2) := by decide +kernel
theorem dX2_catches_20 : decode cX2_catches 20 = .ok (.iload 5, 2) := by decide +kernel
theorem dX2_catches_22 : decode cX2_catches 22 = .ok (.bipush 6, 2) := by decide +kernel
theorem dX2_catches_24 : decode cX2_catches 24 = .ok (.if_icmp .ge 59, 3) := by decide +kernel
theorem dX2_catches_27 : decode cX2_catches 27 = .ok (.aload_n 0, 1) := by decide +kernel
theorem dX2_catches_28 : decode cX2_catches 28 = .ok (.getfield 15, 3) := by decide +kernel
theorem dX2_catches_31 : decode cX2_catches 31 = .ok (.iload_n 1, 1) := by decide +kernel
theorem dX2_catches_32 : decode cX2_catches 32 = .ok (.iaload, 1) := by decide +kernel
theorem dX2_catches_33 : decode cX2_catches 33 = .ok (.iload 5, 2) := by decide +kernel
theorem dX2_catches_35 : decode cX2_catches 35 = .ok (.ishr, 1) := by decide +kernel
theorem dX2_catches_36 : decode cX2_catches 36 = .ok (.iconst 1, 1) := by decide +kernel
theorem dX2_catches_37 : decode cX2_catches 37 = .ok (.iand, 1) := by decide +kernel
theorem dX2_catches_38 : decode cX2_catches 38 = .ok (.iconst 1, 1) := by decide +kernel
theorem dX2_catches_39 : decode cX2_catches 39 = .ok (.if_icmp .ne 7, 3) := by decide +kernel
theorem dX2_catches_42 : decode cX2_catches 42 = .ok (.iconst 1, 1) := by decide +kernel
theorem dX2_catches_43 : decode cX2_catches 43 = .ok (.goto 4, 3) := by decide +kernel
theorem dX2_catches_46 : decode cX2_catches 46 = .ok (.iconst 0, 1) := by decide +kernel
theorem dX2_catches_47 : decode cX2_catches 47 = .ok (.istore 6, 2) := by decide +kernel
theorem dX2_catches_49 : decode cX2_catches 49 = .ok (.iload 6, 2) := by decide +kernel
theorem dX2_catches_51 : decode cX2_catches 51 = .ok (.ifCond .eq 26, 3) := by decide +kernel
theorem dX2_catches_54 : decode cX2_catches 54 = .ok (.aload_n 3, 1) := by decide +kernel
theorem dX2_catches_55 : decode cX2_catches 55 = .ok (.aload_n 0, 1) := by decide +kernel
theorem dX2_catches_56 : decode cX2_catches 56 = .ok (.getfield 9, 3) := by decide +kernel
theorem dX2_catches_59 : decode cX2_catches 59 = .ok (.iload_n 1, 1) := by decide +kernel
theorem dX2_catches_60 : decode cX2_catches 60 = .ok (.iaload, 1) := by decide +kernel
theorem dX2_catches_61 : decode cX2_catches 61 = .ok (.iload 4, 2) := by decide +kernel
theorem dX2_catches_63 : decode cX2_catches 63 = .ok (.iload 5, 2) := by decide +kernel
theorem dX2_catches_65 : decode cX2_catches 65 = .ok (.invokevirtual 36, 3) := by decide +kernel
theorem dX2_catches_68 : decode cX2_catches 68 = .ok (.iload_n 2, 1) := by decide +kernel
theorem dX2_catches_69 : decode cX2_catches 69 = .ok (.invokestatic 40, 3) := by decide +kernel
theorem dX2_catches_72 : decode cX2_catches 72 = .ok (.if_icmp .ne 5, 3) := by decide +kernel
theorem dX2_catches_75 : decode cX2_catches 75 = .ok (.iconst 1, 1) := by decide +kernel
theorem dX2_catches_76 : decode cX2_catches 76 = .ok (.ireturn, 1) := by decide +kernel
theorem dX2_catches_77 : decode cX2_catches 77 = .ok (.iinc 5 1, 3) := by decide +kernel
theorem dX2_catches_80 : decode cX2_catches 80 = .ok (.goto (-60), 3) := by decide +kernel
theorem dX2_catches_83 : decode cX2_catches 83 = .ok (.iconst 0, 1) := by decide +kernel
theorem dX2_catches_84 : decode cX2_catches 84 = .ok (.ireturn, 1) := by decide +kernel
theorem dX2_seenBy_0 : decode cX2_seenBy 0 = .ok (.iconst 0, 1) := by decide +kernel
theorem dX2_seenBy_1 : decode cX2_seenBy 1 = .ok (.istore_n 2, 1) := by decide +kernel
theorem dX2_seenBy_2 : decode cX2_seenBy 2 = .ok (.iconst 0, 1) := by decide +kernel
theorem dX2_seenBy_3 : decode cX2_seenBy 3 = .ok (.istore_n 3, 1) := by decide +kernel
theorem dX2_seenBy_4 : decode cX2_seenBy 4 = .ok (.iload_n 3, 1) := by decide +kernel
theorem dX2_seenBy_5 : decode cX2_seenBy 5 = .ok (.aload_n 0, 1) := by decide +kernel
theorem dX2_seenBy_6 : decode cX2_seenBy 6 = .ok (.getfield 21, 3) := by decide +kernel
theorem dX2_seenBy_9 : decode cX2_seenBy 9 = .ok (.if_icmp .ge 27, 3) := by decide +kernel
theorem dX2_seenBy_12 : decode cX2_seenBy 12 = .ok (.iload_n 1, 1) := by decide +kernel
theorem dX2_seenBy_13 : decode cX2_seenBy 13 = .ok (.iload_n 3, 1) := by decide +kernel
theorem dX2_seenBy_14 : decode cX2_seenBy 14 = .ok (.ishr, 1) := by decide +kernel
theorem dX2_seenBy_15 : decode cX2_seenBy 15 = .ok (.iconst 1, 1) := by decide +kernel
theorem dX2_seenBy_16 : decode cX2_seenBy 16 = .ok (.iand, 1) := by decide +kernel
theorem dX2_seenBy_17 : decode cX2_seenBy 17 = .ok (.iconst 1, 1) := by decide +kernel
theorem dX2_seenBy_18 : decode cX2_seenBy 18 = .ok (.if_icmp .ne 12, 3) := by decide +kernel
theorem dX2_seenBy_21 : decode cX2_seenBy 21 = .ok (.iload_n 2, 1) := by decide +kernel
theorem dX2_seenBy_22 : decode cX2_seenBy 22 = .ok (.aload_n 0, 1) := by decide +kernel
theorem dX2_seenBy_23 : decode cX2_seenBy 23 = .ok (.getfield 18, 3) := by decide +kernel
theorem dX2_seenBy_26 : decode cX2_seenBy 26 = .ok (.iload_n 3, 1) := by decide +kernel
theorem dX2_seenBy_27 : decode cX2_seenBy 27 = .ok (.iaload, 1) := by decide +kernel
theorem dX2_seenBy_28 : decode cX2_seenBy 28 = .ok (.ior, 1) := by decide +kernel
theorem dX2_seenBy_29 : decode cX2_seenBy 29 = .ok (.istore_n 2, 1) := by decide +kernel
theorem dX2_seenBy_30 : decode cX2_seenBy 30 = .ok (.iinc 3 1, 3) := by decide +kernel
theorem dX2_seenBy_33 : decode cX2_seenBy 33 = .ok (.goto (-29), 3) := by decide +kernel
theorem dX2_seenBy_36 : decode cX2_seenBy 36 = .ok (.iload_n 2, 1) := by decide +kernel
theorem dX2_seenBy_37 : decode cX2_seenBy 37 = .ok (.ireturn, 1) := by decide +kernel
theorem dX3_init_0 : decode cX3_init 0 = .ok (.aload_n 0, 1) := by decide +kernel
theorem dX3_init_1 : decode cX3_init 1 = .ok (.invokespecial 3, 3) := by decide +kernel
theorem dX3_init_4 : decode cX3_init 4 = .ok (.aload_n 0, 1) := by decide +kernel
theorem dX3_init_5 : decode cX3_init 5 = .ok (.bipush 6, 2) := by decide +kernel
theorem dX3_init_7 : decode cX3_init 7 = .ok (.newarray .int, 2) := by decide +kernel
theorem dX3_init_9 : decode cX3_init 9 = .ok (.putfield 9, 3) := by decide +kernel
theorem dX3_init_12 : decode cX3_init 12 = .ok (.aload_n 0, 1) := by decide +kernel
theorem dX3_init_13 : decode cX3_init 13 = .ok (.bipush 6, 2) := by decide +kernel
theorem dX3_init_15 : decode cX3_init 15 = .ok (.newarray .int, 2) := by decide +kernel
theorem dX3_init_17 : decode cX3_init 17 = .ok (.putfield 15, 3) := by decide +kernel
theorem dX3_init_20 : decode cX3_init 20 = .ok (.return_, 1) := by decide +kernel
theorem dX3_add_0 : decode cX3_add 0 = .ok (.aload_n 0, 1) := by decide +kernel
theorem dX3_add_1 : decode cX3_add 1 = .ok (.getfield 18, 3) := by decide +kernel
theorem dX3_add_4 : decode cX3_add 4 = .ok (.aload_n 0, 1) := by decide +kernel
theorem dX3_add_5 : decode cX3_add 5 = .ok (.getfield 9, 3) := by decide +kernel
theorem dX3_add_8 : decode cX3_add 8 = .ok (.arraylength, 1) := by decide +kernel
theorem dX3_add_9 : decode cX3_add 9 = .ok (.if_icmp .lt 4, 3) := by decide +kernel
theorem dX3_add_12 : decode cX3_add 12 = .ok (.return_, 1) := by decide +kernel
theorem dX3_add_13 : decode cX3_add 13 = .ok (.aload_n 0, 1) := by decide +kernel
theorem dX3_add_14 : decode cX3_add 14 = .ok (.getfield 18, 3) := by decide +kernel
theorem dX3_add_17 : decode cX3_add 17 = .ok (.istore_n 3, 1) := by decide +kernel
theorem dX3_add_18 : decode cX3_add 18 = .ok (.iload_n 3, 1) := by decide +kernel
theorem dX3_add_19 : decode cX3_add 19 = .ok (.ifCond .le 49, 3) := by decide +kernel
theorem dX3_add_22 : decode cX3_add 22 = .ok (.aload_n 0, 1) := by decide +kernel
theorem dX3_add_23 : decode cX3_add 23 = .ok (.getfield 15, 3) := by decide +kernel
theorem dX3_add_26 : decode cX3_add 26 = .ok (.iload_n 3, 1) := by decide +kernel
theorem dX3_add_27 : decode cX3_add 27 = .ok (.iconst 1, 1) := by decide +kernel
theorem dX3_add_28 : decode cX3_add 28 = .ok (.isub, 1) := by decide +kernel
theorem dX3_add_29 : decode cX3_add 29 = .ok (.iaload, 1) := by decide +kernel
theorem dX3_add_30 : decode cX3_add 30 = .ok (.iload_n 2, 1) := by decide +kernel
theorem dX3_add_31 : decode cX3_add 31 = .ok (.if_icmp .le 37, 3) := by decide +kernel
theorem dX3_add_34 : decode cX3_add 34 = .ok (.aload_n 0, 1) := by decide +kernel
theorem dX3_add_35 : decode cX3_add 35 = .ok (.getfield 15, 3) := by decide +kernel
theorem dX3_add_38 : decode cX3_add 38 = .ok (.iload_n 3, 1) := by decide +kernel
theorem dX3_add_39 : decode cX3_add 39 = .ok (.aload_n 0, 1) := by decide +kernel
theorem dX3_add_40 : decode cX3_add 40 = .ok (.getfield 15, 3) := by decide +kernel
theorem dX3_add_43 : decode cX3_add 43 = .ok (.iload_n 3, 1) := by decide +kernel
theorem dX3_add_44 : decode cX3_add 44 = .ok (.iconst 1, 1) := by decide +kernel
theorem dX3_add_45 : decode cX3_add 45 = .ok (.isub, 1) := by decide +kernel
theorem dX3_add_46 : decode cX3_add 46 = .ok (.iaload, 1) := by decide +kernel
theorem dX3_add_47 : decode cX3_add 47 = .ok (.iastore, 1) := by decide +kernel
theorem dX3_add_48 : decode cX3_add 48 = .ok (.aload_n 0, 1) := by decide +kernel
theorem dX3_add_49 : decode cX3_add 49 = .ok (.getfield 9, 3) := by decide +kernel
theorem dX3_add_52 : decode cX3_add 52 = .ok (.iload_n 3, 1) := by decide +kernel
theorem dX3_add_53 : decode cX3_add 53 = .ok (.aload_n 0, 1) := by decide +kernel
theorem dX3_add_54 : decode cX3_add 54 = .ok (.getfield 9, 3) := by decide +kernel
theorem dX3_add_57 : decode cX3_add 57 = .ok (.iload_n 3, 1) := by decide +kernel
theorem dX3_add_58 : decode cX3_add 58 = .ok (.iconst 1, 1) := by decide +kernel
theorem dX3_add_59 : decode cX3_add 59 = .ok (.isub, 1) := by decide +kernel
theorem dX3_add_60 : decode cX3_add 60 = .ok (.iaload, 1) := by decide +kernel
theorem dX3_add_61 : decode cX3_add 61 = .ok (.iastore, 1) := by decide +kernel
theorem dX3_add_62 : decode cX3_add 62 = .ok (.iinc 3 (-1), 3) := by decide +kernel
theorem dX3_add_65 : decode cX3_add 65 = .ok (.goto (-47), 3) := by decide +kernel
theorem dX3_add_68 : decode cX3_add 68 = .ok (.aload_n 0, 1) := by decide +kernel
theorem dX3_add_69 : decode cX3_add 69 = .ok (.getfield 15, 3) := by decide +kernel
theorem dX3_add_72 : decode cX3_add 72 = .ok (.iload_n 3, 1) := by decide +kernel
theorem dX3_add_73 : decode cX3_add 73 = .ok (.iload_n 2, 1) := by decide +kernel
theorem dX3_add_74 : decode cX3_add 74 = .ok (.iastore, 1) := by decide +kernel
theorem dX3_add_75 : decode cX3_add 75 = .ok (.aload_n 0, 1) := by decide +kernel
theorem dX3_add_76 : decode cX3_add 76 = .ok (.getfield 9, 3) := by decide +kernel
theorem dX3_add_79 : decode cX3_add 79 = .ok (.iload_n 3, 1) := by decide +kernel
theorem dX3_add_80 : decode cX3_add 80 = .ok (.iload_n 1, 1) := by decide +kernel
theorem dX3_add_81 : decode cX3_add 81 = .ok (.iastore, 1) := by decide +kernel
theorem dX3_add_82 : decode cX3_add 82 = .ok (.aload_n 0, 1) := by decide +kernel
theorem dX3_add_83 : decode cX3_add 83 = .ok (.dup, 1) := by decide +kernel
theorem dX3_add_84 : decode cX3_add 84 = .ok (.getfield 18, 3) := by decide +kernel
theorem dX3_add_87 : decode cX3_add 87 = .ok (.iconst 1, 1) := by decide +kernel
theorem dX3_add_88 : decode cX3_add 88 = .ok (.iadd, 1) := by decide +kernel
theorem dX3_add_89 : decode cX3_add 89 = .ok (.putfield 18, 3) := by decide +kernel
theorem dX3_add_92 : decode cX3_add 92 = .ok (.return_, 1) := by decide +kernel
theorem dX3_at_0 : decode cX3_at 0 = .ok (.iload_n 1, 1) := by decide +kernel
theorem dX3_at_1 : decode cX3_at 1 = .ok (.iconst 0, 1) := by decide +kernel
theorem dX3_at_2 : decode cX3_at 2 = .ok (.aload_n 0, 1) := by decide +kernel
theorem dX3_at_3 : decode cX3_at 3 = .ok (.getfield 18, 3) := by decide +kernel
theorem dX3_at_6 : decode cX3_at 6 = .ok (.iconst 1, 1) := by decide +kernel
theorem dX3_at_7 : decode cX3_at 7 = .ok (.isub, 1) := by decide +kernel
theorem dX3_at_8 : decode cX3_at 8 = .ok (.invokestatic 22, 3) := by decide +kernel
theorem dX3_at_11 : decode cX3_at 11 = .ok (.ifCond .eq 12, 3) := by decide +kernel
theorem dX3_at_14 : decode cX3_at 14 = .ok (.aload_n 0, 1) := by decide +kernel
theorem dX3_at_15 : decode cX3_at 15 = .ok (.getfield 9, 3) := by decide +kernel
theorem dX3_at_18 : decode cX3_at 18 = .ok (.iload_n 1, 1) := by decide +kernel
theorem dX3_at_19 : decode cX3_at 19 = .ok (.iaload, 1) := by decide +kernel
theorem dX3_at_20 : decode cX3_at 20 = .ok (.goto 5, 3) := by decide +kernel
theorem dX3_at_23 : decode cX3_at 23 = .ok (.bipush (-6), 2) := by decide +kernel
theorem dX3_at_25 : decode cX3_at 25 = .ok (.ireturn, 1) := by decide +kernel
theorem dX3_placeOf_0 : decode cX3_placeOf 0 = .ok (.iconst 0, 1) := by decide +kernel
theorem dX3_placeOf_1 : decode cX3_placeOf 1 = .ok (.istore 4, 2) := by decide +kernel
theorem dX3_placeOf_3 : decode cX3_placeOf 3 = .ok (.iconst 0, 1) := by decide +kernel
theorem dX3_placeOf_4 : decode cX3_placeOf 4 = .ok (.istore 5, 2) := by decide +kernel
theorem dX3_placeOf_6 : decode cX3_placeOf 6 = .ok (.iload 5, 2) := by decide +kernel
theorem dX3_placeOf_8 : decode cX3_placeOf 8 = .ok (.aload_n 0, 1) := by decide +kernel
theorem dX3_placeOf_9 : decode cX3_placeOf 9 = .ok (.getfield 18, 3) := by decide +kernel
theorem dX3_placeOf_12 : decode cX3_placeOf 12 = .ok (.if_icmp .ge 67, 3) := by decide +kernel
theorem dX3_placeOf_15 : decode cX3_placeOf 15 = .ok (.iload_n 2, 1) := by decide +kernel
theorem dX3_placeOf_16 : decode cX3_placeOf 16 = .ok (.ifCond .ne 14, 3) := by decide +kernel
theorem dX3_placeOf_19 : decode cX3_placeOf 19 = .ok (.iconst 0, 1) := by decide +kernel
theorem dX3_placeOf_20 : decode cX3_placeOf 20 = .ok (.iload 5, 2) := by decide +kernel
theorem dX3_placeOf_22 : decode cX3_placeOf 22 = .ok (.iconst 1, 1) := by decide +kernel
theorem dX3_placeOf_23 : decode cX3_placeOf 23 = .ok (.isub, 1) := by decide +kernel
theorem dX3_placeOf_24 : decode cX3_placeOf 24 = .ok (.invokestatic 26, 3) := by decide +kernel
theorem dX3_placeOf_27 : decode cX3_placeOf 27 = .ok (.goto 5, 3) := by decide +kernel
theorem dX3_placeOf_30 : decode cX3_placeOf 30 = .ok (.iload 4, 2) := by decide +kernel
theorem dX3_placeOf_32 : decode cX3_placeOf 32 = .ok (.istore 6, 2) := by decide +kernel
theorem dX3_placeOf_34 : decode cX3_placeOf 34 = .ok (.aload_n 0, 1) := by decide +kernel
theorem dX3_placeOf_35 : decode cX3_placeOf 35 = .ok (.getfield 15, 3) := by decide +kernel
theorem dX3_placeOf_38 : decode cX3_placeOf 38 = .ok (.iload 5, 2) := by decide +kernel
theorem dX3_placeOf_40 : decode cX3_placeOf 40 = .ok (.iaload, 1) := by decide +kernel
theorem dX3_placeOf_41 : decode cX3_placeOf 41 = .ok (.aload_n 0, 1) := by decide +kernel
theorem dX3_placeOf_42 : decode cX3_placeOf 42 = .ok (.getfield 15, 3) := by decide +kernel
theorem dX3_placeOf_45 : decode cX3_placeOf 45 = .ok (.iload 6, 2) := by decide +kernel
theorem dX3_placeOf_47 : decode cX3_placeOf 47 = .ok (.iaload, 1) := by decide +kernel
theorem dX3_placeOf_48 : decode cX3_placeOf 48 = .ok (.isub, 1) := by decide +kernel
theorem dX3_placeOf_49 : decode cX3_placeOf 49 = .ok (.iload_n 3, 1) := by decide +kernel
theorem dX3_placeOf_50 : decode cX3_placeOf 50 = .ok (.if_icmp .le 7, 3) := by decide +kernel
theorem dX3_placeOf_53 : decode cX3_placeOf 53 = .ok (.iload 5, 2) := by decide +kernel
theorem dX3_placeOf_55 : decode cX3_placeOf 55 = .ok (.istore 4, 2) := by decide +kernel
theorem dX3_placeOf_57 : decode cX3_placeOf 57 = .ok (.aload_n 0, 1) := by decide +kernel
theorem dX3_placeOf_58 : decode cX3_placeOf 58 = .ok (.getfield 9, 3) := by decide +kernel
theorem dX3_placeOf_61 : decode cX3_placeOf 61 = .ok (.iload 5, 2) := by decide +kernel
theorem dX3_placeOf_63 : decode cX3_placeOf 63 = .ok (.iaload, 1) := by decide +kernel
theorem dX3_placeOf_64 : decode cX3_placeOf 64 = .ok (.iload_n 1, 1) := by decide +kernel
theorem dX3_placeOf_65 : decode cX3_placeOf 65 = .ok (.if_icmp .ne 8, 3) := by decide +kernel
theorem dX3_placeOf_68 : decode cX3_placeOf 68 = .ok (.iload 4, 2) := by decide +kernel
theorem dX3_placeOf_70 : decode cX3_placeOf 70 = .ok (.iconst 1, 1) := by decide +kernel
theorem dX3_placeOf_71 : decode cX3_placeOf 71 = .ok (.iadd, 1) := by decide +kernel
theorem dX3_placeOf_72 : decode cX3_placeOf 72 = .ok (.ireturn, 1) := by decide +kernel
theorem dX3_placeOf_73 : decode cX3_placeOf 73 = .ok (.iinc 5 1, 3) := by decide +kernel
theorem dX3_placeOf_76 : decode cX3_placeOf 76 = .ok (.goto (-70), 3) := by decide +kernel
theorem dX3_placeOf_79 : decode cX3_placeOf 79 = .ok (.bipush (-6), 2) := by decide +kernel
theorem dX3_placeOf_81 : decode cX3_placeOf 81 = .ok (.ireturn, 1) := by decide +kernel
theorem dX4_init_0 : decode cX4_init 0 = .ok (.aload_n 0, 1) := by decide +kernel
theorem dX4_init_1 : decode cX4_init 1 = .ok (.invokespecial 3, 3) := by decide +kernel
theorem dX4_init_4 : decode cX4_init 4 = .ok (.aload_n 0, 1) := by decide +kernel
theorem dX4_init_5 : decode cX4_init 5 = .ok (.bipush 12, 2) := by decide +kernel
theorem dX4_init_7 : decode cX4_init 7 = .ok (.newarray .int, 2) := by decide +kernel
theorem dX4_init_9 : decode cX4_init 9 = .ok (.putfield 9, 3) := by decide +kernel
theorem dX4_init_12 : decode cX4_init 12 = .ok (.aload_n 0, 1) := by decide +kernel
theorem dX4_init_13 : decode cX4_init 13 = .ok (.bipush 12, 2) := by decide +kernel
theorem dX4_init_15 : decode cX4_init 15 = .ok (.newarray .int, 2) := by decide +kernel
theorem dX4_init_17 : decode cX4_init 17 = .ok (.putfield 15, 3) := by decide +kernel
theorem dX4_init_20 : decode cX4_init 20 = .ok (.aload_n 0, 1) := by decide +kernel
theorem dX4_init_21 : decode cX4_init 21 = .ok (.iconst 1, 1) := by decide +kernel
theorem dX4_init_22 : decode cX4_init 22 = .ok (.putfield 18, 3) := by decide +kernel
theorem dX4_init_25 : decode cX4_init 25 = .ok (.aload_n 0, 1) := by decide +kernel
theorem dX4_init_26 : decode cX4_init 26 = .ok (.bipush (-6), 2) := by decide +kernel
theorem dX4_init_28 : decode cX4_init 28 = .ok (.putfield 22, 3) := by decide +kernel
theorem dX4_init_31 : decode cX4_init 31 = .ok (.iconst 0, 1) := by decide +kernel
theorem dX4_init_32 : decode cX4_init 32 = .ok (.istore_n 1, 1) := by decide +kernel
theorem dX4_init_33 : decode cX4_init 33 = .ok (.iload_n 1, 1) := by decide +kernel
theorem dX4_init_34 : decode cX4_init 34 = .ok (.aload_n 0, 1) := by decide +kernel
theorem dX4_init_35 : decode cX4_init 35 = .ok (.getfield 9, 3) := by decide +kernel
theorem dX4_init_38 : decode cX4_init 38 = .ok (.arraylength, 1) := by decide +kernel
theorem dX4_init_39 : decode cX4_init 39 = .ok (.if_icmp .ge 16, 3) := by decide +kernel
theorem dX4_init_42 : decode cX4_init 42 = .ok (.aload_n 0, 1) := by decide +kernel
theorem dX4_init_43 : decode cX4_init 43 = .ok (.getfield 9, 3) := by decide +kernel
theorem dX4_init_46 : decode cX4_init 46 = .ok (.iload_n 1, 1) := by decide +kernel
theorem dX4_init_47 : decode cX4_init 47 = .ok (.iconst 1, 1) := by decide +kernel
theorem dX4_init_48 : decode cX4_init 48 = .ok (.iastore, 1) := by decide +kernel
theorem dX4_init_49 : decode cX4_init 49 = .ok (.iinc 1 1, 3) := by decide +kernel
theorem dX4_init_52 : decode cX4_init 52 = .ok (.goto (-19), 3) := by decide +kernel
theorem dX4_init_55 : decode cX4_init 55 = .ok (.return_, 1) := by decide +kernel
theorem dX4_grow_0 : decode cX4_grow 0 = .ok (.iload_n 1, 1) := by decide +kernel
theorem dX4_grow_1 : decode cX4_grow 1 = .ok (.bipush 6, 2) := by decide +kernel
theorem dX4_grow_3 : decode cX4_grow 3 = .ok (.imul, 1) := by decide +kernel
theorem dX4_grow_4 : decode cX4_grow 4 = .ok (.iload_n 2, 1) := by decide +kernel
theorem dX4_grow_5 : decode cX4_grow 5 = .ok (.iadd, 1) := by decide +kernel
theorem dX4_grow_6 : decode cX4_grow 6 = .ok (.istore 5, 2) := by decide +kernel
theorem dX4_grow_8 : decode cX4_grow 8 = .ok (.aload_n 0, 1) := by decide +kernel
theorem dX4_grow_9 : decode cX4_grow 9 = .ok (.getfield 9, 3) := by decide +kernel
theorem dX4_grow_12 : decode cX4_grow 12 = .ok (.iload 5, 2) := by decide +kernel
theorem dX4_grow_14 : decode cX4_grow 14 = .ok (.iload_n 3, 1) := by decide +kernel
theorem dX4_grow_15 : decode cX4_grow 15 = .ok (.iastore, 1) := by decide +kernel
theorem dX4_grow_16 : decode cX4_grow 16 = .ok (.aload_n 0, 1) := by decide +kernel
theorem dX4_grow_17 : decode cX4_grow 17 = .ok (.getfield 15, 3) := by decide +kernel
theorem dX4_grow_20 : decode cX4_grow 20 = .ok (.iload 5, 2) := by decide +kernel
theorem dX4_grow_22 : decode cX4_grow 22 = .ok (.iload 4, 2) := by decide +kernel
theorem dX4_grow_24 : decode cX4_grow 24 = .ok (.iastore, 1) := by decide +kernel
theorem dX4_grow_25 : decode cX4_grow 25 = .ok (.return_, 1) := by decide +kernel
theorem dX4_covers_0 : decode cX4_covers 0 = .ok (.iload_n 1, 1) := by decide +kernel
theorem dX4_covers_1 : decode cX4_covers 1 = .ok (.bipush 6, 2) := by decide +kernel
theorem dX4_covers_3 : decode cX4_covers 3 = .ok (.imul, 1) := by decide +kernel
theorem dX4_covers_4 : decode cX4_covers 4 = .ok (.iload_n 2, 1) := by decide +kernel
theorem dX4_covers_5 : decode cX4_covers 5 = .ok (.iadd, 1) := by decide +kernel
theorem dX4_covers_6 : decode cX4_covers 6 = .ok (.istore 5, 2) := by decide +kernel
theorem dX4_covers_8 : decode cX4_covers 8 = .ok (.iload 4, 2) := by decide +kernel
theorem dX4_covers_10 : decode cX4_covers 10 = .ok (.aload_n 0, 1) := by decide +kernel
theorem dX4_covers_11 : decode cX4_covers 11 = .ok (.getfield 25, 3) := by decide +kernel
theorem dX4_covers_14 : decode cX4_covers 14 = .ok (.aload_n 0, 1) := by decide +kernel
theorem dX4_covers_15 : decode cX4_covers 15 = .ok (.getfield 18, 3) := by decide +kernel
theorem dX4_covers_18 : decode cX4_covers 18 = .ok (.iload_n 3, 1) := by decide +kernel
theorem dX4_covers_19 : decode cX4_covers 19 = .ok (.imul, 1) := by decide +kernel
theorem dX4_covers_20 : decode cX4_covers 20 = .ok (.iadd, 1) := by decide +kernel
theorem dX4_covers_21 : decode cX4_covers 21 = .ok (.isub, 1) := by decide +kernel
theorem dX4_covers_22 : decode cX4_covers 22 = .ok (.istore 6, 2) := by decide +kernel
theorem dX4_covers_24 : decode cX4_covers 24 = .ok (.aload_n 0, 1) := by decide +kernel
theorem dX4_covers_25 : decode cX4_covers 25 = .ok (.getfield 9, 3) := by decide +kernel
theorem dX4_covers_28 : decode cX4_covers 28 = .ok (.iload 5, 2) := by decide +kernel
theorem dX4_covers_30 : decode cX4_covers 30 = .ok (.iaload, 1) := by decide +kernel
theorem dX4_covers_31 : decode cX4_covers 31 = .ok (.iload 6, 2) := by decide +kernel
theorem dX4_covers_33 : decode cX4_covers 33 = .ok (.if_icmp .gt 19, 3) := by decide +kernel
theorem dX4_covers_36 : decode cX4_covers 36 = .ok (.iload 6, 2) := by decide +kernel
theorem dX4_covers_38 : decode cX4_covers 38 = .ok (.aload_n 0, 1) := by decide +kernel
theorem dX4_covers_39 : decode cX4_covers 39 = .ok (.getfield 15, 3) := by decide +kernel
theorem dX4_covers_42 : decode cX4_covers 42 = .ok (.iload 5, 2) := by decide +kernel
theorem dX4_covers_44 : decode cX4_covers 44 = .ok (.iaload, 1) := by decide +kernel
theorem dX4_covers_45 : decode cX4_covers 45 = .ok (.if_icmp .gt 7, 3) := by decide +kernel
theorem dX4_covers_48 : decode cX4_covers 48 = .ok (.iconst 1, 1) := by decide +kernel
theorem dX4_covers_49 : decode cX4_covers 49 = .ok (.goto 4, 3) := by decide +kernel
theorem dX4_covers_52 : decode cX4_covers 52 = .ok (.iconst 0, 1) := by decide +kernel
theorem dX4_covers_53 : decode cX4_covers 53 = .ok (.ireturn, 1) := by decide +kernel
theorem dX4_hasTorso_0 : decode cX4_hasTorso 0 = .ok (.iconst 0, 1) := by decide +kernel
theorem dX4_hasTorso_1 : decode cX4_hasTorso 1 = .ok (.istore_n 1, 1) := by decide +kernel
theorem dX4_hasTorso_2 : decode cX4_hasTorso 2 = .ok (.iload_n 1, 1) := by decide +kernel
theorem dX4_hasTorso_3 : decode cX4_hasTorso 3 = .ok (.bipush 6, 2) := by decide +kernel
theorem dX4_hasTorso_5 : decode cX4_hasTorso 5 = .ok (.if_icmp .ge 26, 3) := by decide +kernel
theorem dX4_hasTorso_8 : decode cX4_hasTorso 8 = .ok (.aload_n 0, 1) := by decide +kernel
theorem dX4_hasTorso_9 : decode cX4_hasTorso 9 = .ok (.getfield 9, 3) := by decide +kernel
theorem dX4_hasTorso_12 : decode cX4_hasTorso 12 = .ok (.iload_n 1, 1) := by decide +kernel
theorem dX4_hasTorso_13 : decode cX4_hasTorso 13 = .ok (.iaload, 1) := by decide +kernel
theorem dX4_hasTorso_14 : decode cX4_hasTorso 14 = .ok (.aload_n 0, 1) := by decide +kernel
theorem dX4_hasTorso_15 : decode cX4_hasTorso 15 = .ok (.getfield 15, 3) := by decide +kernel
theorem dX4_hasTorso_18 : decode cX4_hasTorso 18 = .ok (.iload_n 1, 1) := by decide +kernel
theorem dX4_hasTorso_19 : decode cX4_hasTorso 19 = .ok (.iaload, 1) := by decide +kernel
theorem dX4_hasTorso_20 : decode cX4_hasTorso 20 = .ok (.if_icmp .gt 5, 3) := by decide +kernel
theorem dX4_hasTorso_23 : decode cX4_hasTorso 23 = .ok (.iconst 1, 1) := by decide +kernel
theorem dX4_hasTorso_24 : decode cX4_hasTorso 24 = .ok (.ireturn, 1) := by decide +kernel
theorem dX4_hasTorso_25 : decode cX4_hasTorso 25 = .ok (.iinc 1 1, 3) := by decide +kernel
theorem dX4_hasTorso_28 : decode cX4_hasTorso 28 = .ok (.goto (-26), 3) := by decide +kernel
theorem dX4_hasTorso_31 : decode cX4_hasTorso 31 = .ok (.iconst 0, 1) := by decide +kernel
theorem dX4_hasTorso_32 : decode cX4_hasTorso 32 = .ok (.ireturn, 1) := by decide +kernel
theorem dX4_firstOver_0 : decode cX4_firstOver 0 = .ok (.iconst 0, 1) := by decide +kernel
theorem dX4_firstOver_1 : decode cX4_firstOver 1 = .ok (.iload_n 3, 1) := by decide +kernel
theorem dX4_firstOver_2 : decode cX4_firstOver 2 = .ok (.aload_n 0, 1) := by decide +kernel
theorem dX4_firstOver_3 : decode cX4_firstOver 3 = .ok (.getfield 15, 3) := by decide +kernel
theorem dX4_firstOver_6 : decode cX4_firstOver 6 = .ok (.iload_n 1, 1) := by decide +kernel
theorem dX4_firstOver_7 : decode cX4_firstOver 7 = .ok (.bipush 6, 2) := by decide +kernel
theorem dX4_firstOver_9 : decode cX4_firstOver 9 = .ok (.imul, 1) := by decide +kernel
theorem dX4_firstOver_10 : decode cX4_firstOver 10 = .ok (.iload_n 2, 1) := by decide +kernel
theorem dX4_firstOver_11 : decode cX4_firstOver 11 = .ok (.iadd, 1) := by decide +kernel
theorem dX4_firstOver_12 : decode cX4_firstOver 12 = .ok (.iaload, 1) := by decide +kernel
theorem dX4_firstOver_13 : decode cX4_firstOver 13 = .ok (.isub, 1) := by decide +kernel
theorem dX4_firstOver_14 : decode cX4_firstOver 14 = .ok (.aload_n 0, 1) := by decide +kernel
theorem dX4_firstOver_15 : decode cX4_firstOver 15 = .ok (.getfield 25, 3) := by decide +kernel
theorem dX4_firstOver_18 : decode cX4_firstOver 18 = .ok (.isub, 1) := by decide +kernel
theorem dX4_firstOver_19 : decode cX4_firstOver 19 = .ok (.aload_n 0, 1) := by decide +kernel
theorem dX4_firstOver_20 : decode cX4_firstOver 20 = .ok (.getfield 18, 3) := by decide +kernel
theorem dX4_firstOver_23 : decode cX4_firstOver 23 = .ok (.invokestatic 28, 3) := by decide +kernel
theorem dX4_firstOver_26 : decode cX4_firstOver 26 = .ok (.invokestatic 32, 3) := by decide +kernel
theorem dX4_firstOver_29 : decode cX4_firstOver 29 = .ok (.ireturn, 1) := by decide +kernel
theorem dX4_lastOver_0 : decode cX4_lastOver 0 = .ok (.sipush 299, 3) := by decide +kernel
theorem dX4_lastOver_3 : decode cX4_lastOver 3 = .ok (.iload_n 3, 1) := by decide +kernel
theorem dX4_lastOver_4 : decode cX4_lastOver 4 = .ok (.aload_n 0, 1) := by decide +kernel
theorem dX4_lastOver_5 : decode cX4_lastOver 5 = .ok (.getfield 9, 3) := by decide +kernel
theorem dX4_lastOver_8 : decode cX4_lastOver 8 = .ok (.iload_n 1, 1) := by decide +kernel
theorem dX4_lastOver_9 : decode cX4_lastOver 9 = .ok (.bipush 6, 2) := by decide +kernel
theorem dX4_lastOver_11 : decode cX4_lastOver 11 = .ok (.imul, 1) := by decide +kernel
theorem dX4_lastOver_12 : decode cX4_lastOver 12 = .ok (.iload_n 2, 1) := by decide +kernel
theorem dX4_lastOver_13 : decode cX4_lastOver 13 = .ok (.iadd, 1) := by decide +kernel
theorem dX4_lastOver_14 : decode cX4_lastOver 14 = .ok (.iaload, 1) := by decide +kernel
theorem dX4_lastOver_15 : decode cX4_lastOver 15 = .ok (.isub, 1) := by decide +kernel
theorem dX4_lastOver_16 : decode cX4_lastOver 16 = .ok (.aload_n 0, 1) := by decide +kernel
theorem dX4_lastOver_17 : decode cX4_lastOver 17 = .ok (.getfield 25, 3) := by decide +kernel
theorem dX4_lastOver_20 : decode cX4_lastOver 20 = .ok (.isub, 1) := by decide +kernel
theorem dX4_lastOver_21 : decode cX4_lastOver 21 = .ok (.aload_n 0, 1) := by decide +kernel
theorem dX4_lastOver_22 : decode cX4_lastOver 22 = .ok (.getfield 18, 3) := by decide +kernel
theorem dX4_lastOver_25 : decode cX4_lastOver 25 = .ok (.invokestatic 37, 3) := by decide +kernel
theorem dX4_lastOver_28 : decode cX4_lastOver 28 = .ok (.invokestatic 40, 3) := by decide +kernel
theorem dX4_lastOver_31 : decode cX4_lastOver 31 = .ok (.ireturn, 1) := by decide +kernel
theorem dX4_columnsOver_0 : decode cX4_columnsOver 0 = .ok (.iconst 0, 1) := by decide +kernel
theorem dX4_columnsOver_1 : decode cX4_columnsOver 1 = .ok (.aload_n 0, 1) := by decide +kernel
theorem dX4_columnsOver_2 : decode cX4_columnsOver 2 = .ok (.iload_n 1, 1) := by decide +kernel
theorem dX4_columnsOver_3 : decode cX4_columnsOver 3 = .ok (.iload_n 2, 1) := by decide +kernel
theorem dX4_columnsOver_4 : decode cX4_columnsOver 4 = .ok (.iload_n 3, 1) := by decide +kernel
theorem dX4_columnsOver_5 : decode cX4_columnsOver 5 = .ok (.invokevirtual 43, 3) := by decide +kernel
theorem dX4_columnsOver_8 : decode cX4_columnsOver 8 = .ok (.aload_n 0, 1) := by decide +kernel
theorem dX4_columnsOver_9 : decode cX4_columnsOver 9 = .ok (.iload_n 1, 1) := by decide +kernel
theorem dX4_columnsOver_10 : decode cX4_columnsOver 10 = .ok (.iload_n 2, 1) := by decide +kernel
theorem dX4_columnsOver_11 : decode cX4_columnsOver 11 = .ok (.iload_n 3, 1) := by decide +kernel
theorem dX4_columnsOver_12 : decode cX4_columnsOver 12 = .ok (.invokevirtual 47, 3) := by decide +kernel
theorem dX4_columnsOver_15 : decode cX4_columnsOver 15 = .ok (.isub, 1) := by decide +kernel
theorem dX4_columnsOver_16 : decode cX4_columnsOver 16 = .ok (.iconst 1, 1) := by decide +kernel
theorem dX4_columnsOver_17 : decode cX4_columnsOver 17 = .ok (.iadd, 1) := by decide +kernel
theorem dX4_columnsOver_18 : decode cX4_columnsOver 18 = .ok (.invokestatic 32, 3) := by decide +kernel
theorem dX4_columnsOver_21 : decode cX4_columnsOver 21 = .ok (.ireturn, 1) := by decide +kernel
theorem dX4_crossing_0 : decode cX4_crossing 0 = .ok (.ldc 50, 2) := by decide +kernel
theorem dX4_crossing_2 : decode cX4_crossing 2 = .ok (.istore_n 2, 1) := by decide +kernel
theorem dX4_crossing_3 : decode cX4_crossing 3 = .ok (.iconst 0, 1) := by decide +kernel
theorem dX4_crossing_4 : decode cX4_crossing 4 = .ok (.istore_n 3, 1) := by decide +kernel
theorem dX4_crossing_5 : decode cX4_crossing 5 = .ok (.iload_n 3, 1) := by decide +kernel
theorem dX4_crossing_6 : decode cX4_crossing 6 = .ok (.bipush 6, 2) := by decide +kernel
theorem dX4_crossing_8 : decode cX4_crossing 8 = .ok (.if_icmp .ge 38, 3) := by decide +kernel
theorem dX4_crossing_11 : decode cX4_crossing 11 = .ok (.aload_n 0, 1) := by decide +kernel
theorem dX4_crossing_12 : decode cX4_crossing 12 = .ok (.getfield 9, 3) := by decide +kernel
theorem dX4_crossing_15 : decode cX4_crossing 15 = .ok (.iload_n 3, 1) := by decide +kernel
theorem dX4_crossing_16 : decode cX4_crossing 16 = .ok (.iaload, 1) := by decide +kernel
theorem dX4_crossing_17 : decode cX4_crossing 17 = .ok (.aload_n 0, 1) := by decide +kernel
theorem dX4_crossing_18 : decode cX4_crossing 18 = .ok (.getfield 15, 3) := by decide +kernel
theorem dX4_crossing_21 : decode cX4_crossing 21 = .ok (.iload_n 3, 1) := by decide +kernel
theorem dX4_crossing_22 : decode cX4_crossing 22 = .ok (.iaload, 1) := by decide +kernel
theorem dX4_crossing_23 : decode cX4_crossing 23 = .ok (.if_icmp .gt 17, 3) := by decide +kernel
theorem dX4_crossing_26 : decode cX4_crossing 26 = .ok (.iload_n 2, 1) := by decide +kernel
theorem dX4_crossing_27 : decode cX4_crossing 27 = .ok (.aload_n 0, 1) := by decide +kernel
theorem dX4_crossing_28 : decode cX4_crossing 28 = .ok (.iconst 0, 1) := by decide +kernel
theorem dX4_crossing_29 : decode cX4_crossing 29 = .ok (.iload_n 3, 1) := by decide +kernel
theorem dX4_crossing_30 : decode cX4_crossing 30 = .ok (.iload_n 1, 1) := by decide +kernel
theorem dX4_crossing_31 : decode cX4_crossing 31 = .ok (.iload_n 3, 1) := by decide +kernel
theorem dX4_crossing_32 : decode cX4_crossing 32 = .ok (.imul, 1) := by decide +kernel
theorem dX4_crossing_33 : decode cX4_crossing 33 = .ok (.invokevirtual 47, 3) := by decide +kernel
theorem dX4_crossing_36 : decode cX4_crossing 36 = .ok (.invokestatic 40, 3) := by decide +kernel
theorem dX4_crossing_39 : decode cX4_crossing 39 = .ok (.istore_n 2, 1) := by decide +kernel
theorem dX4_crossing_40 : decode cX4_crossing 40 = .ok (.iinc 3 1, 3) := by decide +kernel
theorem dX4_crossing_43 : decode cX4_crossing 43 = .ok (.goto (-38), 3) := by decide +kernel
theorem dX4_crossing_46 : decode cX4_crossing 46 = .ok (.iload_n 2, 1) := by decide +kernel
theorem dX4_crossing_47 : decode cX4_crossing 47 = .ok (.ireturn, 1) := by decide +kernel
theorem dX5_init_0 : decode cX5_init 0 = .ok (.aload_n 0, 1) := by decide +kernel
theorem dX5_init_1 : decode cX5_init 1 = .ok (.invokespecial 3, 3) := by decide +kernel
theorem dX5_init_4 : decode cX5_init 4 = .ok (.aload_n 0, 1) := by decide +kernel
theorem dX5_init_5 : decode cX5_init 5 = .ok (.bipush 30, 2) := by decide +kernel
theorem dX5_init_7 : decode cX5_init 7 = .ok (.newarray .int, 2) := by decide +kernel
theorem dX5_init_9 : decode cX5_init 9 = .ok (.putfield 9, 3) := by decide +kernel
theorem dX5_init_12 : decode cX5_init 12 = .ok (.return_, 1) := by decide +kernel
theorem dX5_add_0 : decode cX5_add 0 = .ok (.aload_n 0, 1) := by decide +kernel
theorem dX5_add_1 : decode cX5_add 1 = .ok (.getfield 15, 3) := by decide +kernel
theorem dX5_add_4 : decode cX5_add 4 = .ok (.bipush 30, 2) := by decide +kernel
theorem dX5_add_6 : decode cX5_add 6 = .ok (.if_icmp .lt 6, 3) := by decide +kernel
theorem dX5_add_9 : decode cX5_add 9 = .ok (.bipush (-4), 2) := by decide +kernel
theorem dX5_add_11 : decode cX5_add 11 = .ok (.ireturn, 1) := by decide +kernel
theorem dX5_add_12 : decode cX5_add 12 = .ok (.aload_n 0, 1) := by decide +kernel
theorem dX5_add_13 : decode cX5_add 13 = .ok (.getfield 9, 3) := by decide +kernel
theorem dX5_add_16 : decode cX5_add 16 = .ok (.aload_n 0, 1) := by decide +kernel
theorem dX5_add_17 : decode cX5_add 17 = .ok (.getfield 15, 3) := by decide +kernel
theorem dX5_add_20 : decode cX5_add 20 = .ok (.iload_n 1, 1) := by decide +kernel
theorem dX5_add_21 : decode cX5_add 21 = .ok (.iastore, 1) := by decide +kernel
theorem dX5_add_22 : decode cX5_add 22 = .ok (.aload_n 0, 1) := by decide +kernel
theorem dX5_add_23 : decode cX5_add 23 = .ok (.dup, 1) := by decide +kernel
theorem dX5_add_24 : decode cX5_add 24 = .ok (.getfield 15, 3) := by decide +kernel
theorem dX5_add_27 : decode cX5_add 27 = .ok (.iconst 1, 1) := by decide +kernel
theorem dX5_add_28 : decode cX5_add 28 = .ok (.iadd, 1) := by decide +kernel
theorem dX5_add_29 : decode cX5_add 29 = .ok (.putfield 15, 3) := by decide +kernel
theorem dX5_add_32 : decode cX5_add 32 = .ok (.aload_n 0, 1) := by decide +kernel
theorem dX5_add_33 : decode cX5_add 33 = .ok (.getfield 15, 3) := by decide +kernel
theorem dX5_add_36 : decode cX5_add 36 = .ok (.ireturn, 1) := by decide +kernel
theorem dX5_firstFault_0 : decode cX5_firstFault 0 = .ok (.iconst 0, 1) := by decide +kernel
theorem dX5_firstFault_1 : decode cX5_firstFault 1 = .ok (.istore_n 1, 1) := by decide +kernel
theorem dX5_firstFault_2 : decode cX5_firstFault 2 = .ok (.iconst 0, 1) := by decide +kernel
theorem dX5_firstFault_3 : decode cX5_firstFault 3 = .ok (.istore_n 2, 1) := by decide +kernel
theorem dX5_firstFault_4 : decode cX5_firstFault 4 = .ok (.iload_n 2, 1) := by decide +kernel
theorem dX5_firstFault_5 : decode cX5_firstFault 5 = .ok (.aload_n 0, 1) := by decide +kernel
theorem dX5_firstFault_6 : decode cX5_firstFault 6 = .ok (.getfield 15, 3) := by decide +kernel
theorem dX5_firstFault_9 : decode cX5_firstFault 9 = .ok (.if_icmp .ge 27, 3) := by decide +kernel
theorem dX5_firstFault_12 : decode cX5_firstFault 12 = .ok (.iload_n 1, 1) := by decide +kernel
theorem dX5_firstFault_13 : decode cX5_firstFault 13 = .ok (.aload_n 0, 1) := by decide +kernel
theorem dX5_firstFault_14 : decode cX5_firstFault 14 = .ok (.getfield 9, 3) := by decide +kernel
theorem dX5_firstFault_17 : decode cX5_firstFault 17 = .ok (.iload_n 2, 1) := by decide +kernel
theorem dX5_firstFault_18 : decode cX5_firstFault 18 = .ok (.iaload, 1) := by decide +kernel
theorem dX5_firstFault_19 : decode cX5_firstFault 19 = .ok (.invokestatic 19, 3) := by decide +kernel
theorem dX5_firstFault_22 : decode cX5_firstFault 22 = .ok (.istore_n 1, 1) := by decide +kernel
theorem dX5_firstFault_23 : decode cX5_firstFault 23 = .ok (.iload_n 1, 1) := by decide +kernel
theorem dX5_firstFault_24 : decode cX5_firstFault 24 = .ok (.iconst (-1), 1) := by decide +kernel
theorem dX5_firstFault_25 : decode cX5_firstFault 25 = .ok (.if_icmp .ne 5, 3) := by decide +kernel
theorem dX5_firstFault_28 : decode cX5_firstFault 28 = .ok (.iload_n 2, 1) := by decide +kernel
theorem dX5_firstFault_29 : decode cX5_firstFault 29 = .ok (.ireturn, 1) := by decide +kernel
theorem dX5_firstFault_30 : decode cX5_firstFault 30 = .ok (.iinc 2 1, 3) := by decide +kernel
theorem dX5_firstFault_33 : decode cX5_firstFault 33 = .ok (.goto (-29), 3) := by decide +kernel
theorem dX5_firstFault_36 : decode cX5_firstFault 36 = .ok (.iload_n 1, 1) := by decide +kernel
theorem dX5_firstFault_37 : decode cX5_firstFault 37 = .ok (.iconst 4, 1) := by decide +kernel
theorem dX5_firstFault_38 : decode cX5_firstFault 38 = .ok (.if_icmp .lt 8, 3) := by decide +kernel
theorem dX5_firstFault_41 : decode cX5_firstFault 41 = .ok (.bipush (-6), 2) := by decide +kernel
theorem dX5_firstFault_43 : decode cX5_firstFault 43 = .ok (.goto 7, 3) := by decide +kernel
theorem dX5_firstFault_46 : decode cX5_firstFault 46 = .ok (.aload_n 0, 1) := by decide +kernel
theorem dX5_firstFault_47 : decode cX5_firstFault 47 = .ok (.getfield 15, 3) := by decide +kernel
theorem dX5_firstFault_50 : decode cX5_firstFault 50 = .ok (.ireturn, 1) := by decide +kernel
theorem dX5_next_0 : decode cX5_next 0 = .ok (.iload_n 0, 1) := by decide +kernel
theorem dX5_next_1 : decode cX5_next 1 = .ok (.tableswitch 93 0 3 #[31, 44, 57, 80], 31) := by decide +kernel
theorem dX5_next_32 : decode cX5_next 32 = .ok (.iload_n 1, 1) := by decide +kernel
theorem dX5_next_33 : decode cX5_next 33 = .ok (.invokestatic 23, 3) := by decide +kernel
theorem dX5_next_36 : decode cX5_next 36 = .ok (.ifCond .eq 7, 3) := by decide +kernel
theorem dX5_next_39 : decode cX5_next 39 = .ok (.iconst 1, 1) := by decide +kernel
theorem dX5_next_40 : decode cX5_next 40 = .ok (.goto 4, 3) := by decide +kernel
theorem dX5_next_43 : decode cX5_next 43 = .ok (.iconst (-1), 1) := by decide +kernel
theorem dX5_next_44 : decode cX5_next 44 = .ok (.ireturn, 1) := by decide +kernel
theorem dX5_next_45 : decode cX5_next 45 = .ok (.iload_n 1, 1) := by decide +kernel
theorem dX5_next_46 : decode cX5_next 46 = .ok (.invokestatic 27, 3) := by decide +kernel
theorem dX5_next_49 : decode cX5_next 49 = .ok (.ifCond .eq 7, 3) := by decide +kernel
theorem dX5_next_52 : decode cX5_next 52 = .ok (.iconst 2, 1) := by decide +kernel
theorem dX5_next_53 : decode cX5_next 53 = .ok (.goto 4, 3) := by decide +kernel
theorem dX5_next_56 : decode cX5_next 56 = .ok (.iconst (-1), 1) := by decide +kernel
theorem dX5_next_57 : decode cX5_next 57 = .ok (.ireturn, 1) := by decide +kernel
theorem dX5_next_58 : decode cX5_next 58 = .ok (.iload_n 1, 1) := by decide +kernel
theorem dX5_next_59 : decode cX5_next 59 = .ok (.bipush 45, 2) := by decide +kernel
theorem dX5_next_61 : decode cX5_next 61 = .ok (.if_icmp .ne 7, 3) := by decide +kernel
theorem dX5_next_64 : decode cX5_next 64 = .ok (.iconst 3, 1) := by decide +kernel
theorem dX5_next_65 : decode cX5_next 65 = .ok (.goto 15, 3) := by decide +kernel
theorem dX5_next_68 : decode cX5_next 68 = .ok (.iload_n 1, 1) := by decide +kernel
theorem dX5_next_69 : decode cX5_next 69 = .ok (.invokestatic 30, 3) := by decide +kernel
theorem dX5_next_72 : decode cX5_next 72 = .ok (.ifCond .eq 7, 3) := by decide +kernel
theorem dX5_next_75 : decode cX5_next 75 = .ok (.iconst 4, 1) := by decide +kernel
theorem dX5_next_76 : decode cX5_next 76 = .ok (.goto 4, 3) := by decide +kernel
theorem dX5_next_79 : decode cX5_next 79 = .ok (.iconst (-1), 1) := by decide +kernel
theorem dX5_next_80 : decode cX5_next 80 = .ok (.ireturn, 1) := by decide +kernel
theorem dX5_next_81 : decode cX5_next 81 = .ok (.iload_n 1, 1) := by decide +kernel
theorem dX5_next_82 : decode cX5_next 82 = .ok (.invokestatic 30, 3) := by decide +kernel
theorem dX5_next_85 : decode cX5_next 85 = .ok (.ifCond .eq 7, 3) := by decide +kernel
theorem dX5_next_88 : decode cX5_next 88 = .ok (.iconst 4, 1) := by decide +kernel
theorem dX5_next_89 : decode cX5_next 89 = .ok (.goto 4, 3) := by decide +kernel
theorem dX5_next_92 : decode cX5_next 92 = .ok (.iconst (-1), 1) := by decide +kernel
theorem dX5_next_93 : decode cX5_next 93 = .ok (.ireturn, 1) := by decide +kernel
theorem dX5_next_94 : decode cX5_next 94 = .ok (.iload_n 0, 1) := by decide +kernel
theorem dX5_next_95 : decode cX5_next 95 = .ok (.iload_n 1, 1) := by decide +kernel
theorem dX5_next_96 : decode cX5_next 96 = .ok (.invokestatic 33, 3) := by decide +kernel
theorem dX5_next_99 : decode cX5_next 99 = .ok (.ireturn, 1) := by decide +kernel
theorem dX5_afterDigit_0 : decode cX5_afterDigit 0 = .ok (.iload_n 1, 1) := by decide +kernel
theorem dX5_afterDigit_1 : decode cX5_afterDigit 1 = .ok (.bipush 59, 2) := by decide +kernel
theorem dX5_afterDigit_3 : decode cX5_afterDigit 3 = .ok (.if_icmp .ne 5, 3) := by decide +kernel
theorem dX5_afterDigit_6 : decode cX5_afterDigit 6 = .ok (.iconst 0, 1) := by decide +kernel
theorem dX5_afterDigit_7 : decode cX5_afterDigit 7 = .ok (.ireturn, 1) := by decide +kernel
theorem dX5_afterDigit_8 : decode cX5_afterDigit 8 = .ok (.iload_n 1, 1) := by decide +kernel
theorem dX5_afterDigit_9 : decode cX5_afterDigit 9 = .ok (.invokestatic 30, 3) := by decide +kernel
theorem dX5_afterDigit_12 : decode cX5_afterDigit 12 = .ok (.ifCond .eq 15, 3) := by decide +kernel
theorem dX5_afterDigit_15 : decode cX5_afterDigit 15 = .ok (.iload_n 0, 1) := by decide +kernel
theorem dX5_afterDigit_16 : decode cX5_afterDigit 16 = .ok (.bipush 7, 2) := by decide +kernel
theorem dX5_afterDigit_18 : decode cX5_afterDigit 18 = .ok (.if_icmp .ge 9, 3) := by decide +kernel
theorem dX5_afterDigit_21 : decode cX5_afterDigit 21 = .ok (.iload_n 0, 1) := by decide +kernel
theorem dX5_afterDigit_22 : decode cX5_afterDigit 22 = .ok (.iconst 1, 1) := by decide +kernel
theorem dX5_afterDigit_23 : decode cX5_afterDigit 23 = .ok (.iadd, 1) := by decide +kernel
theorem dX5_afterDigit_24 : decode cX5_afterDigit 24 = .ok (.goto 4, 3) := by decide +kernel
theorem dX5_afterDigit_27 : decode cX5_afterDigit 27 = .ok (.iconst (-1), 1) := by decide +kernel
theorem dX5_afterDigit_28 : decode cX5_afterDigit 28 = .ok (.ireturn, 1) := by decide +kernel
theorem dX5_isFactSign_0 : decode cX5_isFactSign 0 = .ok (.iload_n 0, 1) := by decide +kernel
theorem dX5_isFactSign_1 : decode cX5_isFactSign 1 = .ok (.bipush 116, 2) := by decide +kernel
theorem dX5_isFactSign_3 : decode cX5_isFactSign 3 = .ok (.if_icmp .eq 21, 3) := by decide +kernel
theorem dX5_isFactSign_6 : decode cX5_isFactSign 6 = .ok (.iload_n 0, 1) := by decide +kernel
theorem dX5_isFactSign_7 : decode cX5_isFactSign 7 = .ok (.bipush 119, 2) := by decide +kernel
theorem dX5_isFactSign_9 : decode cX5_isFactSign 9 = .ok (.if_icmp .eq 15, 3) := by decide +kernel
theorem dX5_isFactSign_12 : decode cX5_isFactSign 12 = .ok (.iload_n 0, 1) := by decide +kernel
theorem dX5_isFactSign_13 : decode cX5_isFactSign 13 = .ok (.bipush 104, 2) := by decide +kernel
theorem dX5_isFactSign_15 : decode cX5_isFactSign 15 = .ok (.if_icmp .eq 9, 3) := by decide +kernel
theorem dX5_isFactSign_18 : decode cX5_isFactSign 18 = .ok (.iload_n 0, 1) := by decide +kernel
theorem dX5_isFactSign_19 : decode cX5_isFactSign 19 = .ok (.bipush 101, 2) := by decide +kernel
theorem dX5_isFactSign_21 : decode cX5_isFactSign 21 = .ok (.if_icmp .ne 7, 3) := by decide +kernel
theorem dX5_isFactSign_24 : decode cX5_isFactSign 24 = .ok (.iconst 1, 1) := by decide +kernel
theorem dX5_isFactSign_25 : decode cX5_isFactSign 25 = .ok (.goto 4, 3) := by decide +kernel
theorem dX5_isFactSign_28 : decode cX5_isFactSign 28 = .ok (.iconst 0, 1) := by decide +kernel
theorem dX5_isFactSign_29 : decode cX5_isFactSign 29 = .ok (.ireturn, 1) := by decide +kernel
theorem dX5_isRelation_0 : decode cX5_isRelation 0 = .ok (.iload_n 0, 1) := by decide +kernel
theorem dX5_isRelation_1 : decode cX5_isRelation 1 = .ok (.bipush 60, 2) := by decide +kernel
theorem dX5_isRelation_3 : decode cX5_isRelation 3 = .ok (.if_icmp .eq 15, 3) := by decide +kernel
theorem dX5_isRelation_6 : decode cX5_isRelation 6 = .ok (.iload_n 0, 1) := by decide +kernel
theorem dX5_isRelation_7 : decode cX5_isRelation 7 = .ok (.bipush 62, 2) := by decide +kernel
theorem dX5_isRelation_9 : decode cX5_isRelation 9 = .ok (.if_icmp .eq 9, 3) := by decide +kernel
theorem dX5_isRelation_12 : decode cX5_isRelation 12 = .ok (.iload_n 0, 1) := by decide +kernel
theorem dX5_isRelation_13 : decode cX5_isRelation 13 = .ok (.bipush 61, 2) := by decide +kernel
theorem dX5_isRelation_15 : decode cX5_isRelation 15 = .ok (.if_icmp .ne 7, 3) := by decide +kernel
theorem dX5_isRelation_18 : decode cX5_isRelation 18 = .ok (.iconst 1, 1) := by decide +kernel
theorem dX5_isRelation_19 : decode cX5_isRelation 19 = .ok (.goto 4, 3) := by decide +kernel
theorem dX5_isRelation_22 : decode cX5_isRelation 22 = .ok (.iconst 0, 1) := by decide +kernel
theorem dX5_isRelation_23 : decode cX5_isRelation 23 = .ok (.ireturn, 1) := by decide +kernel
theorem dX5_isDigit_0 : decode cX5_isDigit 0 = .ok (.iload_n 0, 1) := by decide +kernel
theorem dX5_isDigit_1 : decode cX5_isDigit 1 = .ok (.bipush 48, 2) := by decide +kernel
theorem dX5_isDigit_3 : decode cX5_isDigit 3 = .ok (.bipush 57, 2) := by decide +kernel
theorem dX5_isDigit_5 : decode cX5_isDigit 5 = .ok (.invokestatic 36, 3) := by decide +kernel
theorem dX5_isDigit_8 : decode cX5_isDigit 8 = .ok (.ireturn, 1) := by decide +kernel
theorem dX6_init_0 : decode cX6_init 0 = .ok (.aload_n 0, 1) := by decide +kernel
theorem dX6_init_1 : decode cX6_init 1 = .ok (.invokespecial 1, 3) := by decide +kernel
theorem dX6_init_4 : decode cX6_init 4 = .ok (.return_, 1) := by decide +kernel
theorem dX6_put_0 : decode cX6_put 0 = .ok (.aload_n 0, 1) := by decide +kernel
theorem dX6_put_1 : decode cX6_put 1 = .ok (.iload_n 1, 1) := by decide +kernel
theorem dX6_put_2 : decode cX6_put 2 = .ok (.putfield 7, 3) := by decide +kernel
theorem dX6_put_5 : decode cX6_put 5 = .ok (.aload_n 0, 1) := by decide +kernel
theorem dX6_put_6 : decode cX6_put 6 = .ok (.iload_n 2, 1) := by decide +kernel
theorem dX6_put_7 : decode cX6_put 7 = .ok (.putfield 13, 3) := by decide +kernel
theorem dX6_put_10 : decode cX6_put 10 = .ok (.return_, 1) := by decide +kernel
theorem dX6_narrow_0 : decode cX6_narrow 0 = .ok (.aload_n 0, 1) := by decide +kernel
theorem dX6_narrow_1 : decode cX6_narrow 1 = .ok (.getfield 7, 3) := by decide +kernel
theorem dX6_narrow_4 : decode cX6_narrow 4 = .ok (.iload_n 1, 1) := by decide +kernel
theorem dX6_narrow_5 : decode cX6_narrow 5 = .ok (.invokestatic 16, 3) := by decide +kernel
theorem dX6_narrow_8 : decode cX6_narrow 8 = .ok (.istore_n 3, 1) := by decide +kernel
theorem dX6_narrow_9 : decode cX6_narrow 9 = .ok (.aload_n 0, 1) := by decide +kernel
theorem dX6_narrow_10 : decode cX6_narrow 10 = .ok (.getfield 13, 3) := by decide +kernel
theorem dX6_narrow_13 : decode cX6_narrow 13 = .ok (.iload_n 2, 1) := by decide +kernel
theorem dX6_narrow_14 : decode cX6_narrow 14 = .ok (.invokestatic 22, 3) := by decide +kernel
theorem dX6_narrow_17 : decode cX6_narrow 17 = .ok (.istore 4, 2) := by decide +kernel
theorem dX6_narrow_19 : decode cX6_narrow 19 = .ok (.iload_n 3, 1) := by decide +kernel
theorem dX6_narrow_20 : decode cX6_narrow 20 = .ok (.iload 4, 2) := by decide +kernel
theorem dX6_narrow_22 : decode cX6_narrow 22 = .ok (.if_icmp .le 5, 3) := by decide +kernel
theorem dX6_narrow_25 : decode cX6_narrow 25 = .ok (.iconst 0, 1) := by decide +kernel
theorem dX6_narrow_26 : decode cX6_narrow 26 = .ok (.ireturn, 1) := by decide +kernel
theorem dX6_narrow_27 : decode cX6_narrow 27 = .ok (.aload_n 0, 1) := by decide +kernel
theorem dX6_narrow_28 : decode cX6_narrow 28 = .ok (.iload_n 3, 1) := by decide +kernel
theorem dX6_narrow_29 : decode cX6_narrow 29 = .ok (.iload 4, 2) := by decide +kernel
theorem dX6_narrow_31 : decode cX6_narrow 31 = .ok (.invokevirtual 25, 3) := by decide +kernel
theorem dX6_narrow_34 : decode cX6_narrow 34 = .ok (.iconst 1, 1) := by decide +kernel
theorem dX6_narrow_35 : decode cX6_narrow 35 = .ok (.ireturn, 1) := by decide +kernel
theorem dX6_end_0 : decode cX6_end 0 = .ok (.iload_n 1, 1) := by decide +kernel
theorem dX6_end_1 : decode cX6_end 1 = .ok (.ifCond .ne 10, 3) := by decide +kernel
theorem dX6_end_4 : decode cX6_end 4 = .ok (.aload_n 0, 1) := by decide +kernel
theorem dX6_end_5 : decode cX6_end 5 = .ok (.getfield 7, 3) := by decide +kernel
theorem dX6_end_8 : decode cX6_end 8 = .ok (.goto 7, 3) := by decide +kernel
theorem dX6_end_11 : decode cX6_end 11 = .ok (.aload_n 0, 1) := by decide +kernel
theorem dX6_end_12 : decode cX6_end 12 = .ok (.getfield 13, 3) := by decide +kernel
theorem dX6_end_15 : decode cX6_end 15 = .ok (.ireturn, 1) := by decide +kernel
theorem dX7_init_0 : decode cX7_init 0 = .ok (.aload_n 0, 1) := by decide +kernel
theorem dX7_init_1 : decode cX7_init 1 = .ok (.invokespecial 3, 3) := by decide +kernel
theorem dX7_init_4 : decode cX7_init 4 = .ok (.aload_n 0, 1) := by decide +kernel
theorem dX7_init_5 : decode cX7_init 5 = .ok (.bipush 6, 2) := by decide +kernel
theorem dX7_init_7 : decode cX7_init 7 = .ok (.anewarray 9, 3) := by decide +kernel
theorem dX7_init_10 : decode cX7_init 10 = .ok (.putfield 11, 3) := by decide +kernel
theorem dX7_init_13 : decode cX7_init 13 = .ok (.aload_n 0, 1) := by decide +kernel
theorem dX7_init_14 : decode cX7_init 14 = .ok (.iconst 4, 1) := by decide +kernel
theorem dX7_init_15 : decode cX7_init 15 = .ok (.newarray .int, 2) := by decide +kernel
theorem dX7_init_17 : decode cX7_init 17 = .ok (.putfield 17, 3) := by decide +kernel
theorem dX7_init_20 : decode cX7_init 20 = .ok (.iconst 0, 1) := by decide +kernel
theorem dX7_init_21 : decode cX7_init 21 = .ok (.istore_n 1, 1) := by decide +kernel
theorem dX7_init_22 : decode cX7_init 22 = .ok (.iload_n 1, 1) := by decide +kernel
theorem dX7_init_23 : decode cX7_init 23 = .ok (.bipush 6, 2) := by decide +kernel
theorem dX7_init_25 : decode cX7_init 25 = .ok (.if_icmp .ge 22, 3) := by decide +kernel
theorem dX7_init_28 : decode cX7_init 28 = .ok (.aload_n 0, 1) := by decide +kernel
theorem dX7_init_29 : decode cX7_init 29 = .ok (.getfield 11, 3) := by decide +kernel
theorem dX7_init_32 : decode cX7_init 32 = .ok (.iload_n 1, 1) := by decide +kernel
theorem dX7_init_33 : decode cX7_init 33 = .ok (.new 9, 3) := by decide +kernel
theorem dX7_init_36 : decode cX7_init 36 = .ok (.dup, 1) := by decide +kernel
theorem dX7_init_37 : decode cX7_init 37 = .ok (.invokespecial 21, 3) := by decide +kernel
theorem dX7_init_40 : decode cX7_init 40 = .ok (.aastore, 1) := by decide +kernel
theorem dX7_init_41 : decode cX7_init 41 = .ok (.iinc 1 1, 3) := by decide +kernel
theorem dX7_init_44 : decode cX7_init 44 = .ok (.goto (-22), 3) := by decide +kernel
theorem dX7_init_47 : decode cX7_init 47 = .ok (.aload_n 0, 1) := by decide +kernel
theorem dX7_init_48 : decode cX7_init 48 = .ok (.getfield 17, 3) := by decide +kernel
theorem dX7_init_51 : decode cX7_init 51 = .ok (.iconst 2, 1) := by decide +kernel
theorem dX7_init_52 : decode cX7_init 52 = .ok (.bipush 100, 2) := by decide +kernel
theorem dX7_init_54 : decode cX7_init 54 = .ok (.iastore, 1) := by decide +kernel
theorem dX7_init_55 : decode cX7_init 55 = .ok (.return_, 1) := by decide +kernel
theorem dX7_has_0 : decode cX7_has 0 = .ok (.iload_n 1, 1) := by decide +kernel
theorem dX7_has_1 : decode cX7_has 1 = .ok (.iconst 0, 1) := by decide +kernel
theorem dX7_has_2 : decode cX7_has 2 = .ok (.aload_n 0, 1) := by decide +kernel
theorem dX7_has_3 : decode cX7_has 3 = .ok (.getfield 22, 3) := by decide +kernel
theorem dX7_has_6 : decode cX7_has 6 = .ok (.iconst 1, 1) := by decide +kernel
theorem dX7_has_7 : decode cX7_has 7 = .ok (.isub, 1) := by decide +kernel
theorem dX7_has_8 : decode cX7_has 8 = .ok (.invokestatic 26, 3) := by decide +kernel
theorem dX7_has_11 : decode cX7_has 11 = .ok (.ireturn, 1) := by decide +kernel
theorem dX7_enter_0 : decode cX7_enter 0 = .ok (.aload_n 0, 1) := by decide +kernel
theorem dX7_enter_1 : decode cX7_enter 1 = .ok (.getfield 22, 3) := by decide +kernel
theorem dX7_enter_4 : decode cX7_enter 4 = .ok (.bipush 6, 2) := by decide +kernel
theorem dX7_enter_6 : decode cX7_enter 6 = .ok (.if_icmp .lt 6, 3) := by decide +kernel
theorem dX7_enter_9 : decode cX7_enter 9 = .ok (.bipush (-4), 2) := by decide +kernel
theorem dX7_enter_11 : decode cX7_enter 11 = .ok (.ireturn, 1) := by decide +kernel
theorem dX7_enter_12 : decode cX7_enter 12 = .ok (.aload_n 0, 1) := by decide +kernel
theorem dX7_enter_13 : decode cX7_enter 13 = .ok (.getfield 11, 3) := by decide +kernel
theorem dX7_enter_16 : decode cX7_enter 16 = .ok (.aload_n 0, 1) := by decide +kernel
theorem dX7_enter_17 : decode cX7_enter 17 = .ok (.getfield 22, 3) := by decide +kernel
theorem dX7_enter_20 : decode cX7_enter 20 = .ok (.aaload, 1) := by decide +kernel
theorem dX7_enter_21 : decode cX7_enter 21 = .ok (.iload_n 1, 1) := by decide +kernel
theorem dX7_enter_22 : decode cX7_enter 22 = .ok (.putfield 30, 3) := by decide +kernel
theorem dX7_enter_25 : decode cX7_enter 25 = .ok (.aload_n 0, 1) := by decide +kernel
theorem dX7_enter_26 : decode cX7_enter 26 = .ok (.getfield 11, 3) := by decide +kernel
theorem dX7_enter_29 : decode cX7_enter 29 = .ok (.aload_n 0, 1) := by decide +kernel
theorem dX7_enter_30 : decode cX7_enter 30 = .ok (.getfield 22, 3) := by decide +kernel
theorem dX7_enter_33 : decode cX7_enter 33 = .ok (.aaload, 1) := by decide +kernel
theorem dX7_enter_34 : decode cX7_enter 34 = .ok (.iload_n 2, 1) := by decide +kernel
theorem dX7_enter_35 : decode cX7_enter 35 = .ok (.putfield 33, 3) := by decide +kernel
theorem dX7_enter_38 : decode cX7_enter 38 = .ok (.aload_n 0, 1) := by decide +kernel
theorem dX7_enter_39 : decode cX7_enter 39 = .ok (.dup, 1) := by decide +kernel
theorem dX7_enter_40 : decode cX7_enter 40 = .ok (.getfield 22, 3) := by decide +kernel
theorem dX7_enter_43 : decode cX7_enter 43 = .ok (.iconst 1, 1) := by decide +kernel
theorem dX7_enter_44 : decode cX7_enter 44 = .ok (.iadd, 1) := by decide +kernel
theorem dX7_enter_45 : decode cX7_enter 45 = .ok (.putfield 22, 3) := by decide +kernel
theorem dX7_enter_48 : decode cX7_enter 48 = .ok (.aload_n 0, 1) := by decide +kernel
theorem dX7_enter_49 : decode cX7_enter 49 = .ok (.getfield 22, 3) := by decide +kernel
theorem dX7_enter_52 : decode cX7_enter 52 = .ok (.iconst 1, 1) := by decide +kernel
theorem dX7_enter_53 : decode cX7_enter 53 = .ok (.isub, 1) := by decide +kernel
theorem dX7_enter_54 : decode cX7_enter 54 = .ok (.ireturn, 1) := by decide +kernel
theorem dX7_slitPlace_0 : decode cX7_slitPlace 0 = .ok (.aload_n 0, 1) := by decide +kernel
theorem dX7_slitPlace_1 : decode cX7_slitPlace 1 = .ok (.getfield 17, 3) := by decide +kernel
theorem dX7_slitPlace_4 : decode cX7_slitPlace 4 = .ok (.iconst 0, 1) := by decide +kernel
theorem dX7_slitPlace_5 : decode cX7_slitPlace 5 = .ok (.iaload, 1) := by decide +kernel
theorem dX7_slitPlace_6 : decode cX7_slitPlace 6 = .ok (.iload_n 1, 1) := by decide +kernel
theorem dX7_slitPlace_7 : decode cX7_slitPlace 7 = .ok (.imul, 1) := by decide +kernel
theorem dX7_slitPlace_8 : decode cX7_slitPlace 8 = .ok (.ireturn, 1) := by decide +kernel
theorem dX7_film_0 : decode cX7_film 0 = .ok (.aload_n 0, 1) := by decide +kernel
theorem dX7_film_1 : decode cX7_film 1 = .ok (.iload_n 3, 1) := by decide +kernel
theorem dX7_film_2 : decode cX7_film 2 = .ok (.invokevirtual 36, 3) := by decide +kernel
theorem dX7_film_5 : decode cX7_film 5 = .ok (.istore 4, 2) := by decide +kernel
theorem dX7_film_7 : decode cX7_film 7 = .ok (.iconst 0, 1) := by decide +kernel
theorem dX7_film_8 : decode cX7_film 8 = .ok (.istore 5, 2) := by decide +kernel
theorem dX7_film_10 : decode cX7_film 10 = .ok (.iload 5, 2) := by decide +kernel
theorem dX7_film_12 : decode cX7_film 12 = .ok (.aload_n 0, 1) := by decide +kernel
theorem dX7_film_13 : decode cX7_film 13 = .ok (.getfield 22, 3) := by decide +kernel
theorem dX7_film_16 : decode cX7_film 16 = .ok (.if_icmp .ge 79, 3) := by decide +kernel
theorem dX7_film_19 : decode cX7_film 19 = .ok (.iload_n 1, 1) := by decide +kernel
theorem dX7_film_20 : decode cX7_film 20 = .ok (.ifCond .ne 8, 3) := by decide +kernel
theorem dX7_film_23 : decode cX7_film 23 = .ok (.iload 5, 2) := by decide +kernel
theorem dX7_film_25 : decode cX7_film 25 = .ok (.goto 12, 3) := by decide +kernel
theorem dX7_film_28 : decode cX7_film 28 = .ok (.aload_n 0, 1) := by decide +kernel
theorem dX7_film_29 : decode cX7_film 29 = .ok (.getfield 22, 3) := by decide +kernel
theorem dX7_film_32 : decode cX7_film 32 = .ok (.iconst 1, 1) := by decide +kernel
theorem dX7_film_33 : decode cX7_film 33 = .ok (.isub, 1) := by decide +kernel
theorem dX7_film_34 : decode cX7_film 34 = .ok (.iload 5, 2) := by decide +kernel
theorem dX7_film_36 : decode cX7_film 36 = .ok (.isub, 1) := by decide +kernel
theorem dX7_film_37 : decode cX7_film 37 = .ok (.istore 6, 2) := by decide +kernel
theorem dX7_film_39 : decode cX7_film 39 = .ok (.aload_n 0, 1) := by decide +kernel
theorem dX7_film_40 : decode cX7_film 40 = .ok (.getfield 11, 3) := by decide +kernel
theorem dX7_film_43 : decode cX7_film 43 = .ok (.iload 6, 2) := by decide +kernel
theorem dX7_film_45 : decode cX7_film 45 = .ok (.aaload, 1) := by decide +kernel
theorem dX7_film_46 : decode cX7_film 46 = .ok (.iconst 0, 1) := by decide +kernel
theorem dX7_film_47 : decode cX7_film 47 = .ok (.iload_n 3, 1) := by decide +kernel
theorem dX7_film_48 : decode cX7_film 48 = .ok (.iload_n 2, 1) := by decide +kernel
theorem dX7_film_49 : decode cX7_film 49 = .ok (.iload 4, 2) := by decide +kernel
theorem dX7_film_51 : decode cX7_film 51 = .ok (.invokevirtual 40, 3) := by decide +kernel
theorem dX7_film_54 : decode cX7_film 54 = .ok (.ifCond .eq 9, 3) := by decide +kernel
theorem dX7_film_57 : decode cX7_film 57 = .ok (.iload 6, 2) := by decide +kernel
theorem dX7_film_59 : decode cX7_film 59 = .ok (.invokestatic 44, 3) := by decide +kernel
theorem dX7_film_62 : decode cX7_film 62 = .ok (.ireturn, 1) := by decide +kernel
theorem dX7_film_63 : decode cX7_film 63 = .ok (.aload_n 0, 1) := by decide +kernel
theorem dX7_film_64 : decode cX7_film 64 = .ok (.getfield 11, 3) := by decide +kernel
theorem dX7_film_67 : decode cX7_film 67 = .ok (.iload 6, 2) := by decide +kernel
theorem dX7_film_69 : decode cX7_film 69 = .ok (.aaload, 1) := by decide +kernel
theorem dX7_film_70 : decode cX7_film 70 = .ok (.iconst 1, 1) := by decide +kernel
theorem dX7_film_71 : decode cX7_film 71 = .ok (.iload_n 3, 1) := by decide +kernel
theorem dX7_film_72 : decode cX7_film 72 = .ok (.iload_n 2, 1) := by decide +kernel
theorem dX7_film_73 : decode cX7_film 73 = .ok (.iload 4, 2) := by decide +kernel
theorem dX7_film_75 : decode cX7_film 75 = .ok (.invokevirtual 40, 3) := by decide +kernel
theorem dX7_film_78 : decode cX7_film 78 = .ok (.ifCond .eq 11, 3) := by decide +kernel
theorem dX7_film_81 : decode cX7_film 81 = .ok (.iload 6, 2) := by decide +kernel
theorem dX7_film_83 : decode cX7_film 83 = .ok (.invokestatic 44, 3) := by decide +kernel
theorem dX7_film_86 : decode cX7_film 86 = .ok (.iconst 1, 1) := by decide +kernel
theorem dX7_film_87 : decode cX7_film 87 = .ok (.iadd, 1) := by decide +kernel
theorem dX7_film_88 : decode cX7_film 88 = .ok (.ireturn, 1) := by decide +kernel
theorem dX7_film_89 : decode cX7_film 89 = .ok (.iinc 5 1, 3) := by decide +kernel
theorem dX7_film_92 : decode cX7_film 92 = .ok (.goto (-82), 3) := by decide +kernel
theorem dX7_film_95 : decode cX7_film 95 = .ok (.iconst 0, 1) := by decide +kernel
theorem dX7_film_96 : decode cX7_film 96 = .ok (.ireturn, 1) := by decide +kernel
theorem dX7_hair_0 : decode cX7_hair 0 = .ok (.ldc 47, 2) := by decide +kernel
theorem dX7_hair_2 : decode cX7_hair 2 = .ok (.istore_n 3, 1) := by decide +kernel
theorem dX7_hair_3 : decode cX7_hair 3 = .ok (.iconst 0, 1) := by decide +kernel
theorem dX7_hair_4 : decode cX7_hair 4 = .ok (.istore 4, 2) := by decide +kernel
theorem dX7_hair_6 : decode cX7_hair 6 = .ok (.iload 4, 2) := by decide +kernel
theorem dX7_hair_8 : decode cX7_hair 8 = .ok (.bipush 6, 2) := by decide +kernel
theorem dX7_hair_10 : decode cX7_hair 10 = .ok (.if_icmp .ge 22, 3) := by decide +kernel
theorem dX7_hair_13 : decode cX7_hair 13 = .ok (.iload_n 3, 1) := by decide +kernel
theorem dX7_hair_14 : decode cX7_hair 14 = .ok (.aload_n 0, 1) := by decide +kernel
theorem dX7_hair_15 : decode cX7_hair 15 = .ok (.iload_n 1, 1) := by decide +kernel
theorem dX7_hair_16 : decode cX7_hair 16 = .ok (.iload_n 2, 1) := by decide +kernel
theorem dX7_hair_17 : decode cX7_hair 17 = .ok (.iload 4, 2) := by decide +kernel
theorem dX7_hair_19 : decode cX7_hair 19 = .ok (.invokevirtual 48, 3) := by decide +kernel
theorem dX7_hair_22 : decode cX7_hair 22 = .ok (.invokestatic 52, 3) := by decide +kernel
theorem dX7_hair_25 : decode cX7_hair 25 = .ok (.istore_n 3, 1) := by decide +kernel
theorem dX7_hair_26 : decode cX7_hair 26 = .ok (.iinc 4 1, 3) := by decide +kernel
theorem dX7_hair_29 : decode cX7_hair 29 = .ok (.goto (-23), 3) := by decide +kernel
theorem dX7_hair_32 : decode cX7_hair 32 = .ok (.iload_n 3, 1) := by decide +kernel
theorem dX7_hair_33 : decode cX7_hair 33 = .ok (.ireturn, 1) := by decide +kernel
theorem dX7_firstShown_0 : decode cX7_firstShown 0 = .ok (.aload_n 0, 1) := by decide +kernel
theorem dX7_firstShown_1 : decode cX7_firstShown 1 = .ok (.iload_n 3, 1) := by decide +kernel
theorem dX7_firstShown_2 : decode cX7_firstShown 2 = .ok (.invokevirtual 36, 3) := by decide +kernel
theorem dX7_firstShown_5 : decode cX7_firstShown 5 = .ok (.istore 4, 2) := by decide +kernel
theorem dX7_firstShown_7 : decode cX7_firstShown 7 = .ok (.aload_n 0, 1) := by decide +kernel
theorem dX7_firstShown_8 : decode cX7_firstShown 8 = .ok (.getfield 11, 3) := by decide +kernel
theorem dX7_firstShown_11 : decode cX7_firstShown 11 = .ok (.iload_n 2, 1) := by decide +kernel
theorem dX7_firstShown_12 : decode cX7_firstShown 12 = .ok (.aaload, 1) := by decide +kernel
theorem dX7_firstShown_13 : decode cX7_firstShown 13 = .ok (.iconst 0, 1) := by decide +kernel
theorem dX7_firstShown_14 : decode cX7_firstShown 14 = .ok (.iload_n 3, 1) := by decide +kernel
theorem dX7_firstShown_15 : decode cX7_firstShown 15 = .ok (.iload 4, 2) := by decide +kernel
theorem dX7_firstShown_17 : decode cX7_firstShown 17 = .ok (.invokevirtual 58, 3) := by decide +kernel
theorem dX7_firstShown_20 : decode cX7_firstShown 20 = .ok (.istore 5, 2) := by decide +kernel
theorem dX7_firstShown_22 : decode cX7_firstShown 22 = .ok (.aload_n 0, 1) := by decide +kernel
theorem dX7_firstShown_23 : decode cX7_firstShown 23 = .ok (.getfield 11, 3) := by decide +kernel
theorem dX7_firstShown_26 : decode cX7_firstShown 26 = .ok (.iload_n 2, 1) := by decide +kernel
theorem dX7_firstShown_27 : decode cX7_firstShown 27 = .ok (.aaload, 1) := by decide +kernel
theorem dX7_firstShown_28 : decode cX7_firstShown 28 = .ok (.iconst 0, 1) := by decide +kernel
theorem dX7_firstShown_29 : decode cX7_firstShown 29 = .ok (.iload_n 3, 1) := by decide +kernel
theorem dX7_firstShown_30 : decode cX7_firstShown 30 = .ok (.iload 4, 2) := by decide +kernel
theorem dX7_firstShown_32 : decode cX7_firstShown 32 = .ok (.invokevirtual 61, 3) := by decide +kernel
theorem dX7_firstShown_35 : decode cX7_firstShown 35 = .ok (.istore 6, 2) := by decide +kernel
theorem dX7_firstShown_37 : decode cX7_firstShown 37 = .ok (.iload 6, 2) := by decide +kernel
theorem dX7_firstShown_39 : decode cX7_firstShown 39 = .ok (.iload 5, 2) := by decide +kernel
theorem dX7_firstShown_41 : decode cX7_firstShown 41 = .ok (.if_icmp .gt 27, 3) := by decide +kernel
theorem dX7_firstShown_44 : decode cX7_firstShown 44 = .ok (.aload_n 0, 1) := by decide +kernel
theorem dX7_firstShown_45 : decode cX7_firstShown 45 = .ok (.iload_n 1, 1) := by decide +kernel
theorem dX7_firstShown_46 : decode cX7_firstShown 46 = .ok (.iload 6, 2) := by decide +kernel
theorem dX7_firstShown_48 : decode cX7_firstShown 48 = .ok (.iload_n 3, 1) := by decide +kernel
theorem dX7_firstShown_49 : decode cX7_firstShown 49 = .ok (.invokevirtual 64, 3) := by decide +kernel
theorem dX7_firstShown_52 : decode cX7_firstShown 52 = .ok (.iload_n 2, 1) := by decide +kernel
theorem dX7_firstShown_53 : decode cX7_firstShown 53 = .ok (.invokestatic 44, 3) := by decide +kernel
theorem dX7_firstShown_56 : decode cX7_firstShown 56 = .ok (.if_icmp .ne 6, 3) := by decide +kernel
theorem dX7_firstShown_59 : decode cX7_firstShown 59 = .ok (.iload 6, 2) := by decide +kernel
theorem dX7_firstShown_61 : decode cX7_firstShown 61 = .ok (.ireturn, 1) := by decide +kernel
theorem dX7_firstShown_62 : decode cX7_firstShown 62 = .ok (.iinc 6 1, 3) := by decide +kernel
theorem dX7_firstShown_65 : decode cX7_firstShown 65 = .ok (.goto (-28), 3) := by decide +kernel
theorem dX7_firstShown_68 : decode cX7_firstShown 68 = .ok (.ldc 47, 2) := by decide +kernel
theorem dX7_firstShown_70 : decode cX7_firstShown 70 = .ok (.ireturn, 1) := by decide +kernel
theorem dX7_joined_0 : decode cX7_joined 0 = .ok (.aload_n 0, 1) := by decide +kernel
theorem dX7_joined_1 : decode cX7_joined 1 = .ok (.iconst 0, 1) := by decide +kernel
theorem dX7_joined_2 : decode cX7_joined 2 = .ok (.iload_n 1, 1) := by decide +kernel
theorem dX7_joined_3 : decode cX7_joined 3 = .ok (.invokevirtual 67, 3) := by decide +kernel
theorem dX7_joined_6 : decode cX7_joined 6 = .ok (.aload_n 0, 1) := by decide +kernel
theorem dX7_joined_7 : decode cX7_joined 7 = .ok (.iconst 1, 1) := by decide +kernel
theorem dX7_joined_8 : decode cX7_joined 8 = .ok (.iload_n 1, 1) := by decide +kernel
theorem dX7_joined_9 : decode cX7_joined 9 = .ok (.invokevirtual 67, 3) := by decide +kernel
theorem dX7_joined_12 : decode cX7_joined 12 = .ok (.invokestatic 52, 3) := by decide +kernel
theorem dX7_joined_15 : decode cX7_joined 15 = .ok (.ireturn, 1) := by decide +kernel
theorem dX7_leaned_0 : decode cX7_leaned 0 = .ok (.aload_n 0, 1) := by decide +kernel
theorem dX7_leaned_1 : decode cX7_leaned 1 = .ok (.getfield 11, 3) := by decide +kernel
theorem dX7_leaned_4 : decode cX7_leaned 4 = .ok (.iload_n 1, 1) := by decide +kernel
theorem dX7_leaned_5 : decode cX7_leaned 5 = .ok (.aaload, 1) := by decide +kernel
theorem dX7_leaned_6 : decode cX7_leaned 6 = .ok (.aload_n 0, 1) := by decide +kernel
theorem dX7_leaned_7 : decode cX7_leaned 7 = .ok (.getfield 17, 3) := by decide +kernel
theorem dX7_leaned_10 : decode cX7_leaned 10 = .ok (.iconst 0, 1) := by decide +kernel
theorem dX7_leaned_11 : decode cX7_leaned 11 = .ok (.iaload, 1) := by decide +kernel
theorem dX7_leaned_12 : decode cX7_leaned 12 = .ok (.invokevirtual 70, 3) := by decide +kernel
theorem dX7_leaned_15 : decode cX7_leaned 15 = .ok (.ireturn, 1) := by decide +kernel
theorem dX7_isHidden_0 : decode cX7_isHidden 0 = .ok (.aload_n 0, 1) := by decide +kernel
theorem dX7_isHidden_1 : decode cX7_isHidden 1 = .ok (.getfield 11, 3) := by decide +kernel
theorem dX7_isHidden_4 : decode cX7_isHidden 4 = .ok (.iload_n 1, 1) := by decide +kernel
theorem dX7_isHidden_5 : decode cX7_isHidden 5 = .ok (.aaload, 1) := by decide +kernel
theorem dX7_isHidden_6 : decode cX7_isHidden 6 = .ok (.invokevirtual 73, 3) := by decide +kernel
theorem dX7_isHidden_9 : decode cX7_isHidden 9 = .ok (.ifCond .eq 20, 3) := by decide +kernel
theorem dX7_isHidden_12 : decode cX7_isHidden 12 = .ok (.aload_n 0, 1) := by decide +kernel
theorem dX7_isHidden_13 : decode cX7_isHidden 13 = .ok (.iload_n 1, 1) := by decide +kernel
theorem dX7_isHidden_14 : decode cX7_isHidden 14 = .ok (.invokevirtual 77, 3) := by decide +kernel
theorem dX7_isHidden_17 : decode cX7_isHidden 17 = .ok (.aload_n 0, 1) := by decide +kernel
theorem dX7_isHidden_18 : decode cX7_isHidden 18 = .ok (.iload_n 1, 1) := by decide +kernel
theorem dX7_isHidden_19 : decode cX7_isHidden 19 = .ok (.invokevirtual 80, 3) := by decide +kernel
theorem dX7_isHidden_22 : decode cX7_isHidden 22 = .ok (.if_icmp .le 7, 3) := by decide +kernel
theorem dX7_isHidden_25 : decode cX7_isHidden 25 = .ok (.iconst 1, 1) := by decide +kernel
theorem dX7_isHidden_26 : decode cX7_isHidden 26 = .ok (.goto 4, 3) := by decide +kernel
theorem dX7_isHidden_29 : decode cX7_isHidden 29 = .ok (.iconst 0, 1) := by decide +kernel
theorem dX7_isHidden_30 : decode cX7_isHidden 30 = .ok (.ireturn, 1) := by decide +kernel
theorem dX7_hears_0 : decode cX7_hears 0 = .ok (.aload_n 0, 1) := by decide +kernel
theorem dX7_hears_1 : decode cX7_hears 1 = .ok (.getfield 17, 3) := by decide +kernel
theorem dX7_hears_4 : decode cX7_hears 4 = .ok (.iconst 3, 1) := by decide +kernel
theorem dX7_hears_5 : decode cX7_hears 5 = .ok (.iaload, 1) := by decide +kernel
theorem dX7_hears_6 : decode cX7_hears 6 = .ok (.iconst 1, 1) := by decide +kernel
theorem dX7_hears_7 : decode cX7_hears 7 = .ok (.if_icmp .ne 18, 3) := by decide +kernel
theorem dX7_hears_10 : decode cX7_hears 10 = .ok (.iload_n 1, 1) := by decide +kernel
theorem dX7_hears_11 : decode cX7_hears 11 = .ok (.aload_n 0, 1) := by decide +kernel
theorem dX7_hears_12 : decode cX7_hears 12 = .ok (.getfield 22, 3) := by decide +kernel
theorem dX7_hears_15 : decode cX7_hears 15 = .ok (.iconst 1, 1) := by decide +kernel
theorem dX7_hears_16 : decode cX7_hears 16 = .ok (.isub, 1) := by decide +kernel
theorem dX7_hears_17 : decode cX7_hears 17 = .ok (.iload_n 1, 1) := by decide +kernel
theorem dX7_hears_18 : decode cX7_hears 18 = .ok (.isub, 1) := by decide +kernel
theorem dX7_hears_19 : decode cX7_hears 19 = .ok (.invokestatic 52, 3) := by decide +kernel
theorem dX7_hears_22 : decode cX7_hears 22 = .ok (.goto 4, 3) := by decide +kernel
theorem dX7_hears_25 : decode cX7_hears 25 = .ok (.iload_n 1, 1) := by decide +kernel
theorem dX7_hears_26 : decode cX7_hears 26 = .ok (.istore_n 2, 1) := by decide +kernel
theorem dX7_hears_27 : decode cX7_hears 27 = .ok (.iconst 3, 1) := by decide +kernel
theorem dX7_hears_28 : decode cX7_hears 28 = .ok (.iload_n 2, 1) := by decide +kernel
theorem dX7_hears_29 : decode cX7_hears 29 = .ok (.imul, 1) := by decide +kernel
theorem dX7_hears_30 : decode cX7_hears 30 = .ok (.ireturn, 1) := by decide +kernel
theorem dX7_early_0 : decode cX7_early 0 = .ok (.aload_n 0, 1) := by decide +kernel
theorem dX7_early_1 : decode cX7_early 1 = .ok (.getfield 11, 3) := by decide +kernel
theorem dX7_early_4 : decode cX7_early 4 = .ok (.iload_n 1, 1) := by decide +kernel
theorem dX7_early_5 : decode cX7_early 5 = .ok (.aaload, 1) := by decide +kernel
theorem dX7_early_6 : decode cX7_early 6 = .ok (.getfield 83, 3) := by decide +kernel
theorem dX7_early_9 : decode cX7_early 9 = .ok (.istore_n 2, 1) := by decide +kernel
theorem dX7_early_10 : decode cX7_early 10 = .ok (.iload_n 2, 1) := by decide +kernel
theorem dX7_early_11 : decode cX7_early 11 = .ok (.bipush (-6), 2) := by decide +kernel
theorem dX7_early_13 : decode cX7_early 13 = .ok (.if_icmp .ne 6, 3) := by decide +kernel
theorem dX7_early_16 : decode cX7_early 16 = .ok (.bipush (-6), 2) := by decide +kernel
theorem dX7_early_18 : decode cX7_early 18 = .ok (.ireturn, 1) := by decide +kernel
theorem dX7_early_19 : decode cX7_early 19 = .ok (.iload_n 2, 1) := by decide +kernel
theorem dX7_early_20 : decode cX7_early 20 = .ok (.aload_n 0, 1) := by decide +kernel
theorem dX7_early_21 : decode cX7_early 21 = .ok (.iload_n 1, 1) := by decide +kernel
theorem dX7_early_22 : decode cX7_early 22 = .ok (.invokevirtual 86, 3) := by decide +kernel
theorem dX7_early_25 : decode cX7_early 25 = .ok (.aload_n 0, 1) := by decide +kernel
theorem dX7_early_26 : decode cX7_early 26 = .ok (.getfield 17, 3) := by decide +kernel
theorem dX7_early_29 : decode cX7_early 29 = .ok (.iconst 2, 1) := by decide +kernel
theorem dX7_early_30 : decode cX7_early 30 = .ok (.iaload, 1) := by decide +kernel
theorem dX7_early_31 : decode cX7_early 31 = .ok (.iadd, 1) := by decide +kernel
theorem dX7_early_32 : decode cX7_early 32 = .ok (.if_icmp .ge 7, 3) := by decide +kernel
theorem dX7_early_35 : decode cX7_early 35 = .ok (.iconst 1, 1) := by decide +kernel
theorem dX7_early_36 : decode cX7_early 36 = .ok (.goto 4, 3) := by decide +kernel
theorem dX7_early_39 : decode cX7_early 39 = .ok (.iconst 0, 1) := by decide +kernel
theorem dX7_early_40 : decode cX7_early 40 = .ok (.ireturn, 1) := by decide +kernel
theorem dX7_areMoved_0 : decode cX7_areMoved 0 = .ok (.aload_n 0, 1) := by decide +kernel
theorem dX7_areMoved_1 : decode cX7_areMoved 1 = .ok (.getfield 11, 3) := by decide +kernel
theorem dX7_areMoved_4 : decode cX7_areMoved 4 = .ok (.iload_n 1, 1) := by decide +kernel
theorem dX7_areMoved_5 : decode cX7_areMoved 5 = .ok (.aaload, 1) := by decide +kernel
theorem dX7_areMoved_6 : decode cX7_areMoved 6 = .ok (.astore_n 3, 1) := by decide +kernel
theorem dX7_areMoved_7 : decode cX7_areMoved 7 = .ok (.aload_n 0, 1) := by decide +kernel
theorem dX7_areMoved_8 : decode cX7_areMoved 8 = .ok (.getfield 11, 3) := by decide +kernel
theorem dX7_areMoved_11 : decode cX7_areMoved 11 = .ok (.iload_n 2, 1) := by decide +kernel
theorem dX7_areMoved_12 : decode cX7_areMoved 12 = .ok (.aaload, 1) := by decide +kernel
theorem dX7_areMoved_13 : decode cX7_areMoved 13 = .ok (.astore 4, 2) := by decide +kernel
theorem dX7_areMoved_15 : decode cX7_areMoved 15 = .ok (.aload_n 3, 1) := by decide +kernel
theorem dX7_areMoved_16 : decode cX7_areMoved 16 = .ok (.invokevirtual 73, 3) := by decide +kernel
theorem dX7_areMoved_19 : decode cX7_areMoved 19 = .ok (.ifCond .eq 11, 3) := by decide +kernel
theorem dX7_areMoved_22 : decode cX7_areMoved 22 = .ok (.aload 4, 2) := by decide +kernel
theorem dX7_areMoved_24 : decode cX7_areMoved 24 = .ok (.invokevirtual 73, 3) := by decide +kernel
theorem dX7_areMoved_27 : decode cX7_areMoved 27 = .ok (.ifCond .ne 5, 3) := by decide +kernel
theorem dX7_areMoved_30 : decode cX7_areMoved 30 = .ok (.iconst 0, 1) := by decide +kernel
theorem dX7_areMoved_31 : decode cX7_areMoved 31 = .ok (.ireturn, 1) := by decide +kernel
theorem dX7_areMoved_32 : decode cX7_areMoved 32 = .ok (.aload_n 3, 1) := by decide +kernel
theorem dX7_areMoved_33 : decode cX7_areMoved 33 = .ok (.iconst 0, 1) := by decide +kernel
theorem dX7_areMoved_34 : decode cX7_areMoved 34 = .ok (.invokevirtual 70, 3) := by decide +kernel
theorem dX7_areMoved_37 : decode cX7_areMoved 37 = .ok (.aload 4, 2) := by decide +kernel
theorem dX7_areMoved_39 : decode cX7_areMoved 39 = .ok (.iconst 0, 1) := by decide +kernel
theorem dX7_areMoved_40 : decode cX7_areMoved 40 = .ok (.invokevirtual 70, 3) := by decide +kernel
theorem dX7_areMoved_43 : decode cX7_areMoved 43 = .ok (.invokestatic 89, 3) := by decide +kernel
theorem dX7_areMoved_46 : decode cX7_areMoved 46 = .ok (.istore 5, 2) := by decide +kernel
theorem dX7_areMoved_48 : decode cX7_areMoved 48 = .ok (.iload 5, 2) := by decide +kernel
theorem dX7_areMoved_50 : decode cX7_areMoved 50 = .ok (.aload_n 0, 1) := by decide +kernel
theorem dX7_areMoved_51 : decode cX7_areMoved 51 = .ok (.iload_n 1, 1) := by decide +kernel
theorem dX7_areMoved_52 : decode cX7_areMoved 52 = .ok (.invokevirtual 80, 3) := by decide +kernel
theorem dX7_areMoved_55 : decode cX7_areMoved 55 = .ok (.aload_n 0, 1) := by decide +kernel
theorem dX7_areMoved_56 : decode cX7_areMoved 56 = .ok (.iload_n 2, 1) := by decide +kernel
theorem dX7_areMoved_57 : decode cX7_areMoved 57 = .ok (.invokevirtual 80, 3) := by decide +kernel
theorem dX7_areMoved_60 : decode cX7_areMoved 60 = .ok (.invokestatic 89, 3) := by decide +kernel
theorem dX7_areMoved_63 : decode cX7_areMoved 63 = .ok (.if_icmp .eq 7, 3) := by decide +kernel
theorem dX7_areMoved_66 : decode cX7_areMoved 66 = .ok (.iconst 1, 1) := by decide +kernel
theorem dX7_areMoved_67 : decode cX7_areMoved 67 = .ok (.goto 4, 3) := by decide +kernel
theorem dX7_areMoved_70 : decode cX7_areMoved 70 = .ok (.iconst 0, 1) := by decide +kernel
theorem dX7_areMoved_71 : decode cX7_areMoved 71 = .ok (.ireturn, 1) := by decide +kernel
theorem dX7_countTorsos_0 : decode cX7_countTorsos 0 = .ok (.iconst 0, 1) := by decide +kernel
theorem dX7_countTorsos_1 : decode cX7_countTorsos 1 = .ok (.istore_n 1, 1) := by decide +kernel
theorem dX7_countTorsos_2 : decode cX7_countTorsos 2 = .ok (.iconst 0, 1) := by decide +kernel
theorem dX7_countTorsos_3 : decode cX7_countTorsos 3 = .ok (.istore_n 2, 1) := by decide +kernel
theorem dX7_countTorsos_4 : decode cX7_countTorsos 4 = .ok (.iload_n 2, 1) := by decide +kernel
theorem dX7_countTorsos_5 : decode cX7_countTorsos 5 = .ok (.aload_n 0, 1) := by decide +kernel
theorem dX7_countTorsos_6 : decode cX7_countTorsos 6 = .ok (.getfield 22, 3) := by decide +kernel
theorem dX7_countTorsos_9 : decode cX7_countTorsos 9 = .ok (.if_icmp .ge 24, 3) := by decide +kernel
theorem dX7_countTorsos_12 : decode cX7_countTorsos 12 = .ok (.aload_n 0, 1) := by decide +kernel
theorem dX7_countTorsos_13 : decode cX7_countTorsos 13 = .ok (.getfield 11, 3) := by decide +kernel
theorem dX7_countTorsos_16 : decode cX7_countTorsos 16 = .ok (.iload_n 2, 1) := by decide +kernel
theorem dX7_countTorsos_17 : decode cX7_countTorsos 17 = .ok (.aaload, 1) := by decide +kernel
theorem dX7_countTorsos_18 : decode cX7_countTorsos 18 = .ok (.invokevirtual 73, 3) := by decide +kernel
theorem dX7_countTorsos_21 : decode cX7_countTorsos 21 = .ok (.ifCond .eq 6, 3) := by decide +kernel
theorem dX7_countTorsos_24 : decode cX7_countTorsos 24 = .ok (.iinc 1 1, 3) := by decide +kernel
theorem dX7_countTorsos_27 : decode cX7_countTorsos 27 = .ok (.iinc 2 1, 3) := by decide +kernel
theorem dX7_countTorsos_30 : decode cX7_countTorsos 30 = .ok (.goto (-26), 3) := by decide +kernel
theorem dX7_countTorsos_33 : decode cX7_countTorsos 33 = .ok (.iload_n 1, 1) := by decide +kernel
theorem dX7_countTorsos_34 : decode cX7_countTorsos 34 = .ok (.ireturn, 1) := by decide +kernel
theorem dJ6_compare_7cf53_0 : decode cJ6_compare_7cf53 0 = .ok (.iload_n 0, 1) := by decide +kernel
theorem dJ6_compare_7cf53_1 : decode cJ6_compare_7cf53 1 = .ok (.iload_n 1, 1) := by decide +kernel
theorem dJ6_compare_7cf53_2 : decode cJ6_compare_7cf53 2 = .ok (.if_icmp .ge 7, 3) := by decide +kernel
theorem dJ6_compare_7cf53_5 : decode cJ6_compare_7cf53 5 = .ok (.iconst (-1), 1) := by decide +kernel
theorem dJ6_compare_7cf53_6 : decode cJ6_compare_7cf53 6 = .ok (.goto 13, 3) := by decide +kernel
theorem dJ6_compare_7cf53_9 : decode cJ6_compare_7cf53 9 = .ok (.iload_n 0, 1) := by decide +kernel
theorem dJ6_compare_7cf53_10 : decode cJ6_compare_7cf53 10 = .ok (.iload_n 1, 1) := by decide +kernel
theorem dJ6_compare_7cf53_11 : decode cJ6_compare_7cf53 11 = .ok (.if_icmp .ne 7, 3) := by decide +kernel
theorem dJ6_compare_7cf53_14 : decode cJ6_compare_7cf53 14 = .ok (.iconst 0, 1) := by decide +kernel
theorem dJ6_compare_7cf53_15 : decode cJ6_compare_7cf53 15 = .ok (.goto 4, 3) := by decide +kernel
theorem dJ6_compare_7cf53_18 : decode cJ6_compare_7cf53 18 = .ok (.iconst 1, 1) := by decide +kernel
theorem dJ6_compare_7cf53_19 : decode cJ6_compare_7cf53 19 = .ok (.ireturn, 1) := by decide +kernel
theorem dJ6_bitCount_0f7a4_0 : decode cJ6_bitCount_0f7a4 0 = .ok (.iload_n 0, 1) := by decide +kernel
theorem dJ6_bitCount_0f7a4_1 : decode cJ6_bitCount_0f7a4 1 = .ok (.iload_n 0, 1) := by decide +kernel
theorem dJ6_bitCount_0f7a4_2 : decode cJ6_bitCount_0f7a4 2 = .ok (.iconst 1, 1) := by decide +kernel
theorem dJ6_bitCount_0f7a4_3 : decode cJ6_bitCount_0f7a4 3 = .ok (.iushr, 1) := by decide +kernel
theorem dJ6_bitCount_0f7a4_4 : decode cJ6_bitCount_0f7a4 4 = .ok (.ldc_w 265, 3) := by decide +kernel
theorem dJ6_bitCount_0f7a4_7 : decode cJ6_bitCount_0f7a4 7 = .ok (.iand, 1) := by decide +kernel
theorem dJ6_bitCount_0f7a4_8 : decode cJ6_bitCount_0f7a4 8 = .ok (.isub, 1) := by decide +kernel
theorem dJ6_bitCount_0f7a4_9 : decode cJ6_bitCount_0f7a4 9 = .ok (.istore_n 0, 1) := by decide +kernel
theorem dJ6_bitCount_0f7a4_10 : decode cJ6_bitCount_0f7a4 10 = .ok (.iload_n 0, 1) := by decide +kernel
theorem dJ6_bitCount_0f7a4_11 : decode cJ6_bitCount_0f7a4 11 = .ok (.ldc_w 266, 3) := by decide +kernel
theorem dJ6_bitCount_0f7a4_14 : decode cJ6_bitCount_0f7a4 14 = .ok (.iand, 1) := by decide +kernel
theorem dJ6_bitCount_0f7a4_15 : decode cJ6_bitCount_0f7a4 15 = .ok (.iload_n 0, 1) := by decide +kernel
theorem dJ6_bitCount_0f7a4_16 : decode cJ6_bitCount_0f7a4 16 = .ok (.iconst 2, 1) := by decide +kernel
theorem dJ6_bitCount_0f7a4_17 : decode cJ6_bitCount_0f7a4 17 = .ok (.iushr, 1) := by decide +kernel
theorem dJ6_bitCount_0f7a4_18 : decode cJ6_bitCount_0f7a4 18 = .ok (.ldc_w 266, 3) := by decide +kernel
theorem dJ6_bitCount_0f7a4_21 : decode cJ6_bitCount_0f7a4 21 = .ok (.iand, 1) := by decide +kernel
theorem dJ6_bitCount_0f7a4_22 : decode cJ6_bitCount_0f7a4 22 = .ok (.iadd, 1) := by decide +kernel
theorem dJ6_bitCount_0f7a4_23 : decode cJ6_bitCount_0f7a4 23 = .ok (.istore_n 0, 1) := by decide +kernel
theorem dJ6_bitCount_0f7a4_24 : decode cJ6_bitCount_0f7a4 24 = .ok (.iload_n 0, 1) := by decide +kernel
theorem dJ6_bitCount_0f7a4_25 : decode cJ6_bitCount_0f7a4 25 = .ok (.iload_n 0, 1) := by decide +kernel
theorem dJ6_bitCount_0f7a4_26 : decode cJ6_bitCount_0f7a4 26 = .ok (.iconst 4, 1) := by decide +kernel
theorem dJ6_bitCount_0f7a4_27 : decode cJ6_bitCount_0f7a4 27 = .ok (.iushr, 1) := by decide +kernel
theorem dJ6_bitCount_0f7a4_28 : decode cJ6_bitCount_0f7a4 28 = .ok (.iadd, 1) := by decide +kernel
theorem dJ6_bitCount_0f7a4_29 : decode cJ6_bitCount_0f7a4 29 = .ok (.ldc_w 267, 3) := by decide +kernel
theorem dJ6_bitCount_0f7a4_32 : decode cJ6_bitCount_0f7a4 32 = .ok (.iand, 1) := by decide +kernel
theorem dJ6_bitCount_0f7a4_33 : decode cJ6_bitCount_0f7a4 33 = .ok (.istore_n 0, 1) := by decide +kernel
theorem dJ6_bitCount_0f7a4_34 : decode cJ6_bitCount_0f7a4 34 = .ok (.iload_n 0, 1) := by decide +kernel
theorem dJ6_bitCount_0f7a4_35 : decode cJ6_bitCount_0f7a4 35 = .ok (.iload_n 0, 1) := by decide +kernel
theorem dJ6_bitCount_0f7a4_36 : decode cJ6_bitCount_0f7a4 36 = .ok (.bipush 8, 2) := by decide +kernel
theorem dJ6_bitCount_0f7a4_38 : decode cJ6_bitCount_0f7a4 38 = .ok (.iushr, 1) := by decide +kernel
theorem dJ6_bitCount_0f7a4_39 : decode cJ6_bitCount_0f7a4 39 = .ok (.iadd, 1) := by decide +kernel
theorem dJ6_bitCount_0f7a4_40 : decode cJ6_bitCount_0f7a4 40 = .ok (.istore_n 0, 1) := by decide +kernel
theorem dJ6_bitCount_0f7a4_41 : decode cJ6_bitCount_0f7a4 41 = .ok (.iload_n 0, 1) := by decide +kernel
theorem dJ6_bitCount_0f7a4_42 : decode cJ6_bitCount_0f7a4 42 = .ok (.iload_n 0, 1) := by decide +kernel
theorem dJ6_bitCount_0f7a4_43 : decode cJ6_bitCount_0f7a4 43 = .ok (.bipush 16, 2) := by decide +kernel
theorem dJ6_bitCount_0f7a4_45 : decode cJ6_bitCount_0f7a4 45 = .ok (.iushr, 1) := by decide +kernel
theorem dJ6_bitCount_0f7a4_46 : decode cJ6_bitCount_0f7a4 46 = .ok (.iadd, 1) := by decide +kernel
theorem dJ6_bitCount_0f7a4_47 : decode cJ6_bitCount_0f7a4 47 = .ok (.istore_n 0, 1) := by decide +kernel
theorem dJ6_bitCount_0f7a4_48 : decode cJ6_bitCount_0f7a4 48 = .ok (.iload_n 0, 1) := by decide +kernel
theorem dJ6_bitCount_0f7a4_49 : decode cJ6_bitCount_0f7a4 49 = .ok (.bipush 63, 2) := by decide +kernel
theorem dJ6_bitCount_0f7a4_51 : decode cJ6_bitCount_0f7a4 51 = .ok (.iand, 1) := by decide +kernel
theorem dJ6_bitCount_0f7a4_52 : decode cJ6_bitCount_0f7a4 52 = .ok (.ireturn, 1) := by decide +kernel
theorem dJ9_floorDiv_7cf53_0 : decode cJ9_floorDiv_7cf53 0 = .ok (.iload_n 0, 1) := by decide +kernel
theorem dJ9_floorDiv_7cf53_1 : decode cJ9_floorDiv_7cf53 1 = .ok (.iload_n 1, 1) := by decide +kernel
theorem dJ9_floorDiv_7cf53_2 : decode cJ9_floorDiv_7cf53 2 = .ok (.idiv, 1) := by decide +kernel
theorem dJ9_floorDiv_7cf53_3 : decode cJ9_floorDiv_7cf53 3 = .ok (.istore_n 2, 1) := by decide +kernel
theorem dJ9_floorDiv_7cf53_4 : decode cJ9_floorDiv_7cf53 4 = .ok (.iload_n 0, 1) := by decide +kernel
theorem dJ9_floorDiv_7cf53_5 : decode cJ9_floorDiv_7cf53 5 = .ok (.iload_n 1, 1) := by decide +kernel
theorem dJ9_floorDiv_7cf53_6 : decode cJ9_floorDiv_7cf53 6 = .ok (.ixor, 1) := by decide +kernel
theorem dJ9_floorDiv_7cf53_7 : decode cJ9_floorDiv_7cf53 7 = .ok (.ifCond .ge 14, 3) := by decide +kernel
theorem dJ9_floorDiv_7cf53_10 : decode cJ9_floorDiv_7cf53 10 = .ok (.iload_n 2, 1) := by decide +kernel
theorem dJ9_floorDiv_7cf53_11 : decode cJ9_floorDiv_7cf53 11 = .ok (.iload_n 1, 1) := by decide +kernel
theorem dJ9_floorDiv_7cf53_12 : decode cJ9_floorDiv_7cf53 12 = .ok (.imul, 1) := by decide +kernel
theorem dJ9_floorDiv_7cf53_13 : decode cJ9_floorDiv_7cf53 13 = .ok (.iload_n 0, 1) := by decide +kernel
theorem dJ9_floorDiv_7cf53_14 : decode cJ9_floorDiv_7cf53 14 = .ok (.if_icmp .eq 7, 3) := by decide +kernel
theorem dJ9_floorDiv_7cf53_17 : decode cJ9_floorDiv_7cf53 17 = .ok (.iload_n 2, 1) := by decide +kernel
theorem dJ9_floorDiv_7cf53_18 : decode cJ9_floorDiv_7cf53 18 = .ok (.iconst 1, 1) := by decide +kernel
theorem dJ9_floorDiv_7cf53_19 : decode cJ9_floorDiv_7cf53 19 = .ok (.isub, 1) := by decide +kernel
theorem dJ9_floorDiv_7cf53_20 : decode cJ9_floorDiv_7cf53 20 = .ok (.ireturn, 1) := by decide +kernel
theorem dJ9_floorDiv_7cf53_21 : decode cJ9_floorDiv_7cf53 21 = .ok (.iload_n 2, 1) := by decide +kernel
theorem dJ9_floorDiv_7cf53_22 : decode cJ9_floorDiv_7cf53 22 = .ok (.ireturn, 1) := by decide +kernel
theorem dJ9_max_7cf53_0 : decode cJ9_max_7cf53 0 = .ok (.iload_n 0, 1) := by decide +kernel
theorem dJ9_max_7cf53_1 : decode cJ9_max_7cf53 1 = .ok (.iload_n 1, 1) := by decide +kernel
theorem dJ9_max_7cf53_2 : decode cJ9_max_7cf53 2 = .ok (.if_icmp .lt 7, 3) := by decide +kernel
theorem dJ9_max_7cf53_5 : decode cJ9_max_7cf53 5 = .ok (.iload_n 0, 1) := by decide +kernel
theorem dJ9_max_7cf53_6 : decode cJ9_max_7cf53 6 = .ok (.goto 4, 3) := by decide +kernel
theorem dJ9_max_7cf53_9 : decode cJ9_max_7cf53 9 = .ok (.iload_n 1, 1) := by decide +kernel
theorem dJ9_max_7cf53_10 : decode cJ9_max_7cf53 10 = .ok (.ireturn, 1) := by decide +kernel
theorem dJ9_min_7cf53_0 : decode cJ9_min_7cf53 0 = .ok (.iload_n 0, 1) := by decide +kernel
theorem dJ9_min_7cf53_1 : decode cJ9_min_7cf53 1 = .ok (.iload_n 1, 1) := by decide +kernel
theorem dJ9_min_7cf53_2 : decode cJ9_min_7cf53 2 = .ok (.if_icmp .gt 7, 3) := by decide +kernel
theorem dJ9_min_7cf53_5 : decode cJ9_min_7cf53 5 = .ok (.iload_n 0, 1) := by decide +kernel
theorem dJ9_min_7cf53_6 : decode cJ9_min_7cf53 6 = .ok (.goto 4, 3) := by decide +kernel
theorem dJ9_min_7cf53_9 : decode cJ9_min_7cf53 9 = .ok (.iload_n 1, 1) := by decide +kernel
theorem dJ9_min_7cf53_10 : decode cJ9_min_7cf53 10 = .ok (.ireturn, 1) := by decide +kernel
