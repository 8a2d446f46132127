theorem dX1_init_0 : decode cX1_init 0 = .ok (.aload_n 0, 1) := by decide +kernel
theorem dX1_init_1 : decode cX1_init 1 = .ok (.invokespecial 1, 3) := by decide +kernel
theorem dX1_init_4 : decode cX1_init 4 = .ok (.aload_n 0, 1) := by decide +kernel
theorem dX1_init_5 : decode cX1_init 5 = .ok (.sipush 512, 3) := by decide +kernel
theorem dX1_init_8 : decode cX1_init 8 = .ok (.newarray .int, 2) := by decide +kernel
theorem dX1_init_10 : decode cX1_init 10 = .ok (.putfield 7, 3) := by decide +kernel
theorem dX1_init_13 : decode cX1_init 13 = .ok (.aload_n 0, 1) := by decide +kernel
theorem dX1_init_14 : decode cX1_init 14 = .ok (.sipush 258, 3) := by decide +kernel
theorem dX1_init_17 : decode cX1_init 17 = .ok (.newarray .int, 2) := by decide +kernel
theorem dX1_init_19 : decode cX1_init 19 = .ok (.putfield 13, 3) := by decide +kernel
theorem dX1_init_22 : decode cX1_init 22 = .ok (.aload_n 0, 1) := by decide +kernel
theorem dX1_init_23 : decode cX1_init 23 = .ok (.sipush 258, 3) := by decide +kernel
theorem dX1_init_26 : decode cX1_init 26 = .ok (.newarray .int, 2) := by decide +kernel
theorem dX1_init_28 : decode cX1_init 28 = .ok (.putfield 16, 3) := by decide +kernel
theorem dX1_init_31 : decode cX1_init 31 = .ok (.aload_n 0, 1) := by decide +kernel
theorem dX1_init_32 : decode cX1_init 32 = .ok (.sipush 258, 3) := by decide +kernel
theorem dX1_init_35 : decode cX1_init 35 = .ok (.newarray .boolean, 2) := by decide +kernel
theorem dX1_init_37 : decode cX1_init 37 = .ok (.putfield 19, 3) := by decide +kernel
theorem dX1_init_40 : decode cX1_init 40 = .ok (.aload_n 0, 1) := by decide +kernel
theorem dX1_init_41 : decode cX1_init 41 = .ok (.sipush 258, 3) := by decide +kernel
theorem dX1_init_44 : decode cX1_init 44 = .ok (.newarray .int, 2) := by decide +kernel
theorem dX1_init_46 : decode cX1_init 46 = .ok (.putfield 23, 3) := by decide +kernel
theorem dX1_init_49 : decode cX1_init 49 = .ok (.aload_n 0, 1) := by decide +kernel
theorem dX1_init_50 : decode cX1_init 50 = .ok (.iconst (-1), 1) := by decide +kernel
theorem dX1_init_51 : decode cX1_init 51 = .ok (.putfield 26, 3) := by decide +kernel
theorem dX1_init_54 : decode cX1_init 54 = .ok (.aload_n 0, 1) := by decide +kernel
theorem dX1_init_55 : decode cX1_init 55 = .ok (.iload_n 1, 1) := by decide +kernel
theorem dX1_init_56 : decode cX1_init 56 = .ok (.bipush 16, 2) := by decide +kernel
theorem dX1_init_58 : decode cX1_init 58 = .ok (.if_icmp .ge 8, 3) := by decide +kernel
theorem dX1_init_61 : decode cX1_init 61 = .ok (.bipush 16, 2) := by decide +kernel
theorem dX1_init_63 : decode cX1_init 63 = .ok (.goto 17, 3) := by decide +kernel
theorem dX1_init_66 : decode cX1_init 66 = .ok (.iload_n 1, 1) := by decide +kernel
theorem dX1_init_67 : decode cX1_init 67 = .ok (.sipush 512, 3) := by decide +kernel
theorem dX1_init_70 : decode cX1_init 70 = .ok (.if_icmp .le 9, 3) := by decide +kernel
theorem dX1_init_73 : decode cX1_init 73 = .ok (.sipush 512, 3) := by decide +kernel
theorem dX1_init_76 : decode cX1_init 76 = .ok (.goto 4, 3) := by decide +kernel
theorem dX1_init_79 : decode cX1_init 79 = .ok (.iload_n 1, 1) := by decide +kernel
theorem dX1_init_80 : decode cX1_init 80 = .ok (.putfield 30, 3) := by decide +kernel
theorem dX1_init_83 : decode cX1_init 83 = .ok (.return_, 1) := by decide +kernel
theorem dX1_at_0 : decode cX1_at 0 = .ok (.iconst 0, 1) := by decide +kernel
theorem dX1_at_1 : decode cX1_at 1 = .ok (.istore_n 2, 1) := by decide +kernel
theorem dX1_at_2 : decode cX1_at 2 = .ok (.iload_n 2, 1) := by decide +kernel
theorem dX1_at_3 : decode cX1_at 3 = .ok (.aload_n 0, 1) := by decide +kernel
theorem dX1_at_4 : decode cX1_at 4 = .ok (.getfield 33, 3) := by decide +kernel
theorem dX1_at_7 : decode cX1_at 7 = .ok (.if_icmp .ge 21, 3) := by decide +kernel
theorem dX1_at_10 : decode cX1_at 10 = .ok (.aload_n 0, 1) := by decide +kernel
theorem dX1_at_11 : decode cX1_at 11 = .ok (.getfield 13, 3) := by decide +kernel
theorem dX1_at_14 : decode cX1_at 14 = .ok (.iload_n 2, 1) := by decide +kernel
theorem dX1_at_15 : decode cX1_at 15 = .ok (.iaload, 1) := by decide +kernel
theorem dX1_at_16 : decode cX1_at 16 = .ok (.iload_n 1, 1) := by decide +kernel
theorem dX1_at_17 : decode cX1_at 17 = .ok (.if_icmp .ne 5, 3) := by decide +kernel
theorem dX1_at_20 : decode cX1_at 20 = .ok (.iload_n 2, 1) := by decide +kernel
theorem dX1_at_21 : decode cX1_at 21 = .ok (.ireturn, 1) := by decide +kernel
theorem dX1_at_22 : decode cX1_at 22 = .ok (.iinc 2 1, 3) := by decide +kernel
theorem dX1_at_25 : decode cX1_at 25 = .ok (.goto (-23), 3) := by decide +kernel
theorem dX1_at_28 : decode cX1_at 28 = .ok (.iconst (-1), 1) := by decide +kernel
theorem dX1_at_29 : decode cX1_at 29 = .ok (.ireturn, 1) := by decide +kernel
theorem dX1_holder_0 : decode cX1_holder 0 = .ok (.iload_n 1, 1) := by decide +kernel
theorem dX1_holder_1 : decode cX1_holder 1 = .ok (.iconst 1, 1) := by decide +kernel
theorem dX1_holder_2 : decode cX1_holder 2 = .ok (.if_icmp .ge 7, 3) := by decide +kernel
theorem dX1_holder_5 : decode cX1_holder 5 = .ok (.iconst (-1), 1) := by decide +kernel
theorem dX1_holder_6 : decode cX1_holder 6 = .ok (.goto 10, 3) := by decide +kernel
theorem dX1_holder_9 : decode cX1_holder 9 = .ok (.aload_n 0, 1) := by decide +kernel
theorem dX1_holder_10 : decode cX1_holder 10 = .ok (.iload_n 1, 1) := by decide +kernel
theorem dX1_holder_11 : decode cX1_holder 11 = .ok (.iconst 1, 1) := by decide +kernel
theorem dX1_holder_12 : decode cX1_holder 12 = .ok (.isub, 1) := by decide +kernel
theorem dX1_holder_13 : decode cX1_holder 13 = .ok (.invokevirtual 36, 3) := by decide +kernel
theorem dX1_holder_16 : decode cX1_holder 16 = .ok (.istore_n 2, 1) := by decide +kernel
theorem dX1_holder_17 : decode cX1_holder 17 = .ok (.iload_n 2, 1) := by decide +kernel
theorem dX1_holder_18 : decode cX1_holder 18 = .ok (.ifCond .lt 16, 3) := by decide +kernel
theorem dX1_holder_21 : decode cX1_holder 21 = .ok (.aload_n 0, 1) := by decide +kernel
theorem dX1_holder_22 : decode cX1_holder 22 = .ok (.getfield 19, 3) := by decide +kernel
theorem dX1_holder_25 : decode cX1_holder 25 = .ok (.iload_n 2, 1) := by decide +kernel
theorem dX1_holder_26 : decode cX1_holder 26 = .ok (.baload, 1) := by decide +kernel
theorem dX1_holder_27 : decode cX1_holder 27 = .ok (.ifCond .eq 7, 3) := by decide +kernel
theorem dX1_holder_30 : decode cX1_holder 30 = .ok (.iload_n 2, 1) := by decide +kernel
theorem dX1_holder_31 : decode cX1_holder 31 = .ok (.goto 4, 3) := by decide +kernel
theorem dX1_holder_34 : decode cX1_holder 34 = .ok (.iconst (-1), 1) := by decide +kernel
theorem dX1_holder_35 : decode cX1_holder 35 = .ok (.ireturn, 1) := by decide +kernel
theorem dX1_stateOf_0 : decode cX1_stateOf 0 = .ok (.aload_n 0, 1) := by decide +kernel
theorem dX1_stateOf_1 : decode cX1_stateOf 1 = .ok (.getfield 19, 3) := by decide +kernel
theorem dX1_stateOf_4 : decode cX1_stateOf 4 = .ok (.iload_n 1, 1) := by decide +kernel
theorem dX1_stateOf_5 : decode cX1_stateOf 5 = .ok (.baload, 1) := by decide +kernel
theorem dX1_stateOf_6 : decode cX1_stateOf 6 = .ok (.ifCond .eq 7, 3) := by decide +kernel
theorem dX1_stateOf_9 : decode cX1_stateOf 9 = .ok (.iconst 0, 1) := by decide +kernel
theorem dX1_stateOf_10 : decode cX1_stateOf 10 = .ok (.goto 60, 3) := by decide +kernel
theorem dX1_stateOf_13 : decode cX1_stateOf 13 = .ok (.aload_n 0, 1) := by decide +kernel
theorem dX1_stateOf_14 : decode cX1_stateOf 14 = .ok (.getfield 13, 3) := by decide +kernel
theorem dX1_stateOf_17 : decode cX1_stateOf 17 = .ok (.iload_n 1, 1) := by decide +kernel
theorem dX1_stateOf_18 : decode cX1_stateOf 18 = .ok (.iaload, 1) := by decide +kernel
theorem dX1_stateOf_19 : decode cX1_stateOf 19 = .ok (.aload_n 0, 1) := by decide +kernel
theorem dX1_stateOf_20 : decode cX1_stateOf 20 = .ok (.getfield 16, 3) := by decide +kernel
theorem dX1_stateOf_23 : decode cX1_stateOf 23 = .ok (.iload_n 1, 1) := by decide +kernel
theorem dX1_stateOf_24 : decode cX1_stateOf 24 = .ok (.iaload, 1) := by decide +kernel
theorem dX1_stateOf_25 : decode cX1_stateOf 25 = .ok (.iadd, 1) := by decide +kernel
theorem dX1_stateOf_26 : decode cX1_stateOf 26 = .ok (.aload_n 0, 1) := by decide +kernel
theorem dX1_stateOf_27 : decode cX1_stateOf 27 = .ok (.getfield 40, 3) := by decide +kernel
theorem dX1_stateOf_30 : decode cX1_stateOf 30 = .ok (.if_icmp .ne 7, 3) := by decide +kernel
theorem dX1_stateOf_33 : decode cX1_stateOf 33 = .ok (.iconst 4, 1) := by decide +kernel
theorem dX1_stateOf_34 : decode cX1_stateOf 34 = .ok (.goto 36, 3) := by decide +kernel
theorem dX1_stateOf_37 : decode cX1_stateOf 37 = .ok (.aload_n 0, 1) := by decide +kernel
theorem dX1_stateOf_38 : decode cX1_stateOf 38 = .ok (.getfield 13, 3) := by decide +kernel
theorem dX1_stateOf_41 : decode cX1_stateOf 41 = .ok (.iload_n 1, 1) := by decide +kernel
theorem dX1_stateOf_42 : decode cX1_stateOf 42 = .ok (.iaload, 1) := by decide +kernel
theorem dX1_stateOf_43 : decode cX1_stateOf 43 = .ok (.aload_n 0, 1) := by decide +kernel
theorem dX1_stateOf_44 : decode cX1_stateOf 44 = .ok (.getfield 26, 3) := by decide +kernel
theorem dX1_stateOf_47 : decode cX1_stateOf 47 = .ok (.if_icmp .ne 7, 3) := by decide +kernel
theorem dX1_stateOf_50 : decode cX1_stateOf 50 = .ok (.iconst 3, 1) := by decide +kernel
theorem dX1_stateOf_51 : decode cX1_stateOf 51 = .ok (.goto 19, 3) := by decide +kernel
theorem dX1_stateOf_54 : decode cX1_stateOf 54 = .ok (.aload_n 0, 1) := by decide +kernel
theorem dX1_stateOf_55 : decode cX1_stateOf 55 = .ok (.getfield 16, 3) := by decide +kernel
theorem dX1_stateOf_58 : decode cX1_stateOf 58 = .ok (.iload_n 1, 1) := by decide +kernel
theorem dX1_stateOf_59 : decode cX1_stateOf 59 = .ok (.iaload, 1) := by decide +kernel
theorem dX1_stateOf_60 : decode cX1_stateOf 60 = .ok (.bipush 16, 2) := by decide +kernel
theorem dX1_stateOf_62 : decode cX1_stateOf 62 = .ok (.if_icmp .ge 7, 3) := by decide +kernel
theorem dX1_stateOf_65 : decode cX1_stateOf 65 = .ok (.iconst 1, 1) := by decide +kernel
theorem dX1_stateOf_66 : decode cX1_stateOf 66 = .ok (.goto 4, 3) := by decide +kernel
theorem dX1_stateOf_69 : decode cX1_stateOf 69 = .ok (.iconst 2, 1) := by decide +kernel
theorem dX1_stateOf_70 : decode cX1_stateOf 70 = .ok (.ireturn, 1) := by decide +kernel
theorem dX1_top_0 : decode cX1_top 0 = .ok (.aload_n 0, 1) := by decide +kernel
theorem dX1_top_1 : decode cX1_top 1 = .ok (.getfield 33, 3) := by decide +kernel
theorem dX1_top_4 : decode cX1_top 4 = .ok (.ifCond .le 26, 3) := by decide +kernel
theorem dX1_top_7 : decode cX1_top 7 = .ok (.aload_n 0, 1) := by decide +kernel
theorem dX1_top_8 : decode cX1_top 8 = .ok (.getfield 19, 3) := by decide +kernel
theorem dX1_top_11 : decode cX1_top 11 = .ok (.aload_n 0, 1) := by decide +kernel
theorem dX1_top_12 : decode cX1_top 12 = .ok (.getfield 33, 3) := by decide +kernel
theorem dX1_top_15 : decode cX1_top 15 = .ok (.iconst 1, 1) := by decide +kernel
theorem dX1_top_16 : decode cX1_top 16 = .ok (.isub, 1) := by decide +kernel
theorem dX1_top_17 : decode cX1_top 17 = .ok (.baload, 1) := by decide +kernel
theorem dX1_top_18 : decode cX1_top 18 = .ok (.ifCond .ne 12, 3) := by decide +kernel
theorem dX1_top_21 : decode cX1_top 21 = .ok (.aload_n 0, 1) := by decide +kernel
theorem dX1_top_22 : decode cX1_top 22 = .ok (.getfield 33, 3) := by decide +kernel
theorem dX1_top_25 : decode cX1_top 25 = .ok (.iconst 1, 1) := by decide +kernel
theorem dX1_top_26 : decode cX1_top 26 = .ok (.isub, 1) := by decide +kernel
theorem dX1_top_27 : decode cX1_top 27 = .ok (.goto 4, 3) := by decide +kernel
theorem dX1_top_30 : decode cX1_top 30 = .ok (.iconst (-1), 1) := by decide +kernel
theorem dX1_top_31 : decode cX1_top 31 = .ok (.ireturn, 1) := by decide +kernel
theorem dX1_part_0 : decode cX1_part 0 = .ok (.aload_n 0, 1) := by decide +kernel
theorem dX1_part_1 : decode cX1_part 1 = .ok (.getfield 33, 3) := by decide +kernel
theorem dX1_part_4 : decode cX1_part 4 = .ok (.istore_n 3, 1) := by decide +kernel
theorem dX1_part_5 : decode cX1_part 5 = .ok (.iload_n 3, 1) := by decide +kernel
theorem dX1_part_6 : decode cX1_part 6 = .ok (.iload_n 1, 1) := by decide +kernel
theorem dX1_part_7 : decode cX1_part 7 = .ok (.iconst 1, 1) := by decide +kernel
theorem dX1_part_8 : decode cX1_part 8 = .ok (.iadd, 1) := by decide +kernel
theorem dX1_part_9 : decode cX1_part 9 = .ok (.if_icmp .le 65, 3) := by decide +kernel
theorem dX1_part_12 : decode cX1_part 12 = .ok (.aload_n 0, 1) := by decide +kernel
theorem dX1_part_13 : decode cX1_part 13 = .ok (.getfield 13, 3) := by decide +kernel
theorem dX1_part_16 : decode cX1_part 16 = .ok (.iload_n 3, 1) := by decide +kernel
theorem dX1_part_17 : decode cX1_part 17 = .ok (.aload_n 0, 1) := by decide +kernel
theorem dX1_part_18 : decode cX1_part 18 = .ok (.getfield 13, 3) := by decide +kernel
theorem dX1_part_21 : decode cX1_part 21 = .ok (.iload_n 3, 1) := by decide +kernel
theorem dX1_part_22 : decode cX1_part 22 = .ok (.iconst 1, 1) := by decide +kernel
theorem dX1_part_23 : decode cX1_part 23 = .ok (.isub, 1) := by decide +kernel
theorem dX1_part_24 : decode cX1_part 24 = .ok (.iaload, 1) := by decide +kernel
theorem dX1_part_25 : decode cX1_part 25 = .ok (.iastore, 1) := by decide +kernel
theorem dX1_part_26 : decode cX1_part 26 = .ok (.aload_n 0, 1) := by decide +kernel
theorem dX1_part_27 : decode cX1_part 27 = .ok (.getfield 16, 3) := by decide +kernel
theorem dX1_part_30 : decode cX1_part 30 = .ok (.iload_n 3, 1) := by decide +kernel
theorem dX1_part_31 : decode cX1_part 31 = .ok (.aload_n 0, 1) := by decide +kernel
theorem dX1_part_32 : decode cX1_part 32 = .ok (.getfield 16, 3) := by decide +kernel
theorem dX1_part_35 : decode cX1_part 35 = .ok (.iload_n 3, 1) := by decide +kernel
theorem dX1_part_36 : decode cX1_part 36 = .ok (.iconst 1, 1) := by decide +kernel
theorem dX1_part_37 : decode cX1_part 37 = .ok (.isub, 1) := by decide +kernel
theorem dX1_part_38 : decode cX1_part 38 = .ok (.iaload, 1) := by decide +kernel
theorem dX1_part_39 : decode cX1_part 39 = .ok (.iastore, 1) := by decide +kernel
theorem dX1_part_40 : decode cX1_part 40 = .ok (.aload_n 0, 1) := by decide +kernel
theorem dX1_part_41 : decode cX1_part 41 = .ok (.getfield 19, 3) := by decide +kernel
theorem dX1_part_44 : decode cX1_part 44 = .ok (.iload_n 3, 1) := by decide +kernel
theorem dX1_part_45 : decode cX1_part 45 = .ok (.aload_n 0, 1) := by decide +kernel
theorem dX1_part_46 : decode cX1_part 46 = .ok (.getfield 19, 3) := by decide +kernel
theorem dX1_part_49 : decode cX1_part 49 = .ok (.iload_n 3, 1) := by decide +kernel
theorem dX1_part_50 : decode cX1_part 50 = .ok (.iconst 1, 1) := by decide +kernel
theorem dX1_part_51 : decode cX1_part 51 = .ok (.isub, 1) := by decide +kernel
theorem dX1_part_52 : decode cX1_part 52 = .ok (.baload, 1) := by decide +kernel
theorem dX1_part_53 : decode cX1_part 53 = .ok (.bastore, 1) := by decide +kernel
theorem dX1_part_54 : decode cX1_part 54 = .ok (.aload_n 0, 1) := by decide +kernel
theorem dX1_part_55 : decode cX1_part 55 = .ok (.getfield 23, 3) := by decide +kernel
theorem dX1_part_58 : decode cX1_part 58 = .ok (.iload_n 3, 1) := by decide +kernel
theorem dX1_part_59 : decode cX1_part 59 = .ok (.aload_n 0, 1) := by decide +kernel
theorem dX1_part_60 : decode cX1_part 60 = .ok (.getfield 23, 3) := by decide +kernel
theorem dX1_part_63 : decode cX1_part 63 = .ok (.iload_n 3, 1) := by decide +kernel
theorem dX1_part_64 : decode cX1_part 64 = .ok (.iconst 1, 1) := by decide +kernel
theorem dX1_part_65 : decode cX1_part 65 = .ok (.isub, 1) := by decide +kernel
theorem dX1_part_66 : decode cX1_part 66 = .ok (.iaload, 1) := by decide +kernel
theorem dX1_part_67 : decode cX1_part 67 = .ok (.iastore, 1) := by decide +kernel
theorem dX1_part_68 : decode cX1_part 68 = .ok (.iinc 3 (-1), 3) := by decide +kernel
theorem dX1_part_71 : decode cX1_part 71 = .ok (.goto (-66), 3) := by decide +kernel
theorem dX1_part_74 : decode cX1_part 74 = .ok (.aload_n 0, 1) := by decide +kernel
theorem dX1_part_75 : decode cX1_part 75 = .ok (.dup, 1) := by decide +kernel
theorem dX1_part_76 : decode cX1_part 76 = .ok (.getfield 33, 3) := by decide +kernel
theorem dX1_part_79 : decode cX1_part 79 = .ok (.iconst 1, 1) := by decide +kernel
theorem dX1_part_80 : decode cX1_part 80 = .ok (.iadd, 1) := by decide +kernel
theorem dX1_part_81 : decode cX1_part 81 = .ok (.putfield 33, 3) := by decide +kernel
theorem dX1_part_84 : decode cX1_part 84 = .ok (.aload_n 0, 1) := by decide +kernel
theorem dX1_part_85 : decode cX1_part 85 = .ok (.getfield 13, 3) := by decide +kernel
theorem dX1_part_88 : decode cX1_part 88 = .ok (.iload_n 1, 1) := by decide +kernel
theorem dX1_part_89 : decode cX1_part 89 = .ok (.iconst 1, 1) := by decide +kernel
theorem dX1_part_90 : decode cX1_part 90 = .ok (.iadd, 1) := by decide +kernel
theorem dX1_part_91 : decode cX1_part 91 = .ok (.aload_n 0, 1) := by decide +kernel
theorem dX1_part_92 : decode cX1_part 92 = .ok (.getfield 13, 3) := by decide +kernel
theorem dX1_part_95 : decode cX1_part 95 = .ok (.iload_n 1, 1) := by decide +kernel
theorem dX1_part_96 : decode cX1_part 96 = .ok (.iaload, 1) := by decide +kernel
theorem dX1_part_97 : decode cX1_part 97 = .ok (.iload_n 2, 1) := by decide +kernel
theorem dX1_part_98 : decode cX1_part 98 = .ok (.iadd, 1) := by decide +kernel
theorem dX1_part_99 : decode cX1_part 99 = .ok (.iastore, 1) := by decide +kernel
theorem dX1_part_100 : decode cX1_part 100 = .ok (.aload_n 0, 1) := by decide +kernel
theorem dX1_part_101 : decode cX1_part 101 = .ok (.getfield 16, 3) := by decide +kernel
theorem dX1_part_104 : decode cX1_part 104 = .ok (.iload_n 1, 1) := by decide +kernel
theorem dX1_part_105 : decode cX1_part 105 = .ok (.iconst 1, 1) := by decide +kernel
theorem dX1_part_106 : decode cX1_part 106 = .ok (.iadd, 1) := by decide +kernel
theorem dX1_part_107 : decode cX1_part 107 = .ok (.aload_n 0, 1) := by decide +kernel
theorem dX1_part_108 : decode cX1_part 108 = .ok (.getfield 16, 3) := by decide +kernel
theorem dX1_part_111 : decode cX1_part 111 = .ok (.iload_n 1, 1) := by decide +kernel
theorem dX1_part_112 : decode cX1_part 112 = .ok (.iaload, 1) := by decide +kernel
theorem dX1_part_113 : decode cX1_part 113 = .ok (.iload_n 2, 1) := by decide +kernel
theorem dX1_part_114 : decode cX1_part 114 = .ok (.isub, 1) := by decide +kernel
theorem dX1_part_115 : decode cX1_part 115 = .ok (.iastore, 1) := by decide +kernel
theorem dX1_part_116 : decode cX1_part 116 = .ok (.aload_n 0, 1) := by decide +kernel
theorem dX1_part_117 : decode cX1_part 117 = .ok (.getfield 19, 3) := by decide +kernel
theorem dX1_part_120 : decode cX1_part 120 = .ok (.iload_n 1, 1) := by decide +kernel
theorem dX1_part_121 : decode cX1_part 121 = .ok (.iconst 1, 1) := by decide +kernel
theorem dX1_part_122 : decode cX1_part 122 = .ok (.iadd, 1) := by decide +kernel
theorem dX1_part_123 : decode cX1_part 123 = .ok (.iconst 0, 1) := by decide +kernel
theorem dX1_part_124 : decode cX1_part 124 = .ok (.bastore, 1) := by decide +kernel
theorem dX1_part_125 : decode cX1_part 125 = .ok (.aload_n 0, 1) := by decide +kernel
theorem dX1_part_126 : decode cX1_part 126 = .ok (.getfield 23, 3) := by decide +kernel
theorem dX1_part_129 : decode cX1_part 129 = .ok (.iload_n 1, 1) := by decide +kernel
theorem dX1_part_130 : decode cX1_part 130 = .ok (.iconst 1, 1) := by decide +kernel
theorem dX1_part_131 : decode cX1_part 131 = .ok (.iadd, 1) := by decide +kernel
theorem dX1_part_132 : decode cX1_part 132 = .ok (.iconst 0, 1) := by decide +kernel
theorem dX1_part_133 : decode cX1_part 133 = .ok (.iastore, 1) := by decide +kernel
theorem dX1_part_134 : decode cX1_part 134 = .ok (.aload_n 0, 1) := by decide +kernel
theorem dX1_part_135 : decode cX1_part 135 = .ok (.getfield 16, 3) := by decide +kernel
theorem dX1_part_138 : decode cX1_part 138 = .ok (.iload_n 1, 1) := by decide +kernel
theorem dX1_part_139 : decode cX1_part 139 = .ok (.iload_n 2, 1) := by decide +kernel
theorem dX1_part_140 : decode cX1_part 140 = .ok (.iastore, 1) := by decide +kernel
theorem dX1_part_141 : decode cX1_part 141 = .ok (.return_, 1) := by decide +kernel
theorem dX1_join_0 : decode cX1_join 0 = .ok (.aload_n 0, 1) := by decide +kernel
theorem dX1_join_1 : decode cX1_join 1 = .ok (.getfield 16, 3) := by decide +kernel
theorem dX1_join_4 : decode cX1_join 4 = .ok (.iload_n 1, 1) := by decide +kernel
theorem dX1_join_5 : decode cX1_join 5 = .ok (.aload_n 0, 1) := by decide +kernel
theorem dX1_join_6 : decode cX1_join 6 = .ok (.getfield 16, 3) := by decide +kernel
theorem dX1_join_9 : decode cX1_join 9 = .ok (.iload_n 1, 1) := by decide +kernel
theorem dX1_join_10 : decode cX1_join 10 = .ok (.iaload, 1) := by decide +kernel
theorem dX1_join_11 : decode cX1_join 11 = .ok (.aload_n 0, 1) := by decide +kernel
theorem dX1_join_12 : decode cX1_join 12 = .ok (.getfield 16, 3) := by decide +kernel
theorem dX1_join_15 : decode cX1_join 15 = .ok (.iload_n 1, 1) := by decide +kernel
theorem dX1_join_16 : decode cX1_join 16 = .ok (.iconst 1, 1) := by decide +kernel
theorem dX1_join_17 : decode cX1_join 17 = .ok (.iadd, 1) := by decide +kernel
theorem dX1_join_18 : decode cX1_join 18 = .ok (.iaload, 1) := by decide +kernel
theorem dX1_join_19 : decode cX1_join 19 = .ok (.iadd, 1) := by decide +kernel
theorem dX1_join_20 : decode cX1_join 20 = .ok (.iastore, 1) := by decide +kernel
theorem dX1_join_21 : decode cX1_join 21 = .ok (.iload_n 1, 1) := by decide +kernel
theorem dX1_join_22 : decode cX1_join 22 = .ok (.iconst 1, 1) := by decide +kernel
theorem dX1_join_23 : decode cX1_join 23 = .ok (.iadd, 1) := by decide +kernel
theorem dX1_join_24 : decode cX1_join 24 = .ok (.istore_n 2, 1) := by decide +kernel
theorem dX1_join_25 : decode cX1_join 25 = .ok (.iload_n 2, 1) := by decide +kernel
theorem dX1_join_26 : decode cX1_join 26 = .ok (.iconst 1, 1) := by decide +kernel
theorem dX1_join_27 : decode cX1_join 27 = .ok (.iadd, 1) := by decide +kernel
theorem dX1_join_28 : decode cX1_join 28 = .ok (.aload_n 0, 1) := by decide +kernel
theorem dX1_join_29 : decode cX1_join 29 = .ok (.getfield 33, 3) := by decide +kernel
theorem dX1_join_32 : decode cX1_join 32 = .ok (.if_icmp .ge 65, 3) := by decide +kernel
theorem dX1_join_35 : decode cX1_join 35 = .ok (.aload_n 0, 1) := by decide +kernel
theorem dX1_join_36 : decode cX1_join 36 = .ok (.getfield 13, 3) := by decide +kernel
theorem dX1_join_39 : decode cX1_join 39 = .ok (.iload_n 2, 1) := by decide +kernel
theorem dX1_join_40 : decode cX1_join 40 = .ok (.aload_n 0, 1) := by decide +kernel
theorem dX1_join_41 : decode cX1_join 41 = .ok (.getfield 13, 3) := by decide +kernel
theorem dX1_join_44 : decode cX1_join 44 = .ok (.iload_n 2, 1) := by decide +kernel
theorem dX1_join_45 : decode cX1_join 45 = .ok (.iconst 1, 1) := by decide +kernel
theorem dX1_join_46 : decode cX1_join 46 = .ok (.iadd, 1) := by decide +kernel
theorem dX1_join_47 : decode cX1_join 47 = .ok (.iaload, 1) := by decide +kernel
theorem dX1_join_48 : decode cX1_join 48 = .ok (.iastore, 1) := by decide +kernel
theorem dX1_join_49 : decode cX1_join 49 = .ok (.aload_n 0, 1) := by decide +kernel
theorem dX1_join_50 : decode cX1_join 50 = .ok (.getfield 16, 3) := by decide +kernel
theorem dX1_join_53 : decode cX1_join 53 = .ok (.iload_n 2, 1) := by decide +kernel
theorem dX1_join_54 : decode cX1_join 54 = .ok (.aload_n 0, 1) := by decide +kernel
theorem dX1_join_55 : decode cX1_join 55 = .ok (.getfield 16, 3) := by decide +kernel
theorem dX1_join_58 : decode cX1_join 58 = .ok (.iload_n 2, 1) := by decide +kernel
theorem dX1_join_59 : decode cX1_join 59 = .ok (.iconst 1, 1) := by decide +kernel
theorem dX1_join_60 : decode cX1_join 60 = .ok (.iadd, 1) := by decide +kernel
theorem dX1_join_61 : decode cX1_join 61 = .ok (.iaload, 1) := by decide +kernel
theorem dX1_join_62 : decode cX1_join 62 = .ok (.iastore, 1) := by decide +kernel
theorem dX1_join_63 : decode cX1_join 63 = .ok (.aload_n 0, 1) := by decide +kernel
theorem dX1_join_64 : decode cX1_join 64 = .ok (.getfield 19, 3) := by decide +kernel
theorem dX1_join_67 : decode cX1_join 67 = .ok (.iload_n 2, 1) := by decide +kernel
theorem dX1_join_68 : decode cX1_join 68 = .ok (.aload_n 0, 1) := by decide +kernel
theorem dX1_join_69 : decode cX1_join 69 = .ok (.getfield 19, 3) := by decide +kernel
theorem dX1_join_72 : decode cX1_join 72 = .ok (.iload_n 2, 1) := by decide +kernel
theorem dX1_join_73 : decode cX1_join 73 = .ok (.iconst 1, 1) := by decide +kernel
theorem dX1_join_74 : decode cX1_join 74 = .ok (.iadd, 1) := by decide +kernel
theorem dX1_join_75 : decode cX1_join 75 = .ok (.baload, 1) := by decide +kernel
theorem dX1_join_76 : decode cX1_join 76 = .ok (.bastore, 1) := by decide +kernel
theorem dX1_join_77 : decode cX1_join 77 = .ok (.aload_n 0, 1) := by decide +kernel
theorem dX1_join_78 : decode cX1_join 78 = .ok (.getfield 23, 3) := by decide +kernel
theorem dX1_join_81 : decode cX1_join 81 = .ok (.iload_n 2, 1) := by decide +kernel
theorem dX1_join_82 : decode cX1_join 82 = .ok (.aload_n 0, 1) := by decide +kernel
theorem dX1_join_83 : decode cX1_join 83 = .ok (.getfield 23, 3) := by decide +kernel
theorem dX1_join_86 : decode cX1_join 86 = .ok (.iload_n 2, 1) := by decide +kernel
theorem dX1_join_87 : decode cX1_join 87 = .ok (.iconst 1, 1) := by decide +kernel
theorem dX1_join_88 : decode cX1_join 88 = .ok (.iadd, 1) := by decide +kernel
theorem dX1_join_89 : decode cX1_join 89 = .ok (.iaload, 1) := by decide +kernel
theorem dX1_join_90 : decode cX1_join 90 = .ok (.iastore, 1) := by decide +kernel
theorem dX1_join_91 : decode cX1_join 91 = .ok (.iinc 2 1, 3) := by decide +kernel
theorem dX1_join_94 : decode cX1_join 94 = .ok (.goto (-69), 3) := by decide +kernel
theorem dX1_join_97 : decode cX1_join 97 = .ok (.aload_n 0, 1) := by decide +kernel
theorem dX1_join_98 : decode cX1_join 98 = .ok (.dup, 1) := by decide +kernel
theorem dX1_join_99 : decode cX1_join 99 = .ok (.getfield 33, 3) := by decide +kernel
theorem dX1_join_102 : decode cX1_join 102 = .ok (.iconst 1, 1) := by decide +kernel
theorem dX1_join_103 : decode cX1_join 103 = .ok (.isub, 1) := by decide +kernel
theorem dX1_join_104 : decode cX1_join 104 = .ok (.putfield 33, 3) := by decide +kernel
theorem dX1_join_107 : decode cX1_join 107 = .ok (.return_, 1) := by decide +kernel
theorem dX1_store_0 : decode cX1_store 0 = .ok (.aload_n 0, 1) := by decide +kernel
theorem dX1_store_1 : decode cX1_store 1 = .ok (.dup, 1) := by decide +kernel
theorem dX1_store_2 : decode cX1_store 2 = .ok (.getfield 43, 3) := by decide +kernel
theorem dX1_store_5 : decode cX1_store 5 = .ok (.iconst 1, 1) := by decide +kernel
theorem dX1_store_6 : decode cX1_store 6 = .ok (.iadd, 1) := by decide +kernel
theorem dX1_store_7 : decode cX1_store 7 = .ok (.putfield 43, 3) := by decide +kernel
theorem dX1_store_10 : decode cX1_store 10 = .ok (.aload_n 0, 1) := by decide +kernel
theorem dX1_store_11 : decode cX1_store 11 = .ok (.getfield 23, 3) := by decide +kernel
theorem dX1_store_14 : decode cX1_store 14 = .ok (.iload_n 1, 1) := by decide +kernel
theorem dX1_store_15 : decode cX1_store 15 = .ok (.aload_n 0, 1) := by decide +kernel
theorem dX1_store_16 : decode cX1_store 16 = .ok (.getfield 43, 3) := by decide +kernel
theorem dX1_store_19 : decode cX1_store 19 = .ok (.iastore, 1) := by decide +kernel
theorem dX1_store_20 : decode cX1_store 20 = .ok (.return_, 1) := by decide +kernel
theorem dX1_cut_0 : decode cX1_cut 0 = .ok (.aload_n 0, 1) := by decide +kernel
theorem dX1_cut_1 : decode cX1_cut 1 = .ok (.getfield 19, 3) := by decide +kernel
theorem dX1_cut_4 : decode cX1_cut 4 = .ok (.iload_n 1, 1) := by decide +kernel
theorem dX1_cut_5 : decode cX1_cut 5 = .ok (.iconst 1, 1) := by decide +kernel
theorem dX1_cut_6 : decode cX1_cut 6 = .ok (.bastore, 1) := by decide +kernel
theorem dX1_cut_7 : decode cX1_cut 7 = .ok (.aload_n 0, 1) := by decide +kernel
theorem dX1_cut_8 : decode cX1_cut 8 = .ok (.getfield 16, 3) := by decide +kernel
theorem dX1_cut_11 : decode cX1_cut 11 = .ok (.iload_n 1, 1) := by decide +kernel
theorem dX1_cut_12 : decode cX1_cut 12 = .ok (.iaload, 1) := by decide +kernel
theorem dX1_cut_13 : decode cX1_cut 13 = .ok (.iload_n 2, 1) := by decide +kernel
theorem dX1_cut_14 : decode cX1_cut 14 = .ok (.isub, 1) := by decide +kernel
theorem dX1_cut_15 : decode cX1_cut 15 = .ok (.iconst 2, 1) := by decide +kernel
theorem dX1_cut_16 : decode cX1_cut 16 = .ok (.if_icmp .ge 5, 3) := by decide +kernel
theorem dX1_cut_19 : decode cX1_cut 19 = .ok (.iconst 0, 1) := by decide +kernel
theorem dX1_cut_20 : decode cX1_cut 20 = .ok (.ireturn, 1) := by decide +kernel
theorem dX1_cut_21 : decode cX1_cut 21 = .ok (.aload_n 0, 1) := by decide +kernel
theorem dX1_cut_22 : decode cX1_cut 22 = .ok (.iload_n 1, 1) := by decide +kernel
theorem dX1_cut_23 : decode cX1_cut 23 = .ok (.iload_n 2, 1) := by decide +kernel
theorem dX1_cut_24 : decode cX1_cut 24 = .ok (.invokevirtual 46, 3) := by decide +kernel
theorem dX1_cut_27 : decode cX1_cut 27 = .ok (.iconst 1, 1) := by decide +kernel
theorem dX1_cut_28 : decode cX1_cut 28 = .ok (.ireturn, 1) := by decide +kernel
theorem dX1_best_0 : decode cX1_best 0 = .ok (.iconst (-1), 1) := by decide +kernel
theorem dX1_best_1 : decode cX1_best 1 = .ok (.istore_n 3, 1) := by decide +kernel
theorem dX1_best_2 : decode cX1_best 2 = .ok (.iconst 0, 1) := by decide +kernel
theorem dX1_best_3 : decode cX1_best 3 = .ok (.istore 4, 2) := by decide +kernel
theorem dX1_best_5 : decode cX1_best 5 = .ok (.iload 4, 2) := by decide +kernel
theorem dX1_best_7 : decode cX1_best 7 = .ok (.aload_n 0, 1) := by decide +kernel
theorem dX1_best_8 : decode cX1_best 8 = .ok (.getfield 33, 3) := by decide +kernel
theorem dX1_best_11 : decode cX1_best 11 = .ok (.if_icmp .ge 118, 3) := by decide +kernel
theorem dX1_best_14 : decode cX1_best 14 = .ok (.aload_n 0, 1) := by decide +kernel
theorem dX1_best_15 : decode cX1_best 15 = .ok (.iload 4, 2) := by decide +kernel
theorem dX1_best_17 : decode cX1_best 17 = .ok (.invokevirtual 50, 3) := by decide +kernel
theorem dX1_best_20 : decode cX1_best 20 = .ok (.istore 5, 2) := by decide +kernel
theorem dX1_best_22 : decode cX1_best 22 = .ok (.iload 5, 2) := by decide +kernel
theorem dX1_best_24 : decode cX1_best 24 = .ok (.iconst 1, 1) := by decide +kernel
theorem dX1_best_25 : decode cX1_best 25 = .ok (.if_icmp .eq 9, 3) := by decide +kernel
theorem dX1_best_28 : decode cX1_best 28 = .ok (.iload 5, 2) := by decide +kernel
theorem dX1_best_30 : decode cX1_best 30 = .ok (.iconst 2, 1) := by decide +kernel
theorem dX1_best_31 : decode cX1_best 31 = .ok (.if_icmp .ne 29, 3) := by decide +kernel
theorem dX1_best_34 : decode cX1_best 34 = .ok (.aload_n 0, 1) := by decide +kernel
theorem dX1_best_35 : decode cX1_best 35 = .ok (.getfield 16, 3) := by decide +kernel
theorem dX1_best_38 : decode cX1_best 38 = .ok (.iload 4, 2) := by decide +kernel
theorem dX1_best_40 : decode cX1_best 40 = .ok (.iaload, 1) := by decide +kernel
theorem dX1_best_41 : decode cX1_best 41 = .ok (.iload_n 1, 1) := by decide +kernel
theorem dX1_best_42 : decode cX1_best 42 = .ok (.if_icmp .lt 18, 3) := by decide +kernel
theorem dX1_best_45 : decode cX1_best 45 = .ok (.aload_n 0, 1) := by decide +kernel
theorem dX1_best_46 : decode cX1_best 46 = .ok (.getfield 16, 3) := by decide +kernel
theorem dX1_best_49 : decode cX1_best 49 = .ok (.iload 4, 2) := by decide +kernel
theorem dX1_best_51 : decode cX1_best 51 = .ok (.iaload, 1) := by decide +kernel
theorem dX1_best_52 : decode cX1_best 52 = .ok (.iload_n 2, 1) := by decide +kernel
theorem dX1_best_53 : decode cX1_best 53 = .ok (.if_icmp .gt 7, 3) := by decide +kernel
theorem dX1_best_56 : decode cX1_best 56 = .ok (.iconst 1, 1) := by decide +kernel
theorem dX1_best_57 : decode cX1_best 57 = .ok (.goto 4, 3) := by decide +kernel
theorem dX1_best_60 : decode cX1_best 60 = .ok (.iconst 0, 1) := by decide +kernel
theorem dX1_best_61 : decode cX1_best 61 = .ok (.istore 6, 2) := by decide +kernel
theorem dX1_best_63 : decode cX1_best 63 = .ok (.iload 6, 2) := by decide +kernel
theorem dX1_best_65 : decode cX1_best 65 = .ok (.ifCond .eq 58, 3) := by decide +kernel
theorem dX1_best_68 : decode cX1_best 68 = .ok (.iload_n 3, 1) := by decide +kernel
theorem dX1_best_69 : decode cX1_best 69 = .ok (.ifCond .lt 51, 3) := by decide +kernel
theorem dX1_best_72 : decode cX1_best 72 = .ok (.aload_n 0, 1) := by decide +kernel
theorem dX1_best_73 : decode cX1_best 73 = .ok (.getfield 16, 3) := by decide +kernel
theorem dX1_best_76 : decode cX1_best 76 = .ok (.iload 4, 2) := by decide +kernel
theorem dX1_best_78 : decode cX1_best 78 = .ok (.iaload, 1) := by decide +kernel
theorem dX1_best_79 : decode cX1_best 79 = .ok (.aload_n 0, 1) := by decide +kernel
theorem dX1_best_80 : decode cX1_best 80 = .ok (.getfield 16, 3) := by decide +kernel
theorem dX1_best_83 : decode cX1_best 83 = .ok (.iload_n 3, 1) := by decide +kernel
theorem dX1_best_84 : decode cX1_best 84 = .ok (.iaload, 1) := by decide +kernel
theorem dX1_best_85 : decode cX1_best 85 = .ok (.if_icmp .lt 35, 3) := by decide +kernel
theorem dX1_best_88 : decode cX1_best 88 = .ok (.aload_n 0, 1) := by decide +kernel
theorem dX1_best_89 : decode cX1_best 89 = .ok (.getfield 16, 3) := by decide +kernel
theorem dX1_best_92 : decode cX1_best 92 = .ok (.iload 4, 2) := by decide +kernel
theorem dX1_best_94 : decode cX1_best 94 = .ok (.iaload, 1) := by decide +kernel
theorem dX1_best_95 : decode cX1_best 95 = .ok (.aload_n 0, 1) := by decide +kernel
theorem dX1_best_96 : decode cX1_best 96 = .ok (.getfield 16, 3) := by decide +kernel
theorem dX1_best_99 : decode cX1_best 99 = .ok (.iload_n 3, 1) := by decide +kernel
theorem dX1_best_100 : decode cX1_best 100 = .ok (.iaload, 1) := by decide +kernel
theorem dX1_best_101 : decode cX1_best 101 = .ok (.if_icmp .ne 22, 3) := by decide +kernel
theorem dX1_best_104 : decode cX1_best 104 = .ok (.aload_n 0, 1) := by decide +kernel
theorem dX1_best_105 : decode cX1_best 105 = .ok (.getfield 23, 3) := by decide +kernel
theorem dX1_best_108 : decode cX1_best 108 = .ok (.iload 4, 2) := by decide +kernel
theorem dX1_best_110 : decode cX1_best 110 = .ok (.iaload, 1) := by decide +kernel
theorem dX1_best_111 : decode cX1_best 111 = .ok (.aload_n 0, 1) := by decide +kernel
theorem dX1_best_112 : decode cX1_best 112 = .ok (.getfield 23, 3) := by decide +kernel
theorem dX1_best_115 : decode cX1_best 115 = .ok (.iload_n 3, 1) := by decide +kernel
theorem dX1_best_116 : decode cX1_best 116 = .ok (.iaload, 1) := by decide +kernel
theorem dX1_best_117 : decode cX1_best 117 = .ok (.if_icmp .le 6, 3) := by decide +kernel
theorem dX1_best_120 : decode cX1_best 120 = .ok (.iload 4, 2) := by decide +kernel
theorem dX1_best_122 : decode cX1_best 122 = .ok (.istore_n 3, 1) := by decide +kernel
theorem dX1_best_123 : decode cX1_best 123 = .ok (.iinc 4 1, 3) := by decide +kernel
theorem dX1_best_126 : decode cX1_best 126 = .ok (.goto (-121), 3) := by decide +kernel
theorem dX1_best_129 : decode cX1_best 129 = .ok (.iload_n 3, 1) := by decide +kernel
theorem dX1_best_130 : decode cX1_best 130 = .ok (.ireturn, 1) := by decide +kernel
theorem dX1_fromVictim_0 : decode cX1_fromVictim 0 = .ok (.aload_n 0, 1) := by decide +kernel
theorem dX1_fromVictim_1 : decode cX1_fromVictim 1 = .ok (.getfield 26, 3) := by decide +kernel
theorem dX1_fromVictim_4 : decode cX1_fromVictim 4 = .ok (.ifCond .ge 7, 3) := by decide +kernel
theorem dX1_fromVictim_7 : decode cX1_fromVictim 7 = .ok (.iconst (-1), 1) := by decide +kernel
theorem dX1_fromVictim_8 : decode cX1_fromVictim 8 = .ok (.goto 11, 3) := by decide +kernel
theorem dX1_fromVictim_11 : decode cX1_fromVictim 11 = .ok (.aload_n 0, 1) := by decide +kernel
theorem dX1_fromVictim_12 : decode cX1_fromVictim 12 = .ok (.aload_n 0, 1) := by decide +kernel
theorem dX1_fromVictim_13 : decode cX1_fromVictim 13 = .ok (.getfield 26, 3) := by decide +kernel
theorem dX1_fromVictim_16 : decode cX1_fromVictim 16 = .ok (.invokevirtual 36, 3) := by decide +kernel
theorem dX1_fromVictim_19 : decode cX1_fromVictim 19 = .ok (.istore_n 2, 1) := by decide +kernel
theorem dX1_fromVictim_20 : decode cX1_fromVictim 20 = .ok (.iload_n 2, 1) := by decide +kernel
theorem dX1_fromVictim_21 : decode cX1_fromVictim 21 = .ok (.ifCond .lt 13, 3) := by decide +kernel
theorem dX1_fromVictim_24 : decode cX1_fromVictim 24 = .ok (.aload_n 0, 1) := by decide +kernel
theorem dX1_fromVictim_25 : decode cX1_fromVictim 25 = .ok (.getfield 16, 3) := by decide +kernel
theorem dX1_fromVictim_28 : decode cX1_fromVictim 28 = .ok (.iload_n 2, 1) := by decide +kernel
theorem dX1_fromVictim_29 : decode cX1_fromVictim 29 = .ok (.iaload, 1) := by decide +kernel
theorem dX1_fromVictim_30 : decode cX1_fromVictim 30 = .ok (.iload_n 1, 1) := by decide +kernel
theorem dX1_fromVictim_31 : decode cX1_fromVictim 31 = .ok (.if_icmp .ge 5, 3) := by decide +kernel
theorem dX1_fromVictim_34 : decode cX1_fromVictim 34 = .ok (.iconst (-1), 1) := by decide +kernel
theorem dX1_fromVictim_35 : decode cX1_fromVictim 35 = .ok (.ireturn, 1) := by decide +kernel
theorem dX1_fromVictim_36 : decode cX1_fromVictim 36 = .ok (.aload_n 0, 1) := by decide +kernel
theorem dX1_fromVictim_37 : decode cX1_fromVictim 37 = .ok (.aload_n 0, 1) := by decide +kernel
theorem dX1_fromVictim_38 : decode cX1_fromVictim 38 = .ok (.iload_n 2, 1) := by decide +kernel
theorem dX1_fromVictim_39 : decode cX1_fromVictim 39 = .ok (.iload_n 1, 1) := by decide +kernel
theorem dX1_fromVictim_40 : decode cX1_fromVictim 40 = .ok (.invokevirtual 53, 3) := by decide +kernel
theorem dX1_fromVictim_43 : decode cX1_fromVictim 43 = .ok (.ifCond .eq 14, 3) := by decide +kernel
theorem dX1_fromVictim_46 : decode cX1_fromVictim 46 = .ok (.aload_n 0, 1) := by decide +kernel
theorem dX1_fromVictim_47 : decode cX1_fromVictim 47 = .ok (.getfield 13, 3) := by decide +kernel
theorem dX1_fromVictim_50 : decode cX1_fromVictim 50 = .ok (.iload_n 2, 1) := by decide +kernel
theorem dX1_fromVictim_51 : decode cX1_fromVictim 51 = .ok (.iconst 1, 1) := by decide +kernel
theorem dX1_fromVictim_52 : decode cX1_fromVictim 52 = .ok (.iadd, 1) := by decide +kernel
theorem dX1_fromVictim_53 : decode cX1_fromVictim 53 = .ok (.iaload, 1) := by decide +kernel
theorem dX1_fromVictim_54 : decode cX1_fromVictim 54 = .ok (.goto 4, 3) := by decide +kernel
theorem dX1_fromVictim_57 : decode cX1_fromVictim 57 = .ok (.iconst (-1), 1) := by decide +kernel
theorem dX1_fromVictim_58 : decode cX1_fromVictim 58 = .ok (.putfield 26, 3) := by decide +kernel
theorem dX1_fromVictim_61 : decode cX1_fromVictim 61 = .ok (.iload_n 2, 1) := by decide +kernel
theorem dX1_fromVictim_62 : decode cX1_fromVictim 62 = .ok (.ireturn, 1) := by decide +kernel
theorem dX1_takeSmall_0 : decode cX1_takeSmall 0 = .ok (.aload_n 0, 1) := by decide +kernel
theorem dX1_takeSmall_1 : decode cX1_takeSmall 1 = .ok (.iload_n 1, 1) := by decide +kernel
theorem dX1_takeSmall_2 : decode cX1_takeSmall 2 = .ok (.iload_n 1, 1) := by decide +kernel
theorem dX1_takeSmall_3 : decode cX1_takeSmall 3 = .ok (.bipush 15, 2) := by decide +kernel
theorem dX1_takeSmall_5 : decode cX1_takeSmall 5 = .ok (.if_icmp .ge 9, 3) := by decide +kernel
theorem dX1_takeSmall_8 : decode cX1_takeSmall 8 = .ok (.iload_n 1, 1) := by decide +kernel
theorem dX1_takeSmall_9 : decode cX1_takeSmall 9 = .ok (.iconst 1, 1) := by decide +kernel
theorem dX1_takeSmall_10 : decode cX1_takeSmall 10 = .ok (.iadd, 1) := by decide +kernel
theorem dX1_takeSmall_11 : decode cX1_takeSmall 11 = .ok (.goto 4, 3) := by decide +kernel
theorem dX1_takeSmall_14 : decode cX1_takeSmall 14 = .ok (.iload_n 1, 1) := by decide +kernel
theorem dX1_takeSmall_15 : decode cX1_takeSmall 15 = .ok (.invokevirtual 57, 3) := by decide +kernel
theorem dX1_takeSmall_18 : decode cX1_takeSmall 18 = .ok (.istore_n 2, 1) := by decide +kernel
theorem dX1_takeSmall_19 : decode cX1_takeSmall 19 = .ok (.iload_n 2, 1) := by decide +kernel
theorem dX1_takeSmall_20 : decode cX1_takeSmall 20 = .ok (.ifCond .lt 12, 3) := by decide +kernel
theorem dX1_takeSmall_23 : decode cX1_takeSmall 23 = .ok (.aload_n 0, 1) := by decide +kernel
theorem dX1_takeSmall_24 : decode cX1_takeSmall 24 = .ok (.getfield 19, 3) := by decide +kernel
theorem dX1_takeSmall_27 : decode cX1_takeSmall 27 = .ok (.iload_n 2, 1) := by decide +kernel
theorem dX1_takeSmall_28 : decode cX1_takeSmall 28 = .ok (.iconst 1, 1) := by decide +kernel
theorem dX1_takeSmall_29 : decode cX1_takeSmall 29 = .ok (.bastore, 1) := by decide +kernel
theorem dX1_takeSmall_30 : decode cX1_takeSmall 30 = .ok (.iload_n 2, 1) := by decide +kernel
theorem dX1_takeSmall_31 : decode cX1_takeSmall 31 = .ok (.ireturn, 1) := by decide +kernel
theorem dX1_takeSmall_32 : decode cX1_takeSmall 32 = .ok (.aload_n 0, 1) := by decide +kernel
theorem dX1_takeSmall_33 : decode cX1_takeSmall 33 = .ok (.iload_n 1, 1) := by decide +kernel
theorem dX1_takeSmall_34 : decode cX1_takeSmall 34 = .ok (.invokevirtual 61, 3) := by decide +kernel
theorem dX1_takeSmall_37 : decode cX1_takeSmall 37 = .ok (.istore_n 2, 1) := by decide +kernel
theorem dX1_takeSmall_38 : decode cX1_takeSmall 38 = .ok (.iload_n 2, 1) := by decide +kernel
theorem dX1_takeSmall_39 : decode cX1_takeSmall 39 = .ok (.ifCond .lt 5, 3) := by decide +kernel
theorem dX1_takeSmall_42 : decode cX1_takeSmall 42 = .ok (.iload_n 2, 1) := by decide +kernel
theorem dX1_takeSmall_43 : decode cX1_takeSmall 43 = .ok (.ireturn, 1) := by decide +kernel
theorem dX1_takeSmall_44 : decode cX1_takeSmall 44 = .ok (.aload_n 0, 1) := by decide +kernel
theorem dX1_takeSmall_45 : decode cX1_takeSmall 45 = .ok (.iload_n 1, 1) := by decide +kernel
theorem dX1_takeSmall_46 : decode cX1_takeSmall 46 = .ok (.iconst 1, 1) := by decide +kernel
theorem dX1_takeSmall_47 : decode cX1_takeSmall 47 = .ok (.iadd, 1) := by decide +kernel
theorem dX1_takeSmall_48 : decode cX1_takeSmall 48 = .ok (.sipush 1000, 3) := by decide +kernel
theorem dX1_takeSmall_51 : decode cX1_takeSmall 51 = .ok (.invokevirtual 57, 3) := by decide +kernel
theorem dX1_takeSmall_54 : decode cX1_takeSmall 54 = .ok (.istore_n 2, 1) := by decide +kernel
theorem dX1_takeSmall_55 : decode cX1_takeSmall 55 = .ok (.iload_n 2, 1) := by decide +kernel
theorem dX1_takeSmall_56 : decode cX1_takeSmall 56 = .ok (.ifCond .ge 5, 3) := by decide +kernel
theorem dX1_takeSmall_59 : decode cX1_takeSmall 59 = .ok (.iconst (-1), 1) := by decide +kernel
theorem dX1_takeSmall_60 : decode cX1_takeSmall 60 = .ok (.ireturn, 1) := by decide +kernel
theorem dX1_takeSmall_61 : decode cX1_takeSmall 61 = .ok (.aload_n 0, 1) := by decide +kernel
theorem dX1_takeSmall_62 : decode cX1_takeSmall 62 = .ok (.iload_n 2, 1) := by decide +kernel
theorem dX1_takeSmall_63 : decode cX1_takeSmall 63 = .ok (.iload_n 1, 1) := by decide +kernel
theorem dX1_takeSmall_64 : decode cX1_takeSmall 64 = .ok (.invokevirtual 53, 3) := by decide +kernel
theorem dX1_takeSmall_67 : decode cX1_takeSmall 67 = .ok (.ifCond .eq 44, 3) := by decide +kernel
theorem dX1_takeSmall_70 : decode cX1_takeSmall 70 = .ok (.aload_n 0, 1) := by decide +kernel
theorem dX1_takeSmall_71 : decode cX1_takeSmall 71 = .ok (.getfield 26, 3) := by decide +kernel
theorem dX1_takeSmall_74 : decode cX1_takeSmall 74 = .ok (.ifCond .ge 7, 3) := by decide +kernel
theorem dX1_takeSmall_77 : decode cX1_takeSmall 77 = .ok (.iconst (-1), 1) := by decide +kernel
theorem dX1_takeSmall_78 : decode cX1_takeSmall 78 = .ok (.goto 11, 3) := by decide +kernel
theorem dX1_takeSmall_81 : decode cX1_takeSmall 81 = .ok (.aload_n 0, 1) := by decide +kernel
theorem dX1_takeSmall_82 : decode cX1_takeSmall 82 = .ok (.aload_n 0, 1) := by decide +kernel
theorem dX1_takeSmall_83 : decode cX1_takeSmall 83 = .ok (.getfield 26, 3) := by decide +kernel
theorem dX1_takeSmall_86 : decode cX1_takeSmall 86 = .ok (.invokevirtual 36, 3) := by decide +kernel
theorem dX1_takeSmall_89 : decode cX1_takeSmall 89 = .ok (.istore_n 3, 1) := by decide +kernel
theorem dX1_takeSmall_90 : decode cX1_takeSmall 90 = .ok (.iload_n 3, 1) := by decide +kernel
theorem dX1_takeSmall_91 : decode cX1_takeSmall 91 = .ok (.ifCond .lt 8, 3) := by decide +kernel
theorem dX1_takeSmall_94 : decode cX1_takeSmall 94 = .ok (.aload_n 0, 1) := by decide +kernel
theorem dX1_takeSmall_95 : decode cX1_takeSmall 95 = .ok (.iload_n 3, 1) := by decide +kernel
theorem dX1_takeSmall_96 : decode cX1_takeSmall 96 = .ok (.invokevirtual 64, 3) := by decide +kernel
theorem dX1_takeSmall_99 : decode cX1_takeSmall 99 = .ok (.aload_n 0, 1) := by decide +kernel
theorem dX1_takeSmall_100 : decode cX1_takeSmall 100 = .ok (.aload_n 0, 1) := by decide +kernel
theorem dX1_takeSmall_101 : decode cX1_takeSmall 101 = .ok (.getfield 13, 3) := by decide +kernel
theorem dX1_takeSmall_104 : decode cX1_takeSmall 104 = .ok (.iload_n 2, 1) := by decide +kernel
theorem dX1_takeSmall_105 : decode cX1_takeSmall 105 = .ok (.iconst 1, 1) := by decide +kernel
theorem dX1_takeSmall_106 : decode cX1_takeSmall 106 = .ok (.iadd, 1) := by decide +kernel
theorem dX1_takeSmall_107 : decode cX1_takeSmall 107 = .ok (.iaload, 1) := by decide +kernel
theorem dX1_takeSmall_108 : decode cX1_takeSmall 108 = .ok (.putfield 26, 3) := by decide +kernel
theorem dX1_takeSmall_111 : decode cX1_takeSmall 111 = .ok (.iload_n 2, 1) := by decide +kernel
theorem dX1_takeSmall_112 : decode cX1_takeSmall 112 = .ok (.ireturn, 1) := by decide +kernel
theorem dX1_takeLarge_0 : decode cX1_takeLarge 0 = .ok (.aload_n 0, 1) := by decide +kernel
theorem dX1_takeLarge_1 : decode cX1_takeLarge 1 = .ok (.iload_n 1, 1) := by decide +kernel
theorem dX1_takeLarge_2 : decode cX1_takeLarge 2 = .ok (.sipush 1000, 3) := by decide +kernel
theorem dX1_takeLarge_5 : decode cX1_takeLarge 5 = .ok (.invokevirtual 57, 3) := by decide +kernel
theorem dX1_takeLarge_8 : decode cX1_takeLarge 8 = .ok (.istore_n 2, 1) := by decide +kernel
theorem dX1_takeLarge_9 : decode cX1_takeLarge 9 = .ok (.aload_n 0, 1) := by decide +kernel
theorem dX1_takeLarge_10 : decode cX1_takeLarge 10 = .ok (.getfield 26, 3) := by decide +kernel
theorem dX1_takeLarge_13 : decode cX1_takeLarge 13 = .ok (.ifCond .ge 7, 3) := by decide +kernel
theorem dX1_takeLarge_16 : decode cX1_takeLarge 16 = .ok (.iconst (-1), 1) := by decide +kernel
theorem dX1_takeLarge_17 : decode cX1_takeLarge 17 = .ok (.goto 11, 3) := by decide +kernel
theorem dX1_takeLarge_20 : decode cX1_takeLarge 20 = .ok (.aload_n 0, 1) := by decide +kernel
theorem dX1_takeLarge_21 : decode cX1_takeLarge 21 = .ok (.aload_n 0, 1) := by decide +kernel
theorem dX1_takeLarge_22 : decode cX1_takeLarge 22 = .ok (.getfield 26, 3) := by decide +kernel
theorem dX1_takeLarge_25 : decode cX1_takeLarge 25 = .ok (.invokevirtual 36, 3) := by decide +kernel
theorem dX1_takeLarge_28 : decode cX1_takeLarge 28 = .ok (.istore_n 3, 1) := by decide +kernel
theorem dX1_takeLarge_29 : decode cX1_takeLarge 29 = .ok (.iload_n 2, 1) := by decide +kernel
theorem dX1_takeLarge_30 : decode cX1_takeLarge 30 = .ok (.ifCond .lt 50, 3) := by decide +kernel
theorem dX1_takeLarge_33 : decode cX1_takeLarge 33 = .ok (.iload_n 3, 1) := by decide +kernel
theorem dX1_takeLarge_34 : decode cX1_takeLarge 34 = .ok (.ifCond .lt 28, 3) := by decide +kernel
theorem dX1_takeLarge_37 : decode cX1_takeLarge 37 = .ok (.aload_n 0, 1) := by decide +kernel
theorem dX1_takeLarge_38 : decode cX1_takeLarge 38 = .ok (.getfield 16, 3) := by decide +kernel
theorem dX1_takeLarge_41 : decode cX1_takeLarge 41 = .ok (.iload_n 3, 1) := by decide +kernel
theorem dX1_takeLarge_42 : decode cX1_takeLarge 42 = .ok (.iaload, 1) := by decide +kernel
theorem dX1_takeLarge_43 : decode cX1_takeLarge 43 = .ok (.iload_n 1, 1) := by decide +kernel
theorem dX1_takeLarge_44 : decode cX1_takeLarge 44 = .ok (.if_icmp .lt 18, 3) := by decide +kernel
theorem dX1_takeLarge_47 : decode cX1_takeLarge 47 = .ok (.aload_n 0, 1) := by decide +kernel
theorem dX1_takeLarge_48 : decode cX1_takeLarge 48 = .ok (.getfield 16, 3) := by decide +kernel
theorem dX1_takeLarge_51 : decode cX1_takeLarge 51 = .ok (.iload_n 2, 1) := by decide +kernel
theorem dX1_takeLarge_52 : decode cX1_takeLarge 52 = .ok (.iaload, 1) := by decide +kernel
theorem dX1_takeLarge_53 : decode cX1_takeLarge 53 = .ok (.aload_n 0, 1) := by decide +kernel
theorem dX1_takeLarge_54 : decode cX1_takeLarge 54 = .ok (.getfield 16, 3) := by decide +kernel
theorem dX1_takeLarge_57 : decode cX1_takeLarge 57 = .ok (.iload_n 3, 1) := by decide +kernel
theorem dX1_takeLarge_58 : decode cX1_takeLarge 58 = .ok (.iaload, 1) := by decide +kernel
theorem dX1_takeLarge_59 : decode cX1_takeLarge 59 = .ok (.if_icmp .ge 21, 3) := by decide +kernel
theorem dX1_takeLarge_62 : decode cX1_takeLarge 62 = .ok (.aload_n 0, 1) := by decide +kernel
theorem dX1_takeLarge_63 : decode cX1_takeLarge 63 = .ok (.iload_n 2, 1) := by decide +kernel
theorem dX1_takeLarge_64 : decode cX1_takeLarge 64 = .ok (.iload_n 1, 1) := by decide +kernel
theorem dX1_takeLarge_65 : decode cX1_takeLarge 65 = .ok (.invokevirtual 53, 3) := by decide +kernel
theorem dX1_takeLarge_68 : decode cX1_takeLarge 68 = .ok (.ifCond .eq 10, 3) := by decide +kernel
theorem dX1_takeLarge_71 : decode cX1_takeLarge 71 = .ok (.aload_n 0, 1) := by decide +kernel
theorem dX1_takeLarge_72 : decode cX1_takeLarge 72 = .ok (.iload_n 2, 1) := by decide +kernel
theorem dX1_takeLarge_73 : decode cX1_takeLarge 73 = .ok (.iconst 1, 1) := by decide +kernel
theorem dX1_takeLarge_74 : decode cX1_takeLarge 74 = .ok (.iadd, 1) := by decide +kernel
theorem dX1_takeLarge_75 : decode cX1_takeLarge 75 = .ok (.invokevirtual 64, 3) := by decide +kernel
theorem dX1_takeLarge_78 : decode cX1_takeLarge 78 = .ok (.iload_n 2, 1) := by decide +kernel
theorem dX1_takeLarge_79 : decode cX1_takeLarge 79 = .ok (.ireturn, 1) := by decide +kernel
theorem dX1_takeLarge_80 : decode cX1_takeLarge 80 = .ok (.aload_n 0, 1) := by decide +kernel
theorem dX1_takeLarge_81 : decode cX1_takeLarge 81 = .ok (.iload_n 1, 1) := by decide +kernel
theorem dX1_takeLarge_82 : decode cX1_takeLarge 82 = .ok (.invokevirtual 61, 3) := by decide +kernel
theorem dX1_takeLarge_85 : decode cX1_takeLarge 85 = .ok (.ireturn, 1) := by decide +kernel
theorem dX1_grow_0 : decode cX1_grow 0 = .ok (.iload_n 1, 1) := by decide +kernel
theorem dX1_grow_1 : decode cX1_grow 1 = .ok (.bipush 15, 2) := by decide +kernel
theorem dX1_grow_3 : decode cX1_grow 3 = .ok (.iadd, 1) := by decide +kernel
theorem dX1_grow_4 : decode cX1_grow 4 = .ok (.bipush 16, 2) := by decide +kernel
theorem dX1_grow_6 : decode cX1_grow 6 = .ok (.idiv, 1) := by decide +kernel
theorem dX1_grow_7 : decode cX1_grow 7 = .ok (.bipush 16, 2) := by decide +kernel
theorem dX1_grow_9 : decode cX1_grow 9 = .ok (.imul, 1) := by decide +kernel
theorem dX1_grow_10 : decode cX1_grow 10 = .ok (.istore_n 2, 1) := by decide +kernel
theorem dX1_grow_11 : decode cX1_grow 11 = .ok (.aload_n 0, 1) := by decide +kernel
theorem dX1_grow_12 : decode cX1_grow 12 = .ok (.getfield 40, 3) := by decide +kernel
theorem dX1_grow_15 : decode cX1_grow 15 = .ok (.iload_n 2, 1) := by decide +kernel
theorem dX1_grow_16 : decode cX1_grow 16 = .ok (.iadd, 1) := by decide +kernel
theorem dX1_grow_17 : decode cX1_grow 17 = .ok (.aload_n 0, 1) := by decide +kernel
theorem dX1_grow_18 : decode cX1_grow 18 = .ok (.getfield 30, 3) := by decide +kernel
theorem dX1_grow_21 : decode cX1_grow 21 = .ok (.if_icmp .le 5, 3) := by decide +kernel
theorem dX1_grow_24 : decode cX1_grow 24 = .ok (.iconst 0, 1) := by decide +kernel
theorem dX1_grow_25 : decode cX1_grow 25 = .ok (.ireturn, 1) := by decide +kernel
theorem dX1_grow_26 : decode cX1_grow 26 = .ok (.aload_n 0, 1) := by decide +kernel
theorem dX1_grow_27 : decode cX1_grow 27 = .ok (.invokevirtual 68, 3) := by decide +kernel
theorem dX1_grow_30 : decode cX1_grow 30 = .ok (.istore_n 3, 1) := by decide +kernel
theorem dX1_grow_31 : decode cX1_grow 31 = .ok (.iload_n 3, 1) := by decide +kernel
theorem dX1_grow_32 : decode cX1_grow 32 = .ok (.ifCond .ge 51, 3) := by decide +kernel
theorem dX1_grow_35 : decode cX1_grow 35 = .ok (.aload_n 0, 1) := by decide +kernel
theorem dX1_grow_36 : decode cX1_grow 36 = .ok (.getfield 13, 3) := by decide +kernel
theorem dX1_grow_39 : decode cX1_grow 39 = .ok (.aload_n 0, 1) := by decide +kernel
theorem dX1_grow_40 : decode cX1_grow 40 = .ok (.getfield 33, 3) := by decide +kernel
theorem dX1_grow_43 : decode cX1_grow 43 = .ok (.aload_n 0, 1) := by decide +kernel
theorem dX1_grow_44 : decode cX1_grow 44 = .ok (.getfield 40, 3) := by decide +kernel
theorem dX1_grow_47 : decode cX1_grow 47 = .ok (.iastore, 1) := by decide +kernel
theorem dX1_grow_48 : decode cX1_grow 48 = .ok (.aload_n 0, 1) := by decide +kernel
theorem dX1_grow_49 : decode cX1_grow 49 = .ok (.getfield 16, 3) := by decide +kernel
theorem dX1_grow_52 : decode cX1_grow 52 = .ok (.aload_n 0, 1) := by decide +kernel
theorem dX1_grow_53 : decode cX1_grow 53 = .ok (.getfield 33, 3) := by decide +kernel
theorem dX1_grow_56 : decode cX1_grow 56 = .ok (.iconst 0, 1) := by decide +kernel
theorem dX1_grow_57 : decode cX1_grow 57 = .ok (.iastore, 1) := by decide +kernel
theorem dX1_grow_58 : decode cX1_grow 58 = .ok (.aload_n 0, 1) := by decide +kernel
theorem dX1_grow_59 : decode cX1_grow 59 = .ok (.getfield 19, 3) := by decide +kernel
theorem dX1_grow_62 : decode cX1_grow 62 = .ok (.aload_n 0, 1) := by decide +kernel
theorem dX1_grow_63 : decode cX1_grow 63 = .ok (.getfield 33, 3) := by decide +kernel
theorem dX1_grow_66 : decode cX1_grow 66 = .ok (.iconst 0, 1) := by decide +kernel
theorem dX1_grow_67 : decode cX1_grow 67 = .ok (.bastore, 1) := by decide +kernel
theorem dX1_grow_68 : decode cX1_grow 68 = .ok (.aload_n 0, 1) := by decide +kernel
theorem dX1_grow_69 : decode cX1_grow 69 = .ok (.getfield 33, 3) := by decide +kernel
theorem dX1_grow_72 : decode cX1_grow 72 = .ok (.istore_n 3, 1) := by decide +kernel
theorem dX1_grow_73 : decode cX1_grow 73 = .ok (.aload_n 0, 1) := by decide +kernel
theorem dX1_grow_74 : decode cX1_grow 74 = .ok (.dup, 1) := by decide +kernel
theorem dX1_grow_75 : decode cX1_grow 75 = .ok (.getfield 33, 3) := by decide +kernel
theorem dX1_grow_78 : decode cX1_grow 78 = .ok (.iconst 1, 1) := by decide +kernel
theorem dX1_grow_79 : decode cX1_grow 79 = .ok (.iadd, 1) := by decide +kernel
theorem dX1_grow_80 : decode cX1_grow 80 = .ok (.putfield 33, 3) := by decide +kernel
theorem dX1_grow_83 : decode cX1_grow 83 = .ok (.aload_n 0, 1) := by decide +kernel
theorem dX1_grow_84 : decode cX1_grow 84 = .ok (.getfield 16, 3) := by decide +kernel
theorem dX1_grow_87 : decode cX1_grow 87 = .ok (.iload_n 3, 1) := by decide +kernel
theorem dX1_grow_88 : decode cX1_grow 88 = .ok (.aload_n 0, 1) := by decide +kernel
theorem dX1_grow_89 : decode cX1_grow 89 = .ok (.getfield 16, 3) := by decide +kernel
theorem dX1_grow_92 : decode cX1_grow 92 = .ok (.iload_n 3, 1) := by decide +kernel
theorem dX1_grow_93 : decode cX1_grow 93 = .ok (.iaload, 1) := by decide +kernel
theorem dX1_grow_94 : decode cX1_grow 94 = .ok (.iload_n 2, 1) := by decide +kernel
theorem dX1_grow_95 : decode cX1_grow 95 = .ok (.iadd, 1) := by decide +kernel
theorem dX1_grow_96 : decode cX1_grow 96 = .ok (.iastore, 1) := by decide +kernel
theorem dX1_grow_97 : decode cX1_grow 97 = .ok (.aload_n 0, 1) := by decide +kernel
theorem dX1_grow_98 : decode cX1_grow 98 = .ok (.getfield 40, 3) := by decide +kernel
theorem dX1_grow_101 : decode cX1_grow 101 = .ok (.istore 4, 2) := by decide +kernel
theorem dX1_grow_103 : decode cX1_grow 103 = .ok (.iload 4, 2) := by decide +kernel
theorem dX1_grow_105 : decode cX1_grow 105 = .ok (.aload_n 0, 1) := by decide +kernel
theorem dX1_grow_106 : decode cX1_grow 106 = .ok (.getfield 40, 3) := by decide +kernel
theorem dX1_grow_109 : decode cX1_grow 109 = .ok (.iload_n 2, 1) := by decide +kernel
theorem dX1_grow_110 : decode cX1_grow 110 = .ok (.iadd, 1) := by decide +kernel
theorem dX1_grow_111 : decode cX1_grow 111 = .ok (.if_icmp .ge 17, 3) := by decide +kernel
theorem dX1_grow_114 : decode cX1_grow 114 = .ok (.aload_n 0, 1) := by decide +kernel
theorem dX1_grow_115 : decode cX1_grow 115 = .ok (.getfield 7, 3) := by decide +kernel
theorem dX1_grow_118 : decode cX1_grow 118 = .ok (.iload 4, 2) := by decide +kernel
theorem dX1_grow_120 : decode cX1_grow 120 = .ok (.iconst 0, 1) := by decide +kernel
theorem dX1_grow_121 : decode cX1_grow 121 = .ok (.iastore, 1) := by decide +kernel
theorem dX1_grow_122 : decode cX1_grow 122 = .ok (.iinc 4 1, 3) := by decide +kernel
theorem dX1_grow_125 : decode cX1_grow 125 = .ok (.goto (-22), 3) := by decide +kernel
theorem dX1_grow_128 : decode cX1_grow 128 = .ok (.aload_n 0, 1) := by decide +kernel
theorem dX1_grow_129 : decode cX1_grow 129 = .ok (.aload_n 0, 1) := by decide +kernel
theorem dX1_grow_130 : decode cX1_grow 130 = .ok (.getfield 40, 3) := by decide +kernel
theorem dX1_grow_133 : decode cX1_grow 133 = .ok (.iload_n 2, 1) := by decide +kernel
theorem dX1_grow_134 : decode cX1_grow 134 = .ok (.iadd, 1) := by decide +kernel
theorem dX1_grow_135 : decode cX1_grow 135 = .ok (.putfield 40, 3) := by decide +kernel
theorem dX1_grow_138 : decode cX1_grow 138 = .ok (.iconst 1, 1) := by decide +kernel
theorem dX1_grow_139 : decode cX1_grow 139 = .ok (.ireturn, 1) := by decide +kernel
theorem dX1_take_0 : decode cX1_take 0 = .ok (.iload_n 1, 1) := by decide +kernel
theorem dX1_take_1 : decode cX1_take 1 = .ok (.bipush 16, 2) := by decide +kernel
theorem dX1_take_3 : decode cX1_take 3 = .ok (.if_icmp .ge 11, 3) := by decide +kernel
theorem dX1_take_6 : decode cX1_take 6 = .ok (.aload_n 0, 1) := by decide +kernel
theorem dX1_take_7 : decode cX1_take 7 = .ok (.iload_n 1, 1) := by decide +kernel
theorem dX1_take_8 : decode cX1_take 8 = .ok (.invokevirtual 72, 3) := by decide +kernel
theorem dX1_take_11 : decode cX1_take 11 = .ok (.goto 8, 3) := by decide +kernel
theorem dX1_take_14 : decode cX1_take 14 = .ok (.aload_n 0, 1) := by decide +kernel
theorem dX1_take_15 : decode cX1_take 15 = .ok (.iload_n 1, 1) := by decide +kernel
theorem dX1_take_16 : decode cX1_take 16 = .ok (.invokevirtual 75, 3) := by decide +kernel
theorem dX1_take_19 : decode cX1_take 19 = .ok (.istore_n 2, 1) := by decide +kernel
theorem dX1_take_20 : decode cX1_take 20 = .ok (.iload_n 2, 1) := by decide +kernel
theorem dX1_take_21 : decode cX1_take 21 = .ok (.ifCond .lt 5, 3) := by decide +kernel
theorem dX1_take_24 : decode cX1_take 24 = .ok (.iload_n 2, 1) := by decide +kernel
theorem dX1_take_25 : decode cX1_take 25 = .ok (.ireturn, 1) := by decide +kernel
theorem dX1_take_26 : decode cX1_take 26 = .ok (.aload_n 0, 1) := by decide +kernel
theorem dX1_take_27 : decode cX1_take 27 = .ok (.invokevirtual 68, 3) := by decide +kernel
theorem dX1_take_30 : decode cX1_take 30 = .ok (.istore_n 3, 1) := by decide +kernel
theorem dX1_take_31 : decode cX1_take 31 = .ok (.iload_n 3, 1) := by decide +kernel
theorem dX1_take_32 : decode cX1_take 32 = .ok (.ifCond .ge 7, 3) := by decide +kernel
theorem dX1_take_35 : decode cX1_take 35 = .ok (.iconst 0, 1) := by decide +kernel
theorem dX1_take_36 : decode cX1_take 36 = .ok (.goto 9, 3) := by decide +kernel
theorem dX1_take_39 : decode cX1_take 39 = .ok (.aload_n 0, 1) := by decide +kernel
theorem dX1_take_40 : decode cX1_take 40 = .ok (.getfield 16, 3) := by decide +kernel
theorem dX1_take_43 : decode cX1_take 43 = .ok (.iload_n 3, 1) := by decide +kernel
theorem dX1_take_44 : decode cX1_take 44 = .ok (.iaload, 1) := by decide +kernel
theorem dX1_take_45 : decode cX1_take 45 = .ok (.istore 4, 2) := by decide +kernel
theorem dX1_take_47 : decode cX1_take 47 = .ok (.iload 4, 2) := by decide +kernel
theorem dX1_take_49 : decode cX1_take 49 = .ok (.iload_n 1, 1) := by decide +kernel
theorem dX1_take_50 : decode cX1_take 50 = .ok (.if_icmp .ge 16, 3) := by decide +kernel
theorem dX1_take_53 : decode cX1_take 53 = .ok (.aload_n 0, 1) := by decide +kernel
theorem dX1_take_54 : decode cX1_take 54 = .ok (.iload_n 1, 1) := by decide +kernel
theorem dX1_take_55 : decode cX1_take 55 = .ok (.iload 4, 2) := by decide +kernel
theorem dX1_take_57 : decode cX1_take 57 = .ok (.isub, 1) := by decide +kernel
theorem dX1_take_58 : decode cX1_take 58 = .ok (.invokevirtual 78, 3) := by decide +kernel
theorem dX1_take_61 : decode cX1_take 61 = .ok (.ifCond .ne 5, 3) := by decide +kernel
theorem dX1_take_64 : decode cX1_take 64 = .ok (.iconst (-1), 1) := by decide +kernel
theorem dX1_take_65 : decode cX1_take 65 = .ok (.ireturn, 1) := by decide +kernel
theorem dX1_take_66 : decode cX1_take 66 = .ok (.aload_n 0, 1) := by decide +kernel
theorem dX1_take_67 : decode cX1_take 67 = .ok (.invokevirtual 68, 3) := by decide +kernel
theorem dX1_take_70 : decode cX1_take 70 = .ok (.istore_n 3, 1) := by decide +kernel
theorem dX1_take_71 : decode cX1_take 71 = .ok (.aload_n 0, 1) := by decide +kernel
theorem dX1_take_72 : decode cX1_take 72 = .ok (.iload_n 3, 1) := by decide +kernel
theorem dX1_take_73 : decode cX1_take 73 = .ok (.iload_n 1, 1) := by decide +kernel
theorem dX1_take_74 : decode cX1_take 74 = .ok (.invokevirtual 53, 3) := by decide +kernel
theorem dX1_take_77 : decode cX1_take 77 = .ok (.istore 5, 2) := by decide +kernel
theorem dX1_take_79 : decode cX1_take 79 = .ok (.iload_n 3, 1) := by decide +kernel
theorem dX1_take_80 : decode cX1_take 80 = .ok (.ireturn, 1) := by decide +kernel
theorem dX1_give_0 : decode cX1_give 0 = .ok (.iload_n 1, 1) := by decide +kernel
theorem dX1_give_1 : decode cX1_give 1 = .ok (.istore_n 2, 1) := by decide +kernel
theorem dX1_give_2 : decode cX1_give 2 = .ok (.aload_n 0, 1) := by decide +kernel
theorem dX1_give_3 : decode cX1_give 3 = .ok (.getfield 19, 3) := by decide +kernel
theorem dX1_give_6 : decode cX1_give 6 = .ok (.iload_n 2, 1) := by decide +kernel
theorem dX1_give_7 : decode cX1_give 7 = .ok (.iconst 0, 1) := by decide +kernel
theorem dX1_give_8 : decode cX1_give 8 = .ok (.bastore, 1) := by decide +kernel
theorem dX1_give_9 : decode cX1_give 9 = .ok (.iconst 0, 1) := by decide +kernel
theorem dX1_give_10 : decode cX1_give 10 = .ok (.istore_n 3, 1) := by decide +kernel
theorem dX1_give_11 : decode cX1_give 11 = .ok (.iload_n 2, 1) := by decide +kernel
theorem dX1_give_12 : decode cX1_give 12 = .ok (.iconst 1, 1) := by decide +kernel
theorem dX1_give_13 : decode cX1_give 13 = .ok (.iadd, 1) := by decide +kernel
theorem dX1_give_14 : decode cX1_give 14 = .ok (.aload_n 0, 1) := by decide +kernel
theorem dX1_give_15 : decode cX1_give 15 = .ok (.getfield 33, 3) := by decide +kernel
theorem dX1_give_18 : decode cX1_give 18 = .ok (.if_icmp .ge 40, 3) := by decide +kernel
theorem dX1_give_21 : decode cX1_give 21 = .ok (.aload_n 0, 1) := by decide +kernel
theorem dX1_give_22 : decode cX1_give 22 = .ok (.getfield 19, 3) := by decide +kernel
theorem dX1_give_25 : decode cX1_give 25 = .ok (.iload_n 2, 1) := by decide +kernel
theorem dX1_give_26 : decode cX1_give 26 = .ok (.iconst 1, 1) := by decide +kernel
theorem dX1_give_27 : decode cX1_give 27 = .ok (.iadd, 1) := by decide +kernel
theorem dX1_give_28 : decode cX1_give 28 = .ok (.baload, 1) := by decide +kernel
theorem dX1_give_29 : decode cX1_give 29 = .ok (.ifCond .ne 29, 3) := by decide +kernel
theorem dX1_give_32 : decode cX1_give 32 = .ok (.aload_n 0, 1) := by decide +kernel
theorem dX1_give_33 : decode cX1_give 33 = .ok (.getfield 13, 3) := by decide +kernel
theorem dX1_give_36 : decode cX1_give 36 = .ok (.iload_n 2, 1) := by decide +kernel
theorem dX1_give_37 : decode cX1_give 37 = .ok (.iconst 1, 1) := by decide +kernel
theorem dX1_give_38 : decode cX1_give 38 = .ok (.iadd, 1) := by decide +kernel
theorem dX1_give_39 : decode cX1_give 39 = .ok (.iaload, 1) := by decide +kernel
theorem dX1_give_40 : decode cX1_give 40 = .ok (.aload_n 0, 1) := by decide +kernel
theorem dX1_give_41 : decode cX1_give 41 = .ok (.getfield 26, 3) := by decide +kernel
theorem dX1_give_44 : decode cX1_give 44 = .ok (.if_icmp .ne 7, 3) := by decide +kernel
theorem dX1_give_47 : decode cX1_give 47 = .ok (.iconst 1, 1) := by decide +kernel
theorem dX1_give_48 : decode cX1_give 48 = .ok (.goto 4, 3) := by decide +kernel
theorem dX1_give_51 : decode cX1_give 51 = .ok (.iconst 0, 1) := by decide +kernel
theorem dX1_give_52 : decode cX1_give 52 = .ok (.istore_n 3, 1) := by decide +kernel
theorem dX1_give_53 : decode cX1_give 53 = .ok (.aload_n 0, 1) := by decide +kernel
theorem dX1_give_54 : decode cX1_give 54 = .ok (.iload_n 2, 1) := by decide +kernel
theorem dX1_give_55 : decode cX1_give 55 = .ok (.invokevirtual 82, 3) := by decide +kernel
theorem dX1_give_58 : decode cX1_give 58 = .ok (.iload_n 2, 1) := by decide +kernel
theorem dX1_give_59 : decode cX1_give 59 = .ok (.ifCond .le 47, 3) := by decide +kernel
theorem dX1_give_62 : decode cX1_give 62 = .ok (.aload_n 0, 1) := by decide +kernel
theorem dX1_give_63 : decode cX1_give 63 = .ok (.getfield 19, 3) := by decide +kernel
theorem dX1_give_66 : decode cX1_give 66 = .ok (.iload_n 2, 1) := by decide +kernel
theorem dX1_give_67 : decode cX1_give 67 = .ok (.iconst 1, 1) := by decide +kernel
theorem dX1_give_68 : decode cX1_give 68 = .ok (.isub, 1) := by decide +kernel
theorem dX1_give_69 : decode cX1_give 69 = .ok (.baload, 1) := by decide +kernel
theorem dX1_give_70 : decode cX1_give 70 = .ok (.ifCond .ne 36, 3) := by decide +kernel
theorem dX1_give_73 : decode cX1_give 73 = .ok (.iload_n 3, 1) := by decide +kernel
theorem dX1_give_74 : decode cX1_give 74 = .ok (.ifCond .ne 18, 3) := by decide +kernel
theorem dX1_give_77 : decode cX1_give 77 = .ok (.aload_n 0, 1) := by decide +kernel
theorem dX1_give_78 : decode cX1_give 78 = .ok (.getfield 13, 3) := by decide +kernel
theorem dX1_give_81 : decode cX1_give 81 = .ok (.iload_n 2, 1) := by decide +kernel
theorem dX1_give_82 : decode cX1_give 82 = .ok (.iconst 1, 1) := by decide +kernel
theorem dX1_give_83 : decode cX1_give 83 = .ok (.isub, 1) := by decide +kernel
theorem dX1_give_84 : decode cX1_give 84 = .ok (.iaload, 1) := by decide +kernel
theorem dX1_give_85 : decode cX1_give 85 = .ok (.aload_n 0, 1) := by decide +kernel
theorem dX1_give_86 : decode cX1_give 86 = .ok (.getfield 26, 3) := by decide +kernel
theorem dX1_give_89 : decode cX1_give 89 = .ok (.if_icmp .ne 7, 3) := by decide +kernel
theorem dX1_give_92 : decode cX1_give 92 = .ok (.iconst 1, 1) := by decide +kernel
theorem dX1_give_93 : decode cX1_give 93 = .ok (.goto 4, 3) := by decide +kernel
theorem dX1_give_96 : decode cX1_give 96 = .ok (.iconst 0, 1) := by decide +kernel
theorem dX1_give_97 : decode cX1_give 97 = .ok (.istore_n 3, 1) := by decide +kernel
theorem dX1_give_98 : decode cX1_give 98 = .ok (.iinc 2 (-1), 3) := by decide +kernel
theorem dX1_give_101 : decode cX1_give 101 = .ok (.aload_n 0, 1) := by decide +kernel
theorem dX1_give_102 : decode cX1_give 102 = .ok (.iload_n 2, 1) := by decide +kernel
theorem dX1_give_103 : decode cX1_give 103 = .ok (.invokevirtual 82, 3) := by decide +kernel
theorem dX1_give_106 : decode cX1_give 106 = .ok (.aload_n 0, 1) := by decide +kernel
theorem dX1_give_107 : decode cX1_give 107 = .ok (.iload_n 3, 1) := by decide +kernel
theorem dX1_give_108 : decode cX1_give 108 = .ok (.ifCond .eq 7, 3) := by decide +kernel
theorem dX1_give_111 : decode cX1_give 111 = .ok (.iconst (-1), 1) := by decide +kernel
theorem dX1_give_112 : decode cX1_give 112 = .ok (.goto 7, 3) := by decide +kernel
theorem dX1_give_115 : decode cX1_give 115 = .ok (.aload_n 0, 1) := by decide +kernel
theorem dX1_give_116 : decode cX1_give 116 = .ok (.getfield 26, 3) := by decide +kernel
theorem dX1_give_119 : decode cX1_give 119 = .ok (.putfield 26, 3) := by decide +kernel
theorem dX1_give_122 : decode cX1_give 122 = .ok (.aload_n 0, 1) := by decide +kernel
theorem dX1_give_123 : decode cX1_give 123 = .ok (.getfield 13, 3) := by decide +kernel
theorem dX1_give_126 : decode cX1_give 126 = .ok (.iload_n 2, 1) := by decide +kernel
theorem dX1_give_127 : decode cX1_give 127 = .ok (.iaload, 1) := by decide +kernel
theorem dX1_give_128 : decode cX1_give 128 = .ok (.aload_n 0, 1) := by decide +kernel
theorem dX1_give_129 : decode cX1_give 129 = .ok (.getfield 16, 3) := by decide +kernel
theorem dX1_give_132 : decode cX1_give 132 = .ok (.iload_n 2, 1) := by decide +kernel
theorem dX1_give_133 : decode cX1_give 133 = .ok (.iaload, 1) := by decide +kernel
theorem dX1_give_134 : decode cX1_give 134 = .ok (.iadd, 1) := by decide +kernel
theorem dX1_give_135 : decode cX1_give 135 = .ok (.aload_n 0, 1) := by decide +kernel
theorem dX1_give_136 : decode cX1_give 136 = .ok (.getfield 40, 3) := by decide +kernel
theorem dX1_give_139 : decode cX1_give 139 = .ok (.if_icmp .eq 25, 3) := by decide +kernel
theorem dX1_give_142 : decode cX1_give 142 = .ok (.iload_n 3, 1) := by decide +kernel
theorem dX1_give_143 : decode cX1_give 143 = .ok (.ifCond .eq 16, 3) := by decide +kernel
theorem dX1_give_146 : decode cX1_give 146 = .ok (.aload_n 0, 1) := by decide +kernel
theorem dX1_give_147 : decode cX1_give 147 = .ok (.aload_n 0, 1) := by decide +kernel
theorem dX1_give_148 : decode cX1_give 148 = .ok (.getfield 13, 3) := by decide +kernel
theorem dX1_give_151 : decode cX1_give 151 = .ok (.iload_n 2, 1) := by decide +kernel
theorem dX1_give_152 : decode cX1_give 152 = .ok (.iaload, 1) := by decide +kernel
theorem dX1_give_153 : decode cX1_give 153 = .ok (.putfield 26, 3) := by decide +kernel
theorem dX1_give_156 : decode cX1_give 156 = .ok (.goto 8, 3) := by decide +kernel
theorem dX1_give_159 : decode cX1_give 159 = .ok (.aload_n 0, 1) := by decide +kernel
theorem dX1_give_160 : decode cX1_give 160 = .ok (.iload_n 2, 1) := by decide +kernel
theorem dX1_give_161 : decode cX1_give 161 = .ok (.invokevirtual 64, 3) := by decide +kernel
theorem dX1_give_164 : decode cX1_give 164 = .ok (.return_, 1) := by decide +kernel
theorem dX1_malloc_0 : decode cX1_malloc 0 = .ok (.iload_n 1, 1) := by decide +kernel
theorem dX1_malloc_1 : decode cX1_malloc 1 = .ok (.sipush 511, 3) := by decide +kernel
theorem dX1_malloc_4 : decode cX1_malloc 4 = .ok (.if_icmp .le 5, 3) := by decide +kernel
theorem dX1_malloc_7 : decode cX1_malloc 7 = .ok (.iconst 0, 1) := by decide +kernel
theorem dX1_malloc_8 : decode cX1_malloc 8 = .ok (.ireturn, 1) := by decide +kernel
theorem dX1_malloc_9 : decode cX1_malloc 9 = .ok (.aload_n 0, 1) := by decide +kernel
theorem dX1_malloc_10 : decode cX1_malloc 10 = .ok (.iload_n 1, 1) := by decide +kernel
theorem dX1_malloc_11 : decode cX1_malloc 11 = .ok (.iconst 1, 1) := by decide +kernel
theorem dX1_malloc_12 : decode cX1_malloc 12 = .ok (.if_icmp .ge 7, 3) := by decide +kernel
theorem dX1_malloc_15 : decode cX1_malloc 15 = .ok (.iconst 2, 1) := by decide +kernel
theorem dX1_malloc_16 : decode cX1_malloc 16 = .ok (.goto 6, 3) := by decide +kernel
theorem dX1_malloc_19 : decode cX1_malloc 19 = .ok (.iload_n 1, 1) := by decide +kernel
theorem dX1_malloc_20 : decode cX1_malloc 20 = .ok (.iconst 1, 1) := by decide +kernel
theorem dX1_malloc_21 : decode cX1_malloc 21 = .ok (.iadd, 1) := by decide +kernel
theorem dX1_malloc_22 : decode cX1_malloc 22 = .ok (.invokevirtual 85, 3) := by decide +kernel
theorem dX1_malloc_25 : decode cX1_malloc 25 = .ok (.istore_n 2, 1) := by decide +kernel
theorem dX1_malloc_26 : decode cX1_malloc 26 = .ok (.iload_n 2, 1) := by decide +kernel
theorem dX1_malloc_27 : decode cX1_malloc 27 = .ok (.ifCond .ge 7, 3) := by decide +kernel
theorem dX1_malloc_30 : decode cX1_malloc 30 = .ok (.iconst 0, 1) := by decide +kernel
theorem dX1_malloc_31 : decode cX1_malloc 31 = .ok (.goto 11, 3) := by decide +kernel
theorem dX1_malloc_34 : decode cX1_malloc 34 = .ok (.aload_n 0, 1) := by decide +kernel
theorem dX1_malloc_35 : decode cX1_malloc 35 = .ok (.getfield 13, 3) := by decide +kernel
theorem dX1_malloc_38 : decode cX1_malloc 38 = .ok (.iload_n 2, 1) := by decide +kernel
theorem dX1_malloc_39 : decode cX1_malloc 39 = .ok (.iaload, 1) := by decide +kernel
theorem dX1_malloc_40 : decode cX1_malloc 40 = .ok (.iconst 1, 1) := by decide +kernel
theorem dX1_malloc_41 : decode cX1_malloc 41 = .ok (.iadd, 1) := by decide +kernel
theorem dX1_malloc_42 : decode cX1_malloc 42 = .ok (.ireturn, 1) := by decide +kernel
theorem dX1_calloc_0 : decode cX1_calloc 0 = .ok (.aload_n 0, 1) := by decide +kernel
theorem dX1_calloc_1 : decode cX1_calloc 1 = .ok (.iload_n 1, 1) := by decide +kernel
theorem dX1_calloc_2 : decode cX1_calloc 2 = .ok (.invokevirtual 88, 3) := by decide +kernel
theorem dX1_calloc_5 : decode cX1_calloc 5 = .ok (.istore_n 2, 1) := by decide +kernel
theorem dX1_calloc_6 : decode cX1_calloc 6 = .ok (.aload_n 0, 1) := by decide +kernel
theorem dX1_calloc_7 : decode cX1_calloc 7 = .ok (.iload_n 2, 1) := by decide +kernel
theorem dX1_calloc_8 : decode cX1_calloc 8 = .ok (.invokevirtual 91, 3) := by decide +kernel
theorem dX1_calloc_11 : decode cX1_calloc 11 = .ok (.istore_n 3, 1) := by decide +kernel
theorem dX1_calloc_12 : decode cX1_calloc 12 = .ok (.iload_n 2, 1) := by decide +kernel
theorem dX1_calloc_13 : decode cX1_calloc 13 = .ok (.istore 4, 2) := by decide +kernel
theorem dX1_calloc_15 : decode cX1_calloc 15 = .ok (.iload_n 3, 1) := by decide +kernel
theorem dX1_calloc_16 : decode cX1_calloc 16 = .ok (.ifCond .lt 35, 3) := by decide +kernel
theorem dX1_calloc_19 : decode cX1_calloc 19 = .ok (.iload 4, 2) := by decide +kernel
theorem dX1_calloc_21 : decode cX1_calloc 21 = .ok (.aload_n 0, 1) := by decide +kernel
theorem dX1_calloc_22 : decode cX1_calloc 22 = .ok (.getfield 13, 3) := by decide +kernel
theorem dX1_calloc_25 : decode cX1_calloc 25 = .ok (.iload_n 3, 1) := by decide +kernel
theorem dX1_calloc_26 : decode cX1_calloc 26 = .ok (.iaload, 1) := by decide +kernel
theorem dX1_calloc_27 : decode cX1_calloc 27 = .ok (.aload_n 0, 1) := by decide +kernel
theorem dX1_calloc_28 : decode cX1_calloc 28 = .ok (.getfield 16, 3) := by decide +kernel
theorem dX1_calloc_31 : decode cX1_calloc 31 = .ok (.iload_n 3, 1) := by decide +kernel
theorem dX1_calloc_32 : decode cX1_calloc 32 = .ok (.iaload, 1) := by decide +kernel
theorem dX1_calloc_33 : decode cX1_calloc 33 = .ok (.iadd, 1) := by decide +kernel
theorem dX1_calloc_34 : decode cX1_calloc 34 = .ok (.if_icmp .ge 17, 3) := by decide +kernel
theorem dX1_calloc_37 : decode cX1_calloc 37 = .ok (.aload_n 0, 1) := by decide +kernel
theorem dX1_calloc_38 : decode cX1_calloc 38 = .ok (.getfield 7, 3) := by decide +kernel
theorem dX1_calloc_41 : decode cX1_calloc 41 = .ok (.iload 4, 2) := by decide +kernel
theorem dX1_calloc_43 : decode cX1_calloc 43 = .ok (.iconst 0, 1) := by decide +kernel
theorem dX1_calloc_44 : decode cX1_calloc 44 = .ok (.iastore, 1) := by decide +kernel
theorem dX1_calloc_45 : decode cX1_calloc 45 = .ok (.iinc 4 1, 3) := by decide +kernel
theorem dX1_calloc_48 : decode cX1_calloc 48 = .ok (.goto (-33), 3) := by decide +kernel
theorem dX1_calloc_51 : decode cX1_calloc 51 = .ok (.iload_n 2, 1) := by decide +kernel
theorem dX1_calloc_52 : decode cX1_calloc 52 = .ok (.ireturn, 1) := by decide +kernel
theorem dX1_free_0 : decode cX1_free 0 = .ok (.aload_n 0, 1) := by decide +kernel
theorem dX1_free_1 : decode cX1_free 1 = .ok (.iload_n 1, 1) := by decide +kernel
theorem dX1_free_2 : decode cX1_free 2 = .ok (.invokevirtual 91, 3) := by decide +kernel
theorem dX1_free_5 : decode cX1_free 5 = .ok (.istore_n 2, 1) := by decide +kernel
theorem dX1_free_6 : decode cX1_free 6 = .ok (.iload_n 2, 1) := by decide +kernel
theorem dX1_free_7 : decode cX1_free 7 = .ok (.ifCond .ge 5, 3) := by decide +kernel
theorem dX1_free_10 : decode cX1_free 10 = .ok (.iconst 0, 1) := by decide +kernel
theorem dX1_free_11 : decode cX1_free 11 = .ok (.ireturn, 1) := by decide +kernel
theorem dX1_free_12 : decode cX1_free 12 = .ok (.aload_n 0, 1) := by decide +kernel
theorem dX1_free_13 : decode cX1_free 13 = .ok (.iload_n 2, 1) := by decide +kernel
theorem dX1_free_14 : decode cX1_free 14 = .ok (.invokevirtual 94, 3) := by decide +kernel
theorem dX1_free_17 : decode cX1_free 17 = .ok (.iconst 1, 1) := by decide +kernel
theorem dX1_free_18 : decode cX1_free 18 = .ok (.ireturn, 1) := by decide +kernel
theorem dX1_shorten_0 : decode cX1_shorten 0 = .ok (.aload_n 0, 1) := by decide +kernel
theorem dX1_shorten_1 : decode cX1_shorten 1 = .ok (.getfield 16, 3) := by decide +kernel
theorem dX1_shorten_4 : decode cX1_shorten 4 = .ok (.iload_n 1, 1) := by decide +kernel
theorem dX1_shorten_5 : decode cX1_shorten 5 = .ok (.iaload, 1) := by decide +kernel
theorem dX1_shorten_6 : decode cX1_shorten 6 = .ok (.iload_n 2, 1) := by decide +kernel
theorem dX1_shorten_7 : decode cX1_shorten 7 = .ok (.isub, 1) := by decide +kernel
theorem dX1_shorten_8 : decode cX1_shorten 8 = .ok (.iconst 2, 1) := by decide +kernel
theorem dX1_shorten_9 : decode cX1_shorten 9 = .ok (.if_icmp .lt 16, 3) := by decide +kernel
theorem dX1_shorten_12 : decode cX1_shorten 12 = .ok (.aload_n 0, 1) := by decide +kernel
theorem dX1_shorten_13 : decode cX1_shorten 13 = .ok (.iload_n 1, 1) := by decide +kernel
theorem dX1_shorten_14 : decode cX1_shorten 14 = .ok (.iload_n 2, 1) := by decide +kernel
theorem dX1_shorten_15 : decode cX1_shorten 15 = .ok (.invokevirtual 46, 3) := by decide +kernel
theorem dX1_shorten_18 : decode cX1_shorten 18 = .ok (.aload_n 0, 1) := by decide +kernel
theorem dX1_shorten_19 : decode cX1_shorten 19 = .ok (.iload_n 1, 1) := by decide +kernel
theorem dX1_shorten_20 : decode cX1_shorten 20 = .ok (.iconst 1, 1) := by decide +kernel
theorem dX1_shorten_21 : decode cX1_shorten 21 = .ok (.iadd, 1) := by decide +kernel
theorem dX1_shorten_22 : decode cX1_shorten 22 = .ok (.invokevirtual 94, 3) := by decide +kernel
theorem dX1_shorten_25 : decode cX1_shorten 25 = .ok (.return_, 1) := by decide +kernel
theorem dX1_lengthen_0 : decode cX1_lengthen 0 = .ok (.aload_n 0, 1) := by decide +kernel
theorem dX1_lengthen_1 : decode cX1_lengthen 1 = .ok (.invokevirtual 68, 3) := by decide +kernel
theorem dX1_lengthen_4 : decode cX1_lengthen 4 = .ok (.istore_n 3, 1) := by decide +kernel
theorem dX1_lengthen_5 : decode cX1_lengthen 5 = .ok (.iload_n 1, 1) := by decide +kernel
theorem dX1_lengthen_6 : decode cX1_lengthen 6 = .ok (.aload_n 0, 1) := by decide +kernel
theorem dX1_lengthen_7 : decode cX1_lengthen 7 = .ok (.getfield 33, 3) := by decide +kernel
theorem dX1_lengthen_10 : decode cX1_lengthen 10 = .ok (.iconst 1, 1) := by decide +kernel
theorem dX1_lengthen_11 : decode cX1_lengthen 11 = .ok (.isub, 1) := by decide +kernel
theorem dX1_lengthen_12 : decode cX1_lengthen 12 = .ok (.if_icmp .ne 7, 3) := by decide +kernel
theorem dX1_lengthen_15 : decode cX1_lengthen 15 = .ok (.iconst 1, 1) := by decide +kernel
theorem dX1_lengthen_16 : decode cX1_lengthen 16 = .ok (.goto 4, 3) := by decide +kernel
theorem dX1_lengthen_19 : decode cX1_lengthen 19 = .ok (.iconst 0, 1) := by decide +kernel
theorem dX1_lengthen_20 : decode cX1_lengthen 20 = .ok (.istore 4, 2) := by decide +kernel
theorem dX1_lengthen_22 : decode cX1_lengthen 22 = .ok (.iload 4, 2) := by decide +kernel
theorem dX1_lengthen_24 : decode cX1_lengthen 24 = .ok (.ifCond .ne 10, 3) := by decide +kernel
theorem dX1_lengthen_27 : decode cX1_lengthen 27 = .ok (.iload_n 3, 1) := by decide +kernel
theorem dX1_lengthen_28 : decode cX1_lengthen 28 = .ok (.iload_n 1, 1) := by decide +kernel
theorem dX1_lengthen_29 : decode cX1_lengthen 29 = .ok (.iconst 1, 1) := by decide +kernel
theorem dX1_lengthen_30 : decode cX1_lengthen 30 = .ok (.iadd, 1) := by decide +kernel
theorem dX1_lengthen_31 : decode cX1_lengthen 31 = .ok (.if_icmp .ne 56, 3) := by decide +kernel
theorem dX1_lengthen_34 : decode cX1_lengthen 34 = .ok (.iload 4, 2) := by decide +kernel
theorem dX1_lengthen_36 : decode cX1_lengthen 36 = .ok (.ifCond .eq 12, 3) := by decide +kernel
theorem dX1_lengthen_39 : decode cX1_lengthen 39 = .ok (.aload_n 0, 1) := by decide +kernel
theorem dX1_lengthen_40 : decode cX1_lengthen 40 = .ok (.getfield 16, 3) := by decide +kernel
theorem dX1_lengthen_43 : decode cX1_lengthen 43 = .ok (.iload_n 1, 1) := by decide +kernel
theorem dX1_lengthen_44 : decode cX1_lengthen 44 = .ok (.iaload, 1) := by decide +kernel
theorem dX1_lengthen_45 : decode cX1_lengthen 45 = .ok (.goto 16, 3) := by decide +kernel
theorem dX1_lengthen_48 : decode cX1_lengthen 48 = .ok (.aload_n 0, 1) := by decide +kernel
theorem dX1_lengthen_49 : decode cX1_lengthen 49 = .ok (.getfield 16, 3) := by decide +kernel
theorem dX1_lengthen_52 : decode cX1_lengthen 52 = .ok (.iload_n 1, 1) := by decide +kernel
theorem dX1_lengthen_53 : decode cX1_lengthen 53 = .ok (.iaload, 1) := by decide +kernel
theorem dX1_lengthen_54 : decode cX1_lengthen 54 = .ok (.aload_n 0, 1) := by decide +kernel
theorem dX1_lengthen_55 : decode cX1_lengthen 55 = .ok (.getfield 16, 3) := by decide +kernel
theorem dX1_lengthen_58 : decode cX1_lengthen 58 = .ok (.iload_n 3, 1) := by decide +kernel
theorem dX1_lengthen_59 : decode cX1_lengthen 59 = .ok (.iaload, 1) := by decide +kernel
theorem dX1_lengthen_60 : decode cX1_lengthen 60 = .ok (.iadd, 1) := by decide +kernel
theorem dX1_lengthen_61 : decode cX1_lengthen 61 = .ok (.istore 5, 2) := by decide +kernel
theorem dX1_lengthen_63 : decode cX1_lengthen 63 = .ok (.iload 5, 2) := by decide +kernel
theorem dX1_lengthen_65 : decode cX1_lengthen 65 = .ok (.iload_n 2, 1) := by decide +kernel
theorem dX1_lengthen_66 : decode cX1_lengthen 66 = .ok (.if_icmp .ge 14, 3) := by decide +kernel
theorem dX1_lengthen_69 : decode cX1_lengthen 69 = .ok (.aload_n 0, 1) := by decide +kernel
theorem dX1_lengthen_70 : decode cX1_lengthen 70 = .ok (.iload_n 2, 1) := by decide +kernel
theorem dX1_lengthen_71 : decode cX1_lengthen 71 = .ok (.iload 5, 2) := by decide +kernel
theorem dX1_lengthen_73 : decode cX1_lengthen 73 = .ok (.isub, 1) := by decide +kernel
theorem dX1_lengthen_74 : decode cX1_lengthen 74 = .ok (.invokevirtual 78, 3) := by decide +kernel
theorem dX1_lengthen_77 : decode cX1_lengthen 77 = .ok (.ifCond .eq 7, 3) := by decide +kernel
theorem dX1_lengthen_80 : decode cX1_lengthen 80 = .ok (.iconst 1, 1) := by decide +kernel
theorem dX1_lengthen_81 : decode cX1_lengthen 81 = .ok (.goto 4, 3) := by decide +kernel
theorem dX1_lengthen_84 : decode cX1_lengthen 84 = .ok (.iconst 0, 1) := by decide +kernel
theorem dX1_lengthen_85 : decode cX1_lengthen 85 = .ok (.istore 6, 2) := by decide +kernel
theorem dX1_lengthen_87 : decode cX1_lengthen 87 = .ok (.iload_n 1, 1) := by decide +kernel
theorem dX1_lengthen_88 : decode cX1_lengthen 88 = .ok (.iconst 1, 1) := by decide +kernel
theorem dX1_lengthen_89 : decode cX1_lengthen 89 = .ok (.iadd, 1) := by decide +kernel
theorem dX1_lengthen_90 : decode cX1_lengthen 90 = .ok (.aload_n 0, 1) := by decide +kernel
theorem dX1_lengthen_91 : decode cX1_lengthen 91 = .ok (.getfield 33, 3) := by decide +kernel
theorem dX1_lengthen_94 : decode cX1_lengthen 94 = .ok (.if_icmp .ge 33, 3) := by decide +kernel
theorem dX1_lengthen_97 : decode cX1_lengthen 97 = .ok (.aload_n 0, 1) := by decide +kernel
theorem dX1_lengthen_98 : decode cX1_lengthen 98 = .ok (.getfield 19, 3) := by decide +kernel
theorem dX1_lengthen_101 : decode cX1_lengthen 101 = .ok (.iload_n 1, 1) := by decide +kernel
theorem dX1_lengthen_102 : decode cX1_lengthen 102 = .ok (.iconst 1, 1) := by decide +kernel
theorem dX1_lengthen_103 : decode cX1_lengthen 103 = .ok (.iadd, 1) := by decide +kernel
theorem dX1_lengthen_104 : decode cX1_lengthen 104 = .ok (.baload, 1) := by decide +kernel
theorem dX1_lengthen_105 : decode cX1_lengthen 105 = .ok (.ifCond .ne 22, 3) := by decide +kernel
theorem dX1_lengthen_108 : decode cX1_lengthen 108 = .ok (.aload_n 0, 1) := by decide +kernel
theorem dX1_lengthen_109 : decode cX1_lengthen 109 = .ok (.getfield 16, 3) := by decide +kernel
theorem dX1_lengthen_112 : decode cX1_lengthen 112 = .ok (.iload_n 1, 1) := by decide +kernel
theorem dX1_lengthen_113 : decode cX1_lengthen 113 = .ok (.iaload, 1) := by decide +kernel
theorem dX1_lengthen_114 : decode cX1_lengthen 114 = .ok (.aload_n 0, 1) := by decide +kernel
theorem dX1_lengthen_115 : decode cX1_lengthen 115 = .ok (.getfield 16, 3) := by decide +kernel
theorem dX1_lengthen_118 : decode cX1_lengthen 118 = .ok (.iload_n 1, 1) := by decide +kernel
theorem dX1_lengthen_119 : decode cX1_lengthen 119 = .ok (.iconst 1, 1) := by decide +kernel
theorem dX1_lengthen_120 : decode cX1_lengthen 120 = .ok (.iadd, 1) := by decide +kernel
theorem dX1_lengthen_121 : decode cX1_lengthen 121 = .ok (.iaload, 1) := by decide +kernel
theorem dX1_lengthen_122 : decode cX1_lengthen 122 = .ok (.iadd, 1) := by decide +kernel
theorem dX1_lengthen_123 : decode cX1_lengthen 123 = .ok (.iload_n 2, 1) := by decide +kernel
theorem dX1_lengthen_124 : decode cX1_lengthen 124 = .ok (.if_icmp .ge 5, 3) := by decide +kernel
theorem dX1_lengthen_127 : decode cX1_lengthen 127 = .ok (.iconst 0, 1) := by decide +kernel
theorem dX1_lengthen_128 : decode cX1_lengthen 128 = .ok (.ireturn, 1) := by decide +kernel
theorem dX1_lengthen_129 : decode cX1_lengthen 129 = .ok (.aload_n 0, 1) := by decide +kernel
theorem dX1_lengthen_130 : decode cX1_lengthen 130 = .ok (.iload_n 1, 1) := by decide +kernel
theorem dX1_lengthen_131 : decode cX1_lengthen 131 = .ok (.iconst 1, 1) := by decide +kernel
theorem dX1_lengthen_132 : decode cX1_lengthen 132 = .ok (.iadd, 1) := by decide +kernel
theorem dX1_lengthen_133 : decode cX1_lengthen 133 = .ok (.invokevirtual 50, 3) := by decide +kernel
theorem dX1_lengthen_136 : decode cX1_lengthen 136 = .ok (.istore 5, 2) := by decide +kernel
theorem dX1_lengthen_138 : decode cX1_lengthen 138 = .ok (.aload_n 0, 1) := by decide +kernel
theorem dX1_lengthen_139 : decode cX1_lengthen 139 = .ok (.iload_n 1, 1) := by decide +kernel
theorem dX1_lengthen_140 : decode cX1_lengthen 140 = .ok (.invokevirtual 82, 3) := by decide +kernel
theorem dX1_lengthen_143 : decode cX1_lengthen 143 = .ok (.aload_n 0, 1) := by decide +kernel
theorem dX1_lengthen_144 : decode cX1_lengthen 144 = .ok (.iload_n 1, 1) := by decide +kernel
theorem dX1_lengthen_145 : decode cX1_lengthen 145 = .ok (.iload_n 2, 1) := by decide +kernel
theorem dX1_lengthen_146 : decode cX1_lengthen 146 = .ok (.invokevirtual 53, 3) := by decide +kernel
theorem dX1_lengthen_149 : decode cX1_lengthen 149 = .ok (.istore 6, 2) := by decide +kernel
theorem dX1_lengthen_151 : decode cX1_lengthen 151 = .ok (.iload 5, 2) := by decide +kernel
theorem dX1_lengthen_153 : decode cX1_lengthen 153 = .ok (.iconst 3, 1) := by decide +kernel
theorem dX1_lengthen_154 : decode cX1_lengthen 154 = .ok (.if_icmp .ne 27, 3) := by decide +kernel
theorem dX1_lengthen_157 : decode cX1_lengthen 157 = .ok (.aload_n 0, 1) := by decide +kernel
theorem dX1_lengthen_158 : decode cX1_lengthen 158 = .ok (.iload 6, 2) := by decide +kernel
theorem dX1_lengthen_160 : decode cX1_lengthen 160 = .ok (.ifCond .eq 14, 3) := by decide +kernel
theorem dX1_lengthen_163 : decode cX1_lengthen 163 = .ok (.aload_n 0, 1) := by decide +kernel
theorem dX1_lengthen_164 : decode cX1_lengthen 164 = .ok (.getfield 13, 3) := by decide +kernel
theorem dX1_lengthen_167 : decode cX1_lengthen 167 = .ok (.iload_n 1, 1) := by decide +kernel
theorem dX1_lengthen_168 : decode cX1_lengthen 168 = .ok (.iconst 1, 1) := by decide +kernel
theorem dX1_lengthen_169 : decode cX1_lengthen 169 = .ok (.iadd, 1) := by decide +kernel
theorem dX1_lengthen_170 : decode cX1_lengthen 170 = .ok (.iaload, 1) := by decide +kernel
theorem dX1_lengthen_171 : decode cX1_lengthen 171 = .ok (.goto 4, 3) := by decide +kernel
theorem dX1_lengthen_174 : decode cX1_lengthen 174 = .ok (.iconst (-1), 1) := by decide +kernel
theorem dX1_lengthen_175 : decode cX1_lengthen 175 = .ok (.putfield 26, 3) := by decide +kernel
theorem dX1_lengthen_178 : decode cX1_lengthen 178 = .ok (.goto 21, 3) := by decide +kernel
theorem dX1_lengthen_181 : decode cX1_lengthen 181 = .ok (.iload 6, 2) := by decide +kernel
theorem dX1_lengthen_183 : decode cX1_lengthen 183 = .ok (.ifCond .eq 16, 3) := by decide +kernel
theorem dX1_lengthen_186 : decode cX1_lengthen 186 = .ok (.iload 5, 2) := by decide +kernel
theorem dX1_lengthen_188 : decode cX1_lengthen 188 = .ok (.iconst 4, 1) := by decide +kernel
theorem dX1_lengthen_189 : decode cX1_lengthen 189 = .ok (.if_icmp .eq 10, 3) := by decide +kernel
theorem dX1_lengthen_192 : decode cX1_lengthen 192 = .ok (.aload_n 0, 1) := by decide +kernel
theorem dX1_lengthen_193 : decode cX1_lengthen 193 = .ok (.iload_n 1, 1) := by decide +kernel
theorem dX1_lengthen_194 : decode cX1_lengthen 194 = .ok (.iconst 1, 1) := by decide +kernel
theorem dX1_lengthen_195 : decode cX1_lengthen 195 = .ok (.iadd, 1) := by decide +kernel
theorem dX1_lengthen_196 : decode cX1_lengthen 196 = .ok (.invokevirtual 64, 3) := by decide +kernel
theorem dX1_lengthen_199 : decode cX1_lengthen 199 = .ok (.iconst 1, 1) := by decide +kernel
theorem dX1_lengthen_200 : decode cX1_lengthen 200 = .ok (.ireturn, 1) := by decide +kernel
theorem dX1_moveTo_0 : decode cX1_moveTo 0 = .ok (.aload_n 0, 1) := by decide +kernel
theorem dX1_moveTo_1 : decode cX1_moveTo 1 = .ok (.iload_n 2, 1) := by decide +kernel
theorem dX1_moveTo_2 : decode cX1_moveTo 2 = .ok (.invokevirtual 85, 3) := by decide +kernel
theorem dX1_moveTo_5 : decode cX1_moveTo 5 = .ok (.istore_n 3, 1) := by decide +kernel
theorem dX1_moveTo_6 : decode cX1_moveTo 6 = .ok (.iload_n 3, 1) := by decide +kernel
theorem dX1_moveTo_7 : decode cX1_moveTo 7 = .ok (.ifCond .ge 5, 3) := by decide +kernel
theorem dX1_moveTo_10 : decode cX1_moveTo 10 = .ok (.iconst 0, 1) := by decide +kernel
theorem dX1_moveTo_11 : decode cX1_moveTo 11 = .ok (.ireturn, 1) := by decide +kernel
theorem dX1_moveTo_12 : decode cX1_moveTo 12 = .ok (.aload_n 0, 1) := by decide +kernel
theorem dX1_moveTo_13 : decode cX1_moveTo 13 = .ok (.getfield 13, 3) := by decide +kernel
theorem dX1_moveTo_16 : decode cX1_moveTo 16 = .ok (.iload_n 3, 1) := by decide +kernel
theorem dX1_moveTo_17 : decode cX1_moveTo 17 = .ok (.iaload, 1) := by decide +kernel
theorem dX1_moveTo_18 : decode cX1_moveTo 18 = .ok (.iconst 1, 1) := by decide +kernel
theorem dX1_moveTo_19 : decode cX1_moveTo 19 = .ok (.iadd, 1) := by decide +kernel
theorem dX1_moveTo_20 : decode cX1_moveTo 20 = .ok (.istore 4, 2) := by decide +kernel
theorem dX1_moveTo_22 : decode cX1_moveTo 22 = .ok (.aload_n 0, 1) := by decide +kernel
theorem dX1_moveTo_23 : decode cX1_moveTo 23 = .ok (.iload_n 1, 1) := by decide +kernel
theorem dX1_moveTo_24 : decode cX1_moveTo 24 = .ok (.iconst 1, 1) := by decide +kernel
theorem dX1_moveTo_25 : decode cX1_moveTo 25 = .ok (.isub, 1) := by decide +kernel
theorem dX1_moveTo_26 : decode cX1_moveTo 26 = .ok (.invokevirtual 36, 3) := by decide +kernel
theorem dX1_moveTo_29 : decode cX1_moveTo 29 = .ok (.istore 5, 2) := by decide +kernel
theorem dX1_moveTo_31 : decode cX1_moveTo 31 = .ok (.iconst 0, 1) := by decide +kernel
theorem dX1_moveTo_32 : decode cX1_moveTo 32 = .ok (.istore 6, 2) := by decide +kernel
theorem dX1_moveTo_34 : decode cX1_moveTo 34 = .ok (.iload 6, 2) := by decide +kernel
theorem dX1_moveTo_36 : decode cX1_moveTo 36 = .ok (.aload_n 0, 1) := by decide +kernel
theorem dX1_moveTo_37 : decode cX1_moveTo 37 = .ok (.getfield 16, 3) := by decide +kernel
theorem dX1_moveTo_40 : decode cX1_moveTo 40 = .ok (.iload 5, 2) := by decide +kernel
theorem dX1_moveTo_42 : decode cX1_moveTo 42 = .ok (.iaload, 1) := by decide +kernel
theorem dX1_moveTo_43 : decode cX1_moveTo 43 = .ok (.iconst 1, 1) := by decide +kernel
theorem dX1_moveTo_44 : decode cX1_moveTo 44 = .ok (.isub, 1) := by decide +kernel
theorem dX1_moveTo_45 : decode cX1_moveTo 45 = .ok (.if_icmp .ge 28, 3) := by decide +kernel
theorem dX1_moveTo_48 : decode cX1_moveTo 48 = .ok (.aload_n 0, 1) := by decide +kernel
theorem dX1_moveTo_49 : decode cX1_moveTo 49 = .ok (.getfield 7, 3) := by decide +kernel
theorem dX1_moveTo_52 : decode cX1_moveTo 52 = .ok (.iload 4, 2) := by decide +kernel
theorem dX1_moveTo_54 : decode cX1_moveTo 54 = .ok (.iload 6, 2) := by decide +kernel
theorem dX1_moveTo_56 : decode cX1_moveTo 56 = .ok (.iadd, 1) := by decide +kernel
theorem dX1_moveTo_57 : decode cX1_moveTo 57 = .ok (.aload_n 0, 1) := by decide +kernel
theorem dX1_moveTo_58 : decode cX1_moveTo 58 = .ok (.getfield 7, 3) := by decide +kernel
theorem dX1_moveTo_61 : decode cX1_moveTo 61 = .ok (.iload_n 1, 1) := by decide +kernel
theorem dX1_moveTo_62 : decode cX1_moveTo 62 = .ok (.iload 6, 2) := by decide +kernel
theorem dX1_moveTo_64 : decode cX1_moveTo 64 = .ok (.iadd, 1) := by decide +kernel
theorem dX1_moveTo_65 : decode cX1_moveTo 65 = .ok (.iaload, 1) := by decide +kernel
theorem dX1_moveTo_66 : decode cX1_moveTo 66 = .ok (.iastore, 1) := by decide +kernel
theorem dX1_moveTo_67 : decode cX1_moveTo 67 = .ok (.iinc 6 1, 3) := by decide +kernel
theorem dX1_moveTo_70 : decode cX1_moveTo 70 = .ok (.goto (-36), 3) := by decide +kernel
theorem dX1_moveTo_73 : decode cX1_moveTo 73 = .ok (.aload_n 0, 1) := by decide +kernel
theorem dX1_moveTo_74 : decode cX1_moveTo 74 = .ok (.iload 5, 2) := by decide +kernel
theorem dX1_moveTo_76 : decode cX1_moveTo 76 = .ok (.invokevirtual 94, 3) := by decide +kernel
theorem dX1_moveTo_79 : decode cX1_moveTo 79 = .ok (.iload 4, 2) := by decide +kernel
theorem dX1_moveTo_81 : decode cX1_moveTo 81 = .ok (.ireturn, 1) := by decide +kernel
theorem dX1_realloc_0 : decode cX1_realloc 0 = .ok (.aload_n 0, 1) := by decide +kernel
theorem dX1_realloc_1 : decode cX1_realloc 1 = .ok (.iload_n 1, 1) := by decide +kernel
theorem dX1_realloc_2 : decode cX1_realloc 2 = .ok (.invokevirtual 91, 3) := by decide +kernel
theorem dX1_realloc_5 : decode cX1_realloc 5 = .ok (.istore_n 3, 1) := by decide +kernel
theorem dX1_realloc_6 : decode cX1_realloc 6 = .ok (.iload_n 3, 1) := by decide +kernel
theorem dX1_realloc_7 : decode cX1_realloc 7 = .ok (.ifCond .lt 10, 3) := by decide +kernel
theorem dX1_realloc_10 : decode cX1_realloc 10 = .ok (.iload_n 2, 1) := by decide +kernel
theorem dX1_realloc_11 : decode cX1_realloc 11 = .ok (.sipush 511, 3) := by decide +kernel
theorem dX1_realloc_14 : decode cX1_realloc 14 = .ok (.if_icmp .le 5, 3) := by decide +kernel
theorem dX1_realloc_17 : decode cX1_realloc 17 = .ok (.iconst 0, 1) := by decide +kernel
theorem dX1_realloc_18 : decode cX1_realloc 18 = .ok (.ireturn, 1) := by decide +kernel
theorem dX1_realloc_19 : decode cX1_realloc 19 = .ok (.iload_n 2, 1) := by decide +kernel
theorem dX1_realloc_20 : decode cX1_realloc 20 = .ok (.iconst 1, 1) := by decide +kernel
theorem dX1_realloc_21 : decode cX1_realloc 21 = .ok (.if_icmp .ge 7, 3) := by decide +kernel
theorem dX1_realloc_24 : decode cX1_realloc 24 = .ok (.iconst 2, 1) := by decide +kernel
theorem dX1_realloc_25 : decode cX1_realloc 25 = .ok (.goto 6, 3) := by decide +kernel
theorem dX1_realloc_28 : decode cX1_realloc 28 = .ok (.iload_n 2, 1) := by decide +kernel
theorem dX1_realloc_29 : decode cX1_realloc 29 = .ok (.iconst 1, 1) := by decide +kernel
theorem dX1_realloc_30 : decode cX1_realloc 30 = .ok (.iadd, 1) := by decide +kernel
theorem dX1_realloc_31 : decode cX1_realloc 31 = .ok (.istore 4, 2) := by decide +kernel
theorem dX1_realloc_33 : decode cX1_realloc 33 = .ok (.aload_n 0, 1) := by decide +kernel
theorem dX1_realloc_34 : decode cX1_realloc 34 = .ok (.getfield 16, 3) := by decide +kernel
theorem dX1_realloc_37 : decode cX1_realloc 37 = .ok (.iload_n 3, 1) := by decide +kernel
theorem dX1_realloc_38 : decode cX1_realloc 38 = .ok (.iaload, 1) := by decide +kernel
theorem dX1_realloc_39 : decode cX1_realloc 39 = .ok (.iload 4, 2) := by decide +kernel
theorem dX1_realloc_41 : decode cX1_realloc 41 = .ok (.if_icmp .lt 12, 3) := by decide +kernel
theorem dX1_realloc_44 : decode cX1_realloc 44 = .ok (.aload_n 0, 1) := by decide +kernel
theorem dX1_realloc_45 : decode cX1_realloc 45 = .ok (.iload_n 3, 1) := by decide +kernel
theorem dX1_realloc_46 : decode cX1_realloc 46 = .ok (.iload 4, 2) := by decide +kernel
theorem dX1_realloc_48 : decode cX1_realloc 48 = .ok (.invokevirtual 97, 3) := by decide +kernel
theorem dX1_realloc_51 : decode cX1_realloc 51 = .ok (.iload_n 1, 1) := by decide +kernel
theorem dX1_realloc_52 : decode cX1_realloc 52 = .ok (.ireturn, 1) := by decide +kernel
theorem dX1_realloc_53 : decode cX1_realloc 53 = .ok (.aload_n 0, 1) := by decide +kernel
theorem dX1_realloc_54 : decode cX1_realloc 54 = .ok (.iload_n 3, 1) := by decide +kernel
theorem dX1_realloc_55 : decode cX1_realloc 55 = .ok (.iload 4, 2) := by decide +kernel
theorem dX1_realloc_57 : decode cX1_realloc 57 = .ok (.invokevirtual 100, 3) := by decide +kernel
theorem dX1_realloc_60 : decode cX1_realloc 60 = .ok (.ifCond .eq 7, 3) := by decide +kernel
theorem dX1_realloc_63 : decode cX1_realloc 63 = .ok (.iload_n 1, 1) := by decide +kernel
theorem dX1_realloc_64 : decode cX1_realloc 64 = .ok (.goto 10, 3) := by decide +kernel
theorem dX1_realloc_67 : decode cX1_realloc 67 = .ok (.aload_n 0, 1) := by decide +kernel
theorem dX1_realloc_68 : decode cX1_realloc 68 = .ok (.iload_n 1, 1) := by decide +kernel
theorem dX1_realloc_69 : decode cX1_realloc 69 = .ok (.iload 4, 2) := by decide +kernel
theorem dX1_realloc_71 : decode cX1_realloc 71 = .ok (.invokevirtual 103, 3) := by decide +kernel
theorem dX1_realloc_74 : decode cX1_realloc 74 = .ok (.ireturn, 1) := by decide +kernel
theorem dX1_align_0 : decode cX1_align 0 = .ok (.iload_n 1, 1) := by decide +kernel
theorem dX1_align_1 : decode cX1_align 1 = .ok (.sipush 511, 3) := by decide +kernel
theorem dX1_align_4 : decode cX1_align 4 = .ok (.if_icmp .gt 25, 3) := by decide +kernel
theorem dX1_align_7 : decode cX1_align 7 = .ok (.iload_n 2, 1) := by decide +kernel
theorem dX1_align_8 : decode cX1_align 8 = .ok (.iconst 2, 1) := by decide +kernel
theorem dX1_align_9 : decode cX1_align 9 = .ok (.if_icmp .eq 22, 3) := by decide +kernel
theorem dX1_align_12 : decode cX1_align 12 = .ok (.iload_n 2, 1) := by decide +kernel
theorem dX1_align_13 : decode cX1_align 13 = .ok (.iconst 4, 1) := by decide +kernel
theorem dX1_align_14 : decode cX1_align 14 = .ok (.if_icmp .eq 17, 3) := by decide +kernel
theorem dX1_align_17 : decode cX1_align 17 = .ok (.iload_n 2, 1) := by decide +kernel
theorem dX1_align_18 : decode cX1_align 18 = .ok (.bipush 8, 2) := by decide +kernel
theorem dX1_align_20 : decode cX1_align 20 = .ok (.if_icmp .eq 11, 3) := by decide +kernel
theorem dX1_align_23 : decode cX1_align 23 = .ok (.iload_n 2, 1) := by decide +kernel
theorem dX1_align_24 : decode cX1_align 24 = .ok (.bipush 16, 2) := by decide +kernel
theorem dX1_align_26 : decode cX1_align 26 = .ok (.if_icmp .eq 5, 3) := by decide +kernel
theorem dX1_align_29 : decode cX1_align 29 = .ok (.iconst 0, 1) := by decide +kernel
theorem dX1_align_30 : decode cX1_align 30 = .ok (.ireturn, 1) := by decide +kernel
theorem dX1_align_31 : decode cX1_align 31 = .ok (.iload_n 1, 1) := by decide +kernel
theorem dX1_align_32 : decode cX1_align 32 = .ok (.iconst 1, 1) := by decide +kernel
theorem dX1_align_33 : decode cX1_align 33 = .ok (.if_icmp .ge 7, 3) := by decide +kernel
theorem dX1_align_36 : decode cX1_align 36 = .ok (.iconst 1, 1) := by decide +kernel
theorem dX1_align_37 : decode cX1_align 37 = .ok (.goto 4, 3) := by decide +kernel
theorem dX1_align_40 : decode cX1_align 40 = .ok (.iload_n 1, 1) := by decide +kernel
theorem dX1_align_41 : decode cX1_align 41 = .ok (.istore_n 3, 1) := by decide +kernel
theorem dX1_align_42 : decode cX1_align 42 = .ok (.aload_n 0, 1) := by decide +kernel
theorem dX1_align_43 : decode cX1_align 43 = .ok (.iload_n 3, 1) := by decide +kernel
theorem dX1_align_44 : decode cX1_align 44 = .ok (.iload_n 2, 1) := by decide +kernel
theorem dX1_align_45 : decode cX1_align 45 = .ok (.iadd, 1) := by decide +kernel
theorem dX1_align_46 : decode cX1_align 46 = .ok (.iconst 3, 1) := by decide +kernel
theorem dX1_align_47 : decode cX1_align 47 = .ok (.iadd, 1) := by decide +kernel
theorem dX1_align_48 : decode cX1_align 48 = .ok (.invokevirtual 85, 3) := by decide +kernel
theorem dX1_align_51 : decode cX1_align 51 = .ok (.istore 4, 2) := by decide +kernel
theorem dX1_align_53 : decode cX1_align 53 = .ok (.iload 4, 2) := by decide +kernel
theorem dX1_align_55 : decode cX1_align 55 = .ok (.ifCond .ge 5, 3) := by decide +kernel
theorem dX1_align_58 : decode cX1_align 58 = .ok (.iconst 0, 1) := by decide +kernel
theorem dX1_align_59 : decode cX1_align 59 = .ok (.ireturn, 1) := by decide +kernel
theorem dX1_align_60 : decode cX1_align 60 = .ok (.aload_n 0, 1) := by decide +kernel
theorem dX1_align_61 : decode cX1_align 61 = .ok (.getfield 13, 3) := by decide +kernel
theorem dX1_align_64 : decode cX1_align 64 = .ok (.iload 4, 2) := by decide +kernel
theorem dX1_align_66 : decode cX1_align 66 = .ok (.iaload, 1) := by decide +kernel
theorem dX1_align_67 : decode cX1_align 67 = .ok (.iconst 1, 1) := by decide +kernel
theorem dX1_align_68 : decode cX1_align 68 = .ok (.iadd, 1) := by decide +kernel
theorem dX1_align_69 : decode cX1_align 69 = .ok (.istore 5, 2) := by decide +kernel
theorem dX1_align_71 : decode cX1_align 71 = .ok (.iload 5, 2) := by decide +kernel
theorem dX1_align_73 : decode cX1_align 73 = .ok (.iload_n 2, 1) := by decide +kernel
theorem dX1_align_74 : decode cX1_align 74 = .ok (.irem, 1) := by decide +kernel
theorem dX1_align_75 : decode cX1_align 75 = .ok (.ifCond .eq 53, 3) := by decide +kernel
theorem dX1_align_78 : decode cX1_align 78 = .ok (.iconst 2, 1) := by decide +kernel
theorem dX1_align_79 : decode cX1_align 79 = .ok (.istore 6, 2) := by decide +kernel
theorem dX1_align_81 : decode cX1_align 81 = .ok (.iload 5, 2) := by decide +kernel
theorem dX1_align_83 : decode cX1_align 83 = .ok (.iload 6, 2) := by decide +kernel
theorem dX1_align_85 : decode cX1_align 85 = .ok (.iadd, 1) := by decide +kernel
theorem dX1_align_86 : decode cX1_align 86 = .ok (.iload_n 2, 1) := by decide +kernel
theorem dX1_align_87 : decode cX1_align 87 = .ok (.irem, 1) := by decide +kernel
theorem dX1_align_88 : decode cX1_align 88 = .ok (.ifCond .eq 9, 3) := by decide +kernel
theorem dX1_align_91 : decode cX1_align 91 = .ok (.iinc 6 1, 3) := by decide +kernel
theorem dX1_align_94 : decode cX1_align 94 = .ok (.goto (-13), 3) := by decide +kernel
theorem dX1_align_97 : decode cX1_align 97 = .ok (.aload_n 0, 1) := by decide +kernel
theorem dX1_align_98 : decode cX1_align 98 = .ok (.iload 4, 2) := by decide +kernel
theorem dX1_align_100 : decode cX1_align 100 = .ok (.iload 6, 2) := by decide +kernel
theorem dX1_align_102 : decode cX1_align 102 = .ok (.invokevirtual 46, 3) := by decide +kernel
theorem dX1_align_105 : decode cX1_align 105 = .ok (.aload_n 0, 1) := by decide +kernel
theorem dX1_align_106 : decode cX1_align 106 = .ok (.getfield 19, 3) := by decide +kernel
theorem dX1_align_109 : decode cX1_align 109 = .ok (.iload 4, 2) := by decide +kernel
theorem dX1_align_111 : decode cX1_align 111 = .ok (.iconst 1, 1) := by decide +kernel
theorem dX1_align_112 : decode cX1_align 112 = .ok (.iadd, 1) := by decide +kernel
theorem dX1_align_113 : decode cX1_align 113 = .ok (.iconst 1, 1) := by decide +kernel
theorem dX1_align_114 : decode cX1_align 114 = .ok (.bastore, 1) := by decide +kernel
theorem dX1_align_115 : decode cX1_align 115 = .ok (.aload_n 0, 1) := by decide +kernel
theorem dX1_align_116 : decode cX1_align 116 = .ok (.iload 4, 2) := by decide +kernel
theorem dX1_align_118 : decode cX1_align 118 = .ok (.invokevirtual 94, 3) := by decide +kernel
theorem dX1_align_121 : decode cX1_align 121 = .ok (.iload 5, 2) := by decide +kernel
theorem dX1_align_123 : decode cX1_align 123 = .ok (.iload 6, 2) := by decide +kernel
theorem dX1_align_125 : decode cX1_align 125 = .ok (.iadd, 1) := by decide +kernel
theorem dX1_align_126 : decode cX1_align 126 = .ok (.istore 5, 2) := by decide +kernel
theorem dX1_align_128 : decode cX1_align 128 = .ok (.aload_n 0, 1) := by decide +kernel
theorem dX1_align_129 : decode cX1_align 129 = .ok (.iload 5, 2) := by decide +kernel
theorem dX1_align_131 : decode cX1_align 131 = .ok (.iconst 1, 1) := by decide +kernel
theorem dX1_align_132 : decode cX1_align 132 = .ok (.isub, 1) := by decide +kernel
theorem dX1_align_133 : decode cX1_align 133 = .ok (.invokevirtual 36, 3) := by decide +kernel
theorem dX1_align_136 : decode cX1_align 136 = .ok (.istore 6, 2) := by decide +kernel
theorem dX1_align_138 : decode cX1_align 138 = .ok (.aload_n 0, 1) := by decide +kernel
theorem dX1_align_139 : decode cX1_align 139 = .ok (.iload 6, 2) := by decide +kernel
theorem dX1_align_141 : decode cX1_align 141 = .ok (.iload_n 3, 1) := by decide +kernel
theorem dX1_align_142 : decode cX1_align 142 = .ok (.iconst 1, 1) := by decide +kernel
theorem dX1_align_143 : decode cX1_align 143 = .ok (.iadd, 1) := by decide +kernel
theorem dX1_align_144 : decode cX1_align 144 = .ok (.invokevirtual 97, 3) := by decide +kernel
theorem dX1_align_147 : decode cX1_align 147 = .ok (.iload 5, 2) := by decide +kernel
theorem dX1_align_149 : decode cX1_align 149 = .ok (.ireturn, 1) := by decide +kernel
theorem dX1_trim_0 : decode cX1_trim 0 = .ok (.aload_n 0, 1) := by decide +kernel
theorem dX1_trim_1 : decode cX1_trim 1 = .ok (.invokevirtual 68, 3) := by decide +kernel
theorem dX1_trim_4 : decode cX1_trim 4 = .ok (.istore_n 2, 1) := by decide +kernel
theorem dX1_trim_5 : decode cX1_trim 5 = .ok (.iload_n 2, 1) := by decide +kernel
theorem dX1_trim_6 : decode cX1_trim 6 = .ok (.ifCond .ge 5, 3) := by decide +kernel
theorem dX1_trim_9 : decode cX1_trim 9 = .ok (.iconst 0, 1) := by decide +kernel
theorem dX1_trim_10 : decode cX1_trim 10 = .ok (.ireturn, 1) := by decide +kernel
theorem dX1_trim_11 : decode cX1_trim 11 = .ok (.aload_n 0, 1) := by decide +kernel
theorem dX1_trim_12 : decode cX1_trim 12 = .ok (.getfield 16, 3) := by decide +kernel
theorem dX1_trim_15 : decode cX1_trim 15 = .ok (.iload_n 2, 1) := by decide +kernel
theorem dX1_trim_16 : decode cX1_trim 16 = .ok (.iaload, 1) := by decide +kernel
theorem dX1_trim_17 : decode cX1_trim 17 = .ok (.bipush 16, 2) := by decide +kernel
theorem dX1_trim_19 : decode cX1_trim 19 = .ok (.idiv, 1) := by decide +kernel
theorem dX1_trim_20 : decode cX1_trim 20 = .ok (.bipush 16, 2) := by decide +kernel
theorem dX1_trim_22 : decode cX1_trim 22 = .ok (.imul, 1) := by decide +kernel
theorem dX1_trim_23 : decode cX1_trim 23 = .ok (.istore_n 3, 1) := by decide +kernel
theorem dX1_trim_24 : decode cX1_trim 24 = .ok (.iload_n 3, 1) := by decide +kernel
theorem dX1_trim_25 : decode cX1_trim 25 = .ok (.ifCond .le 35, 3) := by decide +kernel
theorem dX1_trim_28 : decode cX1_trim 28 = .ok (.aload_n 0, 1) := by decide +kernel
theorem dX1_trim_29 : decode cX1_trim 29 = .ok (.getfield 16, 3) := by decide +kernel
theorem dX1_trim_32 : decode cX1_trim 32 = .ok (.iload_n 2, 1) := by decide +kernel
theorem dX1_trim_33 : decode cX1_trim 33 = .ok (.iaload, 1) := by decide +kernel
theorem dX1_trim_34 : decode cX1_trim 34 = .ok (.iload_n 3, 1) := by decide +kernel
theorem dX1_trim_35 : decode cX1_trim 35 = .ok (.isub, 1) := by decide +kernel
theorem dX1_trim_36 : decode cX1_trim 36 = .ok (.iload_n 1, 1) := by decide +kernel
theorem dX1_trim_37 : decode cX1_trim 37 = .ok (.if_icmp .lt 15, 3) := by decide +kernel
theorem dX1_trim_40 : decode cX1_trim 40 = .ok (.aload_n 0, 1) := by decide +kernel
theorem dX1_trim_41 : decode cX1_trim 41 = .ok (.getfield 16, 3) := by decide +kernel
theorem dX1_trim_44 : decode cX1_trim 44 = .ok (.iload_n 2, 1) := by decide +kernel
theorem dX1_trim_45 : decode cX1_trim 45 = .ok (.iaload, 1) := by decide +kernel
theorem dX1_trim_46 : decode cX1_trim 46 = .ok (.iload_n 3, 1) := by decide +kernel
theorem dX1_trim_47 : decode cX1_trim 47 = .ok (.isub, 1) := by decide +kernel
theorem dX1_trim_48 : decode cX1_trim 48 = .ok (.iconst 1, 1) := by decide +kernel
theorem dX1_trim_49 : decode cX1_trim 49 = .ok (.if_icmp .ne 11, 3) := by decide +kernel
theorem dX1_trim_52 : decode cX1_trim 52 = .ok (.iload_n 3, 1) := by decide +kernel
theorem dX1_trim_53 : decode cX1_trim 53 = .ok (.bipush 16, 2) := by decide +kernel
theorem dX1_trim_55 : decode cX1_trim 55 = .ok (.isub, 1) := by decide +kernel
theorem dX1_trim_56 : decode cX1_trim 56 = .ok (.istore_n 3, 1) := by decide +kernel
theorem dX1_trim_57 : decode cX1_trim 57 = .ok (.goto (-33), 3) := by decide +kernel
theorem dX1_trim_60 : decode cX1_trim 60 = .ok (.aload_n 0, 1) := by decide +kernel
theorem dX1_trim_61 : decode cX1_trim 61 = .ok (.aload_n 0, 1) := by decide +kernel
theorem dX1_trim_62 : decode cX1_trim 62 = .ok (.getfield 40, 3) := by decide +kernel
theorem dX1_trim_65 : decode cX1_trim 65 = .ok (.iload_n 3, 1) := by decide +kernel
theorem dX1_trim_66 : decode cX1_trim 66 = .ok (.isub, 1) := by decide +kernel
theorem dX1_trim_67 : decode cX1_trim 67 = .ok (.putfield 40, 3) := by decide +kernel
theorem dX1_trim_70 : decode cX1_trim 70 = .ok (.aload_n 0, 1) := by decide +kernel
theorem dX1_trim_71 : decode cX1_trim 71 = .ok (.getfield 16, 3) := by decide +kernel
theorem dX1_trim_74 : decode cX1_trim 74 = .ok (.iload_n 2, 1) := by decide +kernel
theorem dX1_trim_75 : decode cX1_trim 75 = .ok (.aload_n 0, 1) := by decide +kernel
theorem dX1_trim_76 : decode cX1_trim 76 = .ok (.getfield 16, 3) := by decide +kernel
theorem dX1_trim_79 : decode cX1_trim 79 = .ok (.iload_n 2, 1) := by decide +kernel
theorem dX1_trim_80 : decode cX1_trim 80 = .ok (.iaload, 1) := by decide +kernel
theorem dX1_trim_81 : decode cX1_trim 81 = .ok (.iload_n 3, 1) := by decide +kernel
theorem dX1_trim_82 : decode cX1_trim 82 = .ok (.isub, 1) := by decide +kernel
theorem dX1_trim_83 : decode cX1_trim 83 = .ok (.iastore, 1) := by decide +kernel
theorem dX1_trim_84 : decode cX1_trim 84 = .ok (.aload_n 0, 1) := by decide +kernel
theorem dX1_trim_85 : decode cX1_trim 85 = .ok (.getfield 16, 3) := by decide +kernel
theorem dX1_trim_88 : decode cX1_trim 88 = .ok (.iload_n 2, 1) := by decide +kernel
theorem dX1_trim_89 : decode cX1_trim 89 = .ok (.iaload, 1) := by decide +kernel
theorem dX1_trim_90 : decode cX1_trim 90 = .ok (.ifCond .ne 13, 3) := by decide +kernel
theorem dX1_trim_93 : decode cX1_trim 93 = .ok (.aload_n 0, 1) := by decide +kernel
theorem dX1_trim_94 : decode cX1_trim 94 = .ok (.dup, 1) := by decide +kernel
theorem dX1_trim_95 : decode cX1_trim 95 = .ok (.getfield 33, 3) := by decide +kernel
theorem dX1_trim_98 : decode cX1_trim 98 = .ok (.iconst 1, 1) := by decide +kernel
theorem dX1_trim_99 : decode cX1_trim 99 = .ok (.isub, 1) := by decide +kernel
theorem dX1_trim_100 : decode cX1_trim 100 = .ok (.putfield 33, 3) := by decide +kernel
theorem dX1_trim_103 : decode cX1_trim 103 = .ok (.iload_n 3, 1) := by decide +kernel
theorem dX1_trim_104 : decode cX1_trim 104 = .ok (.ireturn, 1) := by decide +kernel
theorem dX1_usable_0 : decode cX1_usable 0 = .ok (.aload_n 0, 1) := by decide +kernel
theorem dX1_usable_1 : decode cX1_usable 1 = .ok (.iload_n 1, 1) := by decide +kernel
theorem dX1_usable_2 : decode cX1_usable 2 = .ok (.invokevirtual 91, 3) := by decide +kernel
theorem dX1_usable_5 : decode cX1_usable 5 = .ok (.istore_n 2, 1) := by decide +kernel
theorem dX1_usable_6 : decode cX1_usable 6 = .ok (.iload_n 2, 1) := by decide +kernel
theorem dX1_usable_7 : decode cX1_usable 7 = .ok (.ifCond .ge 7, 3) := by decide +kernel
theorem dX1_usable_10 : decode cX1_usable 10 = .ok (.iconst 0, 1) := by decide +kernel
theorem dX1_usable_11 : decode cX1_usable 11 = .ok (.goto 11, 3) := by decide +kernel
theorem dX1_usable_14 : decode cX1_usable 14 = .ok (.aload_n 0, 1) := by decide +kernel
theorem dX1_usable_15 : decode cX1_usable 15 = .ok (.getfield 16, 3) := by decide +kernel
theorem dX1_usable_18 : decode cX1_usable 18 = .ok (.iload_n 2, 1) := by decide +kernel
theorem dX1_usable_19 : decode cX1_usable 19 = .ok (.iaload, 1) := by decide +kernel
theorem dX1_usable_20 : decode cX1_usable 20 = .ok (.iconst 1, 1) := by decide +kernel
theorem dX1_usable_21 : decode cX1_usable 21 = .ok (.isub, 1) := by decide +kernel
theorem dX1_usable_22 : decode cX1_usable 22 = .ok (.ireturn, 1) := by decide +kernel
theorem dX1_isData_0 : decode cX1_isData 0 = .ok (.iload_n 2, 1) := by decide +kernel
theorem dX1_isData_1 : decode cX1_isData 1 = .ok (.ifCond .lt 16, 3) := by decide +kernel
theorem dX1_isData_4 : decode cX1_isData 4 = .ok (.iload_n 2, 1) := by decide +kernel
theorem dX1_isData_5 : decode cX1_isData 5 = .ok (.aload_n 0, 1) := by decide +kernel
theorem dX1_isData_6 : decode cX1_isData 6 = .ok (.iload_n 1, 1) := by decide +kernel
theorem dX1_isData_7 : decode cX1_isData 7 = .ok (.invokevirtual 106, 3) := by decide +kernel
theorem dX1_isData_10 : decode cX1_isData 10 = .ok (.if_icmp .ge 7, 3) := by decide +kernel
theorem dX1_isData_13 : decode cX1_isData 13 = .ok (.iconst 1, 1) := by decide +kernel
theorem dX1_isData_14 : decode cX1_isData 14 = .ok (.goto 4, 3) := by decide +kernel
theorem dX1_isData_17 : decode cX1_isData 17 = .ok (.iconst 0, 1) := by decide +kernel
theorem dX1_isData_18 : decode cX1_isData 18 = .ok (.ireturn, 1) := by decide +kernel
theorem dX1_read_0 : decode cX1_read 0 = .ok (.aload_n 0, 1) := by decide +kernel
theorem dX1_read_1 : decode cX1_read 1 = .ok (.iload_n 1, 1) := by decide +kernel
theorem dX1_read_2 : decode cX1_read 2 = .ok (.iload_n 2, 1) := by decide +kernel
theorem dX1_read_3 : decode cX1_read 3 = .ok (.invokevirtual 109, 3) := by decide +kernel
theorem dX1_read_6 : decode cX1_read 6 = .ok (.ifCond .eq 14, 3) := by decide +kernel
theorem dX1_read_9 : decode cX1_read 9 = .ok (.aload_n 0, 1) := by decide +kernel
theorem dX1_read_10 : decode cX1_read 10 = .ok (.getfield 7, 3) := by decide +kernel
theorem dX1_read_13 : decode cX1_read 13 = .ok (.iload_n 1, 1) := by decide +kernel
theorem dX1_read_14 : decode cX1_read 14 = .ok (.iload_n 2, 1) := by decide +kernel
theorem dX1_read_15 : decode cX1_read 15 = .ok (.iadd, 1) := by decide +kernel
theorem dX1_read_16 : decode cX1_read 16 = .ok (.iaload, 1) := by decide +kernel
theorem dX1_read_17 : decode cX1_read 17 = .ok (.goto 4, 3) := by decide +kernel
theorem dX1_read_20 : decode cX1_read 20 = .ok (.iconst 0, 1) := by decide +kernel
theorem dX1_read_21 : decode cX1_read 21 = .ok (.ireturn, 1) := by decide +kernel
theorem dX1_write_0 : decode cX1_write 0 = .ok (.aload_n 0, 1) := by decide +kernel
theorem dX1_write_1 : decode cX1_write 1 = .ok (.iload_n 1, 1) := by decide +kernel
theorem dX1_write_2 : decode cX1_write 2 = .ok (.iload_n 2, 1) := by decide +kernel
theorem dX1_write_3 : decode cX1_write 3 = .ok (.invokevirtual 109, 3) := by decide +kernel
theorem dX1_write_6 : decode cX1_write 6 = .ok (.ifCond .ne 5, 3) := by decide +kernel
theorem dX1_write_9 : decode cX1_write 9 = .ok (.iconst 0, 1) := by decide +kernel
theorem dX1_write_10 : decode cX1_write 10 = .ok (.ireturn, 1) := by decide +kernel
theorem dX1_write_11 : decode cX1_write 11 = .ok (.aload_n 0, 1) := by decide +kernel
theorem dX1_write_12 : decode cX1_write 12 = .ok (.getfield 7, 3) := by decide +kernel
theorem dX1_write_15 : decode cX1_write 15 = .ok (.iload_n 1, 1) := by decide +kernel
theorem dX1_write_16 : decode cX1_write 16 = .ok (.iload_n 2, 1) := by decide +kernel
theorem dX1_write_17 : decode cX1_write 17 = .ok (.iadd, 1) := by decide +kernel
theorem dX1_write_18 : decode cX1_write 18 = .ok (.iload_n 3, 1) := by decide +kernel
theorem dX1_write_19 : decode cX1_write 19 = .ok (.iastore, 1) := by decide +kernel
theorem dX1_write_20 : decode cX1_write 20 = .ok (.iconst 1, 1) := by decide +kernel
theorem dX1_write_21 : decode cX1_write 21 = .ok (.ireturn, 1) := by decide +kernel
theorem dX1_size_0 : decode cX1_size 0 = .ok (.aload_n 0, 1) := by decide +kernel
theorem dX1_size_1 : decode cX1_size 1 = .ok (.iload_n 1, 1) := by decide +kernel
theorem dX1_size_2 : decode cX1_size 2 = .ok (.invokevirtual 36, 3) := by decide +kernel
theorem dX1_size_5 : decode cX1_size 5 = .ok (.istore_n 2, 1) := by decide +kernel
theorem dX1_size_6 : decode cX1_size 6 = .ok (.iload_n 2, 1) := by decide +kernel
theorem dX1_size_7 : decode cX1_size 7 = .ok (.ifCond .ge 7, 3) := by decide +kernel
theorem dX1_size_10 : decode cX1_size 10 = .ok (.iconst (-1), 1) := by decide +kernel
theorem dX1_size_11 : decode cX1_size 11 = .ok (.goto 9, 3) := by decide +kernel
theorem dX1_size_14 : decode cX1_size 14 = .ok (.aload_n 0, 1) := by decide +kernel
theorem dX1_size_15 : decode cX1_size 15 = .ok (.getfield 16, 3) := by decide +kernel
theorem dX1_size_18 : decode cX1_size 18 = .ok (.iload_n 2, 1) := by decide +kernel
theorem dX1_size_19 : decode cX1_size 19 = .ok (.iaload, 1) := by decide +kernel
theorem dX1_size_20 : decode cX1_size 20 = .ok (.ireturn, 1) := by decide +kernel
theorem dX1_state_0 : decode cX1_state 0 = .ok (.aload_n 0, 1) := by decide +kernel
theorem dX1_state_1 : decode cX1_state 1 = .ok (.iload_n 1, 1) := by decide +kernel
theorem dX1_state_2 : decode cX1_state 2 = .ok (.invokevirtual 36, 3) := by decide +kernel
theorem dX1_state_5 : decode cX1_state 5 = .ok (.istore_n 2, 1) := by decide +kernel
theorem dX1_state_6 : decode cX1_state 6 = .ok (.iload_n 2, 1) := by decide +kernel
theorem dX1_state_7 : decode cX1_state 7 = .ok (.ifCond .ge 7, 3) := by decide +kernel
theorem dX1_state_10 : decode cX1_state 10 = .ok (.iconst (-1), 1) := by decide +kernel
theorem dX1_state_11 : decode cX1_state 11 = .ok (.goto 8, 3) := by decide +kernel
theorem dX1_state_14 : decode cX1_state 14 = .ok (.aload_n 0, 1) := by decide +kernel
theorem dX1_state_15 : decode cX1_state 15 = .ok (.iload_n 2, 1) := by decide +kernel
theorem dX1_state_16 : decode cX1_state 16 = .ok (.invokevirtual 50, 3) := by decide +kernel
theorem dX1_state_19 : decode cX1_state 19 = .ok (.ireturn, 1) := by decide +kernel
theorem dX1_count_0 : decode cX1_count 0 = .ok (.iload_n 1, 1) := by decide +kernel
theorem dX1_count_1 : decode cX1_count 1 = .ok (.ifCond .lt 9, 3) := by decide +kernel
theorem dX1_count_4 : decode cX1_count 4 = .ok (.iload_n 1, 1) := by decide +kernel
theorem dX1_count_5 : decode cX1_count 5 = .ok (.bipush 16, 2) := by decide +kernel
theorem dX1_count_7 : decode cX1_count 7 = .ok (.if_icmp .le 5, 3) := by decide +kernel
theorem dX1_count_10 : decode cX1_count 10 = .ok (.iconst (-1), 1) := by decide +kernel
theorem dX1_count_11 : decode cX1_count 11 = .ok (.ireturn, 1) := by decide +kernel
theorem dX1_count_12 : decode cX1_count 12 = .ok (.iload_n 1, 1) := by decide +kernel
theorem dX1_count_13 : decode cX1_count 13 = .ok (.iconst 1, 1) := by decide +kernel
theorem dX1_count_14 : decode cX1_count 14 = .ok (.if_icmp .ne 8, 3) := by decide +kernel
theorem dX1_count_17 : decode cX1_count 17 = .ok (.aload_n 0, 1) := by decide +kernel
theorem dX1_count_18 : decode cX1_count 18 = .ok (.getfield 33, 3) := by decide +kernel
theorem dX1_count_21 : decode cX1_count 21 = .ok (.ireturn, 1) := by decide +kernel
theorem dX1_count_22 : decode cX1_count 22 = .ok (.iconst 0, 1) := by decide +kernel
theorem dX1_count_23 : decode cX1_count 23 = .ok (.istore_n 2, 1) := by decide +kernel
theorem dX1_count_24 : decode cX1_count 24 = .ok (.iconst 0, 1) := by decide +kernel
theorem dX1_count_25 : decode cX1_count 25 = .ok (.istore_n 3, 1) := by decide +kernel
theorem dX1_count_26 : decode cX1_count 26 = .ok (.iload_n 3, 1) := by decide +kernel
theorem dX1_count_27 : decode cX1_count 27 = .ok (.aload_n 0, 1) := by decide +kernel
theorem dX1_count_28 : decode cX1_count 28 = .ok (.getfield 33, 3) := by decide +kernel
theorem dX1_count_31 : decode cX1_count 31 = .ok (.if_icmp .ge 89, 3) := by decide +kernel
theorem dX1_count_34 : decode cX1_count 34 = .ok (.aload_n 0, 1) := by decide +kernel
theorem dX1_count_35 : decode cX1_count 35 = .ok (.iload_n 3, 1) := by decide +kernel
theorem dX1_count_36 : decode cX1_count 36 = .ok (.invokevirtual 50, 3) := by decide +kernel
theorem dX1_count_39 : decode cX1_count 39 = .ok (.istore 4, 2) := by decide +kernel
theorem dX1_count_41 : decode cX1_count 41 = .ok (.iload_n 1, 1) := by decide +kernel
theorem dX1_count_42 : decode cX1_count 42 = .ok (.ifCond .ne 16, 3) := by decide +kernel
theorem dX1_count_45 : decode cX1_count 45 = .ok (.iload 4, 2) := by decide +kernel
theorem dX1_count_47 : decode cX1_count 47 = .ok (.ifCond .ne 7, 3) := by decide +kernel
theorem dX1_count_50 : decode cX1_count 50 = .ok (.iconst 1, 1) := by decide +kernel
theorem dX1_count_51 : decode cX1_count 51 = .ok (.goto 48, 3) := by decide +kernel
theorem dX1_count_54 : decode cX1_count 54 = .ok (.iconst 0, 1) := by decide +kernel
theorem dX1_count_55 : decode cX1_count 55 = .ok (.goto 44, 3) := by decide +kernel
theorem dX1_count_58 : decode cX1_count 58 = .ok (.iload_n 1, 1) := by decide +kernel
theorem dX1_count_59 : decode cX1_count 59 = .ok (.bipush 16, 2) := by decide +kernel
theorem dX1_count_61 : decode cX1_count 61 = .ok (.if_icmp .ne 17, 3) := by decide +kernel
theorem dX1_count_64 : decode cX1_count 64 = .ok (.iload 4, 2) := by decide +kernel
theorem dX1_count_66 : decode cX1_count 66 = .ok (.iconst 2, 1) := by decide +kernel
theorem dX1_count_67 : decode cX1_count 67 = .ok (.if_icmp .ne 7, 3) := by decide +kernel
theorem dX1_count_70 : decode cX1_count 70 = .ok (.iconst 1, 1) := by decide +kernel
theorem dX1_count_71 : decode cX1_count 71 = .ok (.goto 28, 3) := by decide +kernel
theorem dX1_count_74 : decode cX1_count 74 = .ok (.iconst 0, 1) := by decide +kernel
theorem dX1_count_75 : decode cX1_count 75 = .ok (.goto 24, 3) := by decide +kernel
theorem dX1_count_78 : decode cX1_count 78 = .ok (.iload 4, 2) := by decide +kernel
theorem dX1_count_80 : decode cX1_count 80 = .ok (.iconst 1, 1) := by decide +kernel
theorem dX1_count_81 : decode cX1_count 81 = .ok (.if_icmp .ne 17, 3) := by decide +kernel
theorem dX1_count_84 : decode cX1_count 84 = .ok (.aload_n 0, 1) := by decide +kernel
theorem dX1_count_85 : decode cX1_count 85 = .ok (.getfield 16, 3) := by decide +kernel
theorem dX1_count_88 : decode cX1_count 88 = .ok (.iload_n 3, 1) := by decide +kernel
theorem dX1_count_89 : decode cX1_count 89 = .ok (.iaload, 1) := by decide +kernel
theorem dX1_count_90 : decode cX1_count 90 = .ok (.iload_n 1, 1) := by decide +kernel
theorem dX1_count_91 : decode cX1_count 91 = .ok (.if_icmp .ne 7, 3) := by decide +kernel
theorem dX1_count_94 : decode cX1_count 94 = .ok (.iconst 1, 1) := by decide +kernel
theorem dX1_count_95 : decode cX1_count 95 = .ok (.goto 4, 3) := by decide +kernel
theorem dX1_count_98 : decode cX1_count 98 = .ok (.iconst 0, 1) := by decide +kernel
theorem dX1_count_99 : decode cX1_count 99 = .ok (.istore 5, 2) := by decide +kernel
theorem dX1_count_101 : decode cX1_count 101 = .ok (.iload 5, 2) := by decide +kernel
theorem dX1_count_103 : decode cX1_count 103 = .ok (.ifCond .eq 9, 3) := by decide +kernel
theorem dX1_count_106 : decode cX1_count 106 = .ok (.iload_n 2, 1) := by decide +kernel
theorem dX1_count_107 : decode cX1_count 107 = .ok (.iconst 1, 1) := by decide +kernel
theorem dX1_count_108 : decode cX1_count 108 = .ok (.iadd, 1) := by decide +kernel
theorem dX1_count_109 : decode cX1_count 109 = .ok (.goto 4, 3) := by decide +kernel
theorem dX1_count_112 : decode cX1_count 112 = .ok (.iload_n 2, 1) := by decide +kernel
theorem dX1_count_113 : decode cX1_count 113 = .ok (.istore_n 2, 1) := by decide +kernel
theorem dX1_count_114 : decode cX1_count 114 = .ok (.iinc 3 1, 3) := by decide +kernel
theorem dX1_count_117 : decode cX1_count 117 = .ok (.goto (-91), 3) := by decide +kernel
theorem dX1_count_120 : decode cX1_count 120 = .ok (.iload_n 2, 1) := by decide +kernel
theorem dX1_count_121 : decode cX1_count 121 = .ok (.ireturn, 1) := by decide +kernel
theorem dX1_end_0 : decode cX1_end 0 = .ok (.aload_n 0, 1) := by decide +kernel
theorem dX1_end_1 : decode cX1_end 1 = .ok (.getfield 40, 3) := by decide +kernel
theorem dX1_end_4 : decode cX1_end 4 = .ok (.ireturn, 1) := by decide +kernel
theorem dX1_total_0 : decode cX1_total 0 = .ok (.iload_n 1, 1) := by decide +kernel
theorem dX1_total_1 : decode cX1_total 1 = .ok (.ifCond .lt 8, 3) := by decide +kernel
theorem dX1_total_4 : decode cX1_total 4 = .ok (.iload_n 1, 1) := by decide +kernel
theorem dX1_total_5 : decode cX1_total 5 = .ok (.iconst 4, 1) := by decide +kernel
theorem dX1_total_6 : decode cX1_total 6 = .ok (.if_icmp .le 5, 3) := by decide +kernel
theorem dX1_total_9 : decode cX1_total 9 = .ok (.iconst (-1), 1) := by decide +kernel
theorem dX1_total_10 : decode cX1_total 10 = .ok (.ireturn, 1) := by decide +kernel
theorem dX1_total_11 : decode cX1_total 11 = .ok (.iconst 0, 1) := by decide +kernel
theorem dX1_total_12 : decode cX1_total 12 = .ok (.istore_n 2, 1) := by decide +kernel
theorem dX1_total_13 : decode cX1_total 13 = .ok (.iconst 0, 1) := by decide +kernel
theorem dX1_total_14 : decode cX1_total 14 = .ok (.istore_n 3, 1) := by decide +kernel
theorem dX1_total_15 : decode cX1_total 15 = .ok (.iload_n 3, 1) := by decide +kernel
theorem dX1_total_16 : decode cX1_total 16 = .ok (.aload_n 0, 1) := by decide +kernel
theorem dX1_total_17 : decode cX1_total 17 = .ok (.getfield 33, 3) := by decide +kernel
theorem dX1_total_20 : decode cX1_total 20 = .ok (.if_icmp .ge 31, 3) := by decide +kernel
theorem dX1_total_23 : decode cX1_total 23 = .ok (.aload_n 0, 1) := by decide +kernel
theorem dX1_total_24 : decode cX1_total 24 = .ok (.iload_n 3, 1) := by decide +kernel
theorem dX1_total_25 : decode cX1_total 25 = .ok (.invokevirtual 50, 3) := by decide +kernel
theorem dX1_total_28 : decode cX1_total 28 = .ok (.iload_n 1, 1) := by decide +kernel
theorem dX1_total_29 : decode cX1_total 29 = .ok (.if_icmp .ne 14, 3) := by decide +kernel
theorem dX1_total_32 : decode cX1_total 32 = .ok (.iload_n 2, 1) := by decide +kernel
theorem dX1_total_33 : decode cX1_total 33 = .ok (.aload_n 0, 1) := by decide +kernel
theorem dX1_total_34 : decode cX1_total 34 = .ok (.getfield 16, 3) := by decide +kernel
theorem dX1_total_37 : decode cX1_total 37 = .ok (.iload_n 3, 1) := by decide +kernel
theorem dX1_total_38 : decode cX1_total 38 = .ok (.iaload, 1) := by decide +kernel
theorem dX1_total_39 : decode cX1_total 39 = .ok (.iadd, 1) := by decide +kernel
theorem dX1_total_40 : decode cX1_total 40 = .ok (.goto 4, 3) := by decide +kernel
theorem dX1_total_43 : decode cX1_total 43 = .ok (.iload_n 2, 1) := by decide +kernel
theorem dX1_total_44 : decode cX1_total 44 = .ok (.istore_n 2, 1) := by decide +kernel
theorem dX1_total_45 : decode cX1_total 45 = .ok (.iinc 3 1, 3) := by decide +kernel
theorem dX1_total_48 : decode cX1_total 48 = .ok (.goto (-33), 3) := by decide +kernel
theorem dX1_total_51 : decode cX1_total 51 = .ok (.iload_n 2, 1) := by decide +kernel
theorem dX1_total_52 : decode cX1_total 52 = .ok (.ireturn, 1) := by decide +kernel
