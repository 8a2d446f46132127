theorem dX0_init_0 : decode cX0_init 0 = .ok (.aload_n 0, 1) := by decide +kernel
theorem dX0_init_1 : decode cX0_init 1 = .ok (.invokespecial 3, 3) := by decide +kernel
theorem dX0_init_4 : decode cX0_init 4 = .ok (.aload_n 0, 1) := by decide +kernel
theorem dX0_init_5 : decode cX0_init 5 = .ok (.bipush 16, 2) := by decide +kernel
theorem dX0_init_7 : decode cX0_init 7 = .ok (.sipush 512, 3) := by decide +kernel
theorem dX0_init_10 : decode cX0_init 10 = .ok (.iload_n 1, 1) := by decide +kernel
theorem dX0_init_11 : decode cX0_init 11 = .ok (.invokestatic 9, 3) := by decide +kernel
theorem dX0_init_14 : decode cX0_init 14 = .ok (.invokestatic 15, 3) := by decide +kernel
theorem dX0_init_17 : decode cX0_init 17 = .ok (.putfield 18, 3) := by decide +kernel
theorem dX0_init_20 : decode cX0_init 20 = .ok (.aload_n 0, 1) := by decide +kernel
theorem dX0_init_21 : decode cX0_init 21 = .ok (.aload_n 0, 1) := by decide +kernel
theorem dX0_init_22 : decode cX0_init 22 = .ok (.getfield 18, 3) := by decide +kernel
theorem dX0_init_25 : decode cX0_init 25 = .ok (.newarray .int, 2) := by decide +kernel
theorem dX0_init_27 : decode cX0_init 27 = .ok (.putfield 22, 3) := by decide +kernel
theorem dX0_init_30 : decode cX0_init 30 = .ok (.aload_n 0, 1) := by decide +kernel
theorem dX0_init_31 : decode cX0_init 31 = .ok (.aload_n 0, 1) := by decide +kernel
theorem dX0_init_32 : decode cX0_init 32 = .ok (.getfield 18, 3) := by decide +kernel
theorem dX0_init_35 : decode cX0_init 35 = .ok (.newarray .int, 2) := by decide +kernel
theorem dX0_init_37 : decode cX0_init 37 = .ok (.putfield 26, 3) := by decide +kernel
theorem dX0_init_40 : decode cX0_init 40 = .ok (.aload_n 0, 1) := by decide +kernel
theorem dX0_init_41 : decode cX0_init 41 = .ok (.aload_n 0, 1) := by decide +kernel
theorem dX0_init_42 : decode cX0_init 42 = .ok (.getfield 18, 3) := by decide +kernel
theorem dX0_init_45 : decode cX0_init 45 = .ok (.newarray .int, 2) := by decide +kernel
theorem dX0_init_47 : decode cX0_init 47 = .ok (.putfield 29, 3) := by decide +kernel
theorem dX0_init_50 : decode cX0_init 50 = .ok (.aload_n 0, 1) := by decide +kernel
theorem dX0_init_51 : decode cX0_init 51 = .ok (.aload_n 0, 1) := by decide +kernel
theorem dX0_init_52 : decode cX0_init 52 = .ok (.getfield 18, 3) := by decide +kernel
theorem dX0_init_55 : decode cX0_init 55 = .ok (.newarray .int, 2) := by decide +kernel
theorem dX0_init_57 : decode cX0_init 57 = .ok (.putfield 32, 3) := by decide +kernel
theorem dX0_init_60 : decode cX0_init 60 = .ok (.aload_n 0, 1) := by decide +kernel
theorem dX0_init_61 : decode cX0_init 61 = .ok (.getfield 29, 3) := by decide +kernel
theorem dX0_init_64 : decode cX0_init 64 = .ok (.iconst (-1), 1) := by decide +kernel
theorem dX0_init_65 : decode cX0_init 65 = .ok (.invokestatic 35, 3) := by decide +kernel
theorem dX0_init_68 : decode cX0_init 68 = .ok (.aload_n 0, 1) := by decide +kernel
theorem dX0_init_69 : decode cX0_init 69 = .ok (.iconst 0, 1) := by decide +kernel
theorem dX0_init_70 : decode cX0_init 70 = .ok (.putfield 41, 3) := by decide +kernel
theorem dX0_init_73 : decode cX0_init 73 = .ok (.aload_n 0, 1) := by decide +kernel
theorem dX0_init_74 : decode cX0_init 74 = .ok (.iconst 0, 1) := by decide +kernel
theorem dX0_init_75 : decode cX0_init 75 = .ok (.putfield 44, 3) := by decide +kernel
theorem dX0_init_78 : decode cX0_init 78 = .ok (.aload_n 0, 1) := by decide +kernel
theorem dX0_init_79 : decode cX0_init 79 = .ok (.iconst (-1), 1) := by decide +kernel
theorem dX0_init_80 : decode cX0_init 80 = .ok (.putfield 47, 3) := by decide +kernel
theorem dX0_init_83 : decode cX0_init 83 = .ok (.aload_n 0, 1) := by decide +kernel
theorem dX0_init_84 : decode cX0_init 84 = .ok (.iconst (-1), 1) := by decide +kernel
theorem dX0_init_85 : decode cX0_init 85 = .ok (.putfield 50, 3) := by decide +kernel
theorem dX0_init_88 : decode cX0_init 88 = .ok (.return_, 1) := by decide +kernel
theorem dX0_malloc_0 : decode cX0_malloc 0 = .ok (.iload_n 1, 1) := by decide +kernel
theorem dX0_malloc_1 : decode cX0_malloc 1 = .ok (.sipush 511, 3) := by decide +kernel
theorem dX0_malloc_4 : decode cX0_malloc 4 = .ok (.if_icmp .le 5, 3) := by decide +kernel
theorem dX0_malloc_7 : decode cX0_malloc 7 = .ok (.iconst 0, 1) := by decide +kernel
theorem dX0_malloc_8 : decode cX0_malloc 8 = .ok (.ireturn, 1) := by decide +kernel
theorem dX0_malloc_9 : decode cX0_malloc 9 = .ok (.aload_n 0, 1) := by decide +kernel
theorem dX0_malloc_10 : decode cX0_malloc 10 = .ok (.iload_n 1, 1) := by decide +kernel
theorem dX0_malloc_11 : decode cX0_malloc 11 = .ok (.invokestatic 53, 3) := by decide +kernel
theorem dX0_malloc_14 : decode cX0_malloc 14 = .ok (.invokevirtual 57, 3) := by decide +kernel
theorem dX0_malloc_17 : decode cX0_malloc 17 = .ok (.invokestatic 60, 3) := by decide +kernel
theorem dX0_malloc_20 : decode cX0_malloc 20 = .ok (.ireturn, 1) := by decide +kernel
theorem dX0_calloc_0 : decode cX0_calloc 0 = .ok (.aload_n 0, 1) := by decide +kernel
theorem dX0_calloc_1 : decode cX0_calloc 1 = .ok (.iload_n 1, 1) := by decide +kernel
theorem dX0_calloc_2 : decode cX0_calloc 2 = .ok (.invokevirtual 63, 3) := by decide +kernel
theorem dX0_calloc_5 : decode cX0_calloc 5 = .ok (.istore_n 2, 1) := by decide +kernel
theorem dX0_calloc_6 : decode cX0_calloc 6 = .ok (.aload_n 0, 1) := by decide +kernel
theorem dX0_calloc_7 : decode cX0_calloc 7 = .ok (.iload_n 2, 1) := by decide +kernel
theorem dX0_calloc_8 : decode cX0_calloc 8 = .ok (.invokevirtual 66, 3) := by decide +kernel
theorem dX0_calloc_11 : decode cX0_calloc 11 = .ok (.ifCond .eq 19, 3) := by decide +kernel
theorem dX0_calloc_14 : decode cX0_calloc 14 = .ok (.aload_n 0, 1) := by decide +kernel
theorem dX0_calloc_15 : decode cX0_calloc 15 = .ok (.getfield 22, 3) := by decide +kernel
theorem dX0_calloc_18 : decode cX0_calloc 18 = .ok (.iload_n 2, 1) := by decide +kernel
theorem dX0_calloc_19 : decode cX0_calloc 19 = .ok (.iload_n 2, 1) := by decide +kernel
theorem dX0_calloc_20 : decode cX0_calloc 20 = .ok (.aload_n 0, 1) := by decide +kernel
theorem dX0_calloc_21 : decode cX0_calloc 21 = .ok (.iload_n 2, 1) := by decide +kernel
theorem dX0_calloc_22 : decode cX0_calloc 22 = .ok (.invokevirtual 70, 3) := by decide +kernel
theorem dX0_calloc_25 : decode cX0_calloc 25 = .ok (.iadd, 1) := by decide +kernel
theorem dX0_calloc_26 : decode cX0_calloc 26 = .ok (.iconst 0, 1) := by decide +kernel
theorem dX0_calloc_27 : decode cX0_calloc 27 = .ok (.invokestatic 73, 3) := by decide +kernel
theorem dX0_calloc_30 : decode cX0_calloc 30 = .ok (.iload_n 2, 1) := by decide +kernel
theorem dX0_calloc_31 : decode cX0_calloc 31 = .ok (.ireturn, 1) := by decide +kernel
theorem dX0_free_0 : decode cX0_free 0 = .ok (.aload_n 0, 1) := by decide +kernel
theorem dX0_free_1 : decode cX0_free 1 = .ok (.iload_n 1, 1) := by decide +kernel
theorem dX0_free_2 : decode cX0_free 2 = .ok (.invokevirtual 66, 3) := by decide +kernel
theorem dX0_free_5 : decode cX0_free 5 = .ok (.ifCond .ne 5, 3) := by decide +kernel
theorem dX0_free_8 : decode cX0_free 8 = .ok (.iconst 0, 1) := by decide +kernel
theorem dX0_free_9 : decode cX0_free 9 = .ok (.ireturn, 1) := by decide +kernel
theorem dX0_free_10 : decode cX0_free 10 = .ok (.aload_n 0, 1) := by decide +kernel
theorem dX0_free_11 : decode cX0_free 11 = .ok (.iload_n 1, 1) := by decide +kernel
theorem dX0_free_12 : decode cX0_free 12 = .ok (.iconst 1, 1) := by decide +kernel
theorem dX0_free_13 : decode cX0_free 13 = .ok (.isub, 1) := by decide +kernel
theorem dX0_free_14 : decode cX0_free 14 = .ok (.invokevirtual 76, 3) := by decide +kernel
theorem dX0_free_17 : decode cX0_free 17 = .ok (.iconst 1, 1) := by decide +kernel
theorem dX0_free_18 : decode cX0_free 18 = .ok (.ireturn, 1) := by decide +kernel
theorem dX0_realloc_0 : decode cX0_realloc 0 = .ok (.aload_n 0, 1) := by decide +kernel
theorem dX0_realloc_1 : decode cX0_realloc 1 = .ok (.iload_n 1, 1) := by decide +kernel
theorem dX0_realloc_2 : decode cX0_realloc 2 = .ok (.invokevirtual 66, 3) := by decide +kernel
theorem dX0_realloc_5 : decode cX0_realloc 5 = .ok (.ifCond .eq 10, 3) := by decide +kernel
theorem dX0_realloc_8 : decode cX0_realloc 8 = .ok (.iload_n 2, 1) := by decide +kernel
theorem dX0_realloc_9 : decode cX0_realloc 9 = .ok (.sipush 511, 3) := by decide +kernel
theorem dX0_realloc_12 : decode cX0_realloc 12 = .ok (.if_icmp .le 5, 3) := by decide +kernel
theorem dX0_realloc_15 : decode cX0_realloc 15 = .ok (.iconst 0, 1) := by decide +kernel
theorem dX0_realloc_16 : decode cX0_realloc 16 = .ok (.ireturn, 1) := by decide +kernel
theorem dX0_realloc_17 : decode cX0_realloc 17 = .ok (.iload_n 1, 1) := by decide +kernel
theorem dX0_realloc_18 : decode cX0_realloc 18 = .ok (.iconst 1, 1) := by decide +kernel
theorem dX0_realloc_19 : decode cX0_realloc 19 = .ok (.isub, 1) := by decide +kernel
theorem dX0_realloc_20 : decode cX0_realloc 20 = .ok (.istore_n 3, 1) := by decide +kernel
theorem dX0_realloc_21 : decode cX0_realloc 21 = .ok (.iload_n 2, 1) := by decide +kernel
theorem dX0_realloc_22 : decode cX0_realloc 22 = .ok (.invokestatic 53, 3) := by decide +kernel
theorem dX0_realloc_25 : decode cX0_realloc 25 = .ok (.istore 4, 2) := by decide +kernel
theorem dX0_realloc_27 : decode cX0_realloc 27 = .ok (.aload_n 0, 1) := by decide +kernel
theorem dX0_realloc_28 : decode cX0_realloc 28 = .ok (.getfield 26, 3) := by decide +kernel
theorem dX0_realloc_31 : decode cX0_realloc 31 = .ok (.iload_n 3, 1) := by decide +kernel
theorem dX0_realloc_32 : decode cX0_realloc 32 = .ok (.iaload, 1) := by decide +kernel
theorem dX0_realloc_33 : decode cX0_realloc 33 = .ok (.iload 4, 2) := by decide +kernel
theorem dX0_realloc_35 : decode cX0_realloc 35 = .ok (.if_icmp .lt 12, 3) := by decide +kernel
theorem dX0_realloc_38 : decode cX0_realloc 38 = .ok (.aload_n 0, 1) := by decide +kernel
theorem dX0_realloc_39 : decode cX0_realloc 39 = .ok (.iload_n 3, 1) := by decide +kernel
theorem dX0_realloc_40 : decode cX0_realloc 40 = .ok (.iload 4, 2) := by decide +kernel
theorem dX0_realloc_42 : decode cX0_realloc 42 = .ok (.invokevirtual 80, 3) := by decide +kernel
theorem dX0_realloc_45 : decode cX0_realloc 45 = .ok (.iload_n 1, 1) := by decide +kernel
theorem dX0_realloc_46 : decode cX0_realloc 46 = .ok (.ireturn, 1) := by decide +kernel
theorem dX0_realloc_47 : decode cX0_realloc 47 = .ok (.aload_n 0, 1) := by decide +kernel
theorem dX0_realloc_48 : decode cX0_realloc 48 = .ok (.iload_n 3, 1) := by decide +kernel
theorem dX0_realloc_49 : decode cX0_realloc 49 = .ok (.iload 4, 2) := by decide +kernel
theorem dX0_realloc_51 : decode cX0_realloc 51 = .ok (.invokevirtual 84, 3) := by decide +kernel
theorem dX0_realloc_54 : decode cX0_realloc 54 = .ok (.ifCond .eq 7, 3) := by decide +kernel
theorem dX0_realloc_57 : decode cX0_realloc 57 = .ok (.iload_n 1, 1) := by decide +kernel
theorem dX0_realloc_58 : decode cX0_realloc 58 = .ok (.goto 13, 3) := by decide +kernel
theorem dX0_realloc_61 : decode cX0_realloc 61 = .ok (.aload_n 0, 1) := by decide +kernel
theorem dX0_realloc_62 : decode cX0_realloc 62 = .ok (.iload_n 3, 1) := by decide +kernel
theorem dX0_realloc_63 : decode cX0_realloc 63 = .ok (.iload 4, 2) := by decide +kernel
theorem dX0_realloc_65 : decode cX0_realloc 65 = .ok (.invokevirtual 88, 3) := by decide +kernel
theorem dX0_realloc_68 : decode cX0_realloc 68 = .ok (.invokestatic 60, 3) := by decide +kernel
theorem dX0_realloc_71 : decode cX0_realloc 71 = .ok (.ireturn, 1) := by decide +kernel
theorem dX0_align_0 : decode cX0_align 0 = .ok (.iload_n 1, 1) := by decide +kernel
theorem dX0_align_1 : decode cX0_align 1 = .ok (.sipush 511, 3) := by decide +kernel
theorem dX0_align_4 : decode cX0_align 4 = .ok (.if_icmp .gt 10, 3) := by decide +kernel
theorem dX0_align_7 : decode cX0_align 7 = .ok (.iload_n 2, 1) := by decide +kernel
theorem dX0_align_8 : decode cX0_align 8 = .ok (.invokestatic 91, 3) := by decide +kernel
theorem dX0_align_11 : decode cX0_align 11 = .ok (.ifCond .ne 5, 3) := by decide +kernel
theorem dX0_align_14 : decode cX0_align 14 = .ok (.iconst 0, 1) := by decide +kernel
theorem dX0_align_15 : decode cX0_align 15 = .ok (.ireturn, 1) := by decide +kernel
theorem dX0_align_16 : decode cX0_align 16 = .ok (.iload_n 1, 1) := by decide +kernel
theorem dX0_align_17 : decode cX0_align 17 = .ok (.invokestatic 53, 3) := by decide +kernel
theorem dX0_align_20 : decode cX0_align 20 = .ok (.istore_n 3, 1) := by decide +kernel
theorem dX0_align_21 : decode cX0_align 21 = .ok (.aload_n 0, 1) := by decide +kernel
theorem dX0_align_22 : decode cX0_align 22 = .ok (.iload_n 3, 1) := by decide +kernel
theorem dX0_align_23 : decode cX0_align 23 = .ok (.iload_n 2, 1) := by decide +kernel
theorem dX0_align_24 : decode cX0_align 24 = .ok (.iadd, 1) := by decide +kernel
theorem dX0_align_25 : decode cX0_align 25 = .ok (.iconst 2, 1) := by decide +kernel
theorem dX0_align_26 : decode cX0_align 26 = .ok (.iadd, 1) := by decide +kernel
theorem dX0_align_27 : decode cX0_align 27 = .ok (.invokevirtual 57, 3) := by decide +kernel
theorem dX0_align_30 : decode cX0_align 30 = .ok (.istore 4, 2) := by decide +kernel
theorem dX0_align_32 : decode cX0_align 32 = .ok (.iload 4, 2) := by decide +kernel
theorem dX0_align_34 : decode cX0_align 34 = .ok (.iconst (-1), 1) := by decide +kernel
theorem dX0_align_35 : decode cX0_align 35 = .ok (.if_icmp .ne 5, 3) := by decide +kernel
theorem dX0_align_38 : decode cX0_align 38 = .ok (.iconst 0, 1) := by decide +kernel
theorem dX0_align_39 : decode cX0_align 39 = .ok (.ireturn, 1) := by decide +kernel
theorem dX0_align_40 : decode cX0_align 40 = .ok (.iload 4, 2) := by decide +kernel
theorem dX0_align_42 : decode cX0_align 42 = .ok (.iconst 1, 1) := by decide +kernel
theorem dX0_align_43 : decode cX0_align 43 = .ok (.iadd, 1) := by decide +kernel
theorem dX0_align_44 : decode cX0_align 44 = .ok (.iload_n 2, 1) := by decide +kernel
theorem dX0_align_45 : decode cX0_align 45 = .ok (.invokestatic 94, 3) := by decide +kernel
theorem dX0_align_48 : decode cX0_align 48 = .ok (.istore 5, 2) := by decide +kernel
theorem dX0_align_50 : decode cX0_align 50 = .ok (.iload 5, 2) := by decide +kernel
theorem dX0_align_52 : decode cX0_align 52 = .ok (.ifCond .le 19, 3) := by decide +kernel
theorem dX0_align_55 : decode cX0_align 55 = .ok (.aload_n 0, 1) := by decide +kernel
theorem dX0_align_56 : decode cX0_align 56 = .ok (.iload 4, 2) := by decide +kernel
theorem dX0_align_58 : decode cX0_align 58 = .ok (.iload 5, 2) := by decide +kernel
theorem dX0_align_60 : decode cX0_align 60 = .ok (.iconst 0, 1) := by decide +kernel
theorem dX0_align_61 : decode cX0_align 61 = .ok (.invokevirtual 97, 3) := by decide +kernel
theorem dX0_align_64 : decode cX0_align 64 = .ok (.pop, 1) := by decide +kernel
theorem dX0_align_65 : decode cX0_align 65 = .ok (.aload_n 0, 1) := by decide +kernel
theorem dX0_align_66 : decode cX0_align 66 = .ok (.iload 4, 2) := by decide +kernel
theorem dX0_align_68 : decode cX0_align 68 = .ok (.invokevirtual 76, 3) := by decide +kernel
theorem dX0_align_71 : decode cX0_align 71 = .ok (.aload_n 0, 1) := by decide +kernel
theorem dX0_align_72 : decode cX0_align 72 = .ok (.iload 4, 2) := by decide +kernel
theorem dX0_align_74 : decode cX0_align 74 = .ok (.iload 5, 2) := by decide +kernel
theorem dX0_align_76 : decode cX0_align 76 = .ok (.iadd, 1) := by decide +kernel
theorem dX0_align_77 : decode cX0_align 77 = .ok (.iload_n 3, 1) := by decide +kernel
theorem dX0_align_78 : decode cX0_align 78 = .ok (.invokevirtual 80, 3) := by decide +kernel
theorem dX0_align_81 : decode cX0_align 81 = .ok (.iload 4, 2) := by decide +kernel
theorem dX0_align_83 : decode cX0_align 83 = .ok (.iload 5, 2) := by decide +kernel
theorem dX0_align_85 : decode cX0_align 85 = .ok (.iadd, 1) := by decide +kernel
theorem dX0_align_86 : decode cX0_align 86 = .ok (.invokestatic 60, 3) := by decide +kernel
theorem dX0_align_89 : decode cX0_align 89 = .ok (.ireturn, 1) := by decide +kernel
theorem dX0_trim_0 : decode cX0_trim 0 = .ok (.aload_n 0, 1) := by decide +kernel
theorem dX0_trim_1 : decode cX0_trim 1 = .ok (.aload_n 0, 1) := by decide +kernel
theorem dX0_trim_2 : decode cX0_trim 2 = .ok (.getfield 50, 3) := by decide +kernel
theorem dX0_trim_5 : decode cX0_trim 5 = .ok (.invokevirtual 101, 3) := by decide +kernel
theorem dX0_trim_8 : decode cX0_trim 8 = .ok (.istore_n 2, 1) := by decide +kernel
theorem dX0_trim_9 : decode cX0_trim 9 = .ok (.iload_n 2, 1) := by decide +kernel
theorem dX0_trim_10 : decode cX0_trim 10 = .ok (.iload_n 1, 1) := by decide +kernel
theorem dX0_trim_11 : decode cX0_trim 11 = .ok (.iconst 0, 1) := by decide +kernel
theorem dX0_trim_12 : decode cX0_trim 12 = .ok (.invokestatic 15, 3) := by decide +kernel
theorem dX0_trim_15 : decode cX0_trim 15 = .ok (.isub, 1) := by decide +kernel
theorem dX0_trim_16 : decode cX0_trim 16 = .ok (.istore_n 3, 1) := by decide +kernel
theorem dX0_trim_17 : decode cX0_trim 17 = .ok (.iload_n 3, 1) := by decide +kernel
theorem dX0_trim_18 : decode cX0_trim 18 = .ok (.bipush 16, 2) := by decide +kernel
theorem dX0_trim_20 : decode cX0_trim 20 = .ok (.if_icmp .ge 5, 3) := by decide +kernel
theorem dX0_trim_23 : decode cX0_trim 23 = .ok (.iconst 0, 1) := by decide +kernel
theorem dX0_trim_24 : decode cX0_trim 24 = .ok (.ireturn, 1) := by decide +kernel
theorem dX0_trim_25 : decode cX0_trim 25 = .ok (.iload_n 3, 1) := by decide +kernel
theorem dX0_trim_26 : decode cX0_trim 26 = .ok (.iload_n 3, 1) := by decide +kernel
theorem dX0_trim_27 : decode cX0_trim 27 = .ok (.bipush 16, 2) := by decide +kernel
theorem dX0_trim_29 : decode cX0_trim 29 = .ok (.irem, 1) := by decide +kernel
theorem dX0_trim_30 : decode cX0_trim 30 = .ok (.isub, 1) := by decide +kernel
theorem dX0_trim_31 : decode cX0_trim 31 = .ok (.istore 4, 2) := by decide +kernel
theorem dX0_trim_33 : decode cX0_trim 33 = .ok (.iload_n 2, 1) := by decide +kernel
theorem dX0_trim_34 : decode cX0_trim 34 = .ok (.iload 4, 2) := by decide +kernel
theorem dX0_trim_36 : decode cX0_trim 36 = .ok (.isub, 1) := by decide +kernel
theorem dX0_trim_37 : decode cX0_trim 37 = .ok (.iconst 1, 1) := by decide +kernel
theorem dX0_trim_38 : decode cX0_trim 38 = .ok (.if_icmp .ne 6, 3) := by decide +kernel
theorem dX0_trim_41 : decode cX0_trim 41 = .ok (.iinc 4 (-16), 3) := by decide +kernel
theorem dX0_trim_44 : decode cX0_trim 44 = .ok (.aload_n 0, 1) := by decide +kernel
theorem dX0_trim_45 : decode cX0_trim 45 = .ok (.iload 4, 2) := by decide +kernel
theorem dX0_trim_47 : decode cX0_trim 47 = .ok (.invokevirtual 104, 3) := by decide +kernel
theorem dX0_trim_50 : decode cX0_trim 50 = .ok (.iload 4, 2) := by decide +kernel
theorem dX0_trim_52 : decode cX0_trim 52 = .ok (.ireturn, 1) := by decide +kernel
theorem dX0_usable_0 : decode cX0_usable 0 = .ok (.aload_n 0, 1) := by decide +kernel
theorem dX0_usable_1 : decode cX0_usable 1 = .ok (.iload_n 1, 1) := by decide +kernel
theorem dX0_usable_2 : decode cX0_usable 2 = .ok (.invokevirtual 66, 3) := by decide +kernel
theorem dX0_usable_5 : decode cX0_usable 5 = .ok (.ifCond .eq 16, 3) := by decide +kernel
theorem dX0_usable_8 : decode cX0_usable 8 = .ok (.aload_n 0, 1) := by decide +kernel
theorem dX0_usable_9 : decode cX0_usable 9 = .ok (.getfield 26, 3) := by decide +kernel
theorem dX0_usable_12 : decode cX0_usable 12 = .ok (.iload_n 1, 1) := by decide +kernel
theorem dX0_usable_13 : decode cX0_usable 13 = .ok (.iconst 1, 1) := by decide +kernel
theorem dX0_usable_14 : decode cX0_usable 14 = .ok (.isub, 1) := by decide +kernel
theorem dX0_usable_15 : decode cX0_usable 15 = .ok (.iaload, 1) := by decide +kernel
theorem dX0_usable_16 : decode cX0_usable 16 = .ok (.iconst 1, 1) := by decide +kernel
theorem dX0_usable_17 : decode cX0_usable 17 = .ok (.isub, 1) := by decide +kernel
theorem dX0_usable_18 : decode cX0_usable 18 = .ok (.goto 4, 3) := by decide +kernel
theorem dX0_usable_21 : decode cX0_usable 21 = .ok (.iconst 0, 1) := by decide +kernel
theorem dX0_usable_22 : decode cX0_usable 22 = .ok (.ireturn, 1) := by decide +kernel
theorem dX0_read_0 : decode cX0_read 0 = .ok (.aload_n 0, 1) := by decide +kernel
theorem dX0_read_1 : decode cX0_read 1 = .ok (.iload_n 1, 1) := by decide +kernel
theorem dX0_read_2 : decode cX0_read 2 = .ok (.iload_n 2, 1) := by decide +kernel
theorem dX0_read_3 : decode cX0_read 3 = .ok (.invokevirtual 107, 3) := by decide +kernel
theorem dX0_read_6 : decode cX0_read 6 = .ok (.ifCond .eq 14, 3) := by decide +kernel
theorem dX0_read_9 : decode cX0_read 9 = .ok (.aload_n 0, 1) := by decide +kernel
theorem dX0_read_10 : decode cX0_read 10 = .ok (.getfield 22, 3) := by decide +kernel
theorem dX0_read_13 : decode cX0_read 13 = .ok (.iload_n 1, 1) := by decide +kernel
theorem dX0_read_14 : decode cX0_read 14 = .ok (.iload_n 2, 1) := by decide +kernel
theorem dX0_read_15 : decode cX0_read 15 = .ok (.iadd, 1) := by decide +kernel
theorem dX0_read_16 : decode cX0_read 16 = .ok (.iaload, 1) := by decide +kernel
theorem dX0_read_17 : decode cX0_read 17 = .ok (.goto 4, 3) := by decide +kernel
theorem dX0_read_20 : decode cX0_read 20 = .ok (.iconst 0, 1) := by decide +kernel
theorem dX0_read_21 : decode cX0_read 21 = .ok (.ireturn, 1) := by decide +kernel
theorem dX0_write_0 : decode cX0_write 0 = .ok (.aload_n 0, 1) := by decide +kernel
theorem dX0_write_1 : decode cX0_write 1 = .ok (.iload_n 1, 1) := by decide +kernel
theorem dX0_write_2 : decode cX0_write 2 = .ok (.iload_n 2, 1) := by decide +kernel
theorem dX0_write_3 : decode cX0_write 3 = .ok (.invokevirtual 107, 3) := by decide +kernel
theorem dX0_write_6 : decode cX0_write 6 = .ok (.ifCond .ne 5, 3) := by decide +kernel
theorem dX0_write_9 : decode cX0_write 9 = .ok (.iconst 0, 1) := by decide +kernel
theorem dX0_write_10 : decode cX0_write 10 = .ok (.ireturn, 1) := by decide +kernel
theorem dX0_write_11 : decode cX0_write 11 = .ok (.aload_n 0, 1) := by decide +kernel
theorem dX0_write_12 : decode cX0_write 12 = .ok (.getfield 22, 3) := by decide +kernel
theorem dX0_write_15 : decode cX0_write 15 = .ok (.iload_n 1, 1) := by decide +kernel
theorem dX0_write_16 : decode cX0_write 16 = .ok (.iload_n 2, 1) := by decide +kernel
theorem dX0_write_17 : decode cX0_write 17 = .ok (.iadd, 1) := by decide +kernel
theorem dX0_write_18 : decode cX0_write 18 = .ok (.iload_n 3, 1) := by decide +kernel
theorem dX0_write_19 : decode cX0_write 19 = .ok (.iastore, 1) := by decide +kernel
theorem dX0_write_20 : decode cX0_write 20 = .ok (.iconst 1, 1) := by decide +kernel
theorem dX0_write_21 : decode cX0_write 21 = .ok (.ireturn, 1) := by decide +kernel
theorem dX0_size_0 : decode cX0_size 0 = .ok (.aload_n 0, 1) := by decide +kernel
theorem dX0_size_1 : decode cX0_size 1 = .ok (.iload_n 1, 1) := by decide +kernel
theorem dX0_size_2 : decode cX0_size 2 = .ok (.invokevirtual 110, 3) := by decide +kernel
theorem dX0_size_5 : decode cX0_size 5 = .ok (.ifCond .eq 12, 3) := by decide +kernel
theorem dX0_size_8 : decode cX0_size 8 = .ok (.aload_n 0, 1) := by decide +kernel
theorem dX0_size_9 : decode cX0_size 9 = .ok (.getfield 26, 3) := by decide +kernel
theorem dX0_size_12 : decode cX0_size 12 = .ok (.iload_n 1, 1) := by decide +kernel
theorem dX0_size_13 : decode cX0_size 13 = .ok (.iaload, 1) := by decide +kernel
theorem dX0_size_14 : decode cX0_size 14 = .ok (.goto 4, 3) := by decide +kernel
theorem dX0_size_17 : decode cX0_size 17 = .ok (.iconst (-1), 1) := by decide +kernel
theorem dX0_size_18 : decode cX0_size 18 = .ok (.ireturn, 1) := by decide +kernel
theorem dX0_state_0 : decode cX0_state 0 = .ok (.aload_n 0, 1) := by decide +kernel
theorem dX0_state_1 : decode cX0_state 1 = .ok (.iload_n 1, 1) := by decide +kernel
theorem dX0_state_2 : decode cX0_state 2 = .ok (.invokevirtual 110, 3) := by decide +kernel
theorem dX0_state_5 : decode cX0_state 5 = .ok (.ifCond .eq 12, 3) := by decide +kernel
theorem dX0_state_8 : decode cX0_state 8 = .ok (.aload_n 0, 1) := by decide +kernel
theorem dX0_state_9 : decode cX0_state 9 = .ok (.getfield 29, 3) := by decide +kernel
theorem dX0_state_12 : decode cX0_state 12 = .ok (.iload_n 1, 1) := by decide +kernel
theorem dX0_state_13 : decode cX0_state 13 = .ok (.iaload, 1) := by decide +kernel
theorem dX0_state_14 : decode cX0_state 14 = .ok (.goto 4, 3) := by decide +kernel
theorem dX0_state_17 : decode cX0_state 17 = .ok (.iconst (-1), 1) := by decide +kernel
theorem dX0_state_18 : decode cX0_state 18 = .ok (.ireturn, 1) := by decide +kernel
theorem dX0_count_0 : decode cX0_count 0 = .ok (.iload_n 1, 1) := by decide +kernel
theorem dX0_count_1 : decode cX0_count 1 = .ok (.ifCond .lt 9, 3) := by decide +kernel
theorem dX0_count_4 : decode cX0_count 4 = .ok (.iload_n 1, 1) := by decide +kernel
theorem dX0_count_5 : decode cX0_count 5 = .ok (.bipush 16, 2) := by decide +kernel
theorem dX0_count_7 : decode cX0_count 7 = .ok (.if_icmp .le 5, 3) := by decide +kernel
theorem dX0_count_10 : decode cX0_count 10 = .ok (.iconst (-1), 1) := by decide +kernel
theorem dX0_count_11 : decode cX0_count 11 = .ok (.ireturn, 1) := by decide +kernel
theorem dX0_count_12 : decode cX0_count 12 = .ok (.iconst 0, 1) := by decide +kernel
theorem dX0_count_13 : decode cX0_count 13 = .ok (.istore_n 2, 1) := by decide +kernel
theorem dX0_count_14 : decode cX0_count 14 = .ok (.iconst 0, 1) := by decide +kernel
theorem dX0_count_15 : decode cX0_count 15 = .ok (.istore_n 3, 1) := by decide +kernel
theorem dX0_count_16 : decode cX0_count 16 = .ok (.iload_n 3, 1) := by decide +kernel
theorem dX0_count_17 : decode cX0_count 17 = .ok (.aload_n 0, 1) := by decide +kernel
theorem dX0_count_18 : decode cX0_count 18 = .ok (.getfield 44, 3) := by decide +kernel
theorem dX0_count_21 : decode cX0_count 21 = .ok (.if_icmp .ge 31, 3) := by decide +kernel
theorem dX0_count_24 : decode cX0_count 24 = .ok (.aload_n 0, 1) := by decide +kernel
theorem dX0_count_25 : decode cX0_count 25 = .ok (.getfield 29, 3) := by decide +kernel
theorem dX0_count_28 : decode cX0_count 28 = .ok (.iload_n 3, 1) := by decide +kernel
theorem dX0_count_29 : decode cX0_count 29 = .ok (.iaload, 1) := by decide +kernel
theorem dX0_count_30 : decode cX0_count 30 = .ok (.iconst (-1), 1) := by decide +kernel
theorem dX0_count_31 : decode cX0_count 31 = .ok (.if_icmp .eq 15, 3) := by decide +kernel
theorem dX0_count_34 : decode cX0_count 34 = .ok (.aload_n 0, 1) := by decide +kernel
theorem dX0_count_35 : decode cX0_count 35 = .ok (.iload_n 1, 1) := by decide +kernel
theorem dX0_count_36 : decode cX0_count 36 = .ok (.iload_n 3, 1) := by decide +kernel
theorem dX0_count_37 : decode cX0_count 37 = .ok (.invokevirtual 113, 3) := by decide +kernel
theorem dX0_count_40 : decode cX0_count 40 = .ok (.ifCond .eq 6, 3) := by decide +kernel
theorem dX0_count_43 : decode cX0_count 43 = .ok (.iinc 2 1, 3) := by decide +kernel
theorem dX0_count_46 : decode cX0_count 46 = .ok (.iinc 3 1, 3) := by decide +kernel
theorem dX0_count_49 : decode cX0_count 49 = .ok (.goto (-33), 3) := by decide +kernel
theorem dX0_count_52 : decode cX0_count 52 = .ok (.iload_n 2, 1) := by decide +kernel
theorem dX0_count_53 : decode cX0_count 53 = .ok (.ireturn, 1) := by decide +kernel
theorem dX0_end_0 : decode cX0_end 0 = .ok (.aload_n 0, 1) := by decide +kernel
theorem dX0_end_1 : decode cX0_end 1 = .ok (.getfield 44, 3) := by decide +kernel
theorem dX0_end_4 : decode cX0_end 4 = .ok (.ireturn, 1) := by decide +kernel
theorem dX0_total_0 : decode cX0_total 0 = .ok (.iload_n 1, 1) := by decide +kernel
theorem dX0_total_1 : decode cX0_total 1 = .ok (.ifCond .lt 8, 3) := by decide +kernel
theorem dX0_total_4 : decode cX0_total 4 = .ok (.iload_n 1, 1) := by decide +kernel
theorem dX0_total_5 : decode cX0_total 5 = .ok (.iconst 4, 1) := by decide +kernel
theorem dX0_total_6 : decode cX0_total 6 = .ok (.if_icmp .le 5, 3) := by decide +kernel
theorem dX0_total_9 : decode cX0_total 9 = .ok (.iconst (-1), 1) := by decide +kernel
theorem dX0_total_10 : decode cX0_total 10 = .ok (.ireturn, 1) := by decide +kernel
theorem dX0_total_11 : decode cX0_total 11 = .ok (.iconst 0, 1) := by decide +kernel
theorem dX0_total_12 : decode cX0_total 12 = .ok (.istore_n 2, 1) := by decide +kernel
theorem dX0_total_13 : decode cX0_total 13 = .ok (.iconst 0, 1) := by decide +kernel
theorem dX0_total_14 : decode cX0_total 14 = .ok (.istore_n 3, 1) := by decide +kernel
theorem dX0_total_15 : decode cX0_total 15 = .ok (.iload_n 3, 1) := by decide +kernel
theorem dX0_total_16 : decode cX0_total 16 = .ok (.aload_n 0, 1) := by decide +kernel
theorem dX0_total_17 : decode cX0_total 17 = .ok (.getfield 44, 3) := by decide +kernel
theorem dX0_total_20 : decode cX0_total 20 = .ok (.if_icmp .ge 28, 3) := by decide +kernel
theorem dX0_total_23 : decode cX0_total 23 = .ok (.aload_n 0, 1) := by decide +kernel
theorem dX0_total_24 : decode cX0_total 24 = .ok (.getfield 29, 3) := by decide +kernel
theorem dX0_total_27 : decode cX0_total 27 = .ok (.iload_n 3, 1) := by decide +kernel
theorem dX0_total_28 : decode cX0_total 28 = .ok (.iaload, 1) := by decide +kernel
theorem dX0_total_29 : decode cX0_total 29 = .ok (.iload_n 1, 1) := by decide +kernel
theorem dX0_total_30 : decode cX0_total 30 = .ok (.if_icmp .ne 12, 3) := by decide +kernel
theorem dX0_total_33 : decode cX0_total 33 = .ok (.iload_n 2, 1) := by decide +kernel
theorem dX0_total_34 : decode cX0_total 34 = .ok (.aload_n 0, 1) := by decide +kernel
theorem dX0_total_35 : decode cX0_total 35 = .ok (.getfield 26, 3) := by decide +kernel
theorem dX0_total_38 : decode cX0_total 38 = .ok (.iload_n 3, 1) := by decide +kernel
theorem dX0_total_39 : decode cX0_total 39 = .ok (.iaload, 1) := by decide +kernel
theorem dX0_total_40 : decode cX0_total 40 = .ok (.iadd, 1) := by decide +kernel
theorem dX0_total_41 : decode cX0_total 41 = .ok (.istore_n 2, 1) := by decide +kernel
theorem dX0_total_42 : decode cX0_total 42 = .ok (.iinc 3 1, 3) := by decide +kernel
theorem dX0_total_45 : decode cX0_total 45 = .ok (.goto (-30), 3) := by decide +kernel
theorem dX0_total_48 : decode cX0_total 48 = .ok (.iload_n 2, 1) := by decide +kernel
theorem dX0_total_49 : decode cX0_total 49 = .ok (.ireturn, 1) := by decide +kernel
theorem dX0_unitsFor_0 : decode cX0_unitsFor 0 = .ok (.iload_n 0, 1) := by decide +kernel
theorem dX0_unitsFor_1 : decode cX0_unitsFor 1 = .ok (.iconst 1, 1) := by decide +kernel
theorem dX0_unitsFor_2 : decode cX0_unitsFor 2 = .ok (.invokestatic 15, 3) := by decide +kernel
theorem dX0_unitsFor_5 : decode cX0_unitsFor 5 = .ok (.iconst 1, 1) := by decide +kernel
theorem dX0_unitsFor_6 : decode cX0_unitsFor 6 = .ok (.iadd, 1) := by decide +kernel
theorem dX0_unitsFor_7 : decode cX0_unitsFor 7 = .ok (.ireturn, 1) := by decide +kernel
theorem dX0_pointerTo_0 : decode cX0_pointerTo 0 = .ok (.iload_n 0, 1) := by decide +kernel
theorem dX0_pointerTo_1 : decode cX0_pointerTo 1 = .ok (.iconst (-1), 1) := by decide +kernel
theorem dX0_pointerTo_2 : decode cX0_pointerTo 2 = .ok (.if_icmp .ne 7, 3) := by decide +kernel
theorem dX0_pointerTo_5 : decode cX0_pointerTo 5 = .ok (.iconst 0, 1) := by decide +kernel
theorem dX0_pointerTo_6 : decode cX0_pointerTo 6 = .ok (.goto 6, 3) := by decide +kernel
theorem dX0_pointerTo_9 : decode cX0_pointerTo 9 = .ok (.iload_n 0, 1) := by decide +kernel
theorem dX0_pointerTo_10 : decode cX0_pointerTo 10 = .ok (.iconst 1, 1) := by decide +kernel
theorem dX0_pointerTo_11 : decode cX0_pointerTo 11 = .ok (.iadd, 1) := by decide +kernel
theorem dX0_pointerTo_12 : decode cX0_pointerTo 12 = .ok (.ireturn, 1) := by decide +kernel
theorem dX0_isAlignment_0 : decode cX0_isAlignment 0 = .ok (.iload_n 0, 1) := by decide +kernel
theorem dX0_isAlignment_1 : decode cX0_isAlignment 1 = .ok (.iconst 2, 1) := by decide +kernel
theorem dX0_isAlignment_2 : decode cX0_isAlignment 2 = .ok (.if_icmp .eq 20, 3) := by decide +kernel
theorem dX0_isAlignment_5 : decode cX0_isAlignment 5 = .ok (.iload_n 0, 1) := by decide +kernel
theorem dX0_isAlignment_6 : decode cX0_isAlignment 6 = .ok (.iconst 4, 1) := by decide +kernel
theorem dX0_isAlignment_7 : decode cX0_isAlignment 7 = .ok (.if_icmp .eq 15, 3) := by decide +kernel
theorem dX0_isAlignment_10 : decode cX0_isAlignment 10 = .ok (.iload_n 0, 1) := by decide +kernel
theorem dX0_isAlignment_11 : decode cX0_isAlignment 11 = .ok (.bipush 8, 2) := by decide +kernel
theorem dX0_isAlignment_13 : decode cX0_isAlignment 13 = .ok (.if_icmp .eq 9, 3) := by decide +kernel
theorem dX0_isAlignment_16 : decode cX0_isAlignment 16 = .ok (.iload_n 0, 1) := by decide +kernel
theorem dX0_isAlignment_17 : decode cX0_isAlignment 17 = .ok (.bipush 16, 2) := by decide +kernel
theorem dX0_isAlignment_19 : decode cX0_isAlignment 19 = .ok (.if_icmp .ne 7, 3) := by decide +kernel
theorem dX0_isAlignment_22 : decode cX0_isAlignment 22 = .ok (.iconst 1, 1) := by decide +kernel
theorem dX0_isAlignment_23 : decode cX0_isAlignment 23 = .ok (.goto 4, 3) := by decide +kernel
theorem dX0_isAlignment_26 : decode cX0_isAlignment 26 = .ok (.iconst 0, 1) := by decide +kernel
theorem dX0_isAlignment_27 : decode cX0_isAlignment 27 = .ok (.ireturn, 1) := by decide +kernel
theorem dX0_unitsInFront_0 : decode cX0_unitsInFront 0 = .ok (.iload_n 0, 1) := by decide +kernel
theorem dX0_unitsInFront_1 : decode cX0_unitsInFront 1 = .ok (.iload_n 1, 1) := by decide +kernel
theorem dX0_unitsInFront_2 : decode cX0_unitsInFront 2 = .ok (.irem, 1) := by decide +kernel
theorem dX0_unitsInFront_3 : decode cX0_unitsInFront 3 = .ok (.istore_n 2, 1) := by decide +kernel
theorem dX0_unitsInFront_4 : decode cX0_unitsInFront 4 = .ok (.iload_n 2, 1) := by decide +kernel
theorem dX0_unitsInFront_5 : decode cX0_unitsInFront 5 = .ok (.ifCond .ne 5, 3) := by decide +kernel
theorem dX0_unitsInFront_8 : decode cX0_unitsInFront 8 = .ok (.iconst 0, 1) := by decide +kernel
theorem dX0_unitsInFront_9 : decode cX0_unitsInFront 9 = .ok (.ireturn, 1) := by decide +kernel
theorem dX0_unitsInFront_10 : decode cX0_unitsInFront 10 = .ok (.iload_n 1, 1) := by decide +kernel
theorem dX0_unitsInFront_11 : decode cX0_unitsInFront 11 = .ok (.iload_n 2, 1) := by decide +kernel
theorem dX0_unitsInFront_12 : decode cX0_unitsInFront 12 = .ok (.isub, 1) := by decide +kernel
theorem dX0_unitsInFront_13 : decode cX0_unitsInFront 13 = .ok (.istore_n 3, 1) := by decide +kernel
theorem dX0_unitsInFront_14 : decode cX0_unitsInFront 14 = .ok (.iload_n 3, 1) := by decide +kernel
theorem dX0_unitsInFront_15 : decode cX0_unitsInFront 15 = .ok (.iconst 2, 1) := by decide +kernel
theorem dX0_unitsInFront_16 : decode cX0_unitsInFront 16 = .ok (.if_icmp .ge 9, 3) := by decide +kernel
theorem dX0_unitsInFront_19 : decode cX0_unitsInFront 19 = .ok (.iload_n 3, 1) := by decide +kernel
theorem dX0_unitsInFront_20 : decode cX0_unitsInFront 20 = .ok (.iload_n 1, 1) := by decide +kernel
theorem dX0_unitsInFront_21 : decode cX0_unitsInFront 21 = .ok (.iadd, 1) := by decide +kernel
theorem dX0_unitsInFront_22 : decode cX0_unitsInFront 22 = .ok (.goto 4, 3) := by decide +kernel
theorem dX0_unitsInFront_25 : decode cX0_unitsInFront 25 = .ok (.iload_n 3, 1) := by decide +kernel
theorem dX0_unitsInFront_26 : decode cX0_unitsInFront 26 = .ok (.ireturn, 1) := by decide +kernel
theorem dX0_isChunk_0 : decode cX0_isChunk 0 = .ok (.iload_n 1, 1) := by decide +kernel
theorem dX0_isChunk_1 : decode cX0_isChunk 1 = .ok (.ifCond .lt 25, 3) := by decide +kernel
theorem dX0_isChunk_4 : decode cX0_isChunk 4 = .ok (.iload_n 1, 1) := by decide +kernel
theorem dX0_isChunk_5 : decode cX0_isChunk 5 = .ok (.aload_n 0, 1) := by decide +kernel
theorem dX0_isChunk_6 : decode cX0_isChunk 6 = .ok (.getfield 44, 3) := by decide +kernel
theorem dX0_isChunk_9 : decode cX0_isChunk 9 = .ok (.if_icmp .ge 17, 3) := by decide +kernel
theorem dX0_isChunk_12 : decode cX0_isChunk 12 = .ok (.aload_n 0, 1) := by decide +kernel
theorem dX0_isChunk_13 : decode cX0_isChunk 13 = .ok (.getfield 29, 3) := by decide +kernel
theorem dX0_isChunk_16 : decode cX0_isChunk 16 = .ok (.iload_n 1, 1) := by decide +kernel
theorem dX0_isChunk_17 : decode cX0_isChunk 17 = .ok (.iaload, 1) := by decide +kernel
theorem dX0_isChunk_18 : decode cX0_isChunk 18 = .ok (.iconst (-1), 1) := by decide +kernel
theorem dX0_isChunk_19 : decode cX0_isChunk 19 = .ok (.if_icmp .eq 7, 3) := by decide +kernel
theorem dX0_isChunk_22 : decode cX0_isChunk 22 = .ok (.iconst 1, 1) := by decide +kernel
theorem dX0_isChunk_23 : decode cX0_isChunk 23 = .ok (.goto 4, 3) := by decide +kernel
theorem dX0_isChunk_26 : decode cX0_isChunk 26 = .ok (.iconst 0, 1) := by decide +kernel
theorem dX0_isChunk_27 : decode cX0_isChunk 27 = .ok (.ireturn, 1) := by decide +kernel
theorem dX0_isFree_0 : decode cX0_isFree 0 = .ok (.aload_n 0, 1) := by decide +kernel
theorem dX0_isFree_1 : decode cX0_isFree 1 = .ok (.iload_n 1, 1) := by decide +kernel
theorem dX0_isFree_2 : decode cX0_isFree 2 = .ok (.invokevirtual 110, 3) := by decide +kernel
theorem dX0_isFree_5 : decode cX0_isFree 5 = .ok (.ifCond .eq 16, 3) := by decide +kernel
theorem dX0_isFree_8 : decode cX0_isFree 8 = .ok (.aload_n 0, 1) := by decide +kernel
theorem dX0_isFree_9 : decode cX0_isFree 9 = .ok (.getfield 29, 3) := by decide +kernel
theorem dX0_isFree_12 : decode cX0_isFree 12 = .ok (.iload_n 1, 1) := by decide +kernel
theorem dX0_isFree_13 : decode cX0_isFree 13 = .ok (.iaload, 1) := by decide +kernel
theorem dX0_isFree_14 : decode cX0_isFree 14 = .ok (.ifCond .eq 7, 3) := by decide +kernel
theorem dX0_isFree_17 : decode cX0_isFree 17 = .ok (.iconst 1, 1) := by decide +kernel
theorem dX0_isFree_18 : decode cX0_isFree 18 = .ok (.goto 4, 3) := by decide +kernel
theorem dX0_isFree_21 : decode cX0_isFree 21 = .ok (.iconst 0, 1) := by decide +kernel
theorem dX0_isFree_22 : decode cX0_isFree 22 = .ok (.ireturn, 1) := by decide +kernel
theorem dX0_isPointer_0 : decode cX0_isPointer 0 = .ok (.aload_n 0, 1) := by decide +kernel
theorem dX0_isPointer_1 : decode cX0_isPointer 1 = .ok (.iload_n 1, 1) := by decide +kernel
theorem dX0_isPointer_2 : decode cX0_isPointer 2 = .ok (.iconst 1, 1) := by decide +kernel
theorem dX0_isPointer_3 : decode cX0_isPointer 3 = .ok (.isub, 1) := by decide +kernel
theorem dX0_isPointer_4 : decode cX0_isPointer 4 = .ok (.invokevirtual 110, 3) := by decide +kernel
theorem dX0_isPointer_7 : decode cX0_isPointer 7 = .ok (.ifCond .eq 18, 3) := by decide +kernel
theorem dX0_isPointer_10 : decode cX0_isPointer 10 = .ok (.aload_n 0, 1) := by decide +kernel
theorem dX0_isPointer_11 : decode cX0_isPointer 11 = .ok (.getfield 29, 3) := by decide +kernel
theorem dX0_isPointer_14 : decode cX0_isPointer 14 = .ok (.iload_n 1, 1) := by decide +kernel
theorem dX0_isPointer_15 : decode cX0_isPointer 15 = .ok (.iconst 1, 1) := by decide +kernel
theorem dX0_isPointer_16 : decode cX0_isPointer 16 = .ok (.isub, 1) := by decide +kernel
theorem dX0_isPointer_17 : decode cX0_isPointer 17 = .ok (.iaload, 1) := by decide +kernel
theorem dX0_isPointer_18 : decode cX0_isPointer 18 = .ok (.ifCond .ne 7, 3) := by decide +kernel
theorem dX0_isPointer_21 : decode cX0_isPointer 21 = .ok (.iconst 1, 1) := by decide +kernel
theorem dX0_isPointer_22 : decode cX0_isPointer 22 = .ok (.goto 4, 3) := by decide +kernel
theorem dX0_isPointer_25 : decode cX0_isPointer 25 = .ok (.iconst 0, 1) := by decide +kernel
theorem dX0_isPointer_26 : decode cX0_isPointer 26 = .ok (.ireturn, 1) := by decide +kernel
theorem dX0_hasData_0 : decode cX0_hasData 0 = .ok (.iload_n 2, 1) := by decide +kernel
theorem dX0_hasData_1 : decode cX0_hasData 1 = .ok (.ifCond .lt 16, 3) := by decide +kernel
theorem dX0_hasData_4 : decode cX0_hasData 4 = .ok (.iload_n 2, 1) := by decide +kernel
theorem dX0_hasData_5 : decode cX0_hasData 5 = .ok (.aload_n 0, 1) := by decide +kernel
theorem dX0_hasData_6 : decode cX0_hasData 6 = .ok (.iload_n 1, 1) := by decide +kernel
theorem dX0_hasData_7 : decode cX0_hasData 7 = .ok (.invokevirtual 70, 3) := by decide +kernel
theorem dX0_hasData_10 : decode cX0_hasData 10 = .ok (.if_icmp .ge 7, 3) := by decide +kernel
theorem dX0_hasData_13 : decode cX0_hasData 13 = .ok (.iconst 1, 1) := by decide +kernel
theorem dX0_hasData_14 : decode cX0_hasData 14 = .ok (.goto 4, 3) := by decide +kernel
theorem dX0_hasData_17 : decode cX0_hasData 17 = .ok (.iconst 0, 1) := by decide +kernel
theorem dX0_hasData_18 : decode cX0_hasData 18 = .ok (.ireturn, 1) := by decide +kernel
theorem dX0_isCountedBy_0 : decode cX0_isCountedBy 0 = .ok (.iload_n 1, 1) := by decide +kernel
theorem dX0_isCountedBy_1 : decode cX0_isCountedBy 1 = .ok (.lookupswitch 68 #[(0, 35), (1, 50), (16, 52)], 35) := by decide +kernel
theorem dX0_isCountedBy_36 : decode cX0_isCountedBy 36 = .ok (.aload_n 0, 1) := by decide +kernel
theorem dX0_isCountedBy_37 : decode cX0_isCountedBy 37 = .ok (.getfield 29, 3) := by decide +kernel
theorem dX0_isCountedBy_40 : decode cX0_isCountedBy 40 = .ok (.iload_n 2, 1) := by decide +kernel
theorem dX0_isCountedBy_41 : decode cX0_isCountedBy 41 = .ok (.iaload, 1) := by decide +kernel
theorem dX0_isCountedBy_42 : decode cX0_isCountedBy 42 = .ok (.ifCond .ne 7, 3) := by decide +kernel
theorem dX0_isCountedBy_45 : decode cX0_isCountedBy 45 = .ok (.iconst 1, 1) := by decide +kernel
theorem dX0_isCountedBy_46 : decode cX0_isCountedBy 46 = .ok (.goto 4, 3) := by decide +kernel
theorem dX0_isCountedBy_49 : decode cX0_isCountedBy 49 = .ok (.iconst 0, 1) := by decide +kernel
theorem dX0_isCountedBy_50 : decode cX0_isCountedBy 50 = .ok (.ireturn, 1) := by decide +kernel
theorem dX0_isCountedBy_51 : decode cX0_isCountedBy 51 = .ok (.iconst 1, 1) := by decide +kernel
theorem dX0_isCountedBy_52 : decode cX0_isCountedBy 52 = .ok (.ireturn, 1) := by decide +kernel
theorem dX0_isCountedBy_53 : decode cX0_isCountedBy 53 = .ok (.aload_n 0, 1) := by decide +kernel
theorem dX0_isCountedBy_54 : decode cX0_isCountedBy 54 = .ok (.getfield 29, 3) := by decide +kernel
theorem dX0_isCountedBy_57 : decode cX0_isCountedBy 57 = .ok (.iload_n 2, 1) := by decide +kernel
theorem dX0_isCountedBy_58 : decode cX0_isCountedBy 58 = .ok (.iaload, 1) := by decide +kernel
theorem dX0_isCountedBy_59 : decode cX0_isCountedBy 59 = .ok (.iconst 2, 1) := by decide +kernel
theorem dX0_isCountedBy_60 : decode cX0_isCountedBy 60 = .ok (.if_icmp .ne 7, 3) := by decide +kernel
theorem dX0_isCountedBy_63 : decode cX0_isCountedBy 63 = .ok (.iconst 1, 1) := by decide +kernel
theorem dX0_isCountedBy_64 : decode cX0_isCountedBy 64 = .ok (.goto 4, 3) := by decide +kernel
theorem dX0_isCountedBy_67 : decode cX0_isCountedBy 67 = .ok (.iconst 0, 1) := by decide +kernel
theorem dX0_isCountedBy_68 : decode cX0_isCountedBy 68 = .ok (.ireturn, 1) := by decide +kernel
theorem dX0_isCountedBy_69 : decode cX0_isCountedBy 69 = .ok (.aload_n 0, 1) := by decide +kernel
theorem dX0_isCountedBy_70 : decode cX0_isCountedBy 70 = .ok (.getfield 29, 3) := by decide +kernel
theorem dX0_isCountedBy_73 : decode cX0_isCountedBy 73 = .ok (.iload_n 2, 1) := by decide +kernel
theorem dX0_isCountedBy_74 : decode cX0_isCountedBy 74 = .ok (.iaload, 1) := by decide +kernel
theorem dX0_isCountedBy_75 : decode cX0_isCountedBy 75 = .ok (.iconst 1, 1) := by decide +kernel
theorem dX0_isCountedBy_76 : decode cX0_isCountedBy 76 = .ok (.if_icmp .ne 17, 3) := by decide +kernel
theorem dX0_isCountedBy_79 : decode cX0_isCountedBy 79 = .ok (.aload_n 0, 1) := by decide +kernel
theorem dX0_isCountedBy_80 : decode cX0_isCountedBy 80 = .ok (.getfield 26, 3) := by decide +kernel
theorem dX0_isCountedBy_83 : decode cX0_isCountedBy 83 = .ok (.iload_n 2, 1) := by decide +kernel
theorem dX0_isCountedBy_84 : decode cX0_isCountedBy 84 = .ok (.iaload, 1) := by decide +kernel
theorem dX0_isCountedBy_85 : decode cX0_isCountedBy 85 = .ok (.iload_n 1, 1) := by decide +kernel
theorem dX0_isCountedBy_86 : decode cX0_isCountedBy 86 = .ok (.if_icmp .ne 7, 3) := by decide +kernel
theorem dX0_isCountedBy_89 : decode cX0_isCountedBy 89 = .ok (.iconst 1, 1) := by decide +kernel
theorem dX0_isCountedBy_90 : decode cX0_isCountedBy 90 = .ok (.goto 4, 3) := by decide +kernel
theorem dX0_isCountedBy_93 : decode cX0_isCountedBy 93 = .ok (.iconst 0, 1) := by decide +kernel
theorem dX0_isCountedBy_94 : decode cX0_isCountedBy 94 = .ok (.ireturn, 1) := by decide +kernel
theorem dX0_sizeAt_0 : decode cX0_sizeAt 0 = .ok (.iload_n 1, 1) := by decide +kernel
theorem dX0_sizeAt_1 : decode cX0_sizeAt 1 = .ok (.iconst (-1), 1) := by decide +kernel
theorem dX0_sizeAt_2 : decode cX0_sizeAt 2 = .ok (.if_icmp .ne 7, 3) := by decide +kernel
theorem dX0_sizeAt_5 : decode cX0_sizeAt 5 = .ok (.iconst 0, 1) := by decide +kernel
theorem dX0_sizeAt_6 : decode cX0_sizeAt 6 = .ok (.goto 9, 3) := by decide +kernel
theorem dX0_sizeAt_9 : decode cX0_sizeAt 9 = .ok (.aload_n 0, 1) := by decide +kernel
theorem dX0_sizeAt_10 : decode cX0_sizeAt 10 = .ok (.getfield 26, 3) := by decide +kernel
theorem dX0_sizeAt_13 : decode cX0_sizeAt 13 = .ok (.iload_n 1, 1) := by decide +kernel
theorem dX0_sizeAt_14 : decode cX0_sizeAt 14 = .ok (.iaload, 1) := by decide +kernel
theorem dX0_sizeAt_15 : decode cX0_sizeAt 15 = .ok (.ireturn, 1) := by decide +kernel
theorem dX0_take_0 : decode cX0_take 0 = .ok (.iload_n 1, 1) := by decide +kernel
theorem dX0_take_1 : decode cX0_take 1 = .ok (.bipush 16, 2) := by decide +kernel
theorem dX0_take_3 : decode cX0_take 3 = .ok (.if_icmp .ge 11, 3) := by decide +kernel
theorem dX0_take_6 : decode cX0_take 6 = .ok (.aload_n 0, 1) := by decide +kernel
theorem dX0_take_7 : decode cX0_take 7 = .ok (.iload_n 1, 1) := by decide +kernel
theorem dX0_take_8 : decode cX0_take 8 = .ok (.invokevirtual 116, 3) := by decide +kernel
theorem dX0_take_11 : decode cX0_take 11 = .ok (.goto 8, 3) := by decide +kernel
theorem dX0_take_14 : decode cX0_take 14 = .ok (.aload_n 0, 1) := by decide +kernel
theorem dX0_take_15 : decode cX0_take 15 = .ok (.iload_n 1, 1) := by decide +kernel
theorem dX0_take_16 : decode cX0_take 16 = .ok (.invokevirtual 119, 3) := by decide +kernel
theorem dX0_take_19 : decode cX0_take 19 = .ok (.istore_n 2, 1) := by decide +kernel
theorem dX0_take_20 : decode cX0_take 20 = .ok (.iload_n 2, 1) := by decide +kernel
theorem dX0_take_21 : decode cX0_take 21 = .ok (.iconst (-1), 1) := by decide +kernel
theorem dX0_take_22 : decode cX0_take 22 = .ok (.if_icmp .eq 7, 3) := by decide +kernel
theorem dX0_take_25 : decode cX0_take 25 = .ok (.iload_n 2, 1) := by decide +kernel
theorem dX0_take_26 : decode cX0_take 26 = .ok (.goto 8, 3) := by decide +kernel
theorem dX0_take_29 : decode cX0_take 29 = .ok (.aload_n 0, 1) := by decide +kernel
theorem dX0_take_30 : decode cX0_take 30 = .ok (.iload_n 1, 1) := by decide +kernel
theorem dX0_take_31 : decode cX0_take 31 = .ok (.invokevirtual 122, 3) := by decide +kernel
theorem dX0_take_34 : decode cX0_take 34 = .ok (.ireturn, 1) := by decide +kernel
theorem dX0_takeSmall_0 : decode cX0_takeSmall 0 = .ok (.aload_n 0, 1) := by decide +kernel
theorem dX0_takeSmall_1 : decode cX0_takeSmall 1 = .ok (.iload_n 1, 1) := by decide +kernel
theorem dX0_takeSmall_2 : decode cX0_takeSmall 2 = .ok (.invokevirtual 125, 3) := by decide +kernel
theorem dX0_takeSmall_5 : decode cX0_takeSmall 5 = .ok (.istore_n 2, 1) := by decide +kernel
theorem dX0_takeSmall_6 : decode cX0_takeSmall 6 = .ok (.iload_n 2, 1) := by decide +kernel
theorem dX0_takeSmall_7 : decode cX0_takeSmall 7 = .ok (.iconst (-1), 1) := by decide +kernel
theorem dX0_takeSmall_8 : decode cX0_takeSmall 8 = .ok (.if_icmp .eq 33, 3) := by decide +kernel
theorem dX0_takeSmall_11 : decode cX0_takeSmall 11 = .ok (.aload_n 0, 1) := by decide +kernel
theorem dX0_takeSmall_12 : decode cX0_takeSmall 12 = .ok (.getfield 29, 3) := by decide +kernel
theorem dX0_takeSmall_15 : decode cX0_takeSmall 15 = .ok (.iload_n 2, 1) := by decide +kernel
theorem dX0_takeSmall_16 : decode cX0_takeSmall 16 = .ok (.iaload, 1) := by decide +kernel
theorem dX0_takeSmall_17 : decode cX0_takeSmall 17 = .ok (.iconst 1, 1) := by decide +kernel
theorem dX0_takeSmall_18 : decode cX0_takeSmall 18 = .ok (.if_icmp .ne 23, 3) := by decide +kernel
theorem dX0_takeSmall_21 : decode cX0_takeSmall 21 = .ok (.aload_n 0, 1) := by decide +kernel
theorem dX0_takeSmall_22 : decode cX0_takeSmall 22 = .ok (.getfield 26, 3) := by decide +kernel
theorem dX0_takeSmall_25 : decode cX0_takeSmall 25 = .ok (.iload_n 2, 1) := by decide +kernel
theorem dX0_takeSmall_26 : decode cX0_takeSmall 26 = .ok (.iaload, 1) := by decide +kernel
theorem dX0_takeSmall_27 : decode cX0_takeSmall 27 = .ok (.iload_n 1, 1) := by decide +kernel
theorem dX0_takeSmall_28 : decode cX0_takeSmall 28 = .ok (.isub, 1) := by decide +kernel
theorem dX0_takeSmall_29 : decode cX0_takeSmall 29 = .ok (.iconst 2, 1) := by decide +kernel
theorem dX0_takeSmall_30 : decode cX0_takeSmall 30 = .ok (.if_icmp .ge 11, 3) := by decide +kernel
theorem dX0_takeSmall_33 : decode cX0_takeSmall 33 = .ok (.aload_n 0, 1) := by decide +kernel
theorem dX0_takeSmall_34 : decode cX0_takeSmall 34 = .ok (.iload_n 2, 1) := by decide +kernel
theorem dX0_takeSmall_35 : decode cX0_takeSmall 35 = .ok (.iload_n 1, 1) := by decide +kernel
theorem dX0_takeSmall_36 : decode cX0_takeSmall 36 = .ok (.iconst 2, 1) := by decide +kernel
theorem dX0_takeSmall_37 : decode cX0_takeSmall 37 = .ok (.invokevirtual 97, 3) := by decide +kernel
theorem dX0_takeSmall_40 : decode cX0_takeSmall 40 = .ok (.ireturn, 1) := by decide +kernel
theorem dX0_takeSmall_41 : decode cX0_takeSmall 41 = .ok (.aload_n 0, 1) := by decide +kernel
theorem dX0_takeSmall_42 : decode cX0_takeSmall 42 = .ok (.aload_n 0, 1) := by decide +kernel
theorem dX0_takeSmall_43 : decode cX0_takeSmall 43 = .ok (.getfield 47, 3) := by decide +kernel
theorem dX0_takeSmall_46 : decode cX0_takeSmall 46 = .ok (.invokevirtual 101, 3) := by decide +kernel
theorem dX0_takeSmall_49 : decode cX0_takeSmall 49 = .ok (.iload_n 1, 1) := by decide +kernel
theorem dX0_takeSmall_50 : decode cX0_takeSmall 50 = .ok (.if_icmp .lt 14, 3) := by decide +kernel
theorem dX0_takeSmall_53 : decode cX0_takeSmall 53 = .ok (.aload_n 0, 1) := by decide +kernel
theorem dX0_takeSmall_54 : decode cX0_takeSmall 54 = .ok (.aload_n 0, 1) := by decide +kernel
theorem dX0_takeSmall_55 : decode cX0_takeSmall 55 = .ok (.getfield 47, 3) := by decide +kernel
theorem dX0_takeSmall_58 : decode cX0_takeSmall 58 = .ok (.iload_n 1, 1) := by decide +kernel
theorem dX0_takeSmall_59 : decode cX0_takeSmall 59 = .ok (.iconst 3, 1) := by decide +kernel
theorem dX0_takeSmall_60 : decode cX0_takeSmall 60 = .ok (.invokevirtual 97, 3) := by decide +kernel
theorem dX0_takeSmall_63 : decode cX0_takeSmall 63 = .ok (.ireturn, 1) := by decide +kernel
theorem dX0_takeSmall_64 : decode cX0_takeSmall 64 = .ok (.iload_n 2, 1) := by decide +kernel
theorem dX0_takeSmall_65 : decode cX0_takeSmall 65 = .ok (.iconst (-1), 1) := by decide +kernel
theorem dX0_takeSmall_66 : decode cX0_takeSmall 66 = .ok (.if_icmp .ne 7, 3) := by decide +kernel
theorem dX0_takeSmall_69 : decode cX0_takeSmall 69 = .ok (.iconst (-1), 1) := by decide +kernel
theorem dX0_takeSmall_70 : decode cX0_takeSmall 70 = .ok (.goto 9, 3) := by decide +kernel
theorem dX0_takeSmall_73 : decode cX0_takeSmall 73 = .ok (.aload_n 0, 1) := by decide +kernel
theorem dX0_takeSmall_74 : decode cX0_takeSmall 74 = .ok (.iload_n 2, 1) := by decide +kernel
theorem dX0_takeSmall_75 : decode cX0_takeSmall 75 = .ok (.iload_n 1, 1) := by decide +kernel
theorem dX0_takeSmall_76 : decode cX0_takeSmall 76 = .ok (.invokevirtual 128, 3) := by decide +kernel
theorem dX0_takeSmall_79 : decode cX0_takeSmall 79 = .ok (.ireturn, 1) := by decide +kernel
theorem dX0_takeLarge_0 : decode cX0_takeLarge 0 = .ok (.aload_n 0, 1) := by decide +kernel
theorem dX0_takeLarge_1 : decode cX0_takeLarge 1 = .ok (.iload_n 1, 1) := by decide +kernel
theorem dX0_takeLarge_2 : decode cX0_takeLarge 2 = .ok (.invokevirtual 125, 3) := by decide +kernel
theorem dX0_takeLarge_5 : decode cX0_takeLarge 5 = .ok (.istore_n 2, 1) := by decide +kernel
theorem dX0_takeLarge_6 : decode cX0_takeLarge 6 = .ok (.aload_n 0, 1) := by decide +kernel
theorem dX0_takeLarge_7 : decode cX0_takeLarge 7 = .ok (.aload_n 0, 1) := by decide +kernel
theorem dX0_takeLarge_8 : decode cX0_takeLarge 8 = .ok (.getfield 47, 3) := by decide +kernel
theorem dX0_takeLarge_11 : decode cX0_takeLarge 11 = .ok (.invokevirtual 101, 3) := by decide +kernel
theorem dX0_takeLarge_14 : decode cX0_takeLarge 14 = .ok (.iload_n 1, 1) := by decide +kernel
theorem dX0_takeLarge_15 : decode cX0_takeLarge 15 = .ok (.if_icmp .lt 7, 3) := by decide +kernel
theorem dX0_takeLarge_18 : decode cX0_takeLarge 18 = .ok (.iconst 1, 1) := by decide +kernel
theorem dX0_takeLarge_19 : decode cX0_takeLarge 19 = .ok (.goto 4, 3) := by decide +kernel
theorem dX0_takeLarge_22 : decode cX0_takeLarge 22 = .ok (.iconst 0, 1) := by decide +kernel
theorem dX0_takeLarge_23 : decode cX0_takeLarge 23 = .ok (.istore_n 3, 1) := by decide +kernel
theorem dX0_takeLarge_24 : decode cX0_takeLarge 24 = .ok (.iload_n 2, 1) := by decide +kernel
theorem dX0_takeLarge_25 : decode cX0_takeLarge 25 = .ok (.iconst (-1), 1) := by decide +kernel
theorem dX0_takeLarge_26 : decode cX0_takeLarge 26 = .ok (.if_icmp .eq 33, 3) := by decide +kernel
theorem dX0_takeLarge_29 : decode cX0_takeLarge 29 = .ok (.iload_n 3, 1) := by decide +kernel
theorem dX0_takeLarge_30 : decode cX0_takeLarge 30 = .ok (.ifCond .eq 21, 3) := by decide +kernel
theorem dX0_takeLarge_33 : decode cX0_takeLarge 33 = .ok (.aload_n 0, 1) := by decide +kernel
theorem dX0_takeLarge_34 : decode cX0_takeLarge 34 = .ok (.getfield 26, 3) := by decide +kernel
theorem dX0_takeLarge_37 : decode cX0_takeLarge 37 = .ok (.iload_n 2, 1) := by decide +kernel
theorem dX0_takeLarge_38 : decode cX0_takeLarge 38 = .ok (.iaload, 1) := by decide +kernel
theorem dX0_takeLarge_39 : decode cX0_takeLarge 39 = .ok (.aload_n 0, 1) := by decide +kernel
theorem dX0_takeLarge_40 : decode cX0_takeLarge 40 = .ok (.getfield 26, 3) := by decide +kernel
theorem dX0_takeLarge_43 : decode cX0_takeLarge 43 = .ok (.aload_n 0, 1) := by decide +kernel
theorem dX0_takeLarge_44 : decode cX0_takeLarge 44 = .ok (.getfield 47, 3) := by decide +kernel
theorem dX0_takeLarge_47 : decode cX0_takeLarge 47 = .ok (.iaload, 1) := by decide +kernel
theorem dX0_takeLarge_48 : decode cX0_takeLarge 48 = .ok (.if_icmp .ge 11, 3) := by decide +kernel
theorem dX0_takeLarge_51 : decode cX0_takeLarge 51 = .ok (.aload_n 0, 1) := by decide +kernel
theorem dX0_takeLarge_52 : decode cX0_takeLarge 52 = .ok (.iload_n 2, 1) := by decide +kernel
theorem dX0_takeLarge_53 : decode cX0_takeLarge 53 = .ok (.iload_n 1, 1) := by decide +kernel
theorem dX0_takeLarge_54 : decode cX0_takeLarge 54 = .ok (.iconst 2, 1) := by decide +kernel
theorem dX0_takeLarge_55 : decode cX0_takeLarge 55 = .ok (.invokevirtual 97, 3) := by decide +kernel
theorem dX0_takeLarge_58 : decode cX0_takeLarge 58 = .ok (.ireturn, 1) := by decide +kernel
theorem dX0_takeLarge_59 : decode cX0_takeLarge 59 = .ok (.iload_n 3, 1) := by decide +kernel
theorem dX0_takeLarge_60 : decode cX0_takeLarge 60 = .ok (.ifCond .eq 16, 3) := by decide +kernel
theorem dX0_takeLarge_63 : decode cX0_takeLarge 63 = .ok (.aload_n 0, 1) := by decide +kernel
theorem dX0_takeLarge_64 : decode cX0_takeLarge 64 = .ok (.aload_n 0, 1) := by decide +kernel
theorem dX0_takeLarge_65 : decode cX0_takeLarge 65 = .ok (.getfield 47, 3) := by decide +kernel
theorem dX0_takeLarge_68 : decode cX0_takeLarge 68 = .ok (.iload_n 1, 1) := by decide +kernel
theorem dX0_takeLarge_69 : decode cX0_takeLarge 69 = .ok (.iconst 3, 1) := by decide +kernel
theorem dX0_takeLarge_70 : decode cX0_takeLarge 70 = .ok (.invokevirtual 97, 3) := by decide +kernel
theorem dX0_takeLarge_73 : decode cX0_takeLarge 73 = .ok (.goto 4, 3) := by decide +kernel
theorem dX0_takeLarge_76 : decode cX0_takeLarge 76 = .ok (.iconst (-1), 1) := by decide +kernel
theorem dX0_takeLarge_77 : decode cX0_takeLarge 77 = .ok (.ireturn, 1) := by decide +kernel
theorem dX0_takeFromTop_0 : decode cX0_takeFromTop 0 = .ok (.iload_n 1, 1) := by decide +kernel
theorem dX0_takeFromTop_1 : decode cX0_takeFromTop 1 = .ok (.aload_n 0, 1) := by decide +kernel
theorem dX0_takeFromTop_2 : decode cX0_takeFromTop 2 = .ok (.aload_n 0, 1) := by decide +kernel
theorem dX0_takeFromTop_3 : decode cX0_takeFromTop 3 = .ok (.getfield 50, 3) := by decide +kernel
theorem dX0_takeFromTop_6 : decode cX0_takeFromTop 6 = .ok (.invokevirtual 101, 3) := by decide +kernel
theorem dX0_takeFromTop_9 : decode cX0_takeFromTop 9 = .ok (.isub, 1) := by decide +kernel
theorem dX0_takeFromTop_10 : decode cX0_takeFromTop 10 = .ok (.istore_n 2, 1) := by decide +kernel
theorem dX0_takeFromTop_11 : decode cX0_takeFromTop 11 = .ok (.iload_n 2, 1) := by decide +kernel
theorem dX0_takeFromTop_12 : decode cX0_takeFromTop 12 = .ok (.ifCond .le 13, 3) := by decide +kernel
theorem dX0_takeFromTop_15 : decode cX0_takeFromTop 15 = .ok (.aload_n 0, 1) := by decide +kernel
theorem dX0_takeFromTop_16 : decode cX0_takeFromTop 16 = .ok (.iload_n 2, 1) := by decide +kernel
theorem dX0_takeFromTop_17 : decode cX0_takeFromTop 17 = .ok (.invokevirtual 131, 3) := by decide +kernel
theorem dX0_takeFromTop_20 : decode cX0_takeFromTop 20 = .ok (.ifCond .ne 5, 3) := by decide +kernel
theorem dX0_takeFromTop_23 : decode cX0_takeFromTop 23 = .ok (.iconst (-1), 1) := by decide +kernel
theorem dX0_takeFromTop_24 : decode cX0_takeFromTop 24 = .ok (.ireturn, 1) := by decide +kernel
theorem dX0_takeFromTop_25 : decode cX0_takeFromTop 25 = .ok (.aload_n 0, 1) := by decide +kernel
theorem dX0_takeFromTop_26 : decode cX0_takeFromTop 26 = .ok (.aload_n 0, 1) := by decide +kernel
theorem dX0_takeFromTop_27 : decode cX0_takeFromTop 27 = .ok (.getfield 50, 3) := by decide +kernel
theorem dX0_takeFromTop_30 : decode cX0_takeFromTop 30 = .ok (.iload_n 1, 1) := by decide +kernel
theorem dX0_takeFromTop_31 : decode cX0_takeFromTop 31 = .ok (.iconst 4, 1) := by decide +kernel
theorem dX0_takeFromTop_32 : decode cX0_takeFromTop 32 = .ok (.invokevirtual 97, 3) := by decide +kernel
theorem dX0_takeFromTop_35 : decode cX0_takeFromTop 35 = .ok (.ireturn, 1) := by decide +kernel
theorem dX0_cutForVictim_0 : decode cX0_cutForVictim 0 = .ok (.aload_n 0, 1) := by decide +kernel
theorem dX0_cutForVictim_1 : decode cX0_cutForVictim 1 = .ok (.getfield 47, 3) := by decide +kernel
theorem dX0_cutForVictim_4 : decode cX0_cutForVictim 4 = .ok (.istore_n 3, 1) := by decide +kernel
theorem dX0_cutForVictim_5 : decode cX0_cutForVictim 5 = .ok (.aload_n 0, 1) := by decide +kernel
theorem dX0_cutForVictim_6 : decode cX0_cutForVictim 6 = .ok (.iload_n 1, 1) := by decide +kernel
theorem dX0_cutForVictim_7 : decode cX0_cutForVictim 7 = .ok (.iload_n 2, 1) := by decide +kernel
theorem dX0_cutForVictim_8 : decode cX0_cutForVictim 8 = .ok (.iconst 3, 1) := by decide +kernel
theorem dX0_cutForVictim_9 : decode cX0_cutForVictim 9 = .ok (.invokevirtual 97, 3) := by decide +kernel
theorem dX0_cutForVictim_12 : decode cX0_cutForVictim 12 = .ok (.pop, 1) := by decide +kernel
theorem dX0_cutForVictim_13 : decode cX0_cutForVictim 13 = .ok (.iload_n 3, 1) := by decide +kernel
theorem dX0_cutForVictim_14 : decode cX0_cutForVictim 14 = .ok (.iconst (-1), 1) := by decide +kernel
theorem dX0_cutForVictim_15 : decode cX0_cutForVictim 15 = .ok (.if_icmp .eq 23, 3) := by decide +kernel
theorem dX0_cutForVictim_18 : decode cX0_cutForVictim 18 = .ok (.iload_n 3, 1) := by decide +kernel
theorem dX0_cutForVictim_19 : decode cX0_cutForVictim 19 = .ok (.aload_n 0, 1) := by decide +kernel
theorem dX0_cutForVictim_20 : decode cX0_cutForVictim 20 = .ok (.getfield 47, 3) := by decide +kernel
theorem dX0_cutForVictim_23 : decode cX0_cutForVictim 23 = .ok (.if_icmp .eq 15, 3) := by decide +kernel
theorem dX0_cutForVictim_26 : decode cX0_cutForVictim 26 = .ok (.aload_n 0, 1) := by decide +kernel
theorem dX0_cutForVictim_27 : decode cX0_cutForVictim 27 = .ok (.iload_n 3, 1) := by decide +kernel
theorem dX0_cutForVictim_28 : decode cX0_cutForVictim 28 = .ok (.aload_n 0, 1) := by decide +kernel
theorem dX0_cutForVictim_29 : decode cX0_cutForVictim 29 = .ok (.getfield 26, 3) := by decide +kernel
theorem dX0_cutForVictim_32 : decode cX0_cutForVictim 32 = .ok (.iload_n 3, 1) := by decide +kernel
theorem dX0_cutForVictim_33 : decode cX0_cutForVictim 33 = .ok (.iaload, 1) := by decide +kernel
theorem dX0_cutForVictim_34 : decode cX0_cutForVictim 34 = .ok (.iconst 2, 1) := by decide +kernel
theorem dX0_cutForVictim_35 : decode cX0_cutForVictim 35 = .ok (.invokevirtual 134, 3) := by decide +kernel
theorem dX0_cutForVictim_38 : decode cX0_cutForVictim 38 = .ok (.iload_n 1, 1) := by decide +kernel
theorem dX0_cutForVictim_39 : decode cX0_cutForVictim 39 = .ok (.ireturn, 1) := by decide +kernel
theorem dX0_bestStored_0 : decode cX0_bestStored 0 = .ok (.iconst (-1), 1) := by decide +kernel
theorem dX0_bestStored_1 : decode cX0_bestStored 1 = .ok (.istore_n 2, 1) := by decide +kernel
theorem dX0_bestStored_2 : decode cX0_bestStored 2 = .ok (.iconst 0, 1) := by decide +kernel
theorem dX0_bestStored_3 : decode cX0_bestStored 3 = .ok (.istore_n 3, 1) := by decide +kernel
theorem dX0_bestStored_4 : decode cX0_bestStored 4 = .ok (.iload_n 3, 1) := by decide +kernel
theorem dX0_bestStored_5 : decode cX0_bestStored 5 = .ok (.aload_n 0, 1) := by decide +kernel
theorem dX0_bestStored_6 : decode cX0_bestStored 6 = .ok (.getfield 44, 3) := by decide +kernel
theorem dX0_bestStored_9 : decode cX0_bestStored 9 = .ok (.if_icmp .ge 43, 3) := by decide +kernel
theorem dX0_bestStored_12 : decode cX0_bestStored 12 = .ok (.aload_n 0, 1) := by decide +kernel
theorem dX0_bestStored_13 : decode cX0_bestStored 13 = .ok (.iload_n 3, 1) := by decide +kernel
theorem dX0_bestStored_14 : decode cX0_bestStored 14 = .ok (.invokevirtual 138, 3) := by decide +kernel
theorem dX0_bestStored_17 : decode cX0_bestStored 17 = .ok (.ifCond .eq 29, 3) := by decide +kernel
theorem dX0_bestStored_20 : decode cX0_bestStored 20 = .ok (.aload_n 0, 1) := by decide +kernel
theorem dX0_bestStored_21 : decode cX0_bestStored 21 = .ok (.getfield 26, 3) := by decide +kernel
theorem dX0_bestStored_24 : decode cX0_bestStored 24 = .ok (.iload_n 3, 1) := by decide +kernel
theorem dX0_bestStored_25 : decode cX0_bestStored 25 = .ok (.iaload, 1) := by decide +kernel
theorem dX0_bestStored_26 : decode cX0_bestStored 26 = .ok (.iload_n 1, 1) := by decide +kernel
theorem dX0_bestStored_27 : decode cX0_bestStored 27 = .ok (.if_icmp .lt 19, 3) := by decide +kernel
theorem dX0_bestStored_30 : decode cX0_bestStored 30 = .ok (.iload_n 2, 1) := by decide +kernel
theorem dX0_bestStored_31 : decode cX0_bestStored 31 = .ok (.iconst (-1), 1) := by decide +kernel
theorem dX0_bestStored_32 : decode cX0_bestStored 32 = .ok (.if_icmp .eq 12, 3) := by decide +kernel
theorem dX0_bestStored_35 : decode cX0_bestStored 35 = .ok (.aload_n 0, 1) := by decide +kernel
theorem dX0_bestStored_36 : decode cX0_bestStored 36 = .ok (.iload_n 3, 1) := by decide +kernel
theorem dX0_bestStored_37 : decode cX0_bestStored 37 = .ok (.iload_n 2, 1) := by decide +kernel
theorem dX0_bestStored_38 : decode cX0_bestStored 38 = .ok (.invokevirtual 141, 3) := by decide +kernel
theorem dX0_bestStored_41 : decode cX0_bestStored 41 = .ok (.ifCond .eq 5, 3) := by decide +kernel
theorem dX0_bestStored_44 : decode cX0_bestStored 44 = .ok (.iload_n 3, 1) := by decide +kernel
theorem dX0_bestStored_45 : decode cX0_bestStored 45 = .ok (.istore_n 2, 1) := by decide +kernel
theorem dX0_bestStored_46 : decode cX0_bestStored 46 = .ok (.iinc 3 1, 3) := by decide +kernel
theorem dX0_bestStored_49 : decode cX0_bestStored 49 = .ok (.goto (-45), 3) := by decide +kernel
theorem dX0_bestStored_52 : decode cX0_bestStored 52 = .ok (.iload_n 2, 1) := by decide +kernel
theorem dX0_bestStored_53 : decode cX0_bestStored 53 = .ok (.ireturn, 1) := by decide +kernel
theorem dX0_isStored_0 : decode cX0_isStored 0 = .ok (.aload_n 0, 1) := by decide +kernel
theorem dX0_isStored_1 : decode cX0_isStored 1 = .ok (.getfield 29, 3) := by decide +kernel
theorem dX0_isStored_4 : decode cX0_isStored 4 = .ok (.iload_n 1, 1) := by decide +kernel
theorem dX0_isStored_5 : decode cX0_isStored 5 = .ok (.iaload, 1) := by decide +kernel
theorem dX0_isStored_6 : decode cX0_isStored 6 = .ok (.iconst 1, 1) := by decide +kernel
theorem dX0_isStored_7 : decode cX0_isStored 7 = .ok (.if_icmp .eq 13, 3) := by decide +kernel
theorem dX0_isStored_10 : decode cX0_isStored 10 = .ok (.aload_n 0, 1) := by decide +kernel
theorem dX0_isStored_11 : decode cX0_isStored 11 = .ok (.getfield 29, 3) := by decide +kernel
theorem dX0_isStored_14 : decode cX0_isStored 14 = .ok (.iload_n 1, 1) := by decide +kernel
theorem dX0_isStored_15 : decode cX0_isStored 15 = .ok (.iaload, 1) := by decide +kernel
theorem dX0_isStored_16 : decode cX0_isStored 16 = .ok (.iconst 2, 1) := by decide +kernel
theorem dX0_isStored_17 : decode cX0_isStored 17 = .ok (.if_icmp .ne 7, 3) := by decide +kernel
theorem dX0_isStored_20 : decode cX0_isStored 20 = .ok (.iconst 1, 1) := by decide +kernel
theorem dX0_isStored_21 : decode cX0_isStored 21 = .ok (.goto 4, 3) := by decide +kernel
theorem dX0_isStored_24 : decode cX0_isStored 24 = .ok (.iconst 0, 1) := by decide +kernel
theorem dX0_isStored_25 : decode cX0_isStored 25 = .ok (.ireturn, 1) := by decide +kernel
theorem dX0_isBetter_0 : decode cX0_isBetter 0 = .ok (.aload_n 0, 1) := by decide +kernel
theorem dX0_isBetter_1 : decode cX0_isBetter 1 = .ok (.getfield 26, 3) := by decide +kernel
theorem dX0_isBetter_4 : decode cX0_isBetter 4 = .ok (.iload_n 1, 1) := by decide +kernel
theorem dX0_isBetter_5 : decode cX0_isBetter 5 = .ok (.iaload, 1) := by decide +kernel
theorem dX0_isBetter_6 : decode cX0_isBetter 6 = .ok (.aload_n 0, 1) := by decide +kernel
theorem dX0_isBetter_7 : decode cX0_isBetter 7 = .ok (.getfield 26, 3) := by decide +kernel
theorem dX0_isBetter_10 : decode cX0_isBetter 10 = .ok (.iload_n 2, 1) := by decide +kernel
theorem dX0_isBetter_11 : decode cX0_isBetter 11 = .ok (.iaload, 1) := by decide +kernel
theorem dX0_isBetter_12 : decode cX0_isBetter 12 = .ok (.if_icmp .eq 24, 3) := by decide +kernel
theorem dX0_isBetter_15 : decode cX0_isBetter 15 = .ok (.aload_n 0, 1) := by decide +kernel
theorem dX0_isBetter_16 : decode cX0_isBetter 16 = .ok (.getfield 26, 3) := by decide +kernel
theorem dX0_isBetter_19 : decode cX0_isBetter 19 = .ok (.iload_n 1, 1) := by decide +kernel
theorem dX0_isBetter_20 : decode cX0_isBetter 20 = .ok (.iaload, 1) := by decide +kernel
theorem dX0_isBetter_21 : decode cX0_isBetter 21 = .ok (.aload_n 0, 1) := by decide +kernel
theorem dX0_isBetter_22 : decode cX0_isBetter 22 = .ok (.getfield 26, 3) := by decide +kernel
theorem dX0_isBetter_25 : decode cX0_isBetter 25 = .ok (.iload_n 2, 1) := by decide +kernel
theorem dX0_isBetter_26 : decode cX0_isBetter 26 = .ok (.iaload, 1) := by decide +kernel
theorem dX0_isBetter_27 : decode cX0_isBetter 27 = .ok (.if_icmp .ge 7, 3) := by decide +kernel
theorem dX0_isBetter_30 : decode cX0_isBetter 30 = .ok (.iconst 1, 1) := by decide +kernel
theorem dX0_isBetter_31 : decode cX0_isBetter 31 = .ok (.goto 4, 3) := by decide +kernel
theorem dX0_isBetter_34 : decode cX0_isBetter 34 = .ok (.iconst 0, 1) := by decide +kernel
theorem dX0_isBetter_35 : decode cX0_isBetter 35 = .ok (.ireturn, 1) := by decide +kernel
theorem dX0_isBetter_36 : decode cX0_isBetter 36 = .ok (.aload_n 0, 1) := by decide +kernel
theorem dX0_isBetter_37 : decode cX0_isBetter 37 = .ok (.getfield 32, 3) := by decide +kernel
theorem dX0_isBetter_40 : decode cX0_isBetter 40 = .ok (.iload_n 1, 1) := by decide +kernel
theorem dX0_isBetter_41 : decode cX0_isBetter 41 = .ok (.iaload, 1) := by decide +kernel
theorem dX0_isBetter_42 : decode cX0_isBetter 42 = .ok (.aload_n 0, 1) := by decide +kernel
theorem dX0_isBetter_43 : decode cX0_isBetter 43 = .ok (.getfield 32, 3) := by decide +kernel
theorem dX0_isBetter_46 : decode cX0_isBetter 46 = .ok (.iload_n 2, 1) := by decide +kernel
theorem dX0_isBetter_47 : decode cX0_isBetter 47 = .ok (.iaload, 1) := by decide +kernel
theorem dX0_isBetter_48 : decode cX0_isBetter 48 = .ok (.if_icmp .le 7, 3) := by decide +kernel
theorem dX0_isBetter_51 : decode cX0_isBetter 51 = .ok (.iconst 1, 1) := by decide +kernel
theorem dX0_isBetter_52 : decode cX0_isBetter 52 = .ok (.goto 4, 3) := by decide +kernel
theorem dX0_isBetter_55 : decode cX0_isBetter 55 = .ok (.iconst 0, 1) := by decide +kernel
theorem dX0_isBetter_56 : decode cX0_isBetter 56 = .ok (.ireturn, 1) := by decide +kernel
theorem dX0_release_0 : decode cX0_release 0 = .ok (.aload_n 0, 1) := by decide +kernel
theorem dX0_release_1 : decode cX0_release 1 = .ok (.iload_n 1, 1) := by decide +kernel
theorem dX0_release_2 : decode cX0_release 2 = .ok (.invokevirtual 144, 3) := by decide +kernel
theorem dX0_release_5 : decode cX0_release 5 = .ok (.istore_n 2, 1) := by decide +kernel
theorem dX0_release_6 : decode cX0_release 6 = .ok (.iload_n 1, 1) := by decide +kernel
theorem dX0_release_7 : decode cX0_release 7 = .ok (.aload_n 0, 1) := by decide +kernel
theorem dX0_release_8 : decode cX0_release 8 = .ok (.getfield 26, 3) := by decide +kernel
theorem dX0_release_11 : decode cX0_release 11 = .ok (.iload_n 1, 1) := by decide +kernel
theorem dX0_release_12 : decode cX0_release 12 = .ok (.iaload, 1) := by decide +kernel
theorem dX0_release_13 : decode cX0_release 13 = .ok (.iadd, 1) := by decide +kernel
theorem dX0_release_14 : decode cX0_release 14 = .ok (.istore_n 3, 1) := by decide +kernel
theorem dX0_release_15 : decode cX0_release 15 = .ok (.aload_n 0, 1) := by decide +kernel
theorem dX0_release_16 : decode cX0_release 16 = .ok (.getfield 47, 3) := by decide +kernel
theorem dX0_release_19 : decode cX0_release 19 = .ok (.iconst (-1), 1) := by decide +kernel
theorem dX0_release_20 : decode cX0_release 20 = .ok (.if_icmp .eq 23, 3) := by decide +kernel
theorem dX0_release_23 : decode cX0_release 23 = .ok (.aload_n 0, 1) := by decide +kernel
theorem dX0_release_24 : decode cX0_release 24 = .ok (.getfield 47, 3) := by decide +kernel
theorem dX0_release_27 : decode cX0_release 27 = .ok (.iload_n 2, 1) := by decide +kernel
theorem dX0_release_28 : decode cX0_release 28 = .ok (.if_icmp .eq 11, 3) := by decide +kernel
theorem dX0_release_31 : decode cX0_release 31 = .ok (.aload_n 0, 1) := by decide +kernel
theorem dX0_release_32 : decode cX0_release 32 = .ok (.getfield 47, 3) := by decide +kernel
theorem dX0_release_35 : decode cX0_release 35 = .ok (.iload_n 3, 1) := by decide +kernel
theorem dX0_release_36 : decode cX0_release 36 = .ok (.if_icmp .ne 7, 3) := by decide +kernel
theorem dX0_release_39 : decode cX0_release 39 = .ok (.iconst 1, 1) := by decide +kernel
theorem dX0_release_40 : decode cX0_release 40 = .ok (.goto 4, 3) := by decide +kernel
theorem dX0_release_43 : decode cX0_release 43 = .ok (.iconst 0, 1) := by decide +kernel
theorem dX0_release_44 : decode cX0_release 44 = .ok (.istore 4, 2) := by decide +kernel
theorem dX0_release_46 : decode cX0_release 46 = .ok (.iload_n 1, 1) := by decide +kernel
theorem dX0_release_47 : decode cX0_release 47 = .ok (.istore 5, 2) := by decide +kernel
theorem dX0_release_49 : decode cX0_release 49 = .ok (.aload_n 0, 1) := by decide +kernel
theorem dX0_release_50 : decode cX0_release 50 = .ok (.iload_n 1, 1) := by decide +kernel
theorem dX0_release_51 : decode cX0_release 51 = .ok (.invokevirtual 147, 3) := by decide +kernel
theorem dX0_release_54 : decode cX0_release 54 = .ok (.istore 6, 2) := by decide +kernel
theorem dX0_release_56 : decode cX0_release 56 = .ok (.aload_n 0, 1) := by decide +kernel
theorem dX0_release_57 : decode cX0_release 57 = .ok (.iload_n 3, 1) := by decide +kernel
theorem dX0_release_58 : decode cX0_release 58 = .ok (.invokevirtual 150, 3) := by decide +kernel
theorem dX0_release_61 : decode cX0_release 61 = .ok (.ifCond .eq 13, 3) := by decide +kernel
theorem dX0_release_64 : decode cX0_release 64 = .ok (.iload 6, 2) := by decide +kernel
theorem dX0_release_66 : decode cX0_release 66 = .ok (.aload_n 0, 1) := by decide +kernel
theorem dX0_release_67 : decode cX0_release 67 = .ok (.iload_n 3, 1) := by decide +kernel
theorem dX0_release_68 : decode cX0_release 68 = .ok (.invokevirtual 147, 3) := by decide +kernel
theorem dX0_release_71 : decode cX0_release 71 = .ok (.iadd, 1) := by decide +kernel
theorem dX0_release_72 : decode cX0_release 72 = .ok (.istore 6, 2) := by decide +kernel
theorem dX0_release_74 : decode cX0_release 74 = .ok (.aload_n 0, 1) := by decide +kernel
theorem dX0_release_75 : decode cX0_release 75 = .ok (.iload_n 2, 1) := by decide +kernel
theorem dX0_release_76 : decode cX0_release 76 = .ok (.invokevirtual 150, 3) := by decide +kernel
theorem dX0_release_79 : decode cX0_release 79 = .ok (.ifCond .eq 16, 3) := by decide +kernel
theorem dX0_release_82 : decode cX0_release 82 = .ok (.iload 6, 2) := by decide +kernel
theorem dX0_release_84 : decode cX0_release 84 = .ok (.aload_n 0, 1) := by decide +kernel
theorem dX0_release_85 : decode cX0_release 85 = .ok (.iload_n 2, 1) := by decide +kernel
theorem dX0_release_86 : decode cX0_release 86 = .ok (.invokevirtual 147, 3) := by decide +kernel
theorem dX0_release_89 : decode cX0_release 89 = .ok (.iadd, 1) := by decide +kernel
theorem dX0_release_90 : decode cX0_release 90 = .ok (.istore 6, 2) := by decide +kernel
theorem dX0_release_92 : decode cX0_release 92 = .ok (.iload_n 2, 1) := by decide +kernel
theorem dX0_release_93 : decode cX0_release 93 = .ok (.istore 5, 2) := by decide +kernel
theorem dX0_release_95 : decode cX0_release 95 = .ok (.iload 5, 2) := by decide +kernel
theorem dX0_release_97 : decode cX0_release 97 = .ok (.iload 6, 2) := by decide +kernel
theorem dX0_release_99 : decode cX0_release 99 = .ok (.iadd, 1) := by decide +kernel
theorem dX0_release_100 : decode cX0_release 100 = .ok (.aload_n 0, 1) := by decide +kernel
theorem dX0_release_101 : decode cX0_release 101 = .ok (.getfield 44, 3) := by decide +kernel
theorem dX0_release_104 : decode cX0_release 104 = .ok (.if_icmp .ne 15, 3) := by decide +kernel
theorem dX0_release_107 : decode cX0_release 107 = .ok (.aload_n 0, 1) := by decide +kernel
theorem dX0_release_108 : decode cX0_release 108 = .ok (.iload 5, 2) := by decide +kernel
theorem dX0_release_110 : decode cX0_release 110 = .ok (.iload 6, 2) := by decide +kernel
theorem dX0_release_112 : decode cX0_release 112 = .ok (.iconst 4, 1) := by decide +kernel
theorem dX0_release_113 : decode cX0_release 113 = .ok (.invokevirtual 134, 3) := by decide +kernel
theorem dX0_release_116 : decode cX0_release 116 = .ok (.goto 21, 3) := by decide +kernel
theorem dX0_release_119 : decode cX0_release 119 = .ok (.aload_n 0, 1) := by decide +kernel
theorem dX0_release_120 : decode cX0_release 120 = .ok (.iload 5, 2) := by decide +kernel
theorem dX0_release_122 : decode cX0_release 122 = .ok (.iload 6, 2) := by decide +kernel
theorem dX0_release_124 : decode cX0_release 124 = .ok (.iload 4, 2) := by decide +kernel
theorem dX0_release_126 : decode cX0_release 126 = .ok (.ifCond .eq 7, 3) := by decide +kernel
theorem dX0_release_129 : decode cX0_release 129 = .ok (.iconst 3, 1) := by decide +kernel
theorem dX0_release_130 : decode cX0_release 130 = .ok (.goto 4, 3) := by decide +kernel
theorem dX0_release_133 : decode cX0_release 133 = .ok (.iconst 2, 1) := by decide +kernel
theorem dX0_release_134 : decode cX0_release 134 = .ok (.invokevirtual 134, 3) := by decide +kernel
theorem dX0_release_137 : decode cX0_release 137 = .ok (.return_, 1) := by decide +kernel
theorem dX0_chunkBefore_0 : decode cX0_chunkBefore 0 = .ok (.iload_n 1, 1) := by decide +kernel
theorem dX0_chunkBefore_1 : decode cX0_chunkBefore 1 = .ok (.iconst 1, 1) := by decide +kernel
theorem dX0_chunkBefore_2 : decode cX0_chunkBefore 2 = .ok (.isub, 1) := by decide +kernel
theorem dX0_chunkBefore_3 : decode cX0_chunkBefore 3 = .ok (.istore_n 2, 1) := by decide +kernel
theorem dX0_chunkBefore_4 : decode cX0_chunkBefore 4 = .ok (.iload_n 2, 1) := by decide +kernel
theorem dX0_chunkBefore_5 : decode cX0_chunkBefore 5 = .ok (.ifCond .lt 21, 3) := by decide +kernel
theorem dX0_chunkBefore_8 : decode cX0_chunkBefore 8 = .ok (.aload_n 0, 1) := by decide +kernel
theorem dX0_chunkBefore_9 : decode cX0_chunkBefore 9 = .ok (.getfield 29, 3) := by decide +kernel
theorem dX0_chunkBefore_12 : decode cX0_chunkBefore 12 = .ok (.iload_n 2, 1) := by decide +kernel
theorem dX0_chunkBefore_13 : decode cX0_chunkBefore 13 = .ok (.iaload, 1) := by decide +kernel
theorem dX0_chunkBefore_14 : decode cX0_chunkBefore 14 = .ok (.iconst (-1), 1) := by decide +kernel
theorem dX0_chunkBefore_15 : decode cX0_chunkBefore 15 = .ok (.if_icmp .eq 5, 3) := by decide +kernel
theorem dX0_chunkBefore_18 : decode cX0_chunkBefore 18 = .ok (.iload_n 2, 1) := by decide +kernel
theorem dX0_chunkBefore_19 : decode cX0_chunkBefore 19 = .ok (.ireturn, 1) := by decide +kernel
theorem dX0_chunkBefore_20 : decode cX0_chunkBefore 20 = .ok (.iinc 2 (-1), 3) := by decide +kernel
theorem dX0_chunkBefore_23 : decode cX0_chunkBefore 23 = .ok (.goto (-19), 3) := by decide +kernel
theorem dX0_chunkBefore_26 : decode cX0_chunkBefore 26 = .ok (.iconst (-1), 1) := by decide +kernel
theorem dX0_chunkBefore_27 : decode cX0_chunkBefore 27 = .ok (.ireturn, 1) := by decide +kernel
theorem dX0_shorten_0 : decode cX0_shorten 0 = .ok (.aload_n 0, 1) := by decide +kernel
theorem dX0_shorten_1 : decode cX0_shorten 1 = .ok (.getfield 26, 3) := by decide +kernel
theorem dX0_shorten_4 : decode cX0_shorten 4 = .ok (.iload_n 1, 1) := by decide +kernel
theorem dX0_shorten_5 : decode cX0_shorten 5 = .ok (.iaload, 1) := by decide +kernel
theorem dX0_shorten_6 : decode cX0_shorten 6 = .ok (.iload_n 2, 1) := by decide +kernel
theorem dX0_shorten_7 : decode cX0_shorten 7 = .ok (.isub, 1) := by decide +kernel
theorem dX0_shorten_8 : decode cX0_shorten 8 = .ok (.iconst 2, 1) := by decide +kernel
theorem dX0_shorten_9 : decode cX0_shorten 9 = .ok (.if_icmp .lt 18, 3) := by decide +kernel
theorem dX0_shorten_12 : decode cX0_shorten 12 = .ok (.aload_n 0, 1) := by decide +kernel
theorem dX0_shorten_13 : decode cX0_shorten 13 = .ok (.iload_n 1, 1) := by decide +kernel
theorem dX0_shorten_14 : decode cX0_shorten 14 = .ok (.iload_n 2, 1) := by decide +kernel
theorem dX0_shorten_15 : decode cX0_shorten 15 = .ok (.iconst 0, 1) := by decide +kernel
theorem dX0_shorten_16 : decode cX0_shorten 16 = .ok (.invokevirtual 97, 3) := by decide +kernel
theorem dX0_shorten_19 : decode cX0_shorten 19 = .ok (.pop, 1) := by decide +kernel
theorem dX0_shorten_20 : decode cX0_shorten 20 = .ok (.aload_n 0, 1) := by decide +kernel
theorem dX0_shorten_21 : decode cX0_shorten 21 = .ok (.iload_n 1, 1) := by decide +kernel
theorem dX0_shorten_22 : decode cX0_shorten 22 = .ok (.iload_n 2, 1) := by decide +kernel
theorem dX0_shorten_23 : decode cX0_shorten 23 = .ok (.iadd, 1) := by decide +kernel
theorem dX0_shorten_24 : decode cX0_shorten 24 = .ok (.invokevirtual 76, 3) := by decide +kernel
theorem dX0_shorten_27 : decode cX0_shorten 27 = .ok (.return_, 1) := by decide +kernel
theorem dX0_lengthen_0 : decode cX0_lengthen 0 = .ok (.iload_n 1, 1) := by decide +kernel
theorem dX0_lengthen_1 : decode cX0_lengthen 1 = .ok (.aload_n 0, 1) := by decide +kernel
theorem dX0_lengthen_2 : decode cX0_lengthen 2 = .ok (.getfield 26, 3) := by decide +kernel
theorem dX0_lengthen_5 : decode cX0_lengthen 5 = .ok (.iload_n 1, 1) := by decide +kernel
theorem dX0_lengthen_6 : decode cX0_lengthen 6 = .ok (.iaload, 1) := by decide +kernel
theorem dX0_lengthen_7 : decode cX0_lengthen 7 = .ok (.iadd, 1) := by decide +kernel
theorem dX0_lengthen_8 : decode cX0_lengthen 8 = .ok (.istore_n 3, 1) := by decide +kernel
theorem dX0_lengthen_9 : decode cX0_lengthen 9 = .ok (.iload_n 2, 1) := by decide +kernel
theorem dX0_lengthen_10 : decode cX0_lengthen 10 = .ok (.aload_n 0, 1) := by decide +kernel
theorem dX0_lengthen_11 : decode cX0_lengthen 11 = .ok (.getfield 26, 3) := by decide +kernel
theorem dX0_lengthen_14 : decode cX0_lengthen 14 = .ok (.iload_n 1, 1) := by decide +kernel
theorem dX0_lengthen_15 : decode cX0_lengthen 15 = .ok (.iaload, 1) := by decide +kernel
theorem dX0_lengthen_16 : decode cX0_lengthen 16 = .ok (.isub, 1) := by decide +kernel
theorem dX0_lengthen_17 : decode cX0_lengthen 17 = .ok (.istore 4, 2) := by decide +kernel
theorem dX0_lengthen_19 : decode cX0_lengthen 19 = .ok (.iload_n 3, 1) := by decide +kernel
theorem dX0_lengthen_20 : decode cX0_lengthen 20 = .ok (.aload_n 0, 1) := by decide +kernel
theorem dX0_lengthen_21 : decode cX0_lengthen 21 = .ok (.getfield 44, 3) := by decide +kernel
theorem dX0_lengthen_24 : decode cX0_lengthen 24 = .ok (.if_icmp .eq 11, 3) := by decide +kernel
theorem dX0_lengthen_27 : decode cX0_lengthen 27 = .ok (.iload_n 3, 1) := by decide +kernel
theorem dX0_lengthen_28 : decode cX0_lengthen 28 = .ok (.aload_n 0, 1) := by decide +kernel
theorem dX0_lengthen_29 : decode cX0_lengthen 29 = .ok (.getfield 50, 3) := by decide +kernel
theorem dX0_lengthen_32 : decode cX0_lengthen 32 = .ok (.if_icmp .ne 32, 3) := by decide +kernel
theorem dX0_lengthen_35 : decode cX0_lengthen 35 = .ok (.iload 4, 2) := by decide +kernel
theorem dX0_lengthen_37 : decode cX0_lengthen 37 = .ok (.aload_n 0, 1) := by decide +kernel
theorem dX0_lengthen_38 : decode cX0_lengthen 38 = .ok (.aload_n 0, 1) := by decide +kernel
theorem dX0_lengthen_39 : decode cX0_lengthen 39 = .ok (.getfield 50, 3) := by decide +kernel
theorem dX0_lengthen_42 : decode cX0_lengthen 42 = .ok (.invokevirtual 101, 3) := by decide +kernel
theorem dX0_lengthen_45 : decode cX0_lengthen 45 = .ok (.isub, 1) := by decide +kernel
theorem dX0_lengthen_46 : decode cX0_lengthen 46 = .ok (.istore 5, 2) := by decide +kernel
theorem dX0_lengthen_48 : decode cX0_lengthen 48 = .ok (.iload 5, 2) := by decide +kernel
theorem dX0_lengthen_50 : decode cX0_lengthen 50 = .ok (.ifCond .le 14, 3) := by decide +kernel
theorem dX0_lengthen_53 : decode cX0_lengthen 53 = .ok (.aload_n 0, 1) := by decide +kernel
theorem dX0_lengthen_54 : decode cX0_lengthen 54 = .ok (.iload 5, 2) := by decide +kernel
theorem dX0_lengthen_56 : decode cX0_lengthen 56 = .ok (.invokevirtual 131, 3) := by decide +kernel
theorem dX0_lengthen_59 : decode cX0_lengthen 59 = .ok (.ifCond .ne 5, 3) := by decide +kernel
theorem dX0_lengthen_62 : decode cX0_lengthen 62 = .ok (.iconst 0, 1) := by decide +kernel
theorem dX0_lengthen_63 : decode cX0_lengthen 63 = .ok (.ireturn, 1) := by decide +kernel
theorem dX0_lengthen_64 : decode cX0_lengthen 64 = .ok (.aload_n 0, 1) := by decide +kernel
theorem dX0_lengthen_65 : decode cX0_lengthen 65 = .ok (.iload_n 3, 1) := by decide +kernel
theorem dX0_lengthen_66 : decode cX0_lengthen 66 = .ok (.invokevirtual 150, 3) := by decide +kernel
theorem dX0_lengthen_69 : decode cX0_lengthen 69 = .ok (.ifCond .eq 14, 3) := by decide +kernel
theorem dX0_lengthen_72 : decode cX0_lengthen 72 = .ok (.aload_n 0, 1) := by decide +kernel
theorem dX0_lengthen_73 : decode cX0_lengthen 73 = .ok (.getfield 26, 3) := by decide +kernel
theorem dX0_lengthen_76 : decode cX0_lengthen 76 = .ok (.iload_n 3, 1) := by decide +kernel
theorem dX0_lengthen_77 : decode cX0_lengthen 77 = .ok (.iaload, 1) := by decide +kernel
theorem dX0_lengthen_78 : decode cX0_lengthen 78 = .ok (.iload 4, 2) := by decide +kernel
theorem dX0_lengthen_80 : decode cX0_lengthen 80 = .ok (.if_icmp .ge 5, 3) := by decide +kernel
theorem dX0_lengthen_83 : decode cX0_lengthen 83 = .ok (.iconst 0, 1) := by decide +kernel
theorem dX0_lengthen_84 : decode cX0_lengthen 84 = .ok (.ireturn, 1) := by decide +kernel
theorem dX0_lengthen_85 : decode cX0_lengthen 85 = .ok (.aload_n 0, 1) := by decide +kernel
theorem dX0_lengthen_86 : decode cX0_lengthen 86 = .ok (.getfield 29, 3) := by decide +kernel
theorem dX0_lengthen_89 : decode cX0_lengthen 89 = .ok (.iload_n 3, 1) := by decide +kernel
theorem dX0_lengthen_90 : decode cX0_lengthen 90 = .ok (.iaload, 1) := by decide +kernel
theorem dX0_lengthen_91 : decode cX0_lengthen 91 = .ok (.istore 5, 2) := by decide +kernel
theorem dX0_lengthen_93 : decode cX0_lengthen 93 = .ok (.aload_n 0, 1) := by decide +kernel
theorem dX0_lengthen_94 : decode cX0_lengthen 94 = .ok (.getfield 26, 3) := by decide +kernel
theorem dX0_lengthen_97 : decode cX0_lengthen 97 = .ok (.iload_n 1, 1) := by decide +kernel
theorem dX0_lengthen_98 : decode cX0_lengthen 98 = .ok (.dup2, 1) := by decide +kernel
theorem dX0_lengthen_99 : decode cX0_lengthen 99 = .ok (.iaload, 1) := by decide +kernel
theorem dX0_lengthen_100 : decode cX0_lengthen 100 = .ok (.aload_n 0, 1) := by decide +kernel
theorem dX0_lengthen_101 : decode cX0_lengthen 101 = .ok (.iload_n 3, 1) := by decide +kernel
theorem dX0_lengthen_102 : decode cX0_lengthen 102 = .ok (.invokevirtual 147, 3) := by decide +kernel
theorem dX0_lengthen_105 : decode cX0_lengthen 105 = .ok (.iadd, 1) := by decide +kernel
theorem dX0_lengthen_106 : decode cX0_lengthen 106 = .ok (.iastore, 1) := by decide +kernel
theorem dX0_lengthen_107 : decode cX0_lengthen 107 = .ok (.aload_n 0, 1) := by decide +kernel
theorem dX0_lengthen_108 : decode cX0_lengthen 108 = .ok (.iload_n 1, 1) := by decide +kernel
theorem dX0_lengthen_109 : decode cX0_lengthen 109 = .ok (.iload_n 2, 1) := by decide +kernel
theorem dX0_lengthen_110 : decode cX0_lengthen 110 = .ok (.iload 5, 2) := by decide +kernel
theorem dX0_lengthen_112 : decode cX0_lengthen 112 = .ok (.invokevirtual 97, 3) := by decide +kernel
theorem dX0_lengthen_115 : decode cX0_lengthen 115 = .ok (.pop, 1) := by decide +kernel
theorem dX0_lengthen_116 : decode cX0_lengthen 116 = .ok (.iconst 1, 1) := by decide +kernel
theorem dX0_lengthen_117 : decode cX0_lengthen 117 = .ok (.ireturn, 1) := by decide +kernel
theorem dX0_move_0 : decode cX0_move 0 = .ok (.aload_n 0, 1) := by decide +kernel
theorem dX0_move_1 : decode cX0_move 1 = .ok (.iload_n 2, 1) := by decide +kernel
theorem dX0_move_2 : decode cX0_move 2 = .ok (.invokevirtual 57, 3) := by decide +kernel
theorem dX0_move_5 : decode cX0_move 5 = .ok (.istore_n 3, 1) := by decide +kernel
theorem dX0_move_6 : decode cX0_move 6 = .ok (.iload_n 3, 1) := by decide +kernel
theorem dX0_move_7 : decode cX0_move 7 = .ok (.iconst (-1), 1) := by decide +kernel
theorem dX0_move_8 : decode cX0_move 8 = .ok (.if_icmp .eq 33, 3) := by decide +kernel
theorem dX0_move_11 : decode cX0_move 11 = .ok (.aload_n 0, 1) := by decide +kernel
theorem dX0_move_12 : decode cX0_move 12 = .ok (.getfield 22, 3) := by decide +kernel
theorem dX0_move_15 : decode cX0_move 15 = .ok (.iload_n 1, 1) := by decide +kernel
theorem dX0_move_16 : decode cX0_move 16 = .ok (.iconst 1, 1) := by decide +kernel
theorem dX0_move_17 : decode cX0_move 17 = .ok (.iadd, 1) := by decide +kernel
theorem dX0_move_18 : decode cX0_move 18 = .ok (.aload_n 0, 1) := by decide +kernel
theorem dX0_move_19 : decode cX0_move 19 = .ok (.getfield 22, 3) := by decide +kernel
theorem dX0_move_22 : decode cX0_move 22 = .ok (.iload_n 3, 1) := by decide +kernel
theorem dX0_move_23 : decode cX0_move 23 = .ok (.iconst 1, 1) := by decide +kernel
theorem dX0_move_24 : decode cX0_move 24 = .ok (.iadd, 1) := by decide +kernel
theorem dX0_move_25 : decode cX0_move 25 = .ok (.aload_n 0, 1) := by decide +kernel
theorem dX0_move_26 : decode cX0_move 26 = .ok (.getfield 26, 3) := by decide +kernel
theorem dX0_move_29 : decode cX0_move 29 = .ok (.iload_n 1, 1) := by decide +kernel
theorem dX0_move_30 : decode cX0_move 30 = .ok (.iaload, 1) := by decide +kernel
theorem dX0_move_31 : decode cX0_move 31 = .ok (.iconst 1, 1) := by decide +kernel
theorem dX0_move_32 : decode cX0_move 32 = .ok (.isub, 1) := by decide +kernel
theorem dX0_move_33 : decode cX0_move 33 = .ok (.invokestatic 153, 3) := by decide +kernel
theorem dX0_move_36 : decode cX0_move 36 = .ok (.aload_n 0, 1) := by decide +kernel
theorem dX0_move_37 : decode cX0_move 37 = .ok (.iload_n 1, 1) := by decide +kernel
theorem dX0_move_38 : decode cX0_move 38 = .ok (.invokevirtual 76, 3) := by decide +kernel
theorem dX0_move_41 : decode cX0_move 41 = .ok (.iload_n 3, 1) := by decide +kernel
theorem dX0_move_42 : decode cX0_move 42 = .ok (.ireturn, 1) := by decide +kernel
theorem dX0_grow_0 : decode cX0_grow 0 = .ok (.iload_n 1, 1) := by decide +kernel
theorem dX0_grow_1 : decode cX0_grow 1 = .ok (.bipush 16, 2) := by decide +kernel
theorem dX0_grow_3 : decode cX0_grow 3 = .ok (.iadd, 1) := by decide +kernel
theorem dX0_grow_4 : decode cX0_grow 4 = .ok (.iconst 1, 1) := by decide +kernel
theorem dX0_grow_5 : decode cX0_grow 5 = .ok (.isub, 1) := by decide +kernel
theorem dX0_grow_6 : decode cX0_grow 6 = .ok (.bipush 16, 2) := by decide +kernel
theorem dX0_grow_8 : decode cX0_grow 8 = .ok (.idiv, 1) := by decide +kernel
theorem dX0_grow_9 : decode cX0_grow 9 = .ok (.bipush 16, 2) := by decide +kernel
theorem dX0_grow_11 : decode cX0_grow 11 = .ok (.imul, 1) := by decide +kernel
theorem dX0_grow_12 : decode cX0_grow 12 = .ok (.istore_n 2, 1) := by decide +kernel
theorem dX0_grow_13 : decode cX0_grow 13 = .ok (.aload_n 0, 1) := by decide +kernel
theorem dX0_grow_14 : decode cX0_grow 14 = .ok (.getfield 44, 3) := by decide +kernel
theorem dX0_grow_17 : decode cX0_grow 17 = .ok (.iload_n 2, 1) := by decide +kernel
theorem dX0_grow_18 : decode cX0_grow 18 = .ok (.iadd, 1) := by decide +kernel
theorem dX0_grow_19 : decode cX0_grow 19 = .ok (.aload_n 0, 1) := by decide +kernel
theorem dX0_grow_20 : decode cX0_grow 20 = .ok (.getfield 18, 3) := by decide +kernel
theorem dX0_grow_23 : decode cX0_grow 23 = .ok (.if_icmp .le 5, 3) := by decide +kernel
theorem dX0_grow_26 : decode cX0_grow 26 = .ok (.iconst 0, 1) := by decide +kernel
theorem dX0_grow_27 : decode cX0_grow 27 = .ok (.ireturn, 1) := by decide +kernel
theorem dX0_grow_28 : decode cX0_grow 28 = .ok (.aload_n 0, 1) := by decide +kernel
theorem dX0_grow_29 : decode cX0_grow 29 = .ok (.getfield 50, 3) := by decide +kernel
theorem dX0_grow_32 : decode cX0_grow 32 = .ok (.iconst (-1), 1) := by decide +kernel
theorem dX0_grow_33 : decode cX0_grow 33 = .ok (.if_icmp .ne 10, 3) := by decide +kernel
theorem dX0_grow_36 : decode cX0_grow 36 = .ok (.aload_n 0, 1) := by decide +kernel
theorem dX0_grow_37 : decode cX0_grow 37 = .ok (.getfield 44, 3) := by decide +kernel
theorem dX0_grow_40 : decode cX0_grow 40 = .ok (.goto 7, 3) := by decide +kernel
theorem dX0_grow_43 : decode cX0_grow 43 = .ok (.aload_n 0, 1) := by decide +kernel
theorem dX0_grow_44 : decode cX0_grow 44 = .ok (.getfield 50, 3) := by decide +kernel
theorem dX0_grow_47 : decode cX0_grow 47 = .ok (.istore_n 3, 1) := by decide +kernel
theorem dX0_grow_48 : decode cX0_grow 48 = .ok (.aload_n 0, 1) := by decide +kernel
theorem dX0_grow_49 : decode cX0_grow 49 = .ok (.aload_n 0, 1) := by decide +kernel
theorem dX0_grow_50 : decode cX0_grow 50 = .ok (.getfield 50, 3) := by decide +kernel
theorem dX0_grow_53 : decode cX0_grow 53 = .ok (.invokevirtual 101, 3) := by decide +kernel
theorem dX0_grow_56 : decode cX0_grow 56 = .ok (.iload_n 2, 1) := by decide +kernel
theorem dX0_grow_57 : decode cX0_grow 57 = .ok (.iadd, 1) := by decide +kernel
theorem dX0_grow_58 : decode cX0_grow 58 = .ok (.istore 4, 2) := by decide +kernel
theorem dX0_grow_60 : decode cX0_grow 60 = .ok (.aload_n 0, 1) := by decide +kernel
theorem dX0_grow_61 : decode cX0_grow 61 = .ok (.getfield 22, 3) := by decide +kernel
theorem dX0_grow_64 : decode cX0_grow 64 = .ok (.aload_n 0, 1) := by decide +kernel
theorem dX0_grow_65 : decode cX0_grow 65 = .ok (.getfield 44, 3) := by decide +kernel
theorem dX0_grow_68 : decode cX0_grow 68 = .ok (.aload_n 0, 1) := by decide +kernel
theorem dX0_grow_69 : decode cX0_grow 69 = .ok (.getfield 44, 3) := by decide +kernel
theorem dX0_grow_72 : decode cX0_grow 72 = .ok (.iload_n 2, 1) := by decide +kernel
theorem dX0_grow_73 : decode cX0_grow 73 = .ok (.iadd, 1) := by decide +kernel
theorem dX0_grow_74 : decode cX0_grow 74 = .ok (.iconst 0, 1) := by decide +kernel
theorem dX0_grow_75 : decode cX0_grow 75 = .ok (.invokestatic 73, 3) := by decide +kernel
theorem dX0_grow_78 : decode cX0_grow 78 = .ok (.aload_n 0, 1) := by decide +kernel
theorem dX0_grow_79 : decode cX0_grow 79 = .ok (.dup, 1) := by decide +kernel
theorem dX0_grow_80 : decode cX0_grow 80 = .ok (.getfield 44, 3) := by decide +kernel
theorem dX0_grow_83 : decode cX0_grow 83 = .ok (.iload_n 2, 1) := by decide +kernel
theorem dX0_grow_84 : decode cX0_grow 84 = .ok (.iadd, 1) := by decide +kernel
theorem dX0_grow_85 : decode cX0_grow 85 = .ok (.putfield 44, 3) := by decide +kernel
theorem dX0_grow_88 : decode cX0_grow 88 = .ok (.aload_n 0, 1) := by decide +kernel
theorem dX0_grow_89 : decode cX0_grow 89 = .ok (.iload_n 3, 1) := by decide +kernel
theorem dX0_grow_90 : decode cX0_grow 90 = .ok (.iload 4, 2) := by decide +kernel
theorem dX0_grow_92 : decode cX0_grow 92 = .ok (.iconst 4, 1) := by decide +kernel
theorem dX0_grow_93 : decode cX0_grow 93 = .ok (.invokevirtual 134, 3) := by decide +kernel
theorem dX0_grow_96 : decode cX0_grow 96 = .ok (.iconst 1, 1) := by decide +kernel
theorem dX0_grow_97 : decode cX0_grow 97 = .ok (.ireturn, 1) := by decide +kernel
theorem dX0_shrinkTop_0 : decode cX0_shrinkTop 0 = .ok (.aload_n 0, 1) := by decide +kernel
theorem dX0_shrinkTop_1 : decode cX0_shrinkTop 1 = .ok (.getfield 50, 3) := by decide +kernel
theorem dX0_shrinkTop_4 : decode cX0_shrinkTop 4 = .ok (.istore_n 2, 1) := by decide +kernel
theorem dX0_shrinkTop_5 : decode cX0_shrinkTop 5 = .ok (.aload_n 0, 1) := by decide +kernel
theorem dX0_shrinkTop_6 : decode cX0_shrinkTop 6 = .ok (.aload_n 0, 1) := by decide +kernel
theorem dX0_shrinkTop_7 : decode cX0_shrinkTop 7 = .ok (.getfield 50, 3) := by decide +kernel
theorem dX0_shrinkTop_10 : decode cX0_shrinkTop 10 = .ok (.invokevirtual 147, 3) := by decide +kernel
theorem dX0_shrinkTop_13 : decode cX0_shrinkTop 13 = .ok (.iload_n 1, 1) := by decide +kernel
theorem dX0_shrinkTop_14 : decode cX0_shrinkTop 14 = .ok (.isub, 1) := by decide +kernel
theorem dX0_shrinkTop_15 : decode cX0_shrinkTop 15 = .ok (.istore_n 3, 1) := by decide +kernel
theorem dX0_shrinkTop_16 : decode cX0_shrinkTop 16 = .ok (.aload_n 0, 1) := by decide +kernel
theorem dX0_shrinkTop_17 : decode cX0_shrinkTop 17 = .ok (.dup, 1) := by decide +kernel
theorem dX0_shrinkTop_18 : decode cX0_shrinkTop 18 = .ok (.getfield 44, 3) := by decide +kernel
theorem dX0_shrinkTop_21 : decode cX0_shrinkTop 21 = .ok (.iload_n 1, 1) := by decide +kernel
theorem dX0_shrinkTop_22 : decode cX0_shrinkTop 22 = .ok (.isub, 1) := by decide +kernel
theorem dX0_shrinkTop_23 : decode cX0_shrinkTop 23 = .ok (.putfield 44, 3) := by decide +kernel
theorem dX0_shrinkTop_26 : decode cX0_shrinkTop 26 = .ok (.iload_n 3, 1) := by decide +kernel
theorem dX0_shrinkTop_27 : decode cX0_shrinkTop 27 = .ok (.ifCond .le 10, 3) := by decide +kernel
theorem dX0_shrinkTop_30 : decode cX0_shrinkTop 30 = .ok (.aload_n 0, 1) := by decide +kernel
theorem dX0_shrinkTop_31 : decode cX0_shrinkTop 31 = .ok (.iload_n 2, 1) := by decide +kernel
theorem dX0_shrinkTop_32 : decode cX0_shrinkTop 32 = .ok (.iload_n 3, 1) := by decide +kernel
theorem dX0_shrinkTop_33 : decode cX0_shrinkTop 33 = .ok (.iconst 4, 1) := by decide +kernel
theorem dX0_shrinkTop_34 : decode cX0_shrinkTop 34 = .ok (.invokevirtual 134, 3) := by decide +kernel
theorem dX0_shrinkTop_37 : decode cX0_shrinkTop 37 = .ok (.return_, 1) := by decide +kernel
theorem dX0_cut_0 : decode cX0_cut 0 = .ok (.aload_n 0, 1) := by decide +kernel
theorem dX0_cut_1 : decode cX0_cut 1 = .ok (.iload_n 1, 1) := by decide +kernel
theorem dX0_cut_2 : decode cX0_cut 2 = .ok (.invokevirtual 147, 3) := by decide +kernel
theorem dX0_cut_5 : decode cX0_cut 5 = .ok (.istore 4, 2) := by decide +kernel
theorem dX0_cut_7 : decode cX0_cut 7 = .ok (.iload 4, 2) := by decide +kernel
theorem dX0_cut_9 : decode cX0_cut 9 = .ok (.iload_n 2, 1) := by decide +kernel
theorem dX0_cut_10 : decode cX0_cut 10 = .ok (.isub, 1) := by decide +kernel
theorem dX0_cut_11 : decode cX0_cut 11 = .ok (.istore 5, 2) := by decide +kernel
theorem dX0_cut_13 : decode cX0_cut 13 = .ok (.iload 5, 2) := by decide +kernel
theorem dX0_cut_15 : decode cX0_cut 15 = .ok (.iconst 2, 1) := by decide +kernel
theorem dX0_cut_16 : decode cX0_cut 16 = .ok (.if_icmp .ge 14, 3) := by decide +kernel
theorem dX0_cut_19 : decode cX0_cut 19 = .ok (.aload_n 0, 1) := by decide +kernel
theorem dX0_cut_20 : decode cX0_cut 20 = .ok (.iload_n 1, 1) := by decide +kernel
theorem dX0_cut_21 : decode cX0_cut 21 = .ok (.iload 4, 2) := by decide +kernel
theorem dX0_cut_23 : decode cX0_cut 23 = .ok (.iconst 0, 1) := by decide +kernel
theorem dX0_cut_24 : decode cX0_cut 24 = .ok (.invokevirtual 134, 3) := by decide +kernel
theorem dX0_cut_27 : decode cX0_cut 27 = .ok (.goto 20, 3) := by decide +kernel
theorem dX0_cut_30 : decode cX0_cut 30 = .ok (.aload_n 0, 1) := by decide +kernel
theorem dX0_cut_31 : decode cX0_cut 31 = .ok (.iload_n 1, 1) := by decide +kernel
theorem dX0_cut_32 : decode cX0_cut 32 = .ok (.iload_n 2, 1) := by decide +kernel
theorem dX0_cut_33 : decode cX0_cut 33 = .ok (.iconst 0, 1) := by decide +kernel
theorem dX0_cut_34 : decode cX0_cut 34 = .ok (.invokevirtual 134, 3) := by decide +kernel
theorem dX0_cut_37 : decode cX0_cut 37 = .ok (.aload_n 0, 1) := by decide +kernel
theorem dX0_cut_38 : decode cX0_cut 38 = .ok (.iload_n 1, 1) := by decide +kernel
theorem dX0_cut_39 : decode cX0_cut 39 = .ok (.iload_n 2, 1) := by decide +kernel
theorem dX0_cut_40 : decode cX0_cut 40 = .ok (.iadd, 1) := by decide +kernel
theorem dX0_cut_41 : decode cX0_cut 41 = .ok (.iload 5, 2) := by decide +kernel
theorem dX0_cut_43 : decode cX0_cut 43 = .ok (.iload_n 3, 1) := by decide +kernel
theorem dX0_cut_44 : decode cX0_cut 44 = .ok (.invokevirtual 134, 3) := by decide +kernel
theorem dX0_cut_47 : decode cX0_cut 47 = .ok (.iload_n 1, 1) := by decide +kernel
theorem dX0_cut_48 : decode cX0_cut 48 = .ok (.ireturn, 1) := by decide +kernel
theorem dX0_lay_0 : decode cX0_lay 0 = .ok (.aload_n 0, 1) := by decide +kernel
theorem dX0_lay_1 : decode cX0_lay 1 = .ok (.getfield 26, 3) := by decide +kernel
theorem dX0_lay_4 : decode cX0_lay 4 = .ok (.iload_n 1, 1) := by decide +kernel
theorem dX0_lay_5 : decode cX0_lay 5 = .ok (.iload_n 2, 1) := by decide +kernel
theorem dX0_lay_6 : decode cX0_lay 6 = .ok (.iastore, 1) := by decide +kernel
theorem dX0_lay_7 : decode cX0_lay 7 = .ok (.aload_n 0, 1) := by decide +kernel
theorem dX0_lay_8 : decode cX0_lay 8 = .ok (.getfield 29, 3) := by decide +kernel
theorem dX0_lay_11 : decode cX0_lay 11 = .ok (.iload_n 1, 1) := by decide +kernel
theorem dX0_lay_12 : decode cX0_lay 12 = .ok (.iload_n 3, 1) := by decide +kernel
theorem dX0_lay_13 : decode cX0_lay 13 = .ok (.iastore, 1) := by decide +kernel
theorem dX0_lay_14 : decode cX0_lay 14 = .ok (.iload_n 3, 1) := by decide +kernel
theorem dX0_lay_15 : decode cX0_lay 15 = .ok (.iconst 4, 1) := by decide +kernel
theorem dX0_lay_16 : decode cX0_lay 16 = .ok (.if_icmp .ne 11, 3) := by decide +kernel
theorem dX0_lay_19 : decode cX0_lay 19 = .ok (.aload_n 0, 1) := by decide +kernel
theorem dX0_lay_20 : decode cX0_lay 20 = .ok (.iload_n 1, 1) := by decide +kernel
theorem dX0_lay_21 : decode cX0_lay 21 = .ok (.putfield 50, 3) := by decide +kernel
theorem dX0_lay_24 : decode cX0_lay 24 = .ok (.goto 63, 3) := by decide +kernel
theorem dX0_lay_27 : decode cX0_lay 27 = .ok (.iload_n 3, 1) := by decide +kernel
theorem dX0_lay_28 : decode cX0_lay 28 = .ok (.iconst 3, 1) := by decide +kernel
theorem dX0_lay_29 : decode cX0_lay 29 = .ok (.if_icmp .ne 11, 3) := by decide +kernel
theorem dX0_lay_32 : decode cX0_lay 32 = .ok (.aload_n 0, 1) := by decide +kernel
theorem dX0_lay_33 : decode cX0_lay 33 = .ok (.iload_n 1, 1) := by decide +kernel
theorem dX0_lay_34 : decode cX0_lay 34 = .ok (.putfield 47, 3) := by decide +kernel
theorem dX0_lay_37 : decode cX0_lay 37 = .ok (.goto 50, 3) := by decide +kernel
theorem dX0_lay_40 : decode cX0_lay 40 = .ok (.iload_n 3, 1) := by decide +kernel
theorem dX0_lay_41 : decode cX0_lay 41 = .ok (.iconst 1, 1) := by decide +kernel
theorem dX0_lay_42 : decode cX0_lay 42 = .ok (.if_icmp .eq 8, 3) := by decide +kernel
theorem dX0_lay_45 : decode cX0_lay 45 = .ok (.iload_n 3, 1) := by decide +kernel
theorem dX0_lay_46 : decode cX0_lay 46 = .ok (.iconst 2, 1) := by decide +kernel
theorem dX0_lay_47 : decode cX0_lay 47 = .ok (.if_icmp .ne 40, 3) := by decide +kernel
theorem dX0_lay_50 : decode cX0_lay 50 = .ok (.aload_n 0, 1) := by decide +kernel
theorem dX0_lay_51 : decode cX0_lay 51 = .ok (.getfield 29, 3) := by decide +kernel
theorem dX0_lay_54 : decode cX0_lay 54 = .ok (.iload_n 1, 1) := by decide +kernel
theorem dX0_lay_55 : decode cX0_lay 55 = .ok (.iload_n 2, 1) := by decide +kernel
theorem dX0_lay_56 : decode cX0_lay 56 = .ok (.bipush 16, 2) := by decide +kernel
theorem dX0_lay_58 : decode cX0_lay 58 = .ok (.if_icmp .ge 7, 3) := by decide +kernel
theorem dX0_lay_61 : decode cX0_lay 61 = .ok (.iconst 1, 1) := by decide +kernel
theorem dX0_lay_62 : decode cX0_lay 62 = .ok (.goto 4, 3) := by decide +kernel
theorem dX0_lay_65 : decode cX0_lay 65 = .ok (.iconst 2, 1) := by decide +kernel
theorem dX0_lay_66 : decode cX0_lay 66 = .ok (.iastore, 1) := by decide +kernel
theorem dX0_lay_67 : decode cX0_lay 67 = .ok (.aload_n 0, 1) := by decide +kernel
theorem dX0_lay_68 : decode cX0_lay 68 = .ok (.dup, 1) := by decide +kernel
theorem dX0_lay_69 : decode cX0_lay 69 = .ok (.getfield 41, 3) := by decide +kernel
theorem dX0_lay_72 : decode cX0_lay 72 = .ok (.iconst 1, 1) := by decide +kernel
theorem dX0_lay_73 : decode cX0_lay 73 = .ok (.iadd, 1) := by decide +kernel
theorem dX0_lay_74 : decode cX0_lay 74 = .ok (.putfield 41, 3) := by decide +kernel
theorem dX0_lay_77 : decode cX0_lay 77 = .ok (.aload_n 0, 1) := by decide +kernel
theorem dX0_lay_78 : decode cX0_lay 78 = .ok (.getfield 32, 3) := by decide +kernel
theorem dX0_lay_81 : decode cX0_lay 81 = .ok (.iload_n 1, 1) := by decide +kernel
theorem dX0_lay_82 : decode cX0_lay 82 = .ok (.aload_n 0, 1) := by decide +kernel
theorem dX0_lay_83 : decode cX0_lay 83 = .ok (.getfield 41, 3) := by decide +kernel
theorem dX0_lay_86 : decode cX0_lay 86 = .ok (.iastore, 1) := by decide +kernel
theorem dX0_lay_87 : decode cX0_lay 87 = .ok (.return_, 1) := by decide +kernel
theorem dX0_lift_0 : decode cX0_lift 0 = .ok (.aload_n 0, 1) := by decide +kernel
theorem dX0_lift_1 : decode cX0_lift 1 = .ok (.getfield 26, 3) := by decide +kernel
theorem dX0_lift_4 : decode cX0_lift 4 = .ok (.iload_n 1, 1) := by decide +kernel
theorem dX0_lift_5 : decode cX0_lift 5 = .ok (.iaload, 1) := by decide +kernel
theorem dX0_lift_6 : decode cX0_lift 6 = .ok (.istore_n 2, 1) := by decide +kernel
theorem dX0_lift_7 : decode cX0_lift 7 = .ok (.aload_n 0, 1) := by decide +kernel
theorem dX0_lift_8 : decode cX0_lift 8 = .ok (.getfield 26, 3) := by decide +kernel
theorem dX0_lift_11 : decode cX0_lift 11 = .ok (.iload_n 1, 1) := by decide +kernel
theorem dX0_lift_12 : decode cX0_lift 12 = .ok (.iconst 0, 1) := by decide +kernel
theorem dX0_lift_13 : decode cX0_lift 13 = .ok (.iastore, 1) := by decide +kernel
theorem dX0_lift_14 : decode cX0_lift 14 = .ok (.aload_n 0, 1) := by decide +kernel
theorem dX0_lift_15 : decode cX0_lift 15 = .ok (.getfield 29, 3) := by decide +kernel
theorem dX0_lift_18 : decode cX0_lift 18 = .ok (.iload_n 1, 1) := by decide +kernel
theorem dX0_lift_19 : decode cX0_lift 19 = .ok (.iconst (-1), 1) := by decide +kernel
theorem dX0_lift_20 : decode cX0_lift 20 = .ok (.iastore, 1) := by decide +kernel
theorem dX0_lift_21 : decode cX0_lift 21 = .ok (.iload_n 1, 1) := by decide +kernel
theorem dX0_lift_22 : decode cX0_lift 22 = .ok (.aload_n 0, 1) := by decide +kernel
theorem dX0_lift_23 : decode cX0_lift 23 = .ok (.getfield 47, 3) := by decide +kernel
theorem dX0_lift_26 : decode cX0_lift 26 = .ok (.if_icmp .ne 8, 3) := by decide +kernel
theorem dX0_lift_29 : decode cX0_lift 29 = .ok (.aload_n 0, 1) := by decide +kernel
theorem dX0_lift_30 : decode cX0_lift 30 = .ok (.iconst (-1), 1) := by decide +kernel
theorem dX0_lift_31 : decode cX0_lift 31 = .ok (.putfield 47, 3) := by decide +kernel
theorem dX0_lift_34 : decode cX0_lift 34 = .ok (.iload_n 1, 1) := by decide +kernel
theorem dX0_lift_35 : decode cX0_lift 35 = .ok (.aload_n 0, 1) := by decide +kernel
theorem dX0_lift_36 : decode cX0_lift 36 = .ok (.getfield 50, 3) := by decide +kernel
theorem dX0_lift_39 : decode cX0_lift 39 = .ok (.if_icmp .ne 8, 3) := by decide +kernel
theorem dX0_lift_42 : decode cX0_lift 42 = .ok (.aload_n 0, 1) := by decide +kernel
theorem dX0_lift_43 : decode cX0_lift 43 = .ok (.iconst (-1), 1) := by decide +kernel
theorem dX0_lift_44 : decode cX0_lift 44 = .ok (.putfield 50, 3) := by decide +kernel
theorem dX0_lift_47 : decode cX0_lift 47 = .ok (.iload_n 2, 1) := by decide +kernel
theorem dX0_lift_48 : decode cX0_lift 48 = .ok (.ireturn, 1) := by decide +kernel
