theorem dX0_init_0 : decode cX0_init 0 = .ok (.aload_n 0, 1) := by decide +kernel
theorem dX0_init_1 : decode cX0_init 1 = .ok (.invokespecial 1, 3) := by decide +kernel
theorem dX0_init_4 : decode cX0_init 4 = .ok (.aload_n 0, 1) := by decide +kernel
theorem dX0_init_5 : decode cX0_init 5 = .ok (.bipush 10, 2) := by decide +kernel
theorem dX0_init_7 : decode cX0_init 7 = .ok (.newarray .int, 2) := by decide +kernel
theorem dX0_init_9 : decode cX0_init 9 = .ok (.putfield 9, 3) := by decide +kernel
theorem dX0_init_12 : decode cX0_init 12 = .ok (.aload_n 0, 1) := by decide +kernel
theorem dX0_init_13 : decode cX0_init 13 = .ok (.bipush 10, 2) := by decide +kernel
theorem dX0_init_15 : decode cX0_init 15 = .ok (.newarray .double, 2) := by decide +kernel
theorem dX0_init_17 : decode cX0_init 17 = .ok (.putfield 13, 3) := by decide +kernel
theorem dX0_init_20 : decode cX0_init 20 = .ok (.aload_n 0, 1) := by decide +kernel
theorem dX0_init_21 : decode cX0_init 21 = .ok (.bipush 10, 2) := by decide +kernel
theorem dX0_init_23 : decode cX0_init 23 = .ok (.newarray .int, 2) := by decide +kernel
theorem dX0_init_25 : decode cX0_init 25 = .ok (.putfield 17, 3) := by decide +kernel
theorem dX0_init_28 : decode cX0_init 28 = .ok (.aload_n 0, 1) := by decide +kernel
theorem dX0_init_29 : decode cX0_init 29 = .ok (.bipush 10, 2) := by decide +kernel
theorem dX0_init_31 : decode cX0_init 31 = .ok (.newarray .int, 2) := by decide +kernel
theorem dX0_init_33 : decode cX0_init 33 = .ok (.putfield 20, 3) := by decide +kernel
theorem dX0_init_36 : decode cX0_init 36 = .ok (.return_, 1) := by decide +kernel
theorem dX0_clear_0 : decode cX0_clear 0 = .ok (.aload_n 0, 1) := by decide +kernel
theorem dX0_clear_1 : decode cX0_clear 1 = .ok (.iload_n 1, 1) := by decide +kernel
theorem dX0_clear_2 : decode cX0_clear 2 = .ok (.putfield 23, 3) := by decide +kernel
theorem dX0_clear_5 : decode cX0_clear 5 = .ok (.aload_n 0, 1) := by decide +kernel
theorem dX0_clear_6 : decode cX0_clear 6 = .ok (.iconst 0, 1) := by decide +kernel
theorem dX0_clear_7 : decode cX0_clear 7 = .ok (.putfield 27, 3) := by decide +kernel
theorem dX0_clear_10 : decode cX0_clear 10 = .ok (.return_, 1) := by decide +kernel
theorem dX0_hasValue_0 : decode cX0_hasValue 0 = .ok (.iload_n 1, 1) := by decide +kernel
theorem dX0_hasValue_1 : decode cX0_hasValue 1 = .ok (.ifCond .lt 15, 3) := by decide +kernel
theorem dX0_hasValue_4 : decode cX0_hasValue 4 = .ok (.iload_n 1, 1) := by decide +kernel
theorem dX0_hasValue_5 : decode cX0_hasValue 5 = .ok (.aload_n 0, 1) := by decide +kernel
theorem dX0_hasValue_6 : decode cX0_hasValue 6 = .ok (.getfield 23, 3) := by decide +kernel
theorem dX0_hasValue_9 : decode cX0_hasValue 9 = .ok (.if_icmp .ge 7, 3) := by decide +kernel
theorem dX0_hasValue_12 : decode cX0_hasValue 12 = .ok (.iconst 1, 1) := by decide +kernel
theorem dX0_hasValue_13 : decode cX0_hasValue 13 = .ok (.goto 4, 3) := by decide +kernel
theorem dX0_hasValue_16 : decode cX0_hasValue 16 = .ok (.iconst 0, 1) := by decide +kernel
theorem dX0_hasValue_17 : decode cX0_hasValue 17 = .ok (.ireturn, 1) := by decide +kernel
theorem dX0_hasFactor_0 : decode cX0_hasFactor 0 = .ok (.aload_n 0, 1) := by decide +kernel
theorem dX0_hasFactor_1 : decode cX0_hasFactor 1 = .ok (.iload_n 1, 1) := by decide +kernel
theorem dX0_hasFactor_2 : decode cX0_hasFactor 2 = .ok (.invokevirtual 30, 3) := by decide +kernel
theorem dX0_hasFactor_5 : decode cX0_hasFactor 5 = .ok (.ifCond .ne 13, 3) := by decide +kernel
theorem dX0_hasFactor_8 : decode cX0_hasFactor 8 = .ok (.iload_n 1, 1) := by decide +kernel
theorem dX0_hasFactor_9 : decode cX0_hasFactor 9 = .ok (.iconst 3, 1) := by decide +kernel
theorem dX0_hasFactor_10 : decode cX0_hasFactor 10 = .ok (.if_icmp .eq 8, 3) := by decide +kernel
theorem dX0_hasFactor_13 : decode cX0_hasFactor 13 = .ok (.iload_n 1, 1) := by decide +kernel
theorem dX0_hasFactor_14 : decode cX0_hasFactor 14 = .ok (.iconst 4, 1) := by decide +kernel
theorem dX0_hasFactor_15 : decode cX0_hasFactor 15 = .ok (.if_icmp .ne 7, 3) := by decide +kernel
theorem dX0_hasFactor_18 : decode cX0_hasFactor 18 = .ok (.iconst 1, 1) := by decide +kernel
theorem dX0_hasFactor_19 : decode cX0_hasFactor 19 = .ok (.goto 4, 3) := by decide +kernel
theorem dX0_hasFactor_22 : decode cX0_hasFactor 22 = .ok (.iconst 0, 1) := by decide +kernel
theorem dX0_hasFactor_23 : decode cX0_hasFactor 23 = .ok (.ireturn, 1) := by decide +kernel
theorem dX0_isFull_0 : decode cX0_isFull 0 = .ok (.aload_n 0, 1) := by decide +kernel
theorem dX0_isFull_1 : decode cX0_isFull 1 = .ok (.getfield 27, 3) := by decide +kernel
theorem dX0_isFull_4 : decode cX0_isFull 4 = .ok (.bipush 10, 2) := by decide +kernel
theorem dX0_isFull_6 : decode cX0_isFull 6 = .ok (.if_icmp .lt 7, 3) := by decide +kernel
theorem dX0_isFull_9 : decode cX0_isFull 9 = .ok (.iconst 1, 1) := by decide +kernel
theorem dX0_isFull_10 : decode cX0_isFull 10 = .ok (.goto 4, 3) := by decide +kernel
theorem dX0_isFull_13 : decode cX0_isFull 13 = .ok (.iconst 0, 1) := by decide +kernel
theorem dX0_isFull_14 : decode cX0_isFull 14 = .ok (.ireturn, 1) := by decide +kernel
theorem dX0_add_0 : decode cX0_add 0 = .ok (.aload_n 0, 1) := by decide +kernel
theorem dX0_add_1 : decode cX0_add 1 = .ok (.getfield 9, 3) := by decide +kernel
theorem dX0_add_4 : decode cX0_add 4 = .ok (.aload_n 0, 1) := by decide +kernel
theorem dX0_add_5 : decode cX0_add 5 = .ok (.getfield 27, 3) := by decide +kernel
theorem dX0_add_8 : decode cX0_add 8 = .ok (.iload_n 1, 1) := by decide +kernel
theorem dX0_add_9 : decode cX0_add 9 = .ok (.iastore, 1) := by decide +kernel
theorem dX0_add_10 : decode cX0_add 10 = .ok (.aload_n 0, 1) := by decide +kernel
theorem dX0_add_11 : decode cX0_add 11 = .ok (.getfield 13, 3) := by decide +kernel
theorem dX0_add_14 : decode cX0_add 14 = .ok (.aload_n 0, 1) := by decide +kernel
theorem dX0_add_15 : decode cX0_add 15 = .ok (.getfield 27, 3) := by decide +kernel
theorem dX0_add_18 : decode cX0_add 18 = .ok (.dload_n 2, 1) := by decide +kernel
theorem dX0_add_19 : decode cX0_add 19 = .ok (.dastore, 1) := by decide +kernel
theorem dX0_add_20 : decode cX0_add 20 = .ok (.aload_n 0, 1) := by decide +kernel
theorem dX0_add_21 : decode cX0_add 21 = .ok (.getfield 17, 3) := by decide +kernel
theorem dX0_add_24 : decode cX0_add 24 = .ok (.aload_n 0, 1) := by decide +kernel
theorem dX0_add_25 : decode cX0_add 25 = .ok (.getfield 27, 3) := by decide +kernel
theorem dX0_add_28 : decode cX0_add 28 = .ok (.iload 4, 2) := by decide +kernel
theorem dX0_add_30 : decode cX0_add 30 = .ok (.iastore, 1) := by decide +kernel
theorem dX0_add_31 : decode cX0_add 31 = .ok (.aload_n 0, 1) := by decide +kernel
theorem dX0_add_32 : decode cX0_add 32 = .ok (.getfield 20, 3) := by decide +kernel
theorem dX0_add_35 : decode cX0_add 35 = .ok (.aload_n 0, 1) := by decide +kernel
theorem dX0_add_36 : decode cX0_add 36 = .ok (.getfield 27, 3) := by decide +kernel
theorem dX0_add_39 : decode cX0_add 39 = .ok (.iload 5, 2) := by decide +kernel
theorem dX0_add_41 : decode cX0_add 41 = .ok (.iastore, 1) := by decide +kernel
theorem dX0_add_42 : decode cX0_add 42 = .ok (.aload_n 0, 1) := by decide +kernel
theorem dX0_add_43 : decode cX0_add 43 = .ok (.dup, 1) := by decide +kernel
theorem dX0_add_44 : decode cX0_add 44 = .ok (.getfield 27, 3) := by decide +kernel
theorem dX0_add_47 : decode cX0_add 47 = .ok (.iconst 1, 1) := by decide +kernel
theorem dX0_add_48 : decode cX0_add 48 = .ok (.iadd, 1) := by decide +kernel
theorem dX0_add_49 : decode cX0_add 49 = .ok (.putfield 27, 3) := by decide +kernel
theorem dX0_add_52 : decode cX0_add 52 = .ok (.return_, 1) := by decide +kernel
theorem dX0_slopes_0 : decode cX0_slopes 0 = .ok (.iconst 0, 1) := by decide +kernel
theorem dX0_slopes_1 : decode cX0_slopes 1 = .ok (.istore 5, 2) := by decide +kernel
theorem dX0_slopes_3 : decode cX0_slopes 3 = .ok (.iload 5, 2) := by decide +kernel
theorem dX0_slopes_5 : decode cX0_slopes 5 = .ok (.aload_n 0, 1) := by decide +kernel
theorem dX0_slopes_6 : decode cX0_slopes 6 = .ok (.getfield 23, 3) := by decide +kernel
theorem dX0_slopes_9 : decode cX0_slopes 9 = .ok (.if_icmp .ge 15, 3) := by decide +kernel
theorem dX0_slopes_12 : decode cX0_slopes 12 = .ok (.aload 4, 2) := by decide +kernel
theorem dX0_slopes_14 : decode cX0_slopes 14 = .ok (.iload 5, 2) := by decide +kernel
theorem dX0_slopes_16 : decode cX0_slopes 16 = .ok (.dconst 0, 1) := by decide +kernel
theorem dX0_slopes_17 : decode cX0_slopes 17 = .ok (.dastore, 1) := by decide +kernel
theorem dX0_slopes_18 : decode cX0_slopes 18 = .ok (.iinc 5 1, 3) := by decide +kernel
theorem dX0_slopes_21 : decode cX0_slopes 21 = .ok (.goto (-18), 3) := by decide +kernel
theorem dX0_slopes_24 : decode cX0_slopes 24 = .ok (.iconst 0, 1) := by decide +kernel
theorem dX0_slopes_25 : decode cX0_slopes 25 = .ok (.istore 5, 2) := by decide +kernel
theorem dX0_slopes_27 : decode cX0_slopes 27 = .ok (.iload 5, 2) := by decide +kernel
theorem dX0_slopes_29 : decode cX0_slopes 29 = .ok (.aload_n 0, 1) := by decide +kernel
theorem dX0_slopes_30 : decode cX0_slopes 30 = .ok (.getfield 27, 3) := by decide +kernel
theorem dX0_slopes_33 : decode cX0_slopes 33 = .ok (.if_icmp .ge 64, 3) := by decide +kernel
theorem dX0_slopes_36 : decode cX0_slopes 36 = .ok (.aload_n 0, 1) := by decide +kernel
theorem dX0_slopes_37 : decode cX0_slopes 37 = .ok (.getfield 9, 3) := by decide +kernel
theorem dX0_slopes_40 : decode cX0_slopes 40 = .ok (.iload 5, 2) := by decide +kernel
theorem dX0_slopes_42 : decode cX0_slopes 42 = .ok (.iaload, 1) := by decide +kernel
theorem dX0_slopes_43 : decode cX0_slopes 43 = .ok (.istore 6, 2) := by decide +kernel
theorem dX0_slopes_45 : decode cX0_slopes 45 = .ok (.aload 4, 2) := by decide +kernel
theorem dX0_slopes_47 : decode cX0_slopes 47 = .ok (.iload 6, 2) := by decide +kernel
theorem dX0_slopes_49 : decode cX0_slopes 49 = .ok (.aload 4, 2) := by decide +kernel
theorem dX0_slopes_51 : decode cX0_slopes 51 = .ok (.iload 6, 2) := by decide +kernel
theorem dX0_slopes_53 : decode cX0_slopes 53 = .ok (.daload, 1) := by decide +kernel
theorem dX0_slopes_54 : decode cX0_slopes 54 = .ok (.aload_n 0, 1) := by decide +kernel
theorem dX0_slopes_55 : decode cX0_slopes 55 = .ok (.getfield 13, 3) := by decide +kernel
theorem dX0_slopes_58 : decode cX0_slopes 58 = .ok (.iload 5, 2) := by decide +kernel
theorem dX0_slopes_60 : decode cX0_slopes 60 = .ok (.daload, 1) := by decide +kernel
theorem dX0_slopes_61 : decode cX0_slopes 61 = .ok (.aload_n 0, 1) := by decide +kernel
theorem dX0_slopes_62 : decode cX0_slopes 62 = .ok (.aload_n 0, 1) := by decide +kernel
theorem dX0_slopes_63 : decode cX0_slopes 63 = .ok (.getfield 17, 3) := by decide +kernel
theorem dX0_slopes_66 : decode cX0_slopes 66 = .ok (.iload 5, 2) := by decide +kernel
theorem dX0_slopes_68 : decode cX0_slopes 68 = .ok (.iaload, 1) := by decide +kernel
theorem dX0_slopes_69 : decode cX0_slopes 69 = .ok (.dload_n 1, 1) := by decide +kernel
theorem dX0_slopes_70 : decode cX0_slopes 70 = .ok (.aload_n 3, 1) := by decide +kernel
theorem dX0_slopes_71 : decode cX0_slopes 71 = .ok (.invokevirtual 34, 3) := by decide +kernel
theorem dX0_slopes_74 : decode cX0_slopes 74 = .ok (.dmul, 1) := by decide +kernel
theorem dX0_slopes_75 : decode cX0_slopes 75 = .ok (.aload_n 0, 1) := by decide +kernel
theorem dX0_slopes_76 : decode cX0_slopes 76 = .ok (.aload_n 0, 1) := by decide +kernel
theorem dX0_slopes_77 : decode cX0_slopes 77 = .ok (.getfield 20, 3) := by decide +kernel
theorem dX0_slopes_80 : decode cX0_slopes 80 = .ok (.iload 5, 2) := by decide +kernel
theorem dX0_slopes_82 : decode cX0_slopes 82 = .ok (.iaload, 1) := by decide +kernel
theorem dX0_slopes_83 : decode cX0_slopes 83 = .ok (.dload_n 1, 1) := by decide +kernel
theorem dX0_slopes_84 : decode cX0_slopes 84 = .ok (.aload_n 3, 1) := by decide +kernel
theorem dX0_slopes_85 : decode cX0_slopes 85 = .ok (.invokevirtual 34, 3) := by decide +kernel
theorem dX0_slopes_88 : decode cX0_slopes 88 = .ok (.dmul, 1) := by decide +kernel
theorem dX0_slopes_89 : decode cX0_slopes 89 = .ok (.dadd, 1) := by decide +kernel
theorem dX0_slopes_90 : decode cX0_slopes 90 = .ok (.dastore, 1) := by decide +kernel
theorem dX0_slopes_91 : decode cX0_slopes 91 = .ok (.iinc 5 1, 3) := by decide +kernel
theorem dX0_slopes_94 : decode cX0_slopes 94 = .ok (.goto (-67), 3) := by decide +kernel
theorem dX0_slopes_97 : decode cX0_slopes 97 = .ok (.return_, 1) := by decide +kernel
theorem dX0_slopeBy_0 : decode cX0_slopeBy 0 = .ok (.dconst 0, 1) := by decide +kernel
theorem dX0_slopeBy_1 : decode cX0_slopeBy 1 = .ok (.dstore 6, 2) := by decide +kernel
theorem dX0_slopeBy_3 : decode cX0_slopeBy 3 = .ok (.iconst 0, 1) := by decide +kernel
theorem dX0_slopeBy_4 : decode cX0_slopeBy 4 = .ok (.istore 8, 2) := by decide +kernel
theorem dX0_slopeBy_6 : decode cX0_slopeBy 6 = .ok (.iload 8, 2) := by decide +kernel
theorem dX0_slopeBy_8 : decode cX0_slopeBy 8 = .ok (.aload_n 0, 1) := by decide +kernel
theorem dX0_slopeBy_9 : decode cX0_slopeBy 9 = .ok (.getfield 27, 3) := by decide +kernel
theorem dX0_slopeBy_12 : decode cX0_slopeBy 12 = .ok (.if_icmp .ge 107, 3) := by decide +kernel
theorem dX0_slopeBy_15 : decode cX0_slopeBy 15 = .ok (.aload_n 0, 1) := by decide +kernel
theorem dX0_slopeBy_16 : decode cX0_slopeBy 16 = .ok (.getfield 9, 3) := by decide +kernel
theorem dX0_slopeBy_19 : decode cX0_slopeBy 19 = .ok (.iload 8, 2) := by decide +kernel
theorem dX0_slopeBy_21 : decode cX0_slopeBy 21 = .ok (.iaload, 1) := by decide +kernel
theorem dX0_slopeBy_22 : decode cX0_slopeBy 22 = .ok (.iload_n 1, 1) := by decide +kernel
theorem dX0_slopeBy_23 : decode cX0_slopeBy 23 = .ok (.if_icmp .ne 41, 3) := by decide +kernel
theorem dX0_slopeBy_26 : decode cX0_slopeBy 26 = .ok (.aload_n 0, 1) := by decide +kernel
theorem dX0_slopeBy_27 : decode cX0_slopeBy 27 = .ok (.getfield 17, 3) := by decide +kernel
theorem dX0_slopeBy_30 : decode cX0_slopeBy 30 = .ok (.iload 8, 2) := by decide +kernel
theorem dX0_slopeBy_32 : decode cX0_slopeBy 32 = .ok (.iaload, 1) := by decide +kernel
theorem dX0_slopeBy_33 : decode cX0_slopeBy 33 = .ok (.iload_n 2, 1) := by decide +kernel
theorem dX0_slopeBy_34 : decode cX0_slopeBy 34 = .ok (.if_icmp .ne 30, 3) := by decide +kernel
theorem dX0_slopeBy_37 : decode cX0_slopeBy 37 = .ok (.dload 6, 2) := by decide +kernel
theorem dX0_slopeBy_39 : decode cX0_slopeBy 39 = .ok (.aload_n 0, 1) := by decide +kernel
theorem dX0_slopeBy_40 : decode cX0_slopeBy 40 = .ok (.getfield 13, 3) := by decide +kernel
theorem dX0_slopeBy_43 : decode cX0_slopeBy 43 = .ok (.iload 8, 2) := by decide +kernel
theorem dX0_slopeBy_45 : decode cX0_slopeBy 45 = .ok (.daload, 1) := by decide +kernel
theorem dX0_slopeBy_46 : decode cX0_slopeBy 46 = .ok (.aload_n 0, 1) := by decide +kernel
theorem dX0_slopeBy_47 : decode cX0_slopeBy 47 = .ok (.aload_n 0, 1) := by decide +kernel
theorem dX0_slopeBy_48 : decode cX0_slopeBy 48 = .ok (.getfield 20, 3) := by decide +kernel
theorem dX0_slopeBy_51 : decode cX0_slopeBy 51 = .ok (.iload 8, 2) := by decide +kernel
theorem dX0_slopeBy_53 : decode cX0_slopeBy 53 = .ok (.iaload, 1) := by decide +kernel
theorem dX0_slopeBy_54 : decode cX0_slopeBy 54 = .ok (.dload_n 3, 1) := by decide +kernel
theorem dX0_slopeBy_55 : decode cX0_slopeBy 55 = .ok (.aload 5, 2) := by decide +kernel
theorem dX0_slopeBy_57 : decode cX0_slopeBy 57 = .ok (.invokevirtual 34, 3) := by decide +kernel
theorem dX0_slopeBy_60 : decode cX0_slopeBy 60 = .ok (.dmul, 1) := by decide +kernel
theorem dX0_slopeBy_61 : decode cX0_slopeBy 61 = .ok (.dadd, 1) := by decide +kernel
theorem dX0_slopeBy_62 : decode cX0_slopeBy 62 = .ok (.dstore 6, 2) := by decide +kernel
theorem dX0_slopeBy_64 : decode cX0_slopeBy 64 = .ok (.aload_n 0, 1) := by decide +kernel
theorem dX0_slopeBy_65 : decode cX0_slopeBy 65 = .ok (.getfield 9, 3) := by decide +kernel
theorem dX0_slopeBy_68 : decode cX0_slopeBy 68 = .ok (.iload 8, 2) := by decide +kernel
theorem dX0_slopeBy_70 : decode cX0_slopeBy 70 = .ok (.iaload, 1) := by decide +kernel
theorem dX0_slopeBy_71 : decode cX0_slopeBy 71 = .ok (.iload_n 1, 1) := by decide +kernel
theorem dX0_slopeBy_72 : decode cX0_slopeBy 72 = .ok (.if_icmp .ne 41, 3) := by decide +kernel
theorem dX0_slopeBy_75 : decode cX0_slopeBy 75 = .ok (.aload_n 0, 1) := by decide +kernel
theorem dX0_slopeBy_76 : decode cX0_slopeBy 76 = .ok (.getfield 20, 3) := by decide +kernel
theorem dX0_slopeBy_79 : decode cX0_slopeBy 79 = .ok (.iload 8, 2) := by decide +kernel
theorem dX0_slopeBy_81 : decode cX0_slopeBy 81 = .ok (.iaload, 1) := by decide +kernel
theorem dX0_slopeBy_82 : decode cX0_slopeBy 82 = .ok (.iload_n 2, 1) := by decide +kernel
theorem dX0_slopeBy_83 : decode cX0_slopeBy 83 = .ok (.if_icmp .ne 30, 3) := by decide +kernel
theorem dX0_slopeBy_86 : decode cX0_slopeBy 86 = .ok (.dload 6, 2) := by decide +kernel
theorem dX0_slopeBy_88 : decode cX0_slopeBy 88 = .ok (.aload_n 0, 1) := by decide +kernel
theorem dX0_slopeBy_89 : decode cX0_slopeBy 89 = .ok (.getfield 13, 3) := by decide +kernel
theorem dX0_slopeBy_92 : decode cX0_slopeBy 92 = .ok (.iload 8, 2) := by decide +kernel
theorem dX0_slopeBy_94 : decode cX0_slopeBy 94 = .ok (.daload, 1) := by decide +kernel
theorem dX0_slopeBy_95 : decode cX0_slopeBy 95 = .ok (.aload_n 0, 1) := by decide +kernel
theorem dX0_slopeBy_96 : decode cX0_slopeBy 96 = .ok (.aload_n 0, 1) := by decide +kernel
theorem dX0_slopeBy_97 : decode cX0_slopeBy 97 = .ok (.getfield 17, 3) := by decide +kernel
theorem dX0_slopeBy_100 : decode cX0_slopeBy 100 = .ok (.iload 8, 2) := by decide +kernel
theorem dX0_slopeBy_102 : decode cX0_slopeBy 102 = .ok (.iaload, 1) := by decide +kernel
theorem dX0_slopeBy_103 : decode cX0_slopeBy 103 = .ok (.dload_n 3, 1) := by decide +kernel
theorem dX0_slopeBy_104 : decode cX0_slopeBy 104 = .ok (.aload 5, 2) := by decide +kernel
theorem dX0_slopeBy_106 : decode cX0_slopeBy 106 = .ok (.invokevirtual 34, 3) := by decide +kernel
theorem dX0_slopeBy_109 : decode cX0_slopeBy 109 = .ok (.dmul, 1) := by decide +kernel
theorem dX0_slopeBy_110 : decode cX0_slopeBy 110 = .ok (.dadd, 1) := by decide +kernel
theorem dX0_slopeBy_111 : decode cX0_slopeBy 111 = .ok (.dstore 6, 2) := by decide +kernel
theorem dX0_slopeBy_113 : decode cX0_slopeBy 113 = .ok (.iinc 8 1, 3) := by decide +kernel
theorem dX0_slopeBy_116 : decode cX0_slopeBy 116 = .ok (.goto (-110), 3) := by decide +kernel
theorem dX0_slopeBy_119 : decode cX0_slopeBy 119 = .ok (.dload 6, 2) := by decide +kernel
theorem dX0_slopeBy_121 : decode cX0_slopeBy 121 = .ok (.dreturn, 1) := by decide +kernel
theorem dX0_factor_0 : decode cX0_factor 0 = .ok (.iload_n 1, 1) := by decide +kernel
theorem dX0_factor_1 : decode cX0_factor 1 = .ok (.ifCond .lt 16, 3) := by decide +kernel
theorem dX0_factor_4 : decode cX0_factor 4 = .ok (.iload_n 1, 1) := by decide +kernel
theorem dX0_factor_5 : decode cX0_factor 5 = .ok (.aload_n 0, 1) := by decide +kernel
theorem dX0_factor_6 : decode cX0_factor 6 = .ok (.getfield 23, 3) := by decide +kernel
theorem dX0_factor_9 : decode cX0_factor 9 = .ok (.if_icmp .ge 8, 3) := by decide +kernel
theorem dX0_factor_12 : decode cX0_factor 12 = .ok (.aload 4, 2) := by decide +kernel
theorem dX0_factor_14 : decode cX0_factor 14 = .ok (.iload_n 1, 1) := by decide +kernel
theorem dX0_factor_15 : decode cX0_factor 15 = .ok (.daload, 1) := by decide +kernel
theorem dX0_factor_16 : decode cX0_factor 16 = .ok (.dreturn, 1) := by decide +kernel
theorem dX0_factor_17 : decode cX0_factor 17 = .ok (.iload_n 1, 1) := by decide +kernel
theorem dX0_factor_18 : decode cX0_factor 18 = .ok (.iconst 3, 1) := by decide +kernel
theorem dX0_factor_19 : decode cX0_factor 19 = .ok (.if_icmp .ne 7, 3) := by decide +kernel
theorem dX0_factor_22 : decode cX0_factor 22 = .ok (.dload_n 2, 1) := by decide +kernel
theorem dX0_factor_23 : decode cX0_factor 23 = .ok (.goto 4, 3) := by decide +kernel
theorem dX0_factor_26 : decode cX0_factor 26 = .ok (.dconst 1, 1) := by decide +kernel
theorem dX0_factor_27 : decode cX0_factor 27 = .ok (.dreturn, 1) := by decide +kernel
theorem dX1_init_0 : decode cX1_init 0 = .ok (.aload_n 0, 1) := by decide +kernel
theorem dX1_init_1 : decode cX1_init 1 = .ok (.invokespecial 3, 3) := by decide +kernel
theorem dX1_init_4 : decode cX1_init 4 = .ok (.aload_n 0, 1) := by decide +kernel
theorem dX1_init_5 : decode cX1_init 5 = .ok (.iconst 3, 1) := by decide +kernel
theorem dX1_init_6 : decode cX1_init 6 = .ok (.iconst 3, 1) := by decide +kernel
theorem dX1_init_7 : decode cX1_init 7 = .ok (.multianewarray 9 2, 4) := by decide +kernel
theorem dX1_init_11 : decode cX1_init 11 = .ok (.putfield 11, 3) := by decide +kernel
theorem dX1_init_14 : decode cX1_init 14 = .ok (.aload_n 0, 1) := by decide +kernel
theorem dX1_init_15 : decode cX1_init 15 = .ok (.iconst 3, 1) := by decide +kernel
theorem dX1_init_16 : decode cX1_init 16 = .ok (.newarray .double, 2) := by decide +kernel
theorem dX1_init_18 : decode cX1_init 18 = .ok (.putfield 16, 3) := by decide +kernel
theorem dX1_init_21 : decode cX1_init 21 = .ok (.aload_n 0, 1) := by decide +kernel
theorem dX1_init_22 : decode cX1_init 22 = .ok (.iconst 3, 1) := by decide +kernel
theorem dX1_init_23 : decode cX1_init 23 = .ok (.newarray .double, 2) := by decide +kernel
theorem dX1_init_25 : decode cX1_init 25 = .ok (.putfield 20, 3) := by decide +kernel
theorem dX1_init_28 : decode cX1_init 28 = .ok (.aload_n 0, 1) := by decide +kernel
theorem dX1_init_29 : decode cX1_init 29 = .ok (.aload_n 1, 1) := by decide +kernel
theorem dX1_init_30 : decode cX1_init 30 = .ok (.putfield 23, 3) := by decide +kernel
theorem dX1_init_33 : decode cX1_init 33 = .ok (.return_, 1) := by decide +kernel
theorem dX1_solve_0 : decode cX1_solve 0 = .ok (.aload_n 0, 1) := by decide +kernel
theorem dX1_solve_1 : decode cX1_solve 1 = .ok (.getfield 23, 3) := by decide +kernel
theorem dX1_solve_4 : decode cX1_solve 4 = .ok (.getfield 27, 3) := by decide +kernel
theorem dX1_solve_7 : decode cX1_solve 7 = .ok (.istore 7, 2) := by decide +kernel
theorem dX1_solve_9 : decode cX1_solve 9 = .ok (.iconst 0, 1) := by decide +kernel
theorem dX1_solve_10 : decode cX1_solve 10 = .ok (.istore 8, 2) := by decide +kernel
theorem dX1_solve_12 : decode cX1_solve 12 = .ok (.iload 8, 2) := by decide +kernel
theorem dX1_solve_14 : decode cX1_solve 14 = .ok (.iload 7, 2) := by decide +kernel
theorem dX1_solve_16 : decode cX1_solve 16 = .ok (.if_icmp .ge 19, 3) := by decide +kernel
theorem dX1_solve_19 : decode cX1_solve 19 = .ok (.aload 6, 2) := by decide +kernel
theorem dX1_solve_21 : decode cX1_solve 21 = .ok (.iload 8, 2) := by decide +kernel
theorem dX1_solve_23 : decode cX1_solve 23 = .ok (.aload 5, 2) := by decide +kernel
theorem dX1_solve_25 : decode cX1_solve 25 = .ok (.iload 8, 2) := by decide +kernel
theorem dX1_solve_27 : decode cX1_solve 27 = .ok (.daload, 1) := by decide +kernel
theorem dX1_solve_28 : decode cX1_solve 28 = .ok (.dastore, 1) := by decide +kernel
theorem dX1_solve_29 : decode cX1_solve 29 = .ok (.iinc 8 1, 3) := by decide +kernel
theorem dX1_solve_32 : decode cX1_solve 32 = .ok (.goto (-20), 3) := by decide +kernel
theorem dX1_solve_35 : decode cX1_solve 35 = .ok (.iconst 0, 1) := by decide +kernel
theorem dX1_solve_36 : decode cX1_solve 36 = .ok (.istore 8, 2) := by decide +kernel
theorem dX1_solve_38 : decode cX1_solve 38 = .ok (.iload 8, 2) := by decide +kernel
theorem dX1_solve_40 : decode cX1_solve 40 = .ok (.bipush 8, 2) := by decide +kernel
theorem dX1_solve_42 : decode cX1_solve 42 = .ok (.if_icmp .ge 112, 3) := by decide +kernel
theorem dX1_solve_45 : decode cX1_solve 45 = .ok (.aload_n 0, 1) := by decide +kernel
theorem dX1_solve_46 : decode cX1_solve 46 = .ok (.dload_n 1, 1) := by decide +kernel
theorem dX1_solve_47 : decode cX1_solve 47 = .ok (.dload_n 3, 1) := by decide +kernel
theorem dX1_solve_48 : decode cX1_solve 48 = .ok (.aload 5, 2) := by decide +kernel
theorem dX1_solve_50 : decode cX1_solve 50 = .ok (.aload 6, 2) := by decide +kernel
theorem dX1_solve_52 : decode cX1_solve 52 = .ok (.invokevirtual 33, 3) := by decide +kernel
theorem dX1_solve_55 : decode cX1_solve 55 = .ok (.aload_n 0, 1) := by decide +kernel
theorem dX1_solve_56 : decode cX1_solve 56 = .ok (.dload_n 1, 1) := by decide +kernel
theorem dX1_solve_57 : decode cX1_solve 57 = .ok (.dload_n 3, 1) := by decide +kernel
theorem dX1_solve_58 : decode cX1_solve 58 = .ok (.aload 6, 2) := by decide +kernel
theorem dX1_solve_60 : decode cX1_solve 60 = .ok (.invokevirtual 37, 3) := by decide +kernel
theorem dX1_solve_63 : decode cX1_solve 63 = .ok (.aload_n 0, 1) := by decide +kernel
theorem dX1_solve_64 : decode cX1_solve 64 = .ok (.iload 7, 2) := by decide +kernel
theorem dX1_solve_66 : decode cX1_solve 66 = .ok (.invokevirtual 41, 3) := by decide +kernel
theorem dX1_solve_69 : decode cX1_solve 69 = .ok (.ifCond .ne 5, 3) := by decide +kernel
theorem dX1_solve_72 : decode cX1_solve 72 = .ok (.iconst 0, 1) := by decide +kernel
theorem dX1_solve_73 : decode cX1_solve 73 = .ok (.ireturn, 1) := by decide +kernel
theorem dX1_solve_74 : decode cX1_solve 74 = .ok (.aload_n 0, 1) := by decide +kernel
theorem dX1_solve_75 : decode cX1_solve 75 = .ok (.iload 7, 2) := by decide +kernel
theorem dX1_solve_77 : decode cX1_solve 77 = .ok (.invokevirtual 45, 3) := by decide +kernel
theorem dX1_solve_80 : decode cX1_solve 80 = .ok (.iconst 0, 1) := by decide +kernel
theorem dX1_solve_81 : decode cX1_solve 81 = .ok (.istore 9, 2) := by decide +kernel
theorem dX1_solve_83 : decode cX1_solve 83 = .ok (.iload 9, 2) := by decide +kernel
theorem dX1_solve_85 : decode cX1_solve 85 = .ok (.iload 7, 2) := by decide +kernel
theorem dX1_solve_87 : decode cX1_solve 87 = .ok (.if_icmp .ge 27, 3) := by decide +kernel
theorem dX1_solve_90 : decode cX1_solve 90 = .ok (.aload 6, 2) := by decide +kernel
theorem dX1_solve_92 : decode cX1_solve 92 = .ok (.iload 9, 2) := by decide +kernel
theorem dX1_solve_94 : decode cX1_solve 94 = .ok (.aload 6, 2) := by decide +kernel
theorem dX1_solve_96 : decode cX1_solve 96 = .ok (.iload 9, 2) := by decide +kernel
theorem dX1_solve_98 : decode cX1_solve 98 = .ok (.daload, 1) := by decide +kernel
theorem dX1_solve_99 : decode cX1_solve 99 = .ok (.aload_n 0, 1) := by decide +kernel
theorem dX1_solve_100 : decode cX1_solve 100 = .ok (.getfield 20, 3) := by decide +kernel
theorem dX1_solve_103 : decode cX1_solve 103 = .ok (.iload 9, 2) := by decide +kernel
theorem dX1_solve_105 : decode cX1_solve 105 = .ok (.daload, 1) := by decide +kernel
theorem dX1_solve_106 : decode cX1_solve 106 = .ok (.dsub, 1) := by decide +kernel
theorem dX1_solve_107 : decode cX1_solve 107 = .ok (.dastore, 1) := by decide +kernel
theorem dX1_solve_108 : decode cX1_solve 108 = .ok (.iinc 9 1, 3) := by decide +kernel
theorem dX1_solve_111 : decode cX1_solve 111 = .ok (.goto (-28), 3) := by decide +kernel
theorem dX1_solve_114 : decode cX1_solve 114 = .ok (.aload_n 0, 1) := by decide +kernel
theorem dX1_solve_115 : decode cX1_solve 115 = .ok (.getfield 20, 3) := by decide +kernel
theorem dX1_solve_118 : decode cX1_solve 118 = .ok (.iload 7, 2) := by decide +kernel
theorem dX1_solve_120 : decode cX1_solve 120 = .ok (.invokestatic 49, 3) := by decide +kernel
theorem dX1_solve_123 : decode cX1_solve 123 = .ok (.ldc2_w 53, 3) := by decide +kernel
theorem dX1_solve_126 : decode cX1_solve 126 = .ok (.dcmp .l, 1) := by decide +kernel
theorem dX1_solve_127 : decode cX1_solve 127 = .ok (.ifCond .gt 5, 3) := by decide +kernel
theorem dX1_solve_130 : decode cX1_solve 130 = .ok (.iconst 1, 1) := by decide +kernel
theorem dX1_solve_131 : decode cX1_solve 131 = .ok (.ireturn, 1) := by decide +kernel
theorem dX1_solve_132 : decode cX1_solve 132 = .ok (.aload 6, 2) := by decide +kernel
theorem dX1_solve_134 : decode cX1_solve 134 = .ok (.iload 7, 2) := by decide +kernel
theorem dX1_solve_136 : decode cX1_solve 136 = .ok (.invokestatic 49, 3) := by decide +kernel
theorem dX1_solve_139 : decode cX1_solve 139 = .ok (.ldc2_w 55, 3) := by decide +kernel
theorem dX1_solve_142 : decode cX1_solve 142 = .ok (.dcmp .l, 1) := by decide +kernel
theorem dX1_solve_143 : decode cX1_solve 143 = .ok (.ifCond .le 5, 3) := by decide +kernel
theorem dX1_solve_146 : decode cX1_solve 146 = .ok (.iconst 0, 1) := by decide +kernel
theorem dX1_solve_147 : decode cX1_solve 147 = .ok (.ireturn, 1) := by decide +kernel
theorem dX1_solve_148 : decode cX1_solve 148 = .ok (.iinc 8 1, 3) := by decide +kernel
theorem dX1_solve_151 : decode cX1_solve 151 = .ok (.goto (-113), 3) := by decide +kernel
theorem dX1_solve_154 : decode cX1_solve 154 = .ok (.iconst 0, 1) := by decide +kernel
theorem dX1_solve_155 : decode cX1_solve 155 = .ok (.ireturn, 1) := by decide +kernel
theorem dX1_setRest_0 : decode cX1_setRest 0 = .ok (.aload_n 0, 1) := by decide +kernel
theorem dX1_setRest_1 : decode cX1_setRest 1 = .ok (.getfield 23, 3) := by decide +kernel
theorem dX1_setRest_4 : decode cX1_setRest 4 = .ok (.dload_n 1, 1) := by decide +kernel
theorem dX1_setRest_5 : decode cX1_setRest 5 = .ok (.aload 6, 2) := by decide +kernel
theorem dX1_setRest_7 : decode cX1_setRest 7 = .ok (.aload_n 0, 1) := by decide +kernel
theorem dX1_setRest_8 : decode cX1_setRest 8 = .ok (.getfield 16, 3) := by decide +kernel
theorem dX1_setRest_11 : decode cX1_setRest 11 = .ok (.invokevirtual 57, 3) := by decide +kernel
theorem dX1_setRest_14 : decode cX1_setRest 14 = .ok (.iconst 0, 1) := by decide +kernel
theorem dX1_setRest_15 : decode cX1_setRest 15 = .ok (.istore 7, 2) := by decide +kernel
theorem dX1_setRest_17 : decode cX1_setRest 17 = .ok (.iload 7, 2) := by decide +kernel
theorem dX1_setRest_19 : decode cX1_setRest 19 = .ok (.aload_n 0, 1) := by decide +kernel
theorem dX1_setRest_20 : decode cX1_setRest 20 = .ok (.getfield 23, 3) := by decide +kernel
theorem dX1_setRest_23 : decode cX1_setRest 23 = .ok (.getfield 27, 3) := by decide +kernel
theorem dX1_setRest_26 : decode cX1_setRest 26 = .ok (.if_icmp .ge 37, 3) := by decide +kernel
theorem dX1_setRest_29 : decode cX1_setRest 29 = .ok (.aload_n 0, 1) := by decide +kernel
theorem dX1_setRest_30 : decode cX1_setRest 30 = .ok (.getfield 16, 3) := by decide +kernel
theorem dX1_setRest_33 : decode cX1_setRest 33 = .ok (.iload 7, 2) := by decide +kernel
theorem dX1_setRest_35 : decode cX1_setRest 35 = .ok (.aload 6, 2) := by decide +kernel
theorem dX1_setRest_37 : decode cX1_setRest 37 = .ok (.iload 7, 2) := by decide +kernel
theorem dX1_setRest_39 : decode cX1_setRest 39 = .ok (.daload, 1) := by decide +kernel
theorem dX1_setRest_40 : decode cX1_setRest 40 = .ok (.aload 5, 2) := by decide +kernel
theorem dX1_setRest_42 : decode cX1_setRest 42 = .ok (.iload 7, 2) := by decide +kernel
theorem dX1_setRest_44 : decode cX1_setRest 44 = .ok (.daload, 1) := by decide +kernel
theorem dX1_setRest_45 : decode cX1_setRest 45 = .ok (.dsub, 1) := by decide +kernel
theorem dX1_setRest_46 : decode cX1_setRest 46 = .ok (.dload_n 3, 1) := by decide +kernel
theorem dX1_setRest_47 : decode cX1_setRest 47 = .ok (.aload_n 0, 1) := by decide +kernel
theorem dX1_setRest_48 : decode cX1_setRest 48 = .ok (.getfield 16, 3) := by decide +kernel
theorem dX1_setRest_51 : decode cX1_setRest 51 = .ok (.iload 7, 2) := by decide +kernel
theorem dX1_setRest_53 : decode cX1_setRest 53 = .ok (.daload, 1) := by decide +kernel
theorem dX1_setRest_54 : decode cX1_setRest 54 = .ok (.dmul, 1) := by decide +kernel
theorem dX1_setRest_55 : decode cX1_setRest 55 = .ok (.dsub, 1) := by decide +kernel
theorem dX1_setRest_56 : decode cX1_setRest 56 = .ok (.dastore, 1) := by decide +kernel
theorem dX1_setRest_57 : decode cX1_setRest 57 = .ok (.iinc 7 1, 3) := by decide +kernel
theorem dX1_setRest_60 : decode cX1_setRest 60 = .ok (.goto (-43), 3) := by decide +kernel
theorem dX1_setRest_63 : decode cX1_setRest 63 = .ok (.return_, 1) := by decide +kernel
theorem dX1_setMatrix_0 : decode cX1_setMatrix 0 = .ok (.iconst 0, 1) := by decide +kernel
theorem dX1_setMatrix_1 : decode cX1_setMatrix 1 = .ok (.istore 6, 2) := by decide +kernel
theorem dX1_setMatrix_3 : decode cX1_setMatrix 3 = .ok (.iload 6, 2) := by decide +kernel
theorem dX1_setMatrix_5 : decode cX1_setMatrix 5 = .ok (.aload_n 0, 1) := by decide +kernel
theorem dX1_setMatrix_6 : decode cX1_setMatrix 6 = .ok (.getfield 23, 3) := by decide +kernel
theorem dX1_setMatrix_9 : decode cX1_setMatrix 9 = .ok (.getfield 27, 3) := by decide +kernel
theorem dX1_setMatrix_12 : decode cX1_setMatrix 12 = .ok (.if_icmp .ge 73, 3) := by decide +kernel
theorem dX1_setMatrix_15 : decode cX1_setMatrix 15 = .ok (.iconst 0, 1) := by decide +kernel
theorem dX1_setMatrix_16 : decode cX1_setMatrix 16 = .ok (.istore 7, 2) := by decide +kernel
theorem dX1_setMatrix_18 : decode cX1_setMatrix 18 = .ok (.iload 7, 2) := by decide +kernel
theorem dX1_setMatrix_20 : decode cX1_setMatrix 20 = .ok (.aload_n 0, 1) := by decide +kernel
theorem dX1_setMatrix_21 : decode cX1_setMatrix 21 = .ok (.getfield 23, 3) := by decide +kernel
theorem dX1_setMatrix_24 : decode cX1_setMatrix 24 = .ok (.getfield 27, 3) := by decide +kernel
theorem dX1_setMatrix_27 : decode cX1_setMatrix 27 = .ok (.if_icmp .ge 52, 3) := by decide +kernel
theorem dX1_setMatrix_30 : decode cX1_setMatrix 30 = .ok (.iload 6, 2) := by decide +kernel
theorem dX1_setMatrix_32 : decode cX1_setMatrix 32 = .ok (.iload 7, 2) := by decide +kernel
theorem dX1_setMatrix_34 : decode cX1_setMatrix 34 = .ok (.if_icmp .ne 7, 3) := by decide +kernel
theorem dX1_setMatrix_37 : decode cX1_setMatrix 37 = .ok (.dconst 1, 1) := by decide +kernel
theorem dX1_setMatrix_38 : decode cX1_setMatrix 38 = .ok (.goto 4, 3) := by decide +kernel
theorem dX1_setMatrix_41 : decode cX1_setMatrix 41 = .ok (.dconst 0, 1) := by decide +kernel
theorem dX1_setMatrix_42 : decode cX1_setMatrix 42 = .ok (.dstore 8, 2) := by decide +kernel
theorem dX1_setMatrix_44 : decode cX1_setMatrix 44 = .ok (.aload_n 0, 1) := by decide +kernel
theorem dX1_setMatrix_45 : decode cX1_setMatrix 45 = .ok (.getfield 11, 3) := by decide +kernel
theorem dX1_setMatrix_48 : decode cX1_setMatrix 48 = .ok (.iload 6, 2) := by decide +kernel
theorem dX1_setMatrix_50 : decode cX1_setMatrix 50 = .ok (.aaload, 1) := by decide +kernel
theorem dX1_setMatrix_51 : decode cX1_setMatrix 51 = .ok (.iload 7, 2) := by decide +kernel
theorem dX1_setMatrix_53 : decode cX1_setMatrix 53 = .ok (.dload 8, 2) := by decide +kernel
theorem dX1_setMatrix_55 : decode cX1_setMatrix 55 = .ok (.dload_n 3, 1) := by decide +kernel
theorem dX1_setMatrix_56 : decode cX1_setMatrix 56 = .ok (.aload_n 0, 1) := by decide +kernel
theorem dX1_setMatrix_57 : decode cX1_setMatrix 57 = .ok (.getfield 23, 3) := by decide +kernel
theorem dX1_setMatrix_60 : decode cX1_setMatrix 60 = .ok (.iload 6, 2) := by decide +kernel
theorem dX1_setMatrix_62 : decode cX1_setMatrix 62 = .ok (.iload 7, 2) := by decide +kernel
theorem dX1_setMatrix_64 : decode cX1_setMatrix 64 = .ok (.dload_n 1, 1) := by decide +kernel
theorem dX1_setMatrix_65 : decode cX1_setMatrix 65 = .ok (.aload 5, 2) := by decide +kernel
theorem dX1_setMatrix_67 : decode cX1_setMatrix 67 = .ok (.invokevirtual 61, 3) := by decide +kernel
theorem dX1_setMatrix_70 : decode cX1_setMatrix 70 = .ok (.dmul, 1) := by decide +kernel
theorem dX1_setMatrix_71 : decode cX1_setMatrix 71 = .ok (.dsub, 1) := by decide +kernel
theorem dX1_setMatrix_72 : decode cX1_setMatrix 72 = .ok (.dastore, 1) := by decide +kernel
theorem dX1_setMatrix_73 : decode cX1_setMatrix 73 = .ok (.iinc 7 1, 3) := by decide +kernel
theorem dX1_setMatrix_76 : decode cX1_setMatrix 76 = .ok (.goto (-58), 3) := by decide +kernel
theorem dX1_setMatrix_79 : decode cX1_setMatrix 79 = .ok (.iinc 6 1, 3) := by decide +kernel
theorem dX1_setMatrix_82 : decode cX1_setMatrix 82 = .ok (.goto (-79), 3) := by decide +kernel
theorem dX1_setMatrix_85 : decode cX1_setMatrix 85 = .ok (.return_, 1) := by decide +kernel
theorem dX1_eliminate_0 : decode cX1_eliminate 0 = .ok (.iconst 0, 1) := by decide +kernel
theorem dX1_eliminate_1 : decode cX1_eliminate 1 = .ok (.istore_n 2, 1) := by decide +kernel
theorem dX1_eliminate_2 : decode cX1_eliminate 2 = .ok (.iload_n 2, 1) := by decide +kernel
theorem dX1_eliminate_3 : decode cX1_eliminate 3 = .ok (.iload_n 1, 1) := by decide +kernel
theorem dX1_eliminate_4 : decode cX1_eliminate 4 = .ok (.if_icmp .ge 63, 3) := by decide +kernel
theorem dX1_eliminate_7 : decode cX1_eliminate 7 = .ok (.aload_n 0, 1) := by decide +kernel
theorem dX1_eliminate_8 : decode cX1_eliminate 8 = .ok (.iload_n 2, 1) := by decide +kernel
theorem dX1_eliminate_9 : decode cX1_eliminate 9 = .ok (.aload_n 0, 1) := by decide +kernel
theorem dX1_eliminate_10 : decode cX1_eliminate 10 = .ok (.iload_n 2, 1) := by decide +kernel
theorem dX1_eliminate_11 : decode cX1_eliminate 11 = .ok (.iload_n 1, 1) := by decide +kernel
theorem dX1_eliminate_12 : decode cX1_eliminate 12 = .ok (.invokevirtual 65, 3) := by decide +kernel
theorem dX1_eliminate_15 : decode cX1_eliminate 15 = .ok (.iload_n 1, 1) := by decide +kernel
theorem dX1_eliminate_16 : decode cX1_eliminate 16 = .ok (.invokevirtual 69, 3) := by decide +kernel
theorem dX1_eliminate_19 : decode cX1_eliminate 19 = .ok (.aload_n 0, 1) := by decide +kernel
theorem dX1_eliminate_20 : decode cX1_eliminate 20 = .ok (.getfield 11, 3) := by decide +kernel
theorem dX1_eliminate_23 : decode cX1_eliminate 23 = .ok (.iload_n 2, 1) := by decide +kernel
theorem dX1_eliminate_24 : decode cX1_eliminate 24 = .ok (.aaload, 1) := by decide +kernel
theorem dX1_eliminate_25 : decode cX1_eliminate 25 = .ok (.iload_n 2, 1) := by decide +kernel
theorem dX1_eliminate_26 : decode cX1_eliminate 26 = .ok (.daload, 1) := by decide +kernel
theorem dX1_eliminate_27 : decode cX1_eliminate 27 = .ok (.invokestatic 73, 3) := by decide +kernel
theorem dX1_eliminate_30 : decode cX1_eliminate 30 = .ok (.ldc2_w 53, 3) := by decide +kernel
theorem dX1_eliminate_33 : decode cX1_eliminate 33 = .ok (.dcmp .g, 1) := by decide +kernel
theorem dX1_eliminate_34 : decode cX1_eliminate 34 = .ok (.ifCond .ge 5, 3) := by decide +kernel
theorem dX1_eliminate_37 : decode cX1_eliminate 37 = .ok (.iconst 0, 1) := by decide +kernel
theorem dX1_eliminate_38 : decode cX1_eliminate 38 = .ok (.ireturn, 1) := by decide +kernel
theorem dX1_eliminate_39 : decode cX1_eliminate 39 = .ok (.iload_n 2, 1) := by decide +kernel
theorem dX1_eliminate_40 : decode cX1_eliminate 40 = .ok (.iconst 1, 1) := by decide +kernel
theorem dX1_eliminate_41 : decode cX1_eliminate 41 = .ok (.iadd, 1) := by decide +kernel
theorem dX1_eliminate_42 : decode cX1_eliminate 42 = .ok (.istore_n 3, 1) := by decide +kernel
theorem dX1_eliminate_43 : decode cX1_eliminate 43 = .ok (.iload_n 3, 1) := by decide +kernel
theorem dX1_eliminate_44 : decode cX1_eliminate 44 = .ok (.iload_n 1, 1) := by decide +kernel
theorem dX1_eliminate_45 : decode cX1_eliminate 45 = .ok (.if_icmp .ge 16, 3) := by decide +kernel
theorem dX1_eliminate_48 : decode cX1_eliminate 48 = .ok (.aload_n 0, 1) := by decide +kernel
theorem dX1_eliminate_49 : decode cX1_eliminate 49 = .ok (.iload_n 2, 1) := by decide +kernel
theorem dX1_eliminate_50 : decode cX1_eliminate 50 = .ok (.iload_n 3, 1) := by decide +kernel
theorem dX1_eliminate_51 : decode cX1_eliminate 51 = .ok (.iload_n 1, 1) := by decide +kernel
theorem dX1_eliminate_52 : decode cX1_eliminate 52 = .ok (.invokevirtual 77, 3) := by decide +kernel
theorem dX1_eliminate_55 : decode cX1_eliminate 55 = .ok (.iinc 3 1, 3) := by decide +kernel
theorem dX1_eliminate_58 : decode cX1_eliminate 58 = .ok (.goto (-15), 3) := by decide +kernel
theorem dX1_eliminate_61 : decode cX1_eliminate 61 = .ok (.iinc 2 1, 3) := by decide +kernel
theorem dX1_eliminate_64 : decode cX1_eliminate 64 = .ok (.goto (-62), 3) := by decide +kernel
theorem dX1_eliminate_67 : decode cX1_eliminate 67 = .ok (.iconst 1, 1) := by decide +kernel
theorem dX1_eliminate_68 : decode cX1_eliminate 68 = .ok (.ireturn, 1) := by decide +kernel
theorem dX1_pivotRow_0 : decode cX1_pivotRow 0 = .ok (.iload_n 1, 1) := by decide +kernel
theorem dX1_pivotRow_1 : decode cX1_pivotRow 1 = .ok (.istore_n 3, 1) := by decide +kernel
theorem dX1_pivotRow_2 : decode cX1_pivotRow 2 = .ok (.iload_n 1, 1) := by decide +kernel
theorem dX1_pivotRow_3 : decode cX1_pivotRow 3 = .ok (.iconst 1, 1) := by decide +kernel
theorem dX1_pivotRow_4 : decode cX1_pivotRow 4 = .ok (.iadd, 1) := by decide +kernel
theorem dX1_pivotRow_5 : decode cX1_pivotRow 5 = .ok (.istore 4, 2) := by decide +kernel
theorem dX1_pivotRow_7 : decode cX1_pivotRow 7 = .ok (.iload 4, 2) := by decide +kernel
theorem dX1_pivotRow_9 : decode cX1_pivotRow 9 = .ok (.iload_n 2, 1) := by decide +kernel
theorem dX1_pivotRow_10 : decode cX1_pivotRow 10 = .ok (.if_icmp .ge 39, 3) := by decide +kernel
theorem dX1_pivotRow_13 : decode cX1_pivotRow 13 = .ok (.aload_n 0, 1) := by decide +kernel
theorem dX1_pivotRow_14 : decode cX1_pivotRow 14 = .ok (.getfield 11, 3) := by decide +kernel
theorem dX1_pivotRow_17 : decode cX1_pivotRow 17 = .ok (.iload 4, 2) := by decide +kernel
theorem dX1_pivotRow_19 : decode cX1_pivotRow 19 = .ok (.aaload, 1) := by decide +kernel
theorem dX1_pivotRow_20 : decode cX1_pivotRow 20 = .ok (.iload_n 1, 1) := by decide +kernel
theorem dX1_pivotRow_21 : decode cX1_pivotRow 21 = .ok (.daload, 1) := by decide +kernel
theorem dX1_pivotRow_22 : decode cX1_pivotRow 22 = .ok (.invokestatic 73, 3) := by decide +kernel
theorem dX1_pivotRow_25 : decode cX1_pivotRow 25 = .ok (.aload_n 0, 1) := by decide +kernel
theorem dX1_pivotRow_26 : decode cX1_pivotRow 26 = .ok (.getfield 11, 3) := by decide +kernel
theorem dX1_pivotRow_29 : decode cX1_pivotRow 29 = .ok (.iload_n 3, 1) := by decide +kernel
theorem dX1_pivotRow_30 : decode cX1_pivotRow 30 = .ok (.aaload, 1) := by decide +kernel
theorem dX1_pivotRow_31 : decode cX1_pivotRow 31 = .ok (.iload_n 1, 1) := by decide +kernel
theorem dX1_pivotRow_32 : decode cX1_pivotRow 32 = .ok (.daload, 1) := by decide +kernel
theorem dX1_pivotRow_33 : decode cX1_pivotRow 33 = .ok (.invokestatic 73, 3) := by decide +kernel
theorem dX1_pivotRow_36 : decode cX1_pivotRow 36 = .ok (.dcmp .l, 1) := by decide +kernel
theorem dX1_pivotRow_37 : decode cX1_pivotRow 37 = .ok (.ifCond .le 6, 3) := by decide +kernel
theorem dX1_pivotRow_40 : decode cX1_pivotRow 40 = .ok (.iload 4, 2) := by decide +kernel
theorem dX1_pivotRow_42 : decode cX1_pivotRow 42 = .ok (.istore_n 3, 1) := by decide +kernel
theorem dX1_pivotRow_43 : decode cX1_pivotRow 43 = .ok (.iinc 4 1, 3) := by decide +kernel
theorem dX1_pivotRow_46 : decode cX1_pivotRow 46 = .ok (.goto (-39), 3) := by decide +kernel
theorem dX1_pivotRow_49 : decode cX1_pivotRow 49 = .ok (.iload_n 3, 1) := by decide +kernel
theorem dX1_pivotRow_50 : decode cX1_pivotRow 50 = .ok (.ireturn, 1) := by decide +kernel
theorem dX1_exchange_0 : decode cX1_exchange 0 = .ok (.iconst 0, 1) := by decide +kernel
theorem dX1_exchange_1 : decode cX1_exchange 1 = .ok (.istore 4, 2) := by decide +kernel
theorem dX1_exchange_3 : decode cX1_exchange 3 = .ok (.iload 4, 2) := by decide +kernel
theorem dX1_exchange_5 : decode cX1_exchange 5 = .ok (.iload_n 3, 1) := by decide +kernel
theorem dX1_exchange_6 : decode cX1_exchange 6 = .ok (.if_icmp .ge 49, 3) := by decide +kernel
theorem dX1_exchange_9 : decode cX1_exchange 9 = .ok (.aload_n 0, 1) := by decide +kernel
theorem dX1_exchange_10 : decode cX1_exchange 10 = .ok (.getfield 11, 3) := by decide +kernel
theorem dX1_exchange_13 : decode cX1_exchange 13 = .ok (.iload_n 1, 1) := by decide +kernel
theorem dX1_exchange_14 : decode cX1_exchange 14 = .ok (.aaload, 1) := by decide +kernel
theorem dX1_exchange_15 : decode cX1_exchange 15 = .ok (.iload 4, 2) := by decide +kernel
theorem dX1_exchange_17 : decode cX1_exchange 17 = .ok (.daload, 1) := by decide +kernel
theorem dX1_exchange_18 : decode cX1_exchange 18 = .ok (.dstore 5, 2) := by decide +kernel
theorem dX1_exchange_20 : decode cX1_exchange 20 = .ok (.aload_n 0, 1) := by decide +kernel
theorem dX1_exchange_21 : decode cX1_exchange 21 = .ok (.getfield 11, 3) := by decide +kernel
theorem dX1_exchange_24 : decode cX1_exchange 24 = .ok (.iload_n 1, 1) := by decide +kernel
theorem dX1_exchange_25 : decode cX1_exchange 25 = .ok (.aaload, 1) := by decide +kernel
theorem dX1_exchange_26 : decode cX1_exchange 26 = .ok (.iload 4, 2) := by decide +kernel
theorem dX1_exchange_28 : decode cX1_exchange 28 = .ok (.aload_n 0, 1) := by decide +kernel
theorem dX1_exchange_29 : decode cX1_exchange 29 = .ok (.getfield 11, 3) := by decide +kernel
theorem dX1_exchange_32 : decode cX1_exchange 32 = .ok (.iload_n 2, 1) := by decide +kernel
theorem dX1_exchange_33 : decode cX1_exchange 33 = .ok (.aaload, 1) := by decide +kernel
theorem dX1_exchange_34 : decode cX1_exchange 34 = .ok (.iload 4, 2) := by decide +kernel
theorem dX1_exchange_36 : decode cX1_exchange 36 = .ok (.daload, 1) := by decide +kernel
theorem dX1_exchange_37 : decode cX1_exchange 37 = .ok (.dastore, 1) := by decide +kernel
theorem dX1_exchange_38 : decode cX1_exchange 38 = .ok (.aload_n 0, 1) := by decide +kernel
theorem dX1_exchange_39 : decode cX1_exchange 39 = .ok (.getfield 11, 3) := by decide +kernel
theorem dX1_exchange_42 : decode cX1_exchange 42 = .ok (.iload_n 2, 1) := by decide +kernel
theorem dX1_exchange_43 : decode cX1_exchange 43 = .ok (.aaload, 1) := by decide +kernel
theorem dX1_exchange_44 : decode cX1_exchange 44 = .ok (.iload 4, 2) := by decide +kernel
theorem dX1_exchange_46 : decode cX1_exchange 46 = .ok (.dload 5, 2) := by decide +kernel
theorem dX1_exchange_48 : decode cX1_exchange 48 = .ok (.dastore, 1) := by decide +kernel
theorem dX1_exchange_49 : decode cX1_exchange 49 = .ok (.iinc 4 1, 3) := by decide +kernel
theorem dX1_exchange_52 : decode cX1_exchange 52 = .ok (.goto (-49), 3) := by decide +kernel
theorem dX1_exchange_55 : decode cX1_exchange 55 = .ok (.aload_n 0, 1) := by decide +kernel
theorem dX1_exchange_56 : decode cX1_exchange 56 = .ok (.getfield 16, 3) := by decide +kernel
theorem dX1_exchange_59 : decode cX1_exchange 59 = .ok (.iload_n 1, 1) := by decide +kernel
theorem dX1_exchange_60 : decode cX1_exchange 60 = .ok (.daload, 1) := by decide +kernel
theorem dX1_exchange_61 : decode cX1_exchange 61 = .ok (.dstore 4, 2) := by decide +kernel
theorem dX1_exchange_63 : decode cX1_exchange 63 = .ok (.aload_n 0, 1) := by decide +kernel
theorem dX1_exchange_64 : decode cX1_exchange 64 = .ok (.getfield 16, 3) := by decide +kernel
theorem dX1_exchange_67 : decode cX1_exchange 67 = .ok (.iload_n 1, 1) := by decide +kernel
theorem dX1_exchange_68 : decode cX1_exchange 68 = .ok (.aload_n 0, 1) := by decide +kernel
theorem dX1_exchange_69 : decode cX1_exchange 69 = .ok (.getfield 16, 3) := by decide +kernel
theorem dX1_exchange_72 : decode cX1_exchange 72 = .ok (.iload_n 2, 1) := by decide +kernel
theorem dX1_exchange_73 : decode cX1_exchange 73 = .ok (.daload, 1) := by decide +kernel
theorem dX1_exchange_74 : decode cX1_exchange 74 = .ok (.dastore, 1) := by decide +kernel
theorem dX1_exchange_75 : decode cX1_exchange 75 = .ok (.aload_n 0, 1) := by decide +kernel
theorem dX1_exchange_76 : decode cX1_exchange 76 = .ok (.getfield 16, 3) := by decide +kernel
theorem dX1_exchange_79 : decode cX1_exchange 79 = .ok (.iload_n 2, 1) := by decide +kernel
theorem dX1_exchange_80 : decode cX1_exchange 80 = .ok (.dload 4, 2) := by decide +kernel
theorem dX1_exchange_82 : decode cX1_exchange 82 = .ok (.dastore, 1) := by decide +kernel
theorem dX1_exchange_83 : decode cX1_exchange 83 = .ok (.return_, 1) := by decide +kernel
theorem dX1_takeAway_0 : decode cX1_takeAway 0 = .ok (.aload_n 0, 1) := by decide +kernel
theorem dX1_takeAway_1 : decode cX1_takeAway 1 = .ok (.getfield 11, 3) := by decide +kernel
theorem dX1_takeAway_4 : decode cX1_takeAway 4 = .ok (.iload_n 2, 1) := by decide +kernel
theorem dX1_takeAway_5 : decode cX1_takeAway 5 = .ok (.aaload, 1) := by decide +kernel
theorem dX1_takeAway_6 : decode cX1_takeAway 6 = .ok (.iload_n 1, 1) := by decide +kernel
theorem dX1_takeAway_7 : decode cX1_takeAway 7 = .ok (.daload, 1) := by decide +kernel
theorem dX1_takeAway_8 : decode cX1_takeAway 8 = .ok (.aload_n 0, 1) := by decide +kernel
theorem dX1_takeAway_9 : decode cX1_takeAway 9 = .ok (.getfield 11, 3) := by decide +kernel
theorem dX1_takeAway_12 : decode cX1_takeAway 12 = .ok (.iload_n 1, 1) := by decide +kernel
theorem dX1_takeAway_13 : decode cX1_takeAway 13 = .ok (.aaload, 1) := by decide +kernel
theorem dX1_takeAway_14 : decode cX1_takeAway 14 = .ok (.iload_n 1, 1) := by decide +kernel
theorem dX1_takeAway_15 : decode cX1_takeAway 15 = .ok (.daload, 1) := by decide +kernel
theorem dX1_takeAway_16 : decode cX1_takeAway 16 = .ok (.ddiv, 1) := by decide +kernel
theorem dX1_takeAway_17 : decode cX1_takeAway 17 = .ok (.dstore 4, 2) := by decide +kernel
theorem dX1_takeAway_19 : decode cX1_takeAway 19 = .ok (.iload_n 1, 1) := by decide +kernel
theorem dX1_takeAway_20 : decode cX1_takeAway 20 = .ok (.istore 6, 2) := by decide +kernel
theorem dX1_takeAway_22 : decode cX1_takeAway 22 = .ok (.iload 6, 2) := by decide +kernel
theorem dX1_takeAway_24 : decode cX1_takeAway 24 = .ok (.iload_n 3, 1) := by decide +kernel
theorem dX1_takeAway_25 : decode cX1_takeAway 25 = .ok (.if_icmp .ge 40, 3) := by decide +kernel
theorem dX1_takeAway_28 : decode cX1_takeAway 28 = .ok (.aload_n 0, 1) := by decide +kernel
theorem dX1_takeAway_29 : decode cX1_takeAway 29 = .ok (.getfield 11, 3) := by decide +kernel
theorem dX1_takeAway_32 : decode cX1_takeAway 32 = .ok (.iload_n 2, 1) := by decide +kernel
theorem dX1_takeAway_33 : decode cX1_takeAway 33 = .ok (.aaload, 1) := by decide +kernel
theorem dX1_takeAway_34 : decode cX1_takeAway 34 = .ok (.iload 6, 2) := by decide +kernel
theorem dX1_takeAway_36 : decode cX1_takeAway 36 = .ok (.aload_n 0, 1) := by decide +kernel
theorem dX1_takeAway_37 : decode cX1_takeAway 37 = .ok (.getfield 11, 3) := by decide +kernel
theorem dX1_takeAway_40 : decode cX1_takeAway 40 = .ok (.iload_n 2, 1) := by decide +kernel
theorem dX1_takeAway_41 : decode cX1_takeAway 41 = .ok (.aaload, 1) := by decide +kernel
theorem dX1_takeAway_42 : decode cX1_takeAway 42 = .ok (.iload 6, 2) := by decide +kernel
theorem dX1_takeAway_44 : decode cX1_takeAway 44 = .ok (.daload, 1) := by decide +kernel
theorem dX1_takeAway_45 : decode cX1_takeAway 45 = .ok (.dload 4, 2) := by decide +kernel
theorem dX1_takeAway_47 : decode cX1_takeAway 47 = .ok (.aload_n 0, 1) := by decide +kernel
theorem dX1_takeAway_48 : decode cX1_takeAway 48 = .ok (.getfield 11, 3) := by decide +kernel
theorem dX1_takeAway_51 : decode cX1_takeAway 51 = .ok (.iload_n 1, 1) := by decide +kernel
theorem dX1_takeAway_52 : decode cX1_takeAway 52 = .ok (.aaload, 1) := by decide +kernel
theorem dX1_takeAway_53 : decode cX1_takeAway 53 = .ok (.iload 6, 2) := by decide +kernel
theorem dX1_takeAway_55 : decode cX1_takeAway 55 = .ok (.daload, 1) := by decide +kernel
theorem dX1_takeAway_56 : decode cX1_takeAway 56 = .ok (.dmul, 1) := by decide +kernel
theorem dX1_takeAway_57 : decode cX1_takeAway 57 = .ok (.dsub, 1) := by decide +kernel
theorem dX1_takeAway_58 : decode cX1_takeAway 58 = .ok (.dastore, 1) := by decide +kernel
theorem dX1_takeAway_59 : decode cX1_takeAway 59 = .ok (.iinc 6 1, 3) := by decide +kernel
theorem dX1_takeAway_62 : decode cX1_takeAway 62 = .ok (.goto (-40), 3) := by decide +kernel
theorem dX1_takeAway_65 : decode cX1_takeAway 65 = .ok (.aload_n 0, 1) := by decide +kernel
theorem dX1_takeAway_66 : decode cX1_takeAway 66 = .ok (.getfield 16, 3) := by decide +kernel
theorem dX1_takeAway_69 : decode cX1_takeAway 69 = .ok (.iload_n 2, 1) := by decide +kernel
theorem dX1_takeAway_70 : decode cX1_takeAway 70 = .ok (.aload_n 0, 1) := by decide +kernel
theorem dX1_takeAway_71 : decode cX1_takeAway 71 = .ok (.getfield 16, 3) := by decide +kernel
theorem dX1_takeAway_74 : decode cX1_takeAway 74 = .ok (.iload_n 2, 1) := by decide +kernel
theorem dX1_takeAway_75 : decode cX1_takeAway 75 = .ok (.daload, 1) := by decide +kernel
theorem dX1_takeAway_76 : decode cX1_takeAway 76 = .ok (.dload 4, 2) := by decide +kernel
theorem dX1_takeAway_78 : decode cX1_takeAway 78 = .ok (.aload_n 0, 1) := by decide +kernel
theorem dX1_takeAway_79 : decode cX1_takeAway 79 = .ok (.getfield 16, 3) := by decide +kernel
theorem dX1_takeAway_82 : decode cX1_takeAway 82 = .ok (.iload_n 1, 1) := by decide +kernel
theorem dX1_takeAway_83 : decode cX1_takeAway 83 = .ok (.daload, 1) := by decide +kernel
theorem dX1_takeAway_84 : decode cX1_takeAway 84 = .ok (.dmul, 1) := by decide +kernel
theorem dX1_takeAway_85 : decode cX1_takeAway 85 = .ok (.dsub, 1) := by decide +kernel
theorem dX1_takeAway_86 : decode cX1_takeAway 86 = .ok (.dastore, 1) := by decide +kernel
theorem dX1_takeAway_87 : decode cX1_takeAway 87 = .ok (.return_, 1) := by decide +kernel
theorem dX1_substitute_0 : decode cX1_substitute 0 = .ok (.iload_n 1, 1) := by decide +kernel
theorem dX1_substitute_1 : decode cX1_substitute 1 = .ok (.iconst 1, 1) := by decide +kernel
theorem dX1_substitute_2 : decode cX1_substitute 2 = .ok (.isub, 1) := by decide +kernel
theorem dX1_substitute_3 : decode cX1_substitute 3 = .ok (.istore_n 2, 1) := by decide +kernel
theorem dX1_substitute_4 : decode cX1_substitute 4 = .ok (.iload_n 2, 1) := by decide +kernel
theorem dX1_substitute_5 : decode cX1_substitute 5 = .ok (.ifCond .lt 69, 3) := by decide +kernel
theorem dX1_substitute_8 : decode cX1_substitute 8 = .ok (.aload_n 0, 1) := by decide +kernel
theorem dX1_substitute_9 : decode cX1_substitute 9 = .ok (.getfield 16, 3) := by decide +kernel
theorem dX1_substitute_12 : decode cX1_substitute 12 = .ok (.iload_n 2, 1) := by decide +kernel
theorem dX1_substitute_13 : decode cX1_substitute 13 = .ok (.daload, 1) := by decide +kernel
theorem dX1_substitute_14 : decode cX1_substitute 14 = .ok (.dstore_n 3, 1) := by decide +kernel
theorem dX1_substitute_15 : decode cX1_substitute 15 = .ok (.iload_n 2, 1) := by decide +kernel
theorem dX1_substitute_16 : decode cX1_substitute 16 = .ok (.iconst 1, 1) := by decide +kernel
theorem dX1_substitute_17 : decode cX1_substitute 17 = .ok (.iadd, 1) := by decide +kernel
theorem dX1_substitute_18 : decode cX1_substitute 18 = .ok (.istore 5, 2) := by decide +kernel
theorem dX1_substitute_20 : decode cX1_substitute 20 = .ok (.iload 5, 2) := by decide +kernel
theorem dX1_substitute_22 : decode cX1_substitute 22 = .ok (.iload_n 1, 1) := by decide +kernel
theorem dX1_substitute_23 : decode cX1_substitute 23 = .ok (.if_icmp .ge 29, 3) := by decide +kernel
theorem dX1_substitute_26 : decode cX1_substitute 26 = .ok (.dload_n 3, 1) := by decide +kernel
theorem dX1_substitute_27 : decode cX1_substitute 27 = .ok (.aload_n 0, 1) := by decide +kernel
theorem dX1_substitute_28 : decode cX1_substitute 28 = .ok (.getfield 11, 3) := by decide +kernel
theorem dX1_substitute_31 : decode cX1_substitute 31 = .ok (.iload_n 2, 1) := by decide +kernel
theorem dX1_substitute_32 : decode cX1_substitute 32 = .ok (.aaload, 1) := by decide +kernel
theorem dX1_substitute_33 : decode cX1_substitute 33 = .ok (.iload 5, 2) := by decide +kernel
theorem dX1_substitute_35 : decode cX1_substitute 35 = .ok (.daload, 1) := by decide +kernel
theorem dX1_substitute_36 : decode cX1_substitute 36 = .ok (.aload_n 0, 1) := by decide +kernel
theorem dX1_substitute_37 : decode cX1_substitute 37 = .ok (.getfield 20, 3) := by decide +kernel
theorem dX1_substitute_40 : decode cX1_substitute 40 = .ok (.iload 5, 2) := by decide +kernel
theorem dX1_substitute_42 : decode cX1_substitute 42 = .ok (.daload, 1) := by decide +kernel
theorem dX1_substitute_43 : decode cX1_substitute 43 = .ok (.dmul, 1) := by decide +kernel
theorem dX1_substitute_44 : decode cX1_substitute 44 = .ok (.dsub, 1) := by decide +kernel
theorem dX1_substitute_45 : decode cX1_substitute 45 = .ok (.dstore_n 3, 1) := by decide +kernel
theorem dX1_substitute_46 : decode cX1_substitute 46 = .ok (.iinc 5 1, 3) := by decide +kernel
theorem dX1_substitute_49 : decode cX1_substitute 49 = .ok (.goto (-29), 3) := by decide +kernel
theorem dX1_substitute_52 : decode cX1_substitute 52 = .ok (.aload_n 0, 1) := by decide +kernel
theorem dX1_substitute_53 : decode cX1_substitute 53 = .ok (.getfield 20, 3) := by decide +kernel
theorem dX1_substitute_56 : decode cX1_substitute 56 = .ok (.iload_n 2, 1) := by decide +kernel
theorem dX1_substitute_57 : decode cX1_substitute 57 = .ok (.dload_n 3, 1) := by decide +kernel
theorem dX1_substitute_58 : decode cX1_substitute 58 = .ok (.aload_n 0, 1) := by decide +kernel
theorem dX1_substitute_59 : decode cX1_substitute 59 = .ok (.getfield 11, 3) := by decide +kernel
theorem dX1_substitute_62 : decode cX1_substitute 62 = .ok (.iload_n 2, 1) := by decide +kernel
theorem dX1_substitute_63 : decode cX1_substitute 63 = .ok (.aaload, 1) := by decide +kernel
theorem dX1_substitute_64 : decode cX1_substitute 64 = .ok (.iload_n 2, 1) := by decide +kernel
theorem dX1_substitute_65 : decode cX1_substitute 65 = .ok (.daload, 1) := by decide +kernel
theorem dX1_substitute_66 : decode cX1_substitute 66 = .ok (.ddiv, 1) := by decide +kernel
theorem dX1_substitute_67 : decode cX1_substitute 67 = .ok (.dastore, 1) := by decide +kernel
theorem dX1_substitute_68 : decode cX1_substitute 68 = .ok (.iinc 2 (-1), 3) := by decide +kernel
theorem dX1_substitute_71 : decode cX1_substitute 71 = .ok (.goto (-67), 3) := by decide +kernel
theorem dX1_substitute_74 : decode cX1_substitute 74 = .ok (.return_, 1) := by decide +kernel
theorem dX2_init_0 : decode cX2_init 0 = .ok (.aload_n 0, 1) := by decide +kernel
theorem dX2_init_1 : decode cX2_init 1 = .ok (.invokespecial 3, 3) := by decide +kernel
theorem dX2_init_4 : decode cX2_init 4 = .ok (.aload_n 0, 1) := by decide +kernel
theorem dX2_init_5 : decode cX2_init 5 = .ok (.iconst 3, 1) := by decide +kernel
theorem dX2_init_6 : decode cX2_init 6 = .ok (.newarray .double, 2) := by decide +kernel
theorem dX2_init_8 : decode cX2_init 8 = .ok (.putfield 9, 3) := by decide +kernel
theorem dX2_init_11 : decode cX2_init 11 = .ok (.aload_n 0, 1) := by decide +kernel
theorem dX2_init_12 : decode cX2_init 12 = .ok (.iconst 3, 1) := by decide +kernel
theorem dX2_init_13 : decode cX2_init 13 = .ok (.newarray .double, 2) := by decide +kernel
theorem dX2_init_15 : decode cX2_init 15 = .ok (.putfield 15, 3) := by decide +kernel
theorem dX2_init_18 : decode cX2_init 18 = .ok (.aload_n 0, 1) := by decide +kernel
theorem dX2_init_19 : decode cX2_init 19 = .ok (.iconst 3, 1) := by decide +kernel
theorem dX2_init_20 : decode cX2_init 20 = .ok (.newarray .double, 2) := by decide +kernel
theorem dX2_init_22 : decode cX2_init 22 = .ok (.putfield 18, 3) := by decide +kernel
theorem dX2_init_25 : decode cX2_init 25 = .ok (.aload_n 0, 1) := by decide +kernel
theorem dX2_init_26 : decode cX2_init 26 = .ok (.iconst 3, 1) := by decide +kernel
theorem dX2_init_27 : decode cX2_init 27 = .ok (.newarray .double, 2) := by decide +kernel
theorem dX2_init_29 : decode cX2_init 29 = .ok (.putfield 21, 3) := by decide +kernel
theorem dX2_init_32 : decode cX2_init 32 = .ok (.aload_n 0, 1) := by decide +kernel
theorem dX2_init_33 : decode cX2_init 33 = .ok (.aload_n 1, 1) := by decide +kernel
theorem dX2_init_34 : decode cX2_init 34 = .ok (.putfield 24, 3) := by decide +kernel
theorem dX2_init_37 : decode cX2_init 37 = .ok (.return_, 1) := by decide +kernel
theorem dX2_keep_0 : decode cX2_keep 0 = .ok (.iconst 0, 1) := by decide +kernel
theorem dX2_keep_1 : decode cX2_keep 1 = .ok (.istore_n 2, 1) := by decide +kernel
theorem dX2_keep_2 : decode cX2_keep 2 = .ok (.iload_n 2, 1) := by decide +kernel
theorem dX2_keep_3 : decode cX2_keep 3 = .ok (.aload_n 0, 1) := by decide +kernel
theorem dX2_keep_4 : decode cX2_keep 4 = .ok (.getfield 24, 3) := by decide +kernel
theorem dX2_keep_7 : decode cX2_keep 7 = .ok (.getfield 28, 3) := by decide +kernel
theorem dX2_keep_10 : decode cX2_keep 10 = .ok (.if_icmp .ge 45, 3) := by decide +kernel
theorem dX2_keep_13 : decode cX2_keep 13 = .ok (.aload_n 0, 1) := by decide +kernel
theorem dX2_keep_14 : decode cX2_keep 14 = .ok (.getfield 15, 3) := by decide +kernel
theorem dX2_keep_17 : decode cX2_keep 17 = .ok (.iload_n 2, 1) := by decide +kernel
theorem dX2_keep_18 : decode cX2_keep 18 = .ok (.aload_n 1, 1) := by decide +kernel
theorem dX2_keep_19 : decode cX2_keep 19 = .ok (.getfield 34, 3) := by decide +kernel
theorem dX2_keep_22 : decode cX2_keep 22 = .ok (.iload_n 2, 1) := by decide +kernel
theorem dX2_keep_23 : decode cX2_keep 23 = .ok (.daload, 1) := by decide +kernel
theorem dX2_keep_24 : decode cX2_keep 24 = .ok (.dastore, 1) := by decide +kernel
theorem dX2_keep_25 : decode cX2_keep 25 = .ok (.aload_n 0, 1) := by decide +kernel
theorem dX2_keep_26 : decode cX2_keep 26 = .ok (.getfield 18, 3) := by decide +kernel
theorem dX2_keep_29 : decode cX2_keep 29 = .ok (.iload_n 2, 1) := by decide +kernel
theorem dX2_keep_30 : decode cX2_keep 30 = .ok (.aload_n 1, 1) := by decide +kernel
theorem dX2_keep_31 : decode cX2_keep 31 = .ok (.getfield 39, 3) := by decide +kernel
theorem dX2_keep_34 : decode cX2_keep 34 = .ok (.iload_n 2, 1) := by decide +kernel
theorem dX2_keep_35 : decode cX2_keep 35 = .ok (.daload, 1) := by decide +kernel
theorem dX2_keep_36 : decode cX2_keep 36 = .ok (.dastore, 1) := by decide +kernel
theorem dX2_keep_37 : decode cX2_keep 37 = .ok (.aload_n 0, 1) := by decide +kernel
theorem dX2_keep_38 : decode cX2_keep 38 = .ok (.getfield 21, 3) := by decide +kernel
theorem dX2_keep_41 : decode cX2_keep 41 = .ok (.iload_n 2, 1) := by decide +kernel
theorem dX2_keep_42 : decode cX2_keep 42 = .ok (.aload_n 1, 1) := by decide +kernel
theorem dX2_keep_43 : decode cX2_keep 43 = .ok (.getfield 42, 3) := by decide +kernel
theorem dX2_keep_46 : decode cX2_keep 46 = .ok (.iload_n 2, 1) := by decide +kernel
theorem dX2_keep_47 : decode cX2_keep 47 = .ok (.daload, 1) := by decide +kernel
theorem dX2_keep_48 : decode cX2_keep 48 = .ok (.dastore, 1) := by decide +kernel
theorem dX2_keep_49 : decode cX2_keep 49 = .ok (.iinc 2 1, 3) := by decide +kernel
theorem dX2_keep_52 : decode cX2_keep 52 = .ok (.goto (-50), 3) := by decide +kernel
theorem dX2_keep_55 : decode cX2_keep 55 = .ok (.aload_n 0, 1) := by decide +kernel
theorem dX2_keep_56 : decode cX2_keep 56 = .ok (.aload_n 1, 1) := by decide +kernel
theorem dX2_keep_57 : decode cX2_keep 57 = .ok (.getfield 45, 3) := by decide +kernel
theorem dX2_keep_60 : decode cX2_keep 60 = .ok (.putfield 49, 3) := by decide +kernel
theorem dX2_keep_63 : decode cX2_keep 63 = .ok (.aload_n 0, 1) := by decide +kernel
theorem dX2_keep_64 : decode cX2_keep 64 = .ok (.aload_n 1, 1) := by decide +kernel
theorem dX2_keep_65 : decode cX2_keep 65 = .ok (.getfield 50, 3) := by decide +kernel
theorem dX2_keep_68 : decode cX2_keep 68 = .ok (.putfield 53, 3) := by decide +kernel
theorem dX2_keep_71 : decode cX2_keep 71 = .ok (.aload_n 0, 1) := by decide +kernel
theorem dX2_keep_72 : decode cX2_keep 72 = .ok (.getfield 24, 3) := by decide +kernel
theorem dX2_keep_75 : decode cX2_keep 75 = .ok (.aload_n 0, 1) := by decide +kernel
theorem dX2_keep_76 : decode cX2_keep 76 = .ok (.getfield 49, 3) := by decide +kernel
theorem dX2_keep_79 : decode cX2_keep 79 = .ok (.aload_n 0, 1) := by decide +kernel
theorem dX2_keep_80 : decode cX2_keep 80 = .ok (.getfield 53, 3) := by decide +kernel
theorem dX2_keep_83 : decode cX2_keep 83 = .ok (.dadd, 1) := by decide +kernel
theorem dX2_keep_84 : decode cX2_keep 84 = .ok (.aload_n 0, 1) := by decide +kernel
theorem dX2_keep_85 : decode cX2_keep 85 = .ok (.getfield 21, 3) := by decide +kernel
theorem dX2_keep_88 : decode cX2_keep 88 = .ok (.aload_n 0, 1) := by decide +kernel
theorem dX2_keep_89 : decode cX2_keep 89 = .ok (.getfield 9, 3) := by decide +kernel
theorem dX2_keep_92 : decode cX2_keep 92 = .ok (.invokevirtual 54, 3) := by decide +kernel
theorem dX2_keep_95 : decode cX2_keep 95 = .ok (.aload_n 0, 1) := by decide +kernel
theorem dX2_keep_96 : decode cX2_keep 96 = .ok (.iconst 1, 1) := by decide +kernel
theorem dX2_keep_97 : decode cX2_keep 97 = .ok (.putfield 58, 3) := by decide +kernel
theorem dX2_keep_100 : decode cX2_keep 100 = .ok (.return_, 1) := by decide +kernel
theorem dX2_inside_0 : decode cX2_inside 0 = .ok (.dconst 1, 1) := by decide +kernel
theorem dX2_inside_1 : decode cX2_inside 1 = .ok (.ldc2_w 62, 3) := by decide +kernel
theorem dX2_inside_4 : decode cX2_inside 4 = .ok (.dload_n 2, 1) := by decide +kernel
theorem dX2_inside_5 : decode cX2_inside 5 = .ok (.dmul, 1) := by decide +kernel
theorem dX2_inside_6 : decode cX2_inside 6 = .ok (.dadd, 1) := by decide +kernel
theorem dX2_inside_7 : decode cX2_inside 7 = .ok (.dconst 1, 1) := by decide +kernel
theorem dX2_inside_8 : decode cX2_inside 8 = .ok (.dload_n 2, 1) := by decide +kernel
theorem dX2_inside_9 : decode cX2_inside 9 = .ok (.dsub, 1) := by decide +kernel
theorem dX2_inside_10 : decode cX2_inside 10 = .ok (.dmul, 1) := by decide +kernel
theorem dX2_inside_11 : decode cX2_inside 11 = .ok (.dconst 1, 1) := by decide +kernel
theorem dX2_inside_12 : decode cX2_inside 12 = .ok (.dload_n 2, 1) := by decide +kernel
theorem dX2_inside_13 : decode cX2_inside 13 = .ok (.dsub, 1) := by decide +kernel
theorem dX2_inside_14 : decode cX2_inside 14 = .ok (.dmul, 1) := by decide +kernel
theorem dX2_inside_15 : decode cX2_inside 15 = .ok (.aload_n 0, 1) := by decide +kernel
theorem dX2_inside_16 : decode cX2_inside 16 = .ok (.getfield 15, 3) := by decide +kernel
theorem dX2_inside_19 : decode cX2_inside 19 = .ok (.iload_n 1, 1) := by decide +kernel
theorem dX2_inside_20 : decode cX2_inside 20 = .ok (.daload, 1) := by decide +kernel
theorem dX2_inside_21 : decode cX2_inside 21 = .ok (.dmul, 1) := by decide +kernel
theorem dX2_inside_22 : decode cX2_inside 22 = .ok (.dload_n 2, 1) := by decide +kernel
theorem dX2_inside_23 : decode cX2_inside 23 = .ok (.dconst 1, 1) := by decide +kernel
theorem dX2_inside_24 : decode cX2_inside 24 = .ok (.dload_n 2, 1) := by decide +kernel
theorem dX2_inside_25 : decode cX2_inside 25 = .ok (.dsub, 1) := by decide +kernel
theorem dX2_inside_26 : decode cX2_inside 26 = .ok (.dmul, 1) := by decide +kernel
theorem dX2_inside_27 : decode cX2_inside 27 = .ok (.dconst 1, 1) := by decide +kernel
theorem dX2_inside_28 : decode cX2_inside 28 = .ok (.dload_n 2, 1) := by decide +kernel
theorem dX2_inside_29 : decode cX2_inside 29 = .ok (.dsub, 1) := by decide +kernel
theorem dX2_inside_30 : decode cX2_inside 30 = .ok (.dmul, 1) := by decide +kernel
theorem dX2_inside_31 : decode cX2_inside 31 = .ok (.aload_n 0, 1) := by decide +kernel
theorem dX2_inside_32 : decode cX2_inside 32 = .ok (.getfield 53, 3) := by decide +kernel
theorem dX2_inside_35 : decode cX2_inside 35 = .ok (.dmul, 1) := by decide +kernel
theorem dX2_inside_36 : decode cX2_inside 36 = .ok (.aload_n 0, 1) := by decide +kernel
theorem dX2_inside_37 : decode cX2_inside 37 = .ok (.getfield 18, 3) := by decide +kernel
theorem dX2_inside_40 : decode cX2_inside 40 = .ok (.iload_n 1, 1) := by decide +kernel
theorem dX2_inside_41 : decode cX2_inside 41 = .ok (.daload, 1) := by decide +kernel
theorem dX2_inside_42 : decode cX2_inside 42 = .ok (.dmul, 1) := by decide +kernel
theorem dX2_inside_43 : decode cX2_inside 43 = .ok (.dadd, 1) := by decide +kernel
theorem dX2_inside_44 : decode cX2_inside 44 = .ok (.dload_n 2, 1) := by decide +kernel
theorem dX2_inside_45 : decode cX2_inside 45 = .ok (.dload_n 2, 1) := by decide +kernel
theorem dX2_inside_46 : decode cX2_inside 46 = .ok (.dmul, 1) := by decide +kernel
theorem dX2_inside_47 : decode cX2_inside 47 = .ok (.ldc2_w 64, 3) := by decide +kernel
theorem dX2_inside_50 : decode cX2_inside 50 = .ok (.ldc2_w 62, 3) := by decide +kernel
theorem dX2_inside_53 : decode cX2_inside 53 = .ok (.dload_n 2, 1) := by decide +kernel
theorem dX2_inside_54 : decode cX2_inside 54 = .ok (.dmul, 1) := by decide +kernel
theorem dX2_inside_55 : decode cX2_inside 55 = .ok (.dsub, 1) := by decide +kernel
theorem dX2_inside_56 : decode cX2_inside 56 = .ok (.dmul, 1) := by decide +kernel
theorem dX2_inside_57 : decode cX2_inside 57 = .ok (.aload_n 0, 1) := by decide +kernel
theorem dX2_inside_58 : decode cX2_inside 58 = .ok (.getfield 21, 3) := by decide +kernel
theorem dX2_inside_61 : decode cX2_inside 61 = .ok (.iload_n 1, 1) := by decide +kernel
theorem dX2_inside_62 : decode cX2_inside 62 = .ok (.daload, 1) := by decide +kernel
theorem dX2_inside_63 : decode cX2_inside 63 = .ok (.dmul, 1) := by decide +kernel
theorem dX2_inside_64 : decode cX2_inside 64 = .ok (.dadd, 1) := by decide +kernel
theorem dX2_inside_65 : decode cX2_inside 65 = .ok (.dload_n 2, 1) := by decide +kernel
theorem dX2_inside_66 : decode cX2_inside 66 = .ok (.dload_n 2, 1) := by decide +kernel
theorem dX2_inside_67 : decode cX2_inside 67 = .ok (.dmul, 1) := by decide +kernel
theorem dX2_inside_68 : decode cX2_inside 68 = .ok (.dload_n 2, 1) := by decide +kernel
theorem dX2_inside_69 : decode cX2_inside 69 = .ok (.dconst 1, 1) := by decide +kernel
theorem dX2_inside_70 : decode cX2_inside 70 = .ok (.dsub, 1) := by decide +kernel
theorem dX2_inside_71 : decode cX2_inside 71 = .ok (.dmul, 1) := by decide +kernel
theorem dX2_inside_72 : decode cX2_inside 72 = .ok (.aload_n 0, 1) := by decide +kernel
theorem dX2_inside_73 : decode cX2_inside 73 = .ok (.getfield 53, 3) := by decide +kernel
theorem dX2_inside_76 : decode cX2_inside 76 = .ok (.dmul, 1) := by decide +kernel
theorem dX2_inside_77 : decode cX2_inside 77 = .ok (.aload_n 0, 1) := by decide +kernel
theorem dX2_inside_78 : decode cX2_inside 78 = .ok (.getfield 9, 3) := by decide +kernel
theorem dX2_inside_81 : decode cX2_inside 81 = .ok (.iload_n 1, 1) := by decide +kernel
theorem dX2_inside_82 : decode cX2_inside 82 = .ok (.daload, 1) := by decide +kernel
theorem dX2_inside_83 : decode cX2_inside 83 = .ok (.dmul, 1) := by decide +kernel
theorem dX2_inside_84 : decode cX2_inside 84 = .ok (.dadd, 1) := by decide +kernel
theorem dX2_inside_85 : decode cX2_inside 85 = .ok (.dreturn, 1) := by decide +kernel
theorem dX3_init_0 : decode cX3_init 0 = .ok (.aload_n 0, 1) := by decide +kernel
theorem dX3_init_1 : decode cX3_init 1 = .ok (.invokespecial 3, 3) := by decide +kernel
theorem dX3_init_4 : decode cX3_init 4 = .ok (.aload_n 0, 1) := by decide +kernel
theorem dX3_init_5 : decode cX3_init 5 = .ok (.iconst 3, 1) := by decide +kernel
theorem dX3_init_6 : decode cX3_init 6 = .ok (.newarray .double, 2) := by decide +kernel
theorem dX3_init_8 : decode cX3_init 8 = .ok (.putfield 9, 3) := by decide +kernel
theorem dX3_init_11 : decode cX3_init 11 = .ok (.aload_n 0, 1) := by decide +kernel
theorem dX3_init_12 : decode cX3_init 12 = .ok (.iconst 3, 1) := by decide +kernel
theorem dX3_init_13 : decode cX3_init 13 = .ok (.newarray .double, 2) := by decide +kernel
theorem dX3_init_15 : decode cX3_init 15 = .ok (.putfield 15, 3) := by decide +kernel
theorem dX3_init_18 : decode cX3_init 18 = .ok (.aload_n 0, 1) := by decide +kernel
theorem dX3_init_19 : decode cX3_init 19 = .ok (.iconst 3, 1) := by decide +kernel
theorem dX3_init_20 : decode cX3_init 20 = .ok (.newarray .double, 2) := by decide +kernel
theorem dX3_init_22 : decode cX3_init 22 = .ok (.putfield 18, 3) := by decide +kernel
theorem dX3_init_25 : decode cX3_init 25 = .ok (.aload_n 0, 1) := by decide +kernel
theorem dX3_init_26 : decode cX3_init 26 = .ok (.iconst 3, 1) := by decide +kernel
theorem dX3_init_27 : decode cX3_init 27 = .ok (.newarray .double, 2) := by decide +kernel
theorem dX3_init_29 : decode cX3_init 29 = .ok (.putfield 21, 3) := by decide +kernel
theorem dX3_init_32 : decode cX3_init 32 = .ok (.aload_n 0, 1) := by decide +kernel
theorem dX3_init_33 : decode cX3_init 33 = .ok (.iconst 3, 1) := by decide +kernel
theorem dX3_init_34 : decode cX3_init 34 = .ok (.newarray .double, 2) := by decide +kernel
theorem dX3_init_36 : decode cX3_init 36 = .ok (.putfield 24, 3) := by decide +kernel
theorem dX3_init_39 : decode cX3_init 39 = .ok (.aload_n 0, 1) := by decide +kernel
theorem dX3_init_40 : decode cX3_init 40 = .ok (.aload_n 1, 1) := by decide +kernel
theorem dX3_init_41 : decode cX3_init 41 = .ok (.putfield 27, 3) := by decide +kernel
theorem dX3_init_44 : decode cX3_init 44 = .ok (.return_, 1) := by decide +kernel
theorem dX3_refine_0 : decode cX3_refine 0 = .ok (.aload_n 0, 1) := by decide +kernel
theorem dX3_refine_1 : decode cX3_refine 1 = .ok (.iconst 2, 1) := by decide +kernel
theorem dX3_refine_2 : decode cX3_refine 2 = .ok (.aload_n 1, 1) := by decide +kernel
theorem dX3_refine_3 : decode cX3_refine 3 = .ok (.aload_n 0, 1) := by decide +kernel
theorem dX3_refine_4 : decode cX3_refine 4 = .ok (.getfield 21, 3) := by decide +kernel
theorem dX3_refine_7 : decode cX3_refine 7 = .ok (.invokevirtual 31, 3) := by decide +kernel
theorem dX3_refine_10 : decode cX3_refine 10 = .ok (.aload_n 0, 1) := by decide +kernel
theorem dX3_refine_11 : decode cX3_refine 11 = .ok (.iconst 4, 1) := by decide +kernel
theorem dX3_refine_12 : decode cX3_refine 12 = .ok (.aload_n 1, 1) := by decide +kernel
theorem dX3_refine_13 : decode cX3_refine 13 = .ok (.aload_n 0, 1) := by decide +kernel
theorem dX3_refine_14 : decode cX3_refine 14 = .ok (.getfield 24, 3) := by decide +kernel
theorem dX3_refine_17 : decode cX3_refine 17 = .ok (.invokevirtual 31, 3) := by decide +kernel
theorem dX3_refine_20 : decode cX3_refine 20 = .ok (.iconst 0, 1) := by decide +kernel
theorem dX3_refine_21 : decode cX3_refine 21 = .ok (.istore_n 2, 1) := by decide +kernel
theorem dX3_refine_22 : decode cX3_refine 22 = .ok (.iload_n 2, 1) := by decide +kernel
theorem dX3_refine_23 : decode cX3_refine 23 = .ok (.aload_n 0, 1) := by decide +kernel
theorem dX3_refine_24 : decode cX3_refine 24 = .ok (.getfield 27, 3) := by decide +kernel
theorem dX3_refine_27 : decode cX3_refine 27 = .ok (.getfield 35, 3) := by decide +kernel
theorem dX3_refine_30 : decode cX3_refine 30 = .ok (.if_icmp .ge 39, 3) := by decide +kernel
theorem dX3_refine_33 : decode cX3_refine 33 = .ok (.aload_n 1, 1) := by decide +kernel
theorem dX3_refine_34 : decode cX3_refine 34 = .ok (.getfield 41, 3) := by decide +kernel
theorem dX3_refine_37 : decode cX3_refine 37 = .ok (.iload_n 2, 1) := by decide +kernel
theorem dX3_refine_38 : decode cX3_refine 38 = .ok (.aload_n 0, 1) := by decide +kernel
theorem dX3_refine_39 : decode cX3_refine 39 = .ok (.getfield 24, 3) := by decide +kernel
theorem dX3_refine_42 : decode cX3_refine 42 = .ok (.iload_n 2, 1) := by decide +kernel
theorem dX3_refine_43 : decode cX3_refine 43 = .ok (.daload, 1) := by decide +kernel
theorem dX3_refine_44 : decode cX3_refine 44 = .ok (.aload_n 0, 1) := by decide +kernel
theorem dX3_refine_45 : decode cX3_refine 45 = .ok (.getfield 24, 3) := by decide +kernel
theorem dX3_refine_48 : decode cX3_refine 48 = .ok (.iload_n 2, 1) := by decide +kernel
theorem dX3_refine_49 : decode cX3_refine 49 = .ok (.daload, 1) := by decide +kernel
theorem dX3_refine_50 : decode cX3_refine 50 = .ok (.aload_n 0, 1) := by decide +kernel
theorem dX3_refine_51 : decode cX3_refine 51 = .ok (.getfield 21, 3) := by decide +kernel
theorem dX3_refine_54 : decode cX3_refine 54 = .ok (.iload_n 2, 1) := by decide +kernel
theorem dX3_refine_55 : decode cX3_refine 55 = .ok (.daload, 1) := by decide +kernel
theorem dX3_refine_56 : decode cX3_refine 56 = .ok (.dsub, 1) := by decide +kernel
theorem dX3_refine_57 : decode cX3_refine 57 = .ok (.ldc2_w 46, 3) := by decide +kernel
theorem dX3_refine_60 : decode cX3_refine 60 = .ok (.ddiv, 1) := by decide +kernel
theorem dX3_refine_61 : decode cX3_refine 61 = .ok (.dadd, 1) := by decide +kernel
theorem dX3_refine_62 : decode cX3_refine 62 = .ok (.dastore, 1) := by decide +kernel
theorem dX3_refine_63 : decode cX3_refine 63 = .ok (.iinc 2 1, 3) := by decide +kernel
theorem dX3_refine_66 : decode cX3_refine 66 = .ok (.goto (-44), 3) := by decide +kernel
theorem dX3_refine_69 : decode cX3_refine 69 = .ok (.return_, 1) := by decide +kernel
theorem dX3_walk_0 : decode cX3_walk 0 = .ok (.aload_n 2, 1) := by decide +kernel
theorem dX3_walk_1 : decode cX3_walk 1 = .ok (.getfield 48, 3) := by decide +kernel
theorem dX3_walk_4 : decode cX3_walk 4 = .ok (.iload_n 1, 1) := by decide +kernel
theorem dX3_walk_5 : decode cX3_walk 5 = .ok (.i2d, 1) := by decide +kernel
theorem dX3_walk_6 : decode cX3_walk 6 = .ok (.ddiv, 1) := by decide +kernel
theorem dX3_walk_7 : decode cX3_walk 7 = .ok (.dstore 4, 2) := by decide +kernel
theorem dX3_walk_9 : decode cX3_walk 9 = .ok (.iconst 0, 1) := by decide +kernel
theorem dX3_walk_10 : decode cX3_walk 10 = .ok (.istore 6, 2) := by decide +kernel
theorem dX3_walk_12 : decode cX3_walk 12 = .ok (.iload 6, 2) := by decide +kernel
theorem dX3_walk_14 : decode cX3_walk 14 = .ok (.aload_n 0, 1) := by decide +kernel
theorem dX3_walk_15 : decode cX3_walk 15 = .ok (.getfield 27, 3) := by decide +kernel
theorem dX3_walk_18 : decode cX3_walk 18 = .ok (.getfield 35, 3) := by decide +kernel
theorem dX3_walk_21 : decode cX3_walk 21 = .ok (.if_icmp .ge 48, 3) := by decide +kernel
theorem dX3_walk_24 : decode cX3_walk 24 = .ok (.aload_n 0, 1) := by decide +kernel
theorem dX3_walk_25 : decode cX3_walk 25 = .ok (.getfield 9, 3) := by decide +kernel
theorem dX3_walk_28 : decode cX3_walk 28 = .ok (.iload 6, 2) := by decide +kernel
theorem dX3_walk_30 : decode cX3_walk 30 = .ok (.aload_n 2, 1) := by decide +kernel
theorem dX3_walk_31 : decode cX3_walk 31 = .ok (.getfield 52, 3) := by decide +kernel
theorem dX3_walk_34 : decode cX3_walk 34 = .ok (.iload 6, 2) := by decide +kernel
theorem dX3_walk_36 : decode cX3_walk 36 = .ok (.daload, 1) := by decide +kernel
theorem dX3_walk_37 : decode cX3_walk 37 = .ok (.dastore, 1) := by decide +kernel
theorem dX3_walk_38 : decode cX3_walk 38 = .ok (.aload_n 0, 1) := by decide +kernel
theorem dX3_walk_39 : decode cX3_walk 39 = .ok (.getfield 15, 3) := by decide +kernel
theorem dX3_walk_42 : decode cX3_walk 42 = .ok (.iload 6, 2) := by decide +kernel
theorem dX3_walk_44 : decode cX3_walk 44 = .ok (.aload_n 2, 1) := by decide +kernel
theorem dX3_walk_45 : decode cX3_walk 45 = .ok (.getfield 52, 3) := by decide +kernel
theorem dX3_walk_48 : decode cX3_walk 48 = .ok (.iload 6, 2) := by decide +kernel
theorem dX3_walk_50 : decode cX3_walk 50 = .ok (.daload, 1) := by decide +kernel
theorem dX3_walk_51 : decode cX3_walk 51 = .ok (.dload 4, 2) := by decide +kernel
theorem dX3_walk_53 : decode cX3_walk 53 = .ok (.aload_n 2, 1) := by decide +kernel
theorem dX3_walk_54 : decode cX3_walk 54 = .ok (.getfield 55, 3) := by decide +kernel
theorem dX3_walk_57 : decode cX3_walk 57 = .ok (.iload 6, 2) := by decide +kernel
theorem dX3_walk_59 : decode cX3_walk 59 = .ok (.daload, 1) := by decide +kernel
theorem dX3_walk_60 : decode cX3_walk 60 = .ok (.dmul, 1) := by decide +kernel
theorem dX3_walk_61 : decode cX3_walk 61 = .ok (.dadd, 1) := by decide +kernel
theorem dX3_walk_62 : decode cX3_walk 62 = .ok (.dastore, 1) := by decide +kernel
theorem dX3_walk_63 : decode cX3_walk 63 = .ok (.iinc 6 1, 3) := by decide +kernel
theorem dX3_walk_66 : decode cX3_walk 66 = .ok (.goto (-54), 3) := by decide +kernel
theorem dX3_walk_69 : decode cX3_walk 69 = .ok (.iconst 1, 1) := by decide +kernel
theorem dX3_walk_70 : decode cX3_walk 70 = .ok (.istore 6, 2) := by decide +kernel
theorem dX3_walk_72 : decode cX3_walk 72 = .ok (.iload 6, 2) := by decide +kernel
theorem dX3_walk_74 : decode cX3_walk 74 = .ok (.iload_n 1, 1) := by decide +kernel
theorem dX3_walk_75 : decode cX3_walk 75 = .ok (.if_icmp .ge 103, 3) := by decide +kernel
theorem dX3_walk_78 : decode cX3_walk 78 = .ok (.aload_n 0, 1) := by decide +kernel
theorem dX3_walk_79 : decode cX3_walk 79 = .ok (.getfield 27, 3) := by decide +kernel
theorem dX3_walk_82 : decode cX3_walk 82 = .ok (.aload_n 2, 1) := by decide +kernel
theorem dX3_walk_83 : decode cX3_walk 83 = .ok (.getfield 58, 3) := by decide +kernel
theorem dX3_walk_86 : decode cX3_walk 86 = .ok (.iload 6, 2) := by decide +kernel
theorem dX3_walk_88 : decode cX3_walk 88 = .ok (.i2d, 1) := by decide +kernel
theorem dX3_walk_89 : decode cX3_walk 89 = .ok (.dload 4, 2) := by decide +kernel
theorem dX3_walk_91 : decode cX3_walk 91 = .ok (.dmul, 1) := by decide +kernel
theorem dX3_walk_92 : decode cX3_walk 92 = .ok (.dadd, 1) := by decide +kernel
theorem dX3_walk_93 : decode cX3_walk 93 = .ok (.aload_n 0, 1) := by decide +kernel
theorem dX3_walk_94 : decode cX3_walk 94 = .ok (.getfield 15, 3) := by decide +kernel
theorem dX3_walk_97 : decode cX3_walk 97 = .ok (.aload_n 0, 1) := by decide +kernel
theorem dX3_walk_98 : decode cX3_walk 98 = .ok (.getfield 18, 3) := by decide +kernel
theorem dX3_walk_101 : decode cX3_walk 101 = .ok (.invokevirtual 61, 3) := by decide +kernel
theorem dX3_walk_104 : decode cX3_walk 104 = .ok (.iconst 0, 1) := by decide +kernel
theorem dX3_walk_105 : decode cX3_walk 105 = .ok (.istore 7, 2) := by decide +kernel
theorem dX3_walk_107 : decode cX3_walk 107 = .ok (.iload 7, 2) := by decide +kernel
theorem dX3_walk_109 : decode cX3_walk 109 = .ok (.aload_n 0, 1) := by decide +kernel
theorem dX3_walk_110 : decode cX3_walk 110 = .ok (.getfield 27, 3) := by decide +kernel
theorem dX3_walk_113 : decode cX3_walk 113 = .ok (.getfield 35, 3) := by decide +kernel
theorem dX3_walk_116 : decode cX3_walk 116 = .ok (.if_icmp .ge 56, 3) := by decide +kernel
theorem dX3_walk_119 : decode cX3_walk 119 = .ok (.aload_n 0, 1) := by decide +kernel
theorem dX3_walk_120 : decode cX3_walk 120 = .ok (.getfield 9, 3) := by decide +kernel
theorem dX3_walk_123 : decode cX3_walk 123 = .ok (.iload 7, 2) := by decide +kernel
theorem dX3_walk_125 : decode cX3_walk 125 = .ok (.daload, 1) := by decide +kernel
theorem dX3_walk_126 : decode cX3_walk 126 = .ok (.ldc2_w 65, 3) := by decide +kernel
theorem dX3_walk_129 : decode cX3_walk 129 = .ok (.dload 4, 2) := by decide +kernel
theorem dX3_walk_131 : decode cX3_walk 131 = .ok (.dmul, 1) := by decide +kernel
theorem dX3_walk_132 : decode cX3_walk 132 = .ok (.aload_n 0, 1) := by decide +kernel
theorem dX3_walk_133 : decode cX3_walk 133 = .ok (.getfield 18, 3) := by decide +kernel
theorem dX3_walk_136 : decode cX3_walk 136 = .ok (.iload 7, 2) := by decide +kernel
theorem dX3_walk_138 : decode cX3_walk 138 = .ok (.daload, 1) := by decide +kernel
theorem dX3_walk_139 : decode cX3_walk 139 = .ok (.dmul, 1) := by decide +kernel
theorem dX3_walk_140 : decode cX3_walk 140 = .ok (.dadd, 1) := by decide +kernel
theorem dX3_walk_141 : decode cX3_walk 141 = .ok (.dstore 8, 2) := by decide +kernel
theorem dX3_walk_143 : decode cX3_walk 143 = .ok (.aload_n 0, 1) := by decide +kernel
theorem dX3_walk_144 : decode cX3_walk 144 = .ok (.getfield 9, 3) := by decide +kernel
theorem dX3_walk_147 : decode cX3_walk 147 = .ok (.iload 7, 2) := by decide +kernel
theorem dX3_walk_149 : decode cX3_walk 149 = .ok (.aload_n 0, 1) := by decide +kernel
theorem dX3_walk_150 : decode cX3_walk 150 = .ok (.getfield 15, 3) := by decide +kernel
theorem dX3_walk_153 : decode cX3_walk 153 = .ok (.iload 7, 2) := by decide +kernel
theorem dX3_walk_155 : decode cX3_walk 155 = .ok (.daload, 1) := by decide +kernel
theorem dX3_walk_156 : decode cX3_walk 156 = .ok (.dastore, 1) := by decide +kernel
theorem dX3_walk_157 : decode cX3_walk 157 = .ok (.aload_n 0, 1) := by decide +kernel
theorem dX3_walk_158 : decode cX3_walk 158 = .ok (.getfield 15, 3) := by decide +kernel
theorem dX3_walk_161 : decode cX3_walk 161 = .ok (.iload 7, 2) := by decide +kernel
theorem dX3_walk_163 : decode cX3_walk 163 = .ok (.dload 8, 2) := by decide +kernel
theorem dX3_walk_165 : decode cX3_walk 165 = .ok (.dastore, 1) := by decide +kernel
theorem dX3_walk_166 : decode cX3_walk 166 = .ok (.iinc 7 1, 3) := by decide +kernel
theorem dX3_walk_169 : decode cX3_walk 169 = .ok (.goto (-62), 3) := by decide +kernel
theorem dX3_walk_172 : decode cX3_walk 172 = .ok (.iinc 6 1, 3) := by decide +kernel
theorem dX3_walk_175 : decode cX3_walk 175 = .ok (.goto (-103), 3) := by decide +kernel
theorem dX3_walk_178 : decode cX3_walk 178 = .ok (.aload_n 0, 1) := by decide +kernel
theorem dX3_walk_179 : decode cX3_walk 179 = .ok (.getfield 27, 3) := by decide +kernel
theorem dX3_walk_182 : decode cX3_walk 182 = .ok (.aload_n 2, 1) := by decide +kernel
theorem dX3_walk_183 : decode cX3_walk 183 = .ok (.getfield 58, 3) := by decide +kernel
theorem dX3_walk_186 : decode cX3_walk 186 = .ok (.aload_n 2, 1) := by decide +kernel
theorem dX3_walk_187 : decode cX3_walk 187 = .ok (.getfield 48, 3) := by decide +kernel
theorem dX3_walk_190 : decode cX3_walk 190 = .ok (.dadd, 1) := by decide +kernel
theorem dX3_walk_191 : decode cX3_walk 191 = .ok (.aload_n 0, 1) := by decide +kernel
theorem dX3_walk_192 : decode cX3_walk 192 = .ok (.getfield 15, 3) := by decide +kernel
theorem dX3_walk_195 : decode cX3_walk 195 = .ok (.aload_n 0, 1) := by decide +kernel
theorem dX3_walk_196 : decode cX3_walk 196 = .ok (.getfield 18, 3) := by decide +kernel
theorem dX3_walk_199 : decode cX3_walk 199 = .ok (.invokevirtual 61, 3) := by decide +kernel
theorem dX3_walk_202 : decode cX3_walk 202 = .ok (.iconst 0, 1) := by decide +kernel
theorem dX3_walk_203 : decode cX3_walk 203 = .ok (.istore 6, 2) := by decide +kernel
theorem dX3_walk_205 : decode cX3_walk 205 = .ok (.iload 6, 2) := by decide +kernel
theorem dX3_walk_207 : decode cX3_walk 207 = .ok (.aload_n 0, 1) := by decide +kernel
theorem dX3_walk_208 : decode cX3_walk 208 = .ok (.getfield 27, 3) := by decide +kernel
theorem dX3_walk_211 : decode cX3_walk 211 = .ok (.getfield 35, 3) := by decide +kernel
theorem dX3_walk_214 : decode cX3_walk 214 = .ok (.if_icmp .ge 43, 3) := by decide +kernel
theorem dX3_walk_217 : decode cX3_walk 217 = .ok (.aload_n 3, 1) := by decide +kernel
theorem dX3_walk_218 : decode cX3_walk 218 = .ok (.iload 6, 2) := by decide +kernel
theorem dX3_walk_220 : decode cX3_walk 220 = .ok (.ldc2_w 67, 3) := by decide +kernel
theorem dX3_walk_223 : decode cX3_walk 223 = .ok (.aload_n 0, 1) := by decide +kernel
theorem dX3_walk_224 : decode cX3_walk 224 = .ok (.getfield 15, 3) := by decide +kernel
theorem dX3_walk_227 : decode cX3_walk 227 = .ok (.iload 6, 2) := by decide +kernel
theorem dX3_walk_229 : decode cX3_walk 229 = .ok (.daload, 1) := by decide +kernel
theorem dX3_walk_230 : decode cX3_walk 230 = .ok (.aload_n 0, 1) := by decide +kernel
theorem dX3_walk_231 : decode cX3_walk 231 = .ok (.getfield 9, 3) := by decide +kernel
theorem dX3_walk_234 : decode cX3_walk 234 = .ok (.iload 6, 2) := by decide +kernel
theorem dX3_walk_236 : decode cX3_walk 236 = .ok (.daload, 1) := by decide +kernel
theorem dX3_walk_237 : decode cX3_walk 237 = .ok (.dadd, 1) := by decide +kernel
theorem dX3_walk_238 : decode cX3_walk 238 = .ok (.dload 4, 2) := by decide +kernel
theorem dX3_walk_240 : decode cX3_walk 240 = .ok (.aload_n 0, 1) := by decide +kernel
theorem dX3_walk_241 : decode cX3_walk 241 = .ok (.getfield 18, 3) := by decide +kernel
theorem dX3_walk_244 : decode cX3_walk 244 = .ok (.iload 6, 2) := by decide +kernel
theorem dX3_walk_246 : decode cX3_walk 246 = .ok (.daload, 1) := by decide +kernel
theorem dX3_walk_247 : decode cX3_walk 247 = .ok (.dmul, 1) := by decide +kernel
theorem dX3_walk_248 : decode cX3_walk 248 = .ok (.dadd, 1) := by decide +kernel
theorem dX3_walk_249 : decode cX3_walk 249 = .ok (.dmul, 1) := by decide +kernel
theorem dX3_walk_250 : decode cX3_walk 250 = .ok (.dastore, 1) := by decide +kernel
theorem dX3_walk_251 : decode cX3_walk 251 = .ok (.iinc 6 1, 3) := by decide +kernel
theorem dX3_walk_254 : decode cX3_walk 254 = .ok (.goto (-49), 3) := by decide +kernel
theorem dX3_walk_257 : decode cX3_walk 257 = .ok (.return_, 1) := by decide +kernel
theorem dX4_init_0 : decode cX4_init 0 = .ok (.aload_n 0, 1) := by decide +kernel
theorem dX4_init_1 : decode cX4_init 1 = .ok (.invokespecial 3, 3) := by decide +kernel
theorem dX4_init_4 : decode cX4_init 4 = .ok (.aload_n 0, 1) := by decide +kernel
theorem dX4_init_5 : decode cX4_init 5 = .ok (.iconst 3, 1) := by decide +kernel
theorem dX4_init_6 : decode cX4_init 6 = .ok (.newarray .double, 2) := by decide +kernel
theorem dX4_init_8 : decode cX4_init 8 = .ok (.putfield 9, 3) := by decide +kernel
theorem dX4_init_11 : decode cX4_init 11 = .ok (.aload_n 0, 1) := by decide +kernel
theorem dX4_init_12 : decode cX4_init 12 = .ok (.iconst 3, 1) := by decide +kernel
theorem dX4_init_13 : decode cX4_init 13 = .ok (.newarray .double, 2) := by decide +kernel
theorem dX4_init_15 : decode cX4_init 15 = .ok (.putfield 15, 3) := by decide +kernel
theorem dX4_init_18 : decode cX4_init 18 = .ok (.aload_n 0, 1) := by decide +kernel
theorem dX4_init_19 : decode cX4_init 19 = .ok (.iconst 3, 1) := by decide +kernel
theorem dX4_init_20 : decode cX4_init 20 = .ok (.newarray .double, 2) := by decide +kernel
theorem dX4_init_22 : decode cX4_init 22 = .ok (.putfield 18, 3) := by decide +kernel
theorem dX4_init_25 : decode cX4_init 25 = .ok (.aload_n 0, 1) := by decide +kernel
theorem dX4_init_26 : decode cX4_init 26 = .ok (.iconst 3, 1) := by decide +kernel
theorem dX4_init_27 : decode cX4_init 27 = .ok (.newarray .double, 2) := by decide +kernel
theorem dX4_init_29 : decode cX4_init 29 = .ok (.putfield 21, 3) := by decide +kernel
theorem dX4_init_32 : decode cX4_init 32 = .ok (.aload_n 0, 1) := by decide +kernel
theorem dX4_init_33 : decode cX4_init 33 = .ok (.iconst 3, 1) := by decide +kernel
theorem dX4_init_34 : decode cX4_init 34 = .ok (.newarray .double, 2) := by decide +kernel
theorem dX4_init_36 : decode cX4_init 36 = .ok (.putfield 24, 3) := by decide +kernel
theorem dX4_init_39 : decode cX4_init 39 = .ok (.aload_n 0, 1) := by decide +kernel
theorem dX4_init_40 : decode cX4_init 40 = .ok (.iconst 3, 1) := by decide +kernel
theorem dX4_init_41 : decode cX4_init 41 = .ok (.newarray .double, 2) := by decide +kernel
theorem dX4_init_43 : decode cX4_init 43 = .ok (.putfield 27, 3) := by decide +kernel
theorem dX4_init_46 : decode cX4_init 46 = .ok (.aload_n 0, 1) := by decide +kernel
theorem dX4_init_47 : decode cX4_init 47 = .ok (.aload_n 1, 1) := by decide +kernel
theorem dX4_init_48 : decode cX4_init 48 = .ok (.putfield 30, 3) := by decide +kernel
theorem dX4_init_51 : decode cX4_init 51 = .ok (.aload_n 0, 1) := by decide +kernel
theorem dX4_init_52 : decode cX4_init 52 = .ok (.aload_n 2, 1) := by decide +kernel
theorem dX4_init_53 : decode cX4_init 53 = .ok (.putfield 34, 3) := by decide +kernel
theorem dX4_init_56 : decode cX4_init 56 = .ok (.aload_n 0, 1) := by decide +kernel
theorem dX4_init_57 : decode cX4_init 57 = .ok (.new 37, 3) := by decide +kernel
theorem dX4_init_60 : decode cX4_init 60 = .ok (.dup, 1) := by decide +kernel
theorem dX4_init_61 : decode cX4_init 61 = .ok (.aload_n 1, 1) := by decide +kernel
theorem dX4_init_62 : decode cX4_init 62 = .ok (.invokespecial 39, 3) := by decide +kernel
theorem dX4_init_65 : decode cX4_init 65 = .ok (.putfield 42, 3) := by decide +kernel
theorem dX4_init_68 : decode cX4_init 68 = .ok (.aload_n 0, 1) := by decide +kernel
theorem dX4_init_69 : decode cX4_init 69 = .ok (.new 46, 3) := by decide +kernel
theorem dX4_init_72 : decode cX4_init 72 = .ok (.dup, 1) := by decide +kernel
theorem dX4_init_73 : decode cX4_init 73 = .ok (.aload_n 1, 1) := by decide +kernel
theorem dX4_init_74 : decode cX4_init 74 = .ok (.invokespecial 48, 3) := by decide +kernel
theorem dX4_init_77 : decode cX4_init 77 = .ok (.putfield 49, 3) := by decide +kernel
theorem dX4_init_80 : decode cX4_init 80 = .ok (.return_, 1) := by decide +kernel
theorem dX4_begin_0 : decode cX4_begin 0 = .ok (.aload_n 0, 1) := by decide +kernel
theorem dX4_begin_1 : decode cX4_begin 1 = .ok (.dload_n 1, 1) := by decide +kernel
theorem dX4_begin_2 : decode cX4_begin 2 = .ok (.putfield 53, 3) := by decide +kernel
theorem dX4_begin_5 : decode cX4_begin 5 = .ok (.aload_n 0, 1) := by decide +kernel
theorem dX4_begin_6 : decode cX4_begin 6 = .ok (.dload_n 3, 1) := by decide +kernel
theorem dX4_begin_7 : decode cX4_begin 7 = .ok (.putfield 57, 3) := by decide +kernel
theorem dX4_begin_10 : decode cX4_begin 10 = .ok (.aload_n 0, 1) := by decide +kernel
theorem dX4_begin_11 : decode cX4_begin 11 = .ok (.getfield 30, 3) := by decide +kernel
theorem dX4_begin_14 : decode cX4_begin 14 = .ok (.aload_n 0, 1) := by decide +kernel
theorem dX4_begin_15 : decode cX4_begin 15 = .ok (.getfield 53, 3) := by decide +kernel
theorem dX4_begin_18 : decode cX4_begin 18 = .ok (.aload_n 0, 1) := by decide +kernel
theorem dX4_begin_19 : decode cX4_begin 19 = .ok (.getfield 34, 3) := by decide +kernel
theorem dX4_begin_22 : decode cX4_begin 22 = .ok (.aload_n 0, 1) := by decide +kernel
theorem dX4_begin_23 : decode cX4_begin 23 = .ok (.getfield 24, 3) := by decide +kernel
theorem dX4_begin_26 : decode cX4_begin 26 = .ok (.invokevirtual 60, 3) := by decide +kernel
theorem dX4_begin_29 : decode cX4_begin 29 = .ok (.return_, 1) := by decide +kernel
theorem dX4_reckon_0 : decode cX4_reckon 0 = .ok (.iconst 1, 1) := by decide +kernel
theorem dX4_reckon_1 : decode cX4_reckon 1 = .ok (.istore 4, 2) := by decide +kernel
theorem dX4_reckon_3 : decode cX4_reckon 3 = .ok (.iload_n 1, 1) := by decide +kernel
theorem dX4_reckon_4 : decode cX4_reckon 4 = .ok (.tableswitch 133 0 5 #[40, 133, 63, 70, 89, 122], 40) := by decide +kernel
theorem dX4_reckon_44 : decode cX4_reckon 44 = .ok (.aload_n 0, 1) := by decide +kernel
theorem dX4_reckon_45 : decode cX4_reckon 45 = .ok (.aload_n 0, 1) := by decide +kernel
theorem dX4_reckon_46 : decode cX4_reckon 46 = .ok (.getfield 34, 3) := by decide +kernel
theorem dX4_reckon_49 : decode cX4_reckon 49 = .ok (.aload_n 0, 1) := by decide +kernel
theorem dX4_reckon_50 : decode cX4_reckon 50 = .ok (.getfield 57, 3) := by decide +kernel
theorem dX4_reckon_53 : decode cX4_reckon 53 = .ok (.aload_n 0, 1) := by decide +kernel
theorem dX4_reckon_54 : decode cX4_reckon 54 = .ok (.getfield 24, 3) := by decide +kernel
theorem dX4_reckon_57 : decode cX4_reckon 57 = .ok (.aload_n 0, 1) := by decide +kernel
theorem dX4_reckon_58 : decode cX4_reckon 58 = .ok (.getfield 27, 3) := by decide +kernel
theorem dX4_reckon_61 : decode cX4_reckon 61 = .ok (.invokevirtual 66, 3) := by decide +kernel
theorem dX4_reckon_64 : decode cX4_reckon 64 = .ok (.goto 77, 3) := by decide +kernel
theorem dX4_reckon_67 : decode cX4_reckon 67 = .ok (.aload_n 0, 1) := by decide +kernel
theorem dX4_reckon_68 : decode cX4_reckon 68 = .ok (.invokevirtual 70, 3) := by decide +kernel
theorem dX4_reckon_71 : decode cX4_reckon 71 = .ok (.goto 70, 3) := by decide +kernel
theorem dX4_reckon_74 : decode cX4_reckon 74 = .ok (.iload_n 2, 1) := by decide +kernel
theorem dX4_reckon_75 : decode cX4_reckon 75 = .ok (.ifCond .eq 11, 3) := by decide +kernel
theorem dX4_reckon_78 : decode cX4_reckon 78 = .ok (.aload_n 0, 1) := by decide +kernel
theorem dX4_reckon_79 : decode cX4_reckon 79 = .ok (.aload_n 3, 1) := by decide +kernel
theorem dX4_reckon_80 : decode cX4_reckon 80 = .ok (.invokevirtual 73, 3) := by decide +kernel
theorem dX4_reckon_83 : decode cX4_reckon 83 = .ok (.goto 58, 3) := by decide +kernel
theorem dX4_reckon_86 : decode cX4_reckon 86 = .ok (.aload_n 0, 1) := by decide +kernel
theorem dX4_reckon_87 : decode cX4_reckon 87 = .ok (.invokevirtual 77, 3) := by decide +kernel
theorem dX4_reckon_90 : decode cX4_reckon 90 = .ok (.goto 51, 3) := by decide +kernel
theorem dX4_reckon_93 : decode cX4_reckon 93 = .ok (.aload_n 0, 1) := by decide +kernel
theorem dX4_reckon_94 : decode cX4_reckon 94 = .ok (.getfield 42, 3) := by decide +kernel
theorem dX4_reckon_97 : decode cX4_reckon 97 = .ok (.aload_n 0, 1) := by decide +kernel
theorem dX4_reckon_98 : decode cX4_reckon 98 = .ok (.getfield 53, 3) := by decide +kernel
theorem dX4_reckon_101 : decode cX4_reckon 101 = .ok (.aload_n 0, 1) := by decide +kernel
theorem dX4_reckon_102 : decode cX4_reckon 102 = .ok (.getfield 57, 3) := by decide +kernel
theorem dX4_reckon_105 : decode cX4_reckon 105 = .ok (.dadd, 1) := by decide +kernel
theorem dX4_reckon_106 : decode cX4_reckon 106 = .ok (.aload_n 0, 1) := by decide +kernel
theorem dX4_reckon_107 : decode cX4_reckon 107 = .ok (.getfield 57, 3) := by decide +kernel
theorem dX4_reckon_110 : decode cX4_reckon 110 = .ok (.aload_n 0, 1) := by decide +kernel
theorem dX4_reckon_111 : decode cX4_reckon 111 = .ok (.getfield 34, 3) := by decide +kernel
theorem dX4_reckon_114 : decode cX4_reckon 114 = .ok (.aload_n 0, 1) := by decide +kernel
theorem dX4_reckon_115 : decode cX4_reckon 115 = .ok (.getfield 27, 3) := by decide +kernel
theorem dX4_reckon_118 : decode cX4_reckon 118 = .ok (.invokevirtual 80, 3) := by decide +kernel
theorem dX4_reckon_121 : decode cX4_reckon 121 = .ok (.istore 4, 2) := by decide +kernel
theorem dX4_reckon_123 : decode cX4_reckon 123 = .ok (.goto 18, 3) := by decide +kernel
theorem dX4_reckon_126 : decode cX4_reckon 126 = .ok (.aload_n 0, 1) := by decide +kernel
theorem dX4_reckon_127 : decode cX4_reckon 127 = .ok (.getfield 49, 3) := by decide +kernel
theorem dX4_reckon_130 : decode cX4_reckon 130 = .ok (.aload_n 0, 1) := by decide +kernel
theorem dX4_reckon_131 : decode cX4_reckon 131 = .ok (.invokevirtual 84, 3) := by decide +kernel
theorem dX4_reckon_134 : decode cX4_reckon 134 = .ok (.goto 7, 3) := by decide +kernel
theorem dX4_reckon_137 : decode cX4_reckon 137 = .ok (.aload_n 0, 1) := by decide +kernel
theorem dX4_reckon_138 : decode cX4_reckon 138 = .ok (.invokevirtual 77, 3) := by decide +kernel
theorem dX4_reckon_141 : decode cX4_reckon 141 = .ok (.iload 4, 2) := by decide +kernel
theorem dX4_reckon_143 : decode cX4_reckon 143 = .ok (.ifCond .eq 28, 3) := by decide +kernel
theorem dX4_reckon_146 : decode cX4_reckon 146 = .ok (.aload_n 0, 1) := by decide +kernel
theorem dX4_reckon_147 : decode cX4_reckon 147 = .ok (.getfield 27, 3) := by decide +kernel
theorem dX4_reckon_150 : decode cX4_reckon 150 = .ok (.aload_n 0, 1) := by decide +kernel
theorem dX4_reckon_151 : decode cX4_reckon 151 = .ok (.getfield 30, 3) := by decide +kernel
theorem dX4_reckon_154 : decode cX4_reckon 154 = .ok (.getfield 88, 3) := by decide +kernel
theorem dX4_reckon_157 : decode cX4_reckon 157 = .ok (.invokestatic 92, 3) := by decide +kernel
theorem dX4_reckon_160 : decode cX4_reckon 160 = .ok (.ldc2_w 96, 3) := by decide +kernel
theorem dX4_reckon_163 : decode cX4_reckon 163 = .ok (.dcmp .l, 1) := by decide +kernel
theorem dX4_reckon_164 : decode cX4_reckon 164 = .ok (.ifCond .gt 7, 3) := by decide +kernel
theorem dX4_reckon_167 : decode cX4_reckon 167 = .ok (.iconst 1, 1) := by decide +kernel
theorem dX4_reckon_168 : decode cX4_reckon 168 = .ok (.goto 4, 3) := by decide +kernel
theorem dX4_reckon_171 : decode cX4_reckon 171 = .ok (.iconst 0, 1) := by decide +kernel
theorem dX4_reckon_172 : decode cX4_reckon 172 = .ok (.ireturn, 1) := by decide +kernel
theorem dX4_runge_0 : decode cX4_runge 0 = .ok (.aload_n 0, 1) := by decide +kernel
theorem dX4_runge_1 : decode cX4_runge 1 = .ok (.ldc2_w 98, 3) := by decide +kernel
theorem dX4_runge_4 : decode cX4_runge 4 = .ok (.aload_n 0, 1) := by decide +kernel
theorem dX4_runge_5 : decode cX4_runge 5 = .ok (.getfield 57, 3) := by decide +kernel
theorem dX4_runge_8 : decode cX4_runge 8 = .ok (.dmul, 1) := by decide +kernel
theorem dX4_runge_9 : decode cX4_runge 9 = .ok (.aload_n 0, 1) := by decide +kernel
theorem dX4_runge_10 : decode cX4_runge 10 = .ok (.getfield 24, 3) := by decide +kernel
theorem dX4_runge_13 : decode cX4_runge 13 = .ok (.aload_n 0, 1) := by decide +kernel
theorem dX4_runge_14 : decode cX4_runge 14 = .ok (.getfield 9, 3) := by decide +kernel
theorem dX4_runge_17 : decode cX4_runge 17 = .ok (.invokevirtual 100, 3) := by decide +kernel
theorem dX4_runge_20 : decode cX4_runge 20 = .ok (.aload_n 0, 1) := by decide +kernel
theorem dX4_runge_21 : decode cX4_runge 21 = .ok (.ldc2_w 98, 3) := by decide +kernel
theorem dX4_runge_24 : decode cX4_runge 24 = .ok (.aload_n 0, 1) := by decide +kernel
theorem dX4_runge_25 : decode cX4_runge 25 = .ok (.getfield 57, 3) := by decide +kernel
theorem dX4_runge_28 : decode cX4_runge 28 = .ok (.dmul, 1) := by decide +kernel
theorem dX4_runge_29 : decode cX4_runge 29 = .ok (.aload_n 0, 1) := by decide +kernel
theorem dX4_runge_30 : decode cX4_runge 30 = .ok (.getfield 9, 3) := by decide +kernel
theorem dX4_runge_33 : decode cX4_runge 33 = .ok (.aload_n 0, 1) := by decide +kernel
theorem dX4_runge_34 : decode cX4_runge 34 = .ok (.getfield 15, 3) := by decide +kernel
theorem dX4_runge_37 : decode cX4_runge 37 = .ok (.invokevirtual 100, 3) := by decide +kernel
theorem dX4_runge_40 : decode cX4_runge 40 = .ok (.aload_n 0, 1) := by decide +kernel
theorem dX4_runge_41 : decode cX4_runge 41 = .ok (.aload_n 0, 1) := by decide +kernel
theorem dX4_runge_42 : decode cX4_runge 42 = .ok (.getfield 57, 3) := by decide +kernel
theorem dX4_runge_45 : decode cX4_runge 45 = .ok (.aload_n 0, 1) := by decide +kernel
theorem dX4_runge_46 : decode cX4_runge 46 = .ok (.getfield 15, 3) := by decide +kernel
theorem dX4_runge_49 : decode cX4_runge 49 = .ok (.aload_n 0, 1) := by decide +kernel
theorem dX4_runge_50 : decode cX4_runge 50 = .ok (.getfield 18, 3) := by decide +kernel
theorem dX4_runge_53 : decode cX4_runge 53 = .ok (.invokevirtual 100, 3) := by decide +kernel
theorem dX4_runge_56 : decode cX4_runge 56 = .ok (.iconst 0, 1) := by decide +kernel
theorem dX4_runge_57 : decode cX4_runge 57 = .ok (.istore_n 1, 1) := by decide +kernel
theorem dX4_runge_58 : decode cX4_runge 58 = .ok (.iload_n 1, 1) := by decide +kernel
theorem dX4_runge_59 : decode cX4_runge 59 = .ok (.aload_n 0, 1) := by decide +kernel
theorem dX4_runge_60 : decode cX4_runge 60 = .ok (.getfield 30, 3) := by decide +kernel
theorem dX4_runge_63 : decode cX4_runge 63 = .ok (.getfield 88, 3) := by decide +kernel
theorem dX4_runge_66 : decode cX4_runge 66 = .ok (.if_icmp .ge 66, 3) := by decide +kernel
theorem dX4_runge_69 : decode cX4_runge 69 = .ok (.aload_n 0, 1) := by decide +kernel
theorem dX4_runge_70 : decode cX4_runge 70 = .ok (.getfield 27, 3) := by decide +kernel
theorem dX4_runge_73 : decode cX4_runge 73 = .ok (.iload_n 1, 1) := by decide +kernel
theorem dX4_runge_74 : decode cX4_runge 74 = .ok (.aload_n 0, 1) := by decide +kernel
theorem dX4_runge_75 : decode cX4_runge 75 = .ok (.getfield 34, 3) := by decide +kernel
theorem dX4_runge_78 : decode cX4_runge 78 = .ok (.iload_n 1, 1) := by decide +kernel
theorem dX4_runge_79 : decode cX4_runge 79 = .ok (.daload, 1) := by decide +kernel
theorem dX4_runge_80 : decode cX4_runge 80 = .ok (.aload_n 0, 1) := by decide +kernel
theorem dX4_runge_81 : decode cX4_runge 81 = .ok (.getfield 57, 3) := by decide +kernel
theorem dX4_runge_84 : decode cX4_runge 84 = .ok (.ldc2_w 103, 3) := by decide +kernel
theorem dX4_runge_87 : decode cX4_runge 87 = .ok (.ddiv, 1) := by decide +kernel
theorem dX4_runge_88 : decode cX4_runge 88 = .ok (.aload_n 0, 1) := by decide +kernel
theorem dX4_runge_89 : decode cX4_runge 89 = .ok (.getfield 24, 3) := by decide +kernel
theorem dX4_runge_92 : decode cX4_runge 92 = .ok (.iload_n 1, 1) := by decide +kernel
theorem dX4_runge_93 : decode cX4_runge 93 = .ok (.daload, 1) := by decide +kernel
theorem dX4_runge_94 : decode cX4_runge 94 = .ok (.ldc2_w 105, 3) := by decide +kernel
theorem dX4_runge_97 : decode cX4_runge 97 = .ok (.aload_n 0, 1) := by decide +kernel
theorem dX4_runge_98 : decode cX4_runge 98 = .ok (.getfield 9, 3) := by decide +kernel
theorem dX4_runge_101 : decode cX4_runge 101 = .ok (.iload_n 1, 1) := by decide +kernel
theorem dX4_runge_102 : decode cX4_runge 102 = .ok (.daload, 1) := by decide +kernel
theorem dX4_runge_103 : decode cX4_runge 103 = .ok (.dmul, 1) := by decide +kernel
theorem dX4_runge_104 : decode cX4_runge 104 = .ok (.dadd, 1) := by decide +kernel
theorem dX4_runge_105 : decode cX4_runge 105 = .ok (.ldc2_w 105, 3) := by decide +kernel
theorem dX4_runge_108 : decode cX4_runge 108 = .ok (.aload_n 0, 1) := by decide +kernel
theorem dX4_runge_109 : decode cX4_runge 109 = .ok (.getfield 15, 3) := by decide +kernel
theorem dX4_runge_112 : decode cX4_runge 112 = .ok (.iload_n 1, 1) := by decide +kernel
theorem dX4_runge_113 : decode cX4_runge 113 = .ok (.daload, 1) := by decide +kernel
theorem dX4_runge_114 : decode cX4_runge 114 = .ok (.dmul, 1) := by decide +kernel
theorem dX4_runge_115 : decode cX4_runge 115 = .ok (.dadd, 1) := by decide +kernel
theorem dX4_runge_116 : decode cX4_runge 116 = .ok (.aload_n 0, 1) := by decide +kernel
theorem dX4_runge_117 : decode cX4_runge 117 = .ok (.getfield 18, 3) := by decide +kernel
theorem dX4_runge_120 : decode cX4_runge 120 = .ok (.iload_n 1, 1) := by decide +kernel
theorem dX4_runge_121 : decode cX4_runge 121 = .ok (.daload, 1) := by decide +kernel
theorem dX4_runge_122 : decode cX4_runge 122 = .ok (.dadd, 1) := by decide +kernel
theorem dX4_runge_123 : decode cX4_runge 123 = .ok (.dmul, 1) := by decide +kernel
theorem dX4_runge_124 : decode cX4_runge 124 = .ok (.dadd, 1) := by decide +kernel
theorem dX4_runge_125 : decode cX4_runge 125 = .ok (.dastore, 1) := by decide +kernel
theorem dX4_runge_126 : decode cX4_runge 126 = .ok (.iinc 1 1, 3) := by decide +kernel
theorem dX4_runge_129 : decode cX4_runge 129 = .ok (.goto (-71), 3) := by decide +kernel
theorem dX4_runge_132 : decode cX4_runge 132 = .ok (.return_, 1) := by decide +kernel
theorem dX4_pair_0 : decode cX4_pair 0 = .ok (.aload_n 0, 1) := by decide +kernel
theorem dX4_pair_1 : decode cX4_pair 1 = .ok (.ldc2_w 98, 3) := by decide +kernel
theorem dX4_pair_4 : decode cX4_pair 4 = .ok (.aload_n 0, 1) := by decide +kernel
theorem dX4_pair_5 : decode cX4_pair 5 = .ok (.getfield 57, 3) := by decide +kernel
theorem dX4_pair_8 : decode cX4_pair 8 = .ok (.dmul, 1) := by decide +kernel
theorem dX4_pair_9 : decode cX4_pair 9 = .ok (.aload_n 0, 1) := by decide +kernel
theorem dX4_pair_10 : decode cX4_pair 10 = .ok (.getfield 24, 3) := by decide +kernel
theorem dX4_pair_13 : decode cX4_pair 13 = .ok (.aload_n 0, 1) := by decide +kernel
theorem dX4_pair_14 : decode cX4_pair 14 = .ok (.getfield 9, 3) := by decide +kernel
theorem dX4_pair_17 : decode cX4_pair 17 = .ok (.invokevirtual 100, 3) := by decide +kernel
theorem dX4_pair_20 : decode cX4_pair 20 = .ok (.aload_n 0, 1) := by decide +kernel
theorem dX4_pair_21 : decode cX4_pair 21 = .ok (.ldc2_w 107, 3) := by decide +kernel
theorem dX4_pair_24 : decode cX4_pair 24 = .ok (.aload_n 0, 1) := by decide +kernel
theorem dX4_pair_25 : decode cX4_pair 25 = .ok (.getfield 57, 3) := by decide +kernel
theorem dX4_pair_28 : decode cX4_pair 28 = .ok (.dmul, 1) := by decide +kernel
theorem dX4_pair_29 : decode cX4_pair 29 = .ok (.aload_n 0, 1) := by decide +kernel
theorem dX4_pair_30 : decode cX4_pair 30 = .ok (.getfield 9, 3) := by decide +kernel
theorem dX4_pair_33 : decode cX4_pair 33 = .ok (.aload_n 0, 1) := by decide +kernel
theorem dX4_pair_34 : decode cX4_pair 34 = .ok (.getfield 15, 3) := by decide +kernel
theorem dX4_pair_37 : decode cX4_pair 37 = .ok (.invokevirtual 100, 3) := by decide +kernel
theorem dX4_pair_40 : decode cX4_pair 40 = .ok (.iconst 0, 1) := by decide +kernel
theorem dX4_pair_41 : decode cX4_pair 41 = .ok (.istore_n 1, 1) := by decide +kernel
theorem dX4_pair_42 : decode cX4_pair 42 = .ok (.iload_n 1, 1) := by decide +kernel
theorem dX4_pair_43 : decode cX4_pair 43 = .ok (.aload_n 0, 1) := by decide +kernel
theorem dX4_pair_44 : decode cX4_pair 44 = .ok (.getfield 30, 3) := by decide +kernel
theorem dX4_pair_47 : decode cX4_pair 47 = .ok (.getfield 88, 3) := by decide +kernel
theorem dX4_pair_50 : decode cX4_pair 50 = .ok (.if_icmp .ge 63, 3) := by decide +kernel
theorem dX4_pair_53 : decode cX4_pair 53 = .ok (.aload_n 0, 1) := by decide +kernel
theorem dX4_pair_54 : decode cX4_pair 54 = .ok (.getfield 27, 3) := by decide +kernel
theorem dX4_pair_57 : decode cX4_pair 57 = .ok (.iload_n 1, 1) := by decide +kernel
theorem dX4_pair_58 : decode cX4_pair 58 = .ok (.aload_n 0, 1) := by decide +kernel
theorem dX4_pair_59 : decode cX4_pair 59 = .ok (.getfield 34, 3) := by decide +kernel
theorem dX4_pair_62 : decode cX4_pair 62 = .ok (.iload_n 1, 1) := by decide +kernel
theorem dX4_pair_63 : decode cX4_pair 63 = .ok (.daload, 1) := by decide +kernel
theorem dX4_pair_64 : decode cX4_pair 64 = .ok (.aload_n 0, 1) := by decide +kernel
theorem dX4_pair_65 : decode cX4_pair 65 = .ok (.getfield 57, 3) := by decide +kernel
theorem dX4_pair_68 : decode cX4_pair 68 = .ok (.ldc2_w 109, 3) := by decide +kernel
theorem dX4_pair_71 : decode cX4_pair 71 = .ok (.ddiv, 1) := by decide +kernel
theorem dX4_pair_72 : decode cX4_pair 72 = .ok (.ldc2_w 105, 3) := by decide +kernel
theorem dX4_pair_75 : decode cX4_pair 75 = .ok (.aload_n 0, 1) := by decide +kernel
theorem dX4_pair_76 : decode cX4_pair 76 = .ok (.getfield 24, 3) := by decide +kernel
theorem dX4_pair_79 : decode cX4_pair 79 = .ok (.iload_n 1, 1) := by decide +kernel
theorem dX4_pair_80 : decode cX4_pair 80 = .ok (.daload, 1) := by decide +kernel
theorem dX4_pair_81 : decode cX4_pair 81 = .ok (.dmul, 1) := by decide +kernel
theorem dX4_pair_82 : decode cX4_pair 82 = .ok (.ldc2_w 111, 3) := by decide +kernel
theorem dX4_pair_85 : decode cX4_pair 85 = .ok (.aload_n 0, 1) := by decide +kernel
theorem dX4_pair_86 : decode cX4_pair 86 = .ok (.getfield 9, 3) := by decide +kernel
theorem dX4_pair_89 : decode cX4_pair 89 = .ok (.iload_n 1, 1) := by decide +kernel
theorem dX4_pair_90 : decode cX4_pair 90 = .ok (.daload, 1) := by decide +kernel
theorem dX4_pair_91 : decode cX4_pair 91 = .ok (.dmul, 1) := by decide +kernel
theorem dX4_pair_92 : decode cX4_pair 92 = .ok (.dadd, 1) := by decide +kernel
theorem dX4_pair_93 : decode cX4_pair 93 = .ok (.ldc2_w 113, 3) := by decide +kernel
theorem dX4_pair_96 : decode cX4_pair 96 = .ok (.aload_n 0, 1) := by decide +kernel
theorem dX4_pair_97 : decode cX4_pair 97 = .ok (.getfield 15, 3) := by decide +kernel
theorem dX4_pair_100 : decode cX4_pair 100 = .ok (.iload_n 1, 1) := by decide +kernel
theorem dX4_pair_101 : decode cX4_pair 101 = .ok (.daload, 1) := by decide +kernel
theorem dX4_pair_102 : decode cX4_pair 102 = .ok (.dmul, 1) := by decide +kernel
theorem dX4_pair_103 : decode cX4_pair 103 = .ok (.dadd, 1) := by decide +kernel
theorem dX4_pair_104 : decode cX4_pair 104 = .ok (.dmul, 1) := by decide +kernel
theorem dX4_pair_105 : decode cX4_pair 105 = .ok (.dadd, 1) := by decide +kernel
theorem dX4_pair_106 : decode cX4_pair 106 = .ok (.dastore, 1) := by decide +kernel
theorem dX4_pair_107 : decode cX4_pair 107 = .ok (.iinc 1 1, 3) := by decide +kernel
theorem dX4_pair_110 : decode cX4_pair 110 = .ok (.goto (-68), 3) := by decide +kernel
theorem dX4_pair_113 : decode cX4_pair 113 = .ok (.aload_n 0, 1) := by decide +kernel
theorem dX4_pair_114 : decode cX4_pair 114 = .ok (.getfield 30, 3) := by decide +kernel
theorem dX4_pair_117 : decode cX4_pair 117 = .ok (.aload_n 0, 1) := by decide +kernel
theorem dX4_pair_118 : decode cX4_pair 118 = .ok (.getfield 53, 3) := by decide +kernel
theorem dX4_pair_121 : decode cX4_pair 121 = .ok (.aload_n 0, 1) := by decide +kernel
theorem dX4_pair_122 : decode cX4_pair 122 = .ok (.getfield 57, 3) := by decide +kernel
theorem dX4_pair_125 : decode cX4_pair 125 = .ok (.dadd, 1) := by decide +kernel
theorem dX4_pair_126 : decode cX4_pair 126 = .ok (.aload_n 0, 1) := by decide +kernel
theorem dX4_pair_127 : decode cX4_pair 127 = .ok (.getfield 27, 3) := by decide +kernel
theorem dX4_pair_130 : decode cX4_pair 130 = .ok (.aload_n 0, 1) := by decide +kernel
theorem dX4_pair_131 : decode cX4_pair 131 = .ok (.getfield 18, 3) := by decide +kernel
theorem dX4_pair_134 : decode cX4_pair 134 = .ok (.invokevirtual 60, 3) := by decide +kernel
theorem dX4_pair_137 : decode cX4_pair 137 = .ok (.iconst 0, 1) := by decide +kernel
theorem dX4_pair_138 : decode cX4_pair 138 = .ok (.istore_n 1, 1) := by decide +kernel
theorem dX4_pair_139 : decode cX4_pair 139 = .ok (.iload_n 1, 1) := by decide +kernel
theorem dX4_pair_140 : decode cX4_pair 140 = .ok (.aload_n 0, 1) := by decide +kernel
theorem dX4_pair_141 : decode cX4_pair 141 = .ok (.getfield 30, 3) := by decide +kernel
theorem dX4_pair_144 : decode cX4_pair 144 = .ok (.getfield 88, 3) := by decide +kernel
theorem dX4_pair_147 : decode cX4_pair 147 = .ok (.if_icmp .ge 67, 3) := by decide +kernel
theorem dX4_pair_150 : decode cX4_pair 150 = .ok (.aload_n 0, 1) := by decide +kernel
theorem dX4_pair_151 : decode cX4_pair 151 = .ok (.getfield 21, 3) := by decide +kernel
theorem dX4_pair_154 : decode cX4_pair 154 = .ok (.iload_n 1, 1) := by decide +kernel
theorem dX4_pair_155 : decode cX4_pair 155 = .ok (.aload_n 0, 1) := by decide +kernel
theorem dX4_pair_156 : decode cX4_pair 156 = .ok (.getfield 57, 3) := by decide +kernel
theorem dX4_pair_159 : decode cX4_pair 159 = .ok (.ldc2_w 115, 3) := by decide +kernel
theorem dX4_pair_162 : decode cX4_pair 162 = .ok (.ddiv, 1) := by decide +kernel
theorem dX4_pair_163 : decode cX4_pair 163 = .ok (.ldc2_w 103, 3) := by decide +kernel
theorem dX4_pair_166 : decode cX4_pair 166 = .ok (.aload_n 0, 1) := by decide +kernel
theorem dX4_pair_167 : decode cX4_pair 167 = .ok (.getfield 9, 3) := by decide +kernel
theorem dX4_pair_170 : decode cX4_pair 170 = .ok (.iload_n 1, 1) := by decide +kernel
theorem dX4_pair_171 : decode cX4_pair 171 = .ok (.daload, 1) := by decide +kernel
theorem dX4_pair_172 : decode cX4_pair 172 = .ok (.dmul, 1) := by decide +kernel
theorem dX4_pair_173 : decode cX4_pair 173 = .ok (.ldc2_w 117, 3) := by decide +kernel
theorem dX4_pair_176 : decode cX4_pair 176 = .ok (.aload_n 0, 1) := by decide +kernel
theorem dX4_pair_177 : decode cX4_pair 177 = .ok (.getfield 15, 3) := by decide +kernel
theorem dX4_pair_180 : decode cX4_pair 180 = .ok (.iload_n 1, 1) := by decide +kernel
theorem dX4_pair_181 : decode cX4_pair 181 = .ok (.daload, 1) := by decide +kernel
theorem dX4_pair_182 : decode cX4_pair 182 = .ok (.dmul, 1) := by decide +kernel
theorem dX4_pair_183 : decode cX4_pair 183 = .ok (.dadd, 1) := by decide +kernel
theorem dX4_pair_184 : decode cX4_pair 184 = .ok (.ldc2_w 119, 3) := by decide +kernel
theorem dX4_pair_187 : decode cX4_pair 187 = .ok (.aload_n 0, 1) := by decide +kernel
theorem dX4_pair_188 : decode cX4_pair 188 = .ok (.getfield 24, 3) := by decide +kernel
theorem dX4_pair_191 : decode cX4_pair 191 = .ok (.iload_n 1, 1) := by decide +kernel
theorem dX4_pair_192 : decode cX4_pair 192 = .ok (.daload, 1) := by decide +kernel
theorem dX4_pair_193 : decode cX4_pair 193 = .ok (.dmul, 1) := by decide +kernel
theorem dX4_pair_194 : decode cX4_pair 194 = .ok (.dsub, 1) := by decide +kernel
theorem dX4_pair_195 : decode cX4_pair 195 = .ok (.ldc2_w 109, 3) := by decide +kernel
theorem dX4_pair_198 : decode cX4_pair 198 = .ok (.aload_n 0, 1) := by decide +kernel
theorem dX4_pair_199 : decode cX4_pair 199 = .ok (.getfield 18, 3) := by decide +kernel
theorem dX4_pair_202 : decode cX4_pair 202 = .ok (.iload_n 1, 1) := by decide +kernel
theorem dX4_pair_203 : decode cX4_pair 203 = .ok (.daload, 1) := by decide +kernel
theorem dX4_pair_204 : decode cX4_pair 204 = .ok (.dmul, 1) := by decide +kernel
theorem dX4_pair_205 : decode cX4_pair 205 = .ok (.dsub, 1) := by decide +kernel
theorem dX4_pair_206 : decode cX4_pair 206 = .ok (.dmul, 1) := by decide +kernel
theorem dX4_pair_207 : decode cX4_pair 207 = .ok (.dastore, 1) := by decide +kernel
theorem dX4_pair_208 : decode cX4_pair 208 = .ok (.iinc 1 1, 3) := by decide +kernel
theorem dX4_pair_211 : decode cX4_pair 211 = .ok (.goto (-72), 3) := by decide +kernel
theorem dX4_pair_214 : decode cX4_pair 214 = .ok (.aload_n 0, 1) := by decide +kernel
theorem dX4_pair_215 : decode cX4_pair 215 = .ok (.aload_n 0, 1) := by decide +kernel
theorem dX4_pair_216 : decode cX4_pair 216 = .ok (.getfield 21, 3) := by decide +kernel
theorem dX4_pair_219 : decode cX4_pair 219 = .ok (.aload_n 0, 1) := by decide +kernel
theorem dX4_pair_220 : decode cX4_pair 220 = .ok (.getfield 30, 3) := by decide +kernel
theorem dX4_pair_223 : decode cX4_pair 223 = .ok (.getfield 88, 3) := by decide +kernel
theorem dX4_pair_226 : decode cX4_pair 226 = .ok (.invokestatic 92, 3) := by decide +kernel
theorem dX4_pair_229 : decode cX4_pair 229 = .ok (.putfield 121, 3) := by decide +kernel
theorem dX4_pair_232 : decode cX4_pair 232 = .ok (.return_, 1) := by decide +kernel
theorem dX4_adams_0 : decode cX4_adams 0 = .ok (.iconst 0, 1) := by decide +kernel
theorem dX4_adams_1 : decode cX4_adams 1 = .ok (.istore_n 2, 1) := by decide +kernel
theorem dX4_adams_2 : decode cX4_adams 2 = .ok (.iload_n 2, 1) := by decide +kernel
theorem dX4_adams_3 : decode cX4_adams 3 = .ok (.aload_n 0, 1) := by decide +kernel
theorem dX4_adams_4 : decode cX4_adams 4 = .ok (.getfield 30, 3) := by decide +kernel
theorem dX4_adams_7 : decode cX4_adams 7 = .ok (.getfield 88, 3) := by decide +kernel
theorem dX4_adams_10 : decode cX4_adams 10 = .ok (.if_icmp .ge 45, 3) := by decide +kernel
theorem dX4_adams_13 : decode cX4_adams 13 = .ok (.aload_n 0, 1) := by decide +kernel
theorem dX4_adams_14 : decode cX4_adams 14 = .ok (.getfield 21, 3) := by decide +kernel
theorem dX4_adams_17 : decode cX4_adams 17 = .ok (.iload_n 2, 1) := by decide +kernel
theorem dX4_adams_18 : decode cX4_adams 18 = .ok (.aload_n 0, 1) := by decide +kernel
theorem dX4_adams_19 : decode cX4_adams 19 = .ok (.getfield 34, 3) := by decide +kernel
theorem dX4_adams_22 : decode cX4_adams 22 = .ok (.iload_n 2, 1) := by decide +kernel
theorem dX4_adams_23 : decode cX4_adams 23 = .ok (.daload, 1) := by decide +kernel
theorem dX4_adams_24 : decode cX4_adams 24 = .ok (.aload_n 0, 1) := by decide +kernel
theorem dX4_adams_25 : decode cX4_adams 25 = .ok (.getfield 57, 3) := by decide +kernel
theorem dX4_adams_28 : decode cX4_adams 28 = .ok (.ldc2_w 124, 3) := by decide +kernel
theorem dX4_adams_31 : decode cX4_adams 31 = .ok (.aload_n 0, 1) := by decide +kernel
theorem dX4_adams_32 : decode cX4_adams 32 = .ok (.getfield 24, 3) := by decide +kernel
theorem dX4_adams_35 : decode cX4_adams 35 = .ok (.iload_n 2, 1) := by decide +kernel
theorem dX4_adams_36 : decode cX4_adams 36 = .ok (.daload, 1) := by decide +kernel
theorem dX4_adams_37 : decode cX4_adams 37 = .ok (.dmul, 1) := by decide +kernel
theorem dX4_adams_38 : decode cX4_adams 38 = .ok (.ldc2_w 98, 3) := by decide +kernel
theorem dX4_adams_41 : decode cX4_adams 41 = .ok (.aload_n 1, 1) := by decide +kernel
theorem dX4_adams_42 : decode cX4_adams 42 = .ok (.iload_n 2, 1) := by decide +kernel
theorem dX4_adams_43 : decode cX4_adams 43 = .ok (.daload, 1) := by decide +kernel
theorem dX4_adams_44 : decode cX4_adams 44 = .ok (.dmul, 1) := by decide +kernel
theorem dX4_adams_45 : decode cX4_adams 45 = .ok (.dsub, 1) := by decide +kernel
theorem dX4_adams_46 : decode cX4_adams 46 = .ok (.dmul, 1) := by decide +kernel
theorem dX4_adams_47 : decode cX4_adams 47 = .ok (.dadd, 1) := by decide +kernel
theorem dX4_adams_48 : decode cX4_adams 48 = .ok (.dastore, 1) := by decide +kernel
theorem dX4_adams_49 : decode cX4_adams 49 = .ok (.iinc 2 1, 3) := by decide +kernel
theorem dX4_adams_52 : decode cX4_adams 52 = .ok (.goto (-50), 3) := by decide +kernel
theorem dX4_adams_55 : decode cX4_adams 55 = .ok (.aload_n 0, 1) := by decide +kernel
theorem dX4_adams_56 : decode cX4_adams 56 = .ok (.getfield 30, 3) := by decide +kernel
theorem dX4_adams_59 : decode cX4_adams 59 = .ok (.aload_n 0, 1) := by decide +kernel
theorem dX4_adams_60 : decode cX4_adams 60 = .ok (.getfield 53, 3) := by decide +kernel
theorem dX4_adams_63 : decode cX4_adams 63 = .ok (.aload_n 0, 1) := by decide +kernel
theorem dX4_adams_64 : decode cX4_adams 64 = .ok (.getfield 57, 3) := by decide +kernel
theorem dX4_adams_67 : decode cX4_adams 67 = .ok (.dadd, 1) := by decide +kernel
theorem dX4_adams_68 : decode cX4_adams 68 = .ok (.aload_n 0, 1) := by decide +kernel
theorem dX4_adams_69 : decode cX4_adams 69 = .ok (.getfield 21, 3) := by decide +kernel
theorem dX4_adams_72 : decode cX4_adams 72 = .ok (.aload_n 0, 1) := by decide +kernel
theorem dX4_adams_73 : decode cX4_adams 73 = .ok (.getfield 9, 3) := by decide +kernel
theorem dX4_adams_76 : decode cX4_adams 76 = .ok (.invokevirtual 60, 3) := by decide +kernel
theorem dX4_adams_79 : decode cX4_adams 79 = .ok (.iconst 0, 1) := by decide +kernel
theorem dX4_adams_80 : decode cX4_adams 80 = .ok (.istore_n 2, 1) := by decide +kernel
theorem dX4_adams_81 : decode cX4_adams 81 = .ok (.iload_n 2, 1) := by decide +kernel
theorem dX4_adams_82 : decode cX4_adams 82 = .ok (.aload_n 0, 1) := by decide +kernel
theorem dX4_adams_83 : decode cX4_adams 83 = .ok (.getfield 30, 3) := by decide +kernel
theorem dX4_adams_86 : decode cX4_adams 86 = .ok (.getfield 88, 3) := by decide +kernel
theorem dX4_adams_89 : decode cX4_adams 89 = .ok (.if_icmp .ge 44, 3) := by decide +kernel
theorem dX4_adams_92 : decode cX4_adams 92 = .ok (.aload_n 0, 1) := by decide +kernel
theorem dX4_adams_93 : decode cX4_adams 93 = .ok (.getfield 27, 3) := by decide +kernel
theorem dX4_adams_96 : decode cX4_adams 96 = .ok (.iload_n 2, 1) := by decide +kernel
theorem dX4_adams_97 : decode cX4_adams 97 = .ok (.aload_n 0, 1) := by decide +kernel
theorem dX4_adams_98 : decode cX4_adams 98 = .ok (.getfield 34, 3) := by decide +kernel
theorem dX4_adams_101 : decode cX4_adams 101 = .ok (.iload_n 2, 1) := by decide +kernel
theorem dX4_adams_102 : decode cX4_adams 102 = .ok (.daload, 1) := by decide +kernel
theorem dX4_adams_103 : decode cX4_adams 103 = .ok (.ldc2_w 98, 3) := by decide +kernel
theorem dX4_adams_106 : decode cX4_adams 106 = .ok (.aload_n 0, 1) := by decide +kernel
theorem dX4_adams_107 : decode cX4_adams 107 = .ok (.getfield 57, 3) := by decide +kernel
theorem dX4_adams_110 : decode cX4_adams 110 = .ok (.dmul, 1) := by decide +kernel
theorem dX4_adams_111 : decode cX4_adams 111 = .ok (.aload_n 0, 1) := by decide +kernel
theorem dX4_adams_112 : decode cX4_adams 112 = .ok (.getfield 9, 3) := by decide +kernel
theorem dX4_adams_115 : decode cX4_adams 115 = .ok (.iload_n 2, 1) := by decide +kernel
theorem dX4_adams_116 : decode cX4_adams 116 = .ok (.daload, 1) := by decide +kernel
theorem dX4_adams_117 : decode cX4_adams 117 = .ok (.aload_n 0, 1) := by decide +kernel
theorem dX4_adams_118 : decode cX4_adams 118 = .ok (.getfield 24, 3) := by decide +kernel
theorem dX4_adams_121 : decode cX4_adams 121 = .ok (.iload_n 2, 1) := by decide +kernel
theorem dX4_adams_122 : decode cX4_adams 122 = .ok (.daload, 1) := by decide +kernel
theorem dX4_adams_123 : decode cX4_adams 123 = .ok (.dadd, 1) := by decide +kernel
theorem dX4_adams_124 : decode cX4_adams 124 = .ok (.dmul, 1) := by decide +kernel
theorem dX4_adams_125 : decode cX4_adams 125 = .ok (.dadd, 1) := by decide +kernel
theorem dX4_adams_126 : decode cX4_adams 126 = .ok (.dastore, 1) := by decide +kernel
theorem dX4_adams_127 : decode cX4_adams 127 = .ok (.iinc 2 1, 3) := by decide +kernel
theorem dX4_adams_130 : decode cX4_adams 130 = .ok (.goto (-49), 3) := by decide +kernel
theorem dX4_adams_133 : decode cX4_adams 133 = .ok (.return_, 1) := by decide +kernel
theorem dX4_slopesAfter_0 : decode cX4_slopesAfter 0 = .ok (.aload_n 0, 1) := by decide +kernel
theorem dX4_slopesAfter_1 : decode cX4_slopesAfter 1 = .ok (.aload_n 0, 1) := by decide +kernel
theorem dX4_slopesAfter_2 : decode cX4_slopesAfter 2 = .ok (.getfield 34, 3) := by decide +kernel
theorem dX4_slopesAfter_5 : decode cX4_slopesAfter 5 = .ok (.dload_n 1, 1) := by decide +kernel
theorem dX4_slopesAfter_6 : decode cX4_slopesAfter 6 = .ok (.aload_n 3, 1) := by decide +kernel
theorem dX4_slopesAfter_7 : decode cX4_slopesAfter 7 = .ok (.aload_n 0, 1) := by decide +kernel
theorem dX4_slopesAfter_8 : decode cX4_slopesAfter 8 = .ok (.getfield 21, 3) := by decide +kernel
theorem dX4_slopesAfter_11 : decode cX4_slopesAfter 11 = .ok (.invokevirtual 66, 3) := by decide +kernel
theorem dX4_slopesAfter_14 : decode cX4_slopesAfter 14 = .ok (.aload_n 0, 1) := by decide +kernel
theorem dX4_slopesAfter_15 : decode cX4_slopesAfter 15 = .ok (.getfield 30, 3) := by decide +kernel
theorem dX4_slopesAfter_18 : decode cX4_slopesAfter 18 = .ok (.aload_n 0, 1) := by decide +kernel
theorem dX4_slopesAfter_19 : decode cX4_slopesAfter 19 = .ok (.getfield 53, 3) := by decide +kernel
theorem dX4_slopesAfter_22 : decode cX4_slopesAfter 22 = .ok (.dload_n 1, 1) := by decide +kernel
theorem dX4_slopesAfter_23 : decode cX4_slopesAfter 23 = .ok (.dadd, 1) := by decide +kernel
theorem dX4_slopesAfter_24 : decode cX4_slopesAfter 24 = .ok (.aload_n 0, 1) := by decide +kernel
theorem dX4_slopesAfter_25 : decode cX4_slopesAfter 25 = .ok (.getfield 21, 3) := by decide +kernel
theorem dX4_slopesAfter_28 : decode cX4_slopesAfter 28 = .ok (.aload 4, 2) := by decide +kernel
theorem dX4_slopesAfter_30 : decode cX4_slopesAfter 30 = .ok (.invokevirtual 60, 3) := by decide +kernel
theorem dX4_slopesAfter_33 : decode cX4_slopesAfter 33 = .ok (.return_, 1) := by decide +kernel
theorem dX4_move_0 : decode cX4_move 0 = .ok (.iconst 0, 1) := by decide +kernel
theorem dX4_move_1 : decode cX4_move 1 = .ok (.istore 6, 2) := by decide +kernel
theorem dX4_move_3 : decode cX4_move 3 = .ok (.iload 6, 2) := by decide +kernel
theorem dX4_move_5 : decode cX4_move 5 = .ok (.aload_n 0, 1) := by decide +kernel
theorem dX4_move_6 : decode cX4_move 6 = .ok (.getfield 30, 3) := by decide +kernel
theorem dX4_move_9 : decode cX4_move 9 = .ok (.getfield 88, 3) := by decide +kernel
theorem dX4_move_12 : decode cX4_move 12 = .ok (.if_icmp .ge 26, 3) := by decide +kernel
theorem dX4_move_15 : decode cX4_move 15 = .ok (.aload 5, 2) := by decide +kernel
theorem dX4_move_17 : decode cX4_move 17 = .ok (.iload 6, 2) := by decide +kernel
theorem dX4_move_19 : decode cX4_move 19 = .ok (.aload_n 1, 1) := by decide +kernel
theorem dX4_move_20 : decode cX4_move 20 = .ok (.iload 6, 2) := by decide +kernel
theorem dX4_move_22 : decode cX4_move 22 = .ok (.daload, 1) := by decide +kernel
theorem dX4_move_23 : decode cX4_move 23 = .ok (.dload_n 2, 1) := by decide +kernel
theorem dX4_move_24 : decode cX4_move 24 = .ok (.aload 4, 2) := by decide +kernel
theorem dX4_move_26 : decode cX4_move 26 = .ok (.iload 6, 2) := by decide +kernel
theorem dX4_move_28 : decode cX4_move 28 = .ok (.daload, 1) := by decide +kernel
theorem dX4_move_29 : decode cX4_move 29 = .ok (.dmul, 1) := by decide +kernel
theorem dX4_move_30 : decode cX4_move 30 = .ok (.dadd, 1) := by decide +kernel
theorem dX4_move_31 : decode cX4_move 31 = .ok (.dastore, 1) := by decide +kernel
theorem dX4_move_32 : decode cX4_move 32 = .ok (.iinc 6 1, 3) := by decide +kernel
theorem dX4_move_35 : decode cX4_move 35 = .ok (.goto (-32), 3) := by decide +kernel
theorem dX4_move_38 : decode cX4_move 38 = .ok (.return_, 1) := by decide +kernel
theorem dX5_init_0 : decode cX5_init 0 = .ok (.aload_n 0, 1) := by decide +kernel
theorem dX5_init_1 : decode cX5_init 1 = .ok (.invokespecial 1, 3) := by decide +kernel
theorem dX5_init_4 : decode cX5_init 4 = .ok (.aload_n 0, 1) := by decide +kernel
theorem dX5_init_5 : decode cX5_init 5 = .ok (.bipush 8, 2) := by decide +kernel
theorem dX5_init_7 : decode cX5_init 7 = .ok (.newarray .double, 2) := by decide +kernel
theorem dX5_init_9 : decode cX5_init 9 = .ok (.putfield 9, 3) := by decide +kernel
theorem dX5_init_12 : decode cX5_init 12 = .ok (.return_, 1) := by decide +kernel
theorem dX5_clear_0 : decode cX5_clear 0 = .ok (.aload_n 0, 1) := by decide +kernel
theorem dX5_clear_1 : decode cX5_clear 1 = .ok (.iconst 0, 1) := by decide +kernel
theorem dX5_clear_2 : decode cX5_clear 2 = .ok (.putfield 13, 3) := by decide +kernel
theorem dX5_clear_5 : decode cX5_clear 5 = .ok (.aload_n 0, 1) := by decide +kernel
theorem dX5_clear_6 : decode cX5_clear 6 = .ok (.iconst 0, 1) := by decide +kernel
theorem dX5_clear_7 : decode cX5_clear 7 = .ok (.putfield 17, 3) := by decide +kernel
theorem dX5_clear_10 : decode cX5_clear 10 = .ok (.return_, 1) := by decide +kernel
theorem dX5_turnTo_0 : decode cX5_turnTo 0 = .ok (.aload_n 0, 1) := by decide +kernel
theorem dX5_turnTo_1 : decode cX5_turnTo 1 = .ok (.iconst 1, 1) := by decide +kernel
theorem dX5_turnTo_2 : decode cX5_turnTo 2 = .ok (.putfield 13, 3) := by decide +kernel
theorem dX5_turnTo_5 : decode cX5_turnTo 5 = .ok (.aload_n 0, 1) := by decide +kernel
theorem dX5_turnTo_6 : decode cX5_turnTo 6 = .ok (.iload_n 1, 1) := by decide +kernel
theorem dX5_turnTo_7 : decode cX5_turnTo 7 = .ok (.putfield 21, 3) := by decide +kernel
theorem dX5_turnTo_10 : decode cX5_turnTo 10 = .ok (.aload_n 0, 1) := by decide +kernel
theorem dX5_turnTo_11 : decode cX5_turnTo 11 = .ok (.dload_n 2, 1) := by decide +kernel
theorem dX5_turnTo_12 : decode cX5_turnTo 12 = .ok (.putfield 24, 3) := by decide +kernel
theorem dX5_turnTo_15 : decode cX5_turnTo 15 = .ok (.return_, 1) := by decide +kernel
theorem dX5_remembers_0 : decode cX5_remembers 0 = .ok (.iload_n 1, 1) := by decide +kernel
theorem dX5_remembers_1 : decode cX5_remembers 1 = .ok (.ifCond .lt 21, 3) := by decide +kernel
theorem dX5_remembers_4 : decode cX5_remembers 4 = .ok (.iload_n 1, 1) := by decide +kernel
theorem dX5_remembers_5 : decode cX5_remembers 5 = .ok (.bipush 8, 2) := by decide +kernel
theorem dX5_remembers_7 : decode cX5_remembers 7 = .ok (.if_icmp .ge 15, 3) := by decide +kernel
theorem dX5_remembers_10 : decode cX5_remembers 10 = .ok (.iload_n 1, 1) := by decide +kernel
theorem dX5_remembers_11 : decode cX5_remembers 11 = .ok (.aload_n 0, 1) := by decide +kernel
theorem dX5_remembers_12 : decode cX5_remembers 12 = .ok (.getfield 17, 3) := by decide +kernel
theorem dX5_remembers_15 : decode cX5_remembers 15 = .ok (.if_icmp .ge 7, 3) := by decide +kernel
theorem dX5_remembers_18 : decode cX5_remembers 18 = .ok (.iconst 1, 1) := by decide +kernel
theorem dX5_remembers_19 : decode cX5_remembers 19 = .ok (.goto 4, 3) := by decide +kernel
theorem dX5_remembers_22 : decode cX5_remembers 22 = .ok (.iconst 0, 1) := by decide +kernel
theorem dX5_remembers_23 : decode cX5_remembers 23 = .ok (.ireturn, 1) := by decide +kernel
theorem dX5_latest_0 : decode cX5_latest 0 = .ok (.aload_n 0, 1) := by decide +kernel
theorem dX5_latest_1 : decode cX5_latest 1 = .ok (.getfield 9, 3) := by decide +kernel
theorem dX5_latest_4 : decode cX5_latest 4 = .ok (.aload_n 0, 1) := by decide +kernel
theorem dX5_latest_5 : decode cX5_latest 5 = .ok (.getfield 17, 3) := by decide +kernel
theorem dX5_latest_8 : decode cX5_latest 8 = .ok (.iconst 1, 1) := by decide +kernel
theorem dX5_latest_9 : decode cX5_latest 9 = .ok (.isub, 1) := by decide +kernel
theorem dX5_latest_10 : decode cX5_latest 10 = .ok (.iload_n 1, 1) := by decide +kernel
theorem dX5_latest_11 : decode cX5_latest 11 = .ok (.isub, 1) := by decide +kernel
theorem dX5_latest_12 : decode cX5_latest 12 = .ok (.bipush 8, 2) := by decide +kernel
theorem dX5_latest_14 : decode cX5_latest 14 = .ok (.invokestatic 28, 3) := by decide +kernel
theorem dX5_latest_17 : decode cX5_latest 17 = .ok (.daload, 1) := by decide +kernel
theorem dX5_latest_18 : decode cX5_latest 18 = .ok (.dreturn, 1) := by decide +kernel
theorem dX5_look_0 : decode cX5_look 0 = .ok (.aload_n 0, 1) := by decide +kernel
theorem dX5_look_1 : decode cX5_look 1 = .ok (.getfield 13, 3) := by decide +kernel
theorem dX5_look_4 : decode cX5_look 4 = .ok (.ifCond .ne 4, 3) := by decide +kernel
theorem dX5_look_7 : decode cX5_look 7 = .ok (.return_, 1) := by decide +kernel
theorem dX5_look_8 : decode cX5_look 8 = .ok (.aload_n 0, 1) := by decide +kernel
theorem dX5_look_9 : decode cX5_look 9 = .ok (.aload_n 1, 1) := by decide +kernel
theorem dX5_look_10 : decode cX5_look 10 = .ok (.getfield 34, 3) := by decide +kernel
theorem dX5_look_13 : decode cX5_look 13 = .ok (.aload_n 0, 1) := by decide +kernel
theorem dX5_look_14 : decode cX5_look 14 = .ok (.getfield 21, 3) := by decide +kernel
theorem dX5_look_17 : decode cX5_look 17 = .ok (.daload, 1) := by decide +kernel
theorem dX5_look_18 : decode cX5_look 18 = .ok (.invokevirtual 39, 3) := by decide +kernel
theorem dX5_look_21 : decode cX5_look 21 = .ok (.istore_n 2, 1) := by decide +kernel
theorem dX5_look_22 : decode cX5_look 22 = .ok (.aload_n 0, 1) := by decide +kernel
theorem dX5_look_23 : decode cX5_look 23 = .ok (.aload_n 1, 1) := by decide +kernel
theorem dX5_look_24 : decode cX5_look 24 = .ok (.getfield 43, 3) := by decide +kernel
theorem dX5_look_27 : decode cX5_look 27 = .ok (.aload_n 0, 1) := by decide +kernel
theorem dX5_look_28 : decode cX5_look 28 = .ok (.getfield 21, 3) := by decide +kernel
theorem dX5_look_31 : decode cX5_look 31 = .ok (.daload, 1) := by decide +kernel
theorem dX5_look_32 : decode cX5_look 32 = .ok (.invokevirtual 39, 3) := by decide +kernel
theorem dX5_look_35 : decode cX5_look 35 = .ok (.iload_n 2, 1) := by decide +kernel
theorem dX5_look_36 : decode cX5_look 36 = .ok (.if_icmp .eq 33, 3) := by decide +kernel
theorem dX5_look_39 : decode cX5_look 39 = .ok (.aload_n 0, 1) := by decide +kernel
theorem dX5_look_40 : decode cX5_look 40 = .ok (.getfield 9, 3) := by decide +kernel
theorem dX5_look_43 : decode cX5_look 43 = .ok (.aload_n 0, 1) := by decide +kernel
theorem dX5_look_44 : decode cX5_look 44 = .ok (.getfield 17, 3) := by decide +kernel
theorem dX5_look_47 : decode cX5_look 47 = .ok (.bipush 8, 2) := by decide +kernel
theorem dX5_look_49 : decode cX5_look 49 = .ok (.invokestatic 28, 3) := by decide +kernel
theorem dX5_look_52 : decode cX5_look 52 = .ok (.aload_n 0, 1) := by decide +kernel
theorem dX5_look_53 : decode cX5_look 53 = .ok (.aload_n 1, 1) := by decide +kernel
theorem dX5_look_54 : decode cX5_look 54 = .ok (.iload_n 2, 1) := by decide +kernel
theorem dX5_look_55 : decode cX5_look 55 = .ok (.invokevirtual 46, 3) := by decide +kernel
theorem dX5_look_58 : decode cX5_look 58 = .ok (.dastore, 1) := by decide +kernel
theorem dX5_look_59 : decode cX5_look 59 = .ok (.aload_n 0, 1) := by decide +kernel
theorem dX5_look_60 : decode cX5_look 60 = .ok (.dup, 1) := by decide +kernel
theorem dX5_look_61 : decode cX5_look 61 = .ok (.getfield 17, 3) := by decide +kernel
theorem dX5_look_64 : decode cX5_look 64 = .ok (.iconst 1, 1) := by decide +kernel
theorem dX5_look_65 : decode cX5_look 65 = .ok (.iadd, 1) := by decide +kernel
theorem dX5_look_66 : decode cX5_look 66 = .ok (.putfield 17, 3) := by decide +kernel
theorem dX5_look_69 : decode cX5_look 69 = .ok (.return_, 1) := by decide +kernel
theorem dX5_crossing_0 : decode cX5_crossing 0 = .ok (.dconst 0, 1) := by decide +kernel
theorem dX5_crossing_1 : decode cX5_crossing 1 = .ok (.dstore_n 3, 1) := by decide +kernel
theorem dX5_crossing_2 : decode cX5_crossing 2 = .ok (.dconst 1, 1) := by decide +kernel
theorem dX5_crossing_3 : decode cX5_crossing 3 = .ok (.dstore 5, 2) := by decide +kernel
theorem dX5_crossing_5 : decode cX5_crossing 5 = .ok (.ldc2_w 50, 3) := by decide +kernel
theorem dX5_crossing_8 : decode cX5_crossing 8 = .ok (.dstore 7, 2) := by decide +kernel
theorem dX5_crossing_10 : decode cX5_crossing 10 = .ok (.iconst 0, 1) := by decide +kernel
theorem dX5_crossing_11 : decode cX5_crossing 11 = .ok (.istore 9, 2) := by decide +kernel
theorem dX5_crossing_13 : decode cX5_crossing 13 = .ok (.iload 9, 2) := by decide +kernel
theorem dX5_crossing_15 : decode cX5_crossing 15 = .ok (.bipush 20, 2) := by decide +kernel
theorem dX5_crossing_17 : decode cX5_crossing 17 = .ok (.if_icmp .ge 47, 3) := by decide +kernel
theorem dX5_crossing_20 : decode cX5_crossing 20 = .ok (.ldc2_w 50, 3) := by decide +kernel
theorem dX5_crossing_23 : decode cX5_crossing 23 = .ok (.dload_n 3, 1) := by decide +kernel
theorem dX5_crossing_24 : decode cX5_crossing 24 = .ok (.dload 5, 2) := by decide +kernel
theorem dX5_crossing_26 : decode cX5_crossing 26 = .ok (.dadd, 1) := by decide +kernel
theorem dX5_crossing_27 : decode cX5_crossing 27 = .ok (.dmul, 1) := by decide +kernel
theorem dX5_crossing_28 : decode cX5_crossing 28 = .ok (.dstore 7, 2) := by decide +kernel
theorem dX5_crossing_30 : decode cX5_crossing 30 = .ok (.aload_n 0, 1) := by decide +kernel
theorem dX5_crossing_31 : decode cX5_crossing 31 = .ok (.aload_n 1, 1) := by decide +kernel
theorem dX5_crossing_32 : decode cX5_crossing 32 = .ok (.aload_n 0, 1) := by decide +kernel
theorem dX5_crossing_33 : decode cX5_crossing 33 = .ok (.getfield 21, 3) := by decide +kernel
theorem dX5_crossing_36 : decode cX5_crossing 36 = .ok (.dload 7, 2) := by decide +kernel
theorem dX5_crossing_38 : decode cX5_crossing 38 = .ok (.invokevirtual 52, 3) := by decide +kernel
theorem dX5_crossing_41 : decode cX5_crossing 41 = .ok (.invokevirtual 39, 3) := by decide +kernel
theorem dX5_crossing_44 : decode cX5_crossing 44 = .ok (.iload_n 2, 1) := by decide +kernel
theorem dX5_crossing_45 : decode cX5_crossing 45 = .ok (.if_icmp .ne 9, 3) := by decide +kernel
theorem dX5_crossing_48 : decode cX5_crossing 48 = .ok (.dload 7, 2) := by decide +kernel
theorem dX5_crossing_50 : decode cX5_crossing 50 = .ok (.dstore_n 3, 1) := by decide +kernel
theorem dX5_crossing_51 : decode cX5_crossing 51 = .ok (.goto 7, 3) := by decide +kernel
theorem dX5_crossing_54 : decode cX5_crossing 54 = .ok (.dload 7, 2) := by decide +kernel
theorem dX5_crossing_56 : decode cX5_crossing 56 = .ok (.dstore 5, 2) := by decide +kernel
theorem dX5_crossing_58 : decode cX5_crossing 58 = .ok (.iinc 9 1, 3) := by decide +kernel
theorem dX5_crossing_61 : decode cX5_crossing 61 = .ok (.goto (-48), 3) := by decide +kernel
theorem dX5_crossing_64 : decode cX5_crossing 64 = .ok (.aload_n 1, 1) := by decide +kernel
theorem dX5_crossing_65 : decode cX5_crossing 65 = .ok (.getfield 56, 3) := by decide +kernel
theorem dX5_crossing_68 : decode cX5_crossing 68 = .ok (.dload 7, 2) := by decide +kernel
theorem dX5_crossing_70 : decode cX5_crossing 70 = .ok (.aload_n 1, 1) := by decide +kernel
theorem dX5_crossing_71 : decode cX5_crossing 71 = .ok (.getfield 59, 3) := by decide +kernel
theorem dX5_crossing_74 : decode cX5_crossing 74 = .ok (.dmul, 1) := by decide +kernel
theorem dX5_crossing_75 : decode cX5_crossing 75 = .ok (.dadd, 1) := by decide +kernel
theorem dX5_crossing_76 : decode cX5_crossing 76 = .ok (.dreturn, 1) := by decide +kernel
theorem dX5_isAbove_0 : decode cX5_isAbove 0 = .ok (.dload_n 1, 1) := by decide +kernel
theorem dX5_isAbove_1 : decode cX5_isAbove 1 = .ok (.aload_n 0, 1) := by decide +kernel
theorem dX5_isAbove_2 : decode cX5_isAbove 2 = .ok (.getfield 24, 3) := by decide +kernel
theorem dX5_isAbove_5 : decode cX5_isAbove 5 = .ok (.dsub, 1) := by decide +kernel
theorem dX5_isAbove_6 : decode cX5_isAbove 6 = .ok (.dconst 0, 1) := by decide +kernel
theorem dX5_isAbove_7 : decode cX5_isAbove 7 = .ok (.dcmp .l, 1) := by decide +kernel
theorem dX5_isAbove_8 : decode cX5_isAbove 8 = .ok (.ifCond .lt 7, 3) := by decide +kernel
theorem dX5_isAbove_11 : decode cX5_isAbove 11 = .ok (.iconst 1, 1) := by decide +kernel
theorem dX5_isAbove_12 : decode cX5_isAbove 12 = .ok (.goto 4, 3) := by decide +kernel
theorem dX5_isAbove_15 : decode cX5_isAbove 15 = .ok (.iconst 0, 1) := by decide +kernel
theorem dX5_isAbove_16 : decode cX5_isAbove 16 = .ok (.ireturn, 1) := by decide +kernel
theorem dX6_init_0 : decode cX6_init 0 = .ok (.aload_n 0, 1) := by decide +kernel
theorem dX6_init_1 : decode cX6_init 1 = .ok (.invokespecial 1, 3) := by decide +kernel
theorem dX6_init_4 : decode cX6_init 4 = .ok (.aload_n 0, 1) := by decide +kernel
theorem dX6_init_5 : decode cX6_init 5 = .ok (.iconst 3, 1) := by decide +kernel
theorem dX6_init_6 : decode cX6_init 6 = .ok (.newarray .double, 2) := by decide +kernel
theorem dX6_init_8 : decode cX6_init 8 = .ok (.putfield 9, 3) := by decide +kernel
theorem dX6_init_11 : decode cX6_init 11 = .ok (.aload_n 0, 1) := by decide +kernel
theorem dX6_init_12 : decode cX6_init 12 = .ok (.iconst 3, 1) := by decide +kernel
theorem dX6_init_13 : decode cX6_init 13 = .ok (.newarray .double, 2) := by decide +kernel
theorem dX6_init_15 : decode cX6_init 15 = .ok (.putfield 13, 3) := by decide +kernel
theorem dX6_init_18 : decode cX6_init 18 = .ok (.aload_n 0, 1) := by decide +kernel
theorem dX6_init_19 : decode cX6_init 19 = .ok (.new 16, 3) := by decide +kernel
theorem dX6_init_22 : decode cX6_init 22 = .ok (.dup, 1) := by decide +kernel
theorem dX6_init_23 : decode cX6_init 23 = .ok (.invokespecial 18, 3) := by decide +kernel
theorem dX6_init_26 : decode cX6_init 26 = .ok (.putfield 19, 3) := by decide +kernel
theorem dX6_init_29 : decode cX6_init 29 = .ok (.aload_n 0, 1) := by decide +kernel
theorem dX6_init_30 : decode cX6_init 30 = .ok (.new 23, 3) := by decide +kernel
theorem dX6_init_33 : decode cX6_init 33 = .ok (.dup, 1) := by decide +kernel
theorem dX6_init_34 : decode cX6_init 34 = .ok (.aload_n 0, 1) := by decide +kernel
theorem dX6_init_35 : decode cX6_init 35 = .ok (.getfield 19, 3) := by decide +kernel
theorem dX6_init_38 : decode cX6_init 38 = .ok (.aload_n 0, 1) := by decide +kernel
theorem dX6_init_39 : decode cX6_init 39 = .ok (.getfield 9, 3) := by decide +kernel
theorem dX6_init_42 : decode cX6_init 42 = .ok (.invokespecial 25, 3) := by decide +kernel
theorem dX6_init_45 : decode cX6_init 45 = .ok (.putfield 28, 3) := by decide +kernel
theorem dX6_init_48 : decode cX6_init 48 = .ok (.aload_n 0, 1) := by decide +kernel
theorem dX6_init_49 : decode cX6_init 49 = .ok (.new 32, 3) := by decide +kernel
theorem dX6_init_52 : decode cX6_init 52 = .ok (.dup, 1) := by decide +kernel
theorem dX6_init_53 : decode cX6_init 53 = .ok (.aload_n 0, 1) := by decide +kernel
theorem dX6_init_54 : decode cX6_init 54 = .ok (.getfield 19, 3) := by decide +kernel
theorem dX6_init_57 : decode cX6_init 57 = .ok (.invokespecial 34, 3) := by decide +kernel
theorem dX6_init_60 : decode cX6_init 60 = .ok (.putfield 37, 3) := by decide +kernel
theorem dX6_init_63 : decode cX6_init 63 = .ok (.aload_n 0, 1) := by decide +kernel
theorem dX6_init_64 : decode cX6_init 64 = .ok (.new 41, 3) := by decide +kernel
theorem dX6_init_67 : decode cX6_init 67 = .ok (.dup, 1) := by decide +kernel
theorem dX6_init_68 : decode cX6_init 68 = .ok (.invokespecial 43, 3) := by decide +kernel
theorem dX6_init_71 : decode cX6_init 71 = .ok (.putfield 44, 3) := by decide +kernel
theorem dX6_init_74 : decode cX6_init 74 = .ok (.aload_n 0, 1) := by decide +kernel
theorem dX6_init_75 : decode cX6_init 75 = .ok (.iconst 1, 1) := by decide +kernel
theorem dX6_init_76 : decode cX6_init 76 = .ok (.invokevirtual 48, 3) := by decide +kernel
theorem dX6_init_79 : decode cX6_init 79 = .ok (.return_, 1) := by decide +kernel
theorem dX6_system_0 : decode cX6_system 0 = .ok (.iload_n 1, 1) := by decide +kernel
theorem dX6_system_1 : decode cX6_system 1 = .ok (.iconst 1, 1) := by decide +kernel
theorem dX6_system_2 : decode cX6_system 2 = .ok (.if_icmp .lt 8, 3) := by decide +kernel
theorem dX6_system_5 : decode cX6_system 5 = .ok (.iload_n 1, 1) := by decide +kernel
theorem dX6_system_6 : decode cX6_system 6 = .ok (.iconst 3, 1) := by decide +kernel
theorem dX6_system_7 : decode cX6_system 7 = .ok (.if_icmp .le 13, 3) := by decide +kernel
theorem dX6_system_10 : decode cX6_system 10 = .ok (.new 52, 3) := by decide +kernel
theorem dX6_system_13 : decode cX6_system 13 = .ok (.dup, 1) := by decide +kernel
theorem dX6_system_14 : decode cX6_system 14 = .ok (.ldc 54, 2) := by decide +kernel
theorem dX6_system_16 : decode cX6_system 16 = .ok (.invokespecial 56, 3) := by decide +kernel
theorem dX6_system_19 : decode cX6_system 19 = .ok (.athrow, 1) := by decide +kernel
theorem dX6_system_20 : decode cX6_system 20 = .ok (.aload_n 0, 1) := by decide +kernel
theorem dX6_system_21 : decode cX6_system 21 = .ok (.iload_n 1, 1) := by decide +kernel
theorem dX6_system_22 : decode cX6_system 22 = .ok (.invokevirtual 48, 3) := by decide +kernel
theorem dX6_system_25 : decode cX6_system 25 = .ok (.return_, 1) := by decide +kernel
theorem dX6_term_0 : decode cX6_term 0 = .ok (.aload_n 0, 1) := by decide +kernel
theorem dX6_term_1 : decode cX6_term 1 = .ok (.getfield 19, 3) := by decide +kernel
theorem dX6_term_4 : decode cX6_term 4 = .ok (.iload_n 1, 1) := by decide +kernel
theorem dX6_term_5 : decode cX6_term 5 = .ok (.invokevirtual 59, 3) := by decide +kernel
theorem dX6_term_8 : decode cX6_term 8 = .ok (.ifCond .eq 27, 3) := by decide +kernel
theorem dX6_term_11 : decode cX6_term 11 = .ok (.aload_n 0, 1) := by decide +kernel
theorem dX6_term_12 : decode cX6_term 12 = .ok (.getfield 19, 3) := by decide +kernel
theorem dX6_term_15 : decode cX6_term 15 = .ok (.iload 4, 2) := by decide +kernel
theorem dX6_term_17 : decode cX6_term 17 = .ok (.invokevirtual 63, 3) := by decide +kernel
theorem dX6_term_20 : decode cX6_term 20 = .ok (.ifCond .eq 15, 3) := by decide +kernel
theorem dX6_term_23 : decode cX6_term 23 = .ok (.aload_n 0, 1) := by decide +kernel
theorem dX6_term_24 : decode cX6_term 24 = .ok (.getfield 19, 3) := by decide +kernel
theorem dX6_term_27 : decode cX6_term 27 = .ok (.iload 5, 2) := by decide +kernel
theorem dX6_term_29 : decode cX6_term 29 = .ok (.invokevirtual 63, 3) := by decide +kernel
theorem dX6_term_32 : decode cX6_term 32 = .ok (.ifCond .ne 13, 3) := by decide +kernel
theorem dX6_term_35 : decode cX6_term 35 = .ok (.new 52, 3) := by decide +kernel
theorem dX6_term_38 : decode cX6_term 38 = .ok (.dup, 1) := by decide +kernel
theorem dX6_term_39 : decode cX6_term 39 = .ok (.ldc 66, 2) := by decide +kernel
theorem dX6_term_41 : decode cX6_term 41 = .ok (.invokespecial 56, 3) := by decide +kernel
theorem dX6_term_44 : decode cX6_term 44 = .ok (.athrow, 1) := by decide +kernel
theorem dX6_term_45 : decode cX6_term 45 = .ok (.dload_n 2, 1) := by decide +kernel
theorem dX6_term_46 : decode cX6_term 46 = .ok (.ldc2_w 68, 3) := by decide +kernel
theorem dX6_term_49 : decode cX6_term 49 = .ok (.invokestatic 70, 3) := by decide +kernel
theorem dX6_term_52 : decode cX6_term 52 = .ok (.ifCond .ne 13, 3) := by decide +kernel
theorem dX6_term_55 : decode cX6_term 55 = .ok (.new 52, 3) := by decide +kernel
theorem dX6_term_58 : decode cX6_term 58 = .ok (.dup, 1) := by decide +kernel
theorem dX6_term_59 : decode cX6_term 59 = .ok (.ldc 74, 2) := by decide +kernel
theorem dX6_term_61 : decode cX6_term 61 = .ok (.invokespecial 56, 3) := by decide +kernel
theorem dX6_term_64 : decode cX6_term 64 = .ok (.athrow, 1) := by decide +kernel
theorem dX6_term_65 : decode cX6_term 65 = .ok (.aload_n 0, 1) := by decide +kernel
theorem dX6_term_66 : decode cX6_term 66 = .ok (.getfield 19, 3) := by decide +kernel
theorem dX6_term_69 : decode cX6_term 69 = .ok (.invokevirtual 76, 3) := by decide +kernel
theorem dX6_term_72 : decode cX6_term 72 = .ok (.ifCond .eq 13, 3) := by decide +kernel
theorem dX6_term_75 : decode cX6_term 75 = .ok (.new 80, 3) := by decide +kernel
theorem dX6_term_78 : decode cX6_term 78 = .ok (.dup, 1) := by decide +kernel
theorem dX6_term_79 : decode cX6_term 79 = .ok (.ldc 82, 2) := by decide +kernel
theorem dX6_term_81 : decode cX6_term 81 = .ok (.invokespecial 84, 3) := by decide +kernel
theorem dX6_term_84 : decode cX6_term 84 = .ok (.athrow, 1) := by decide +kernel
theorem dX6_term_85 : decode cX6_term 85 = .ok (.aload_n 0, 1) := by decide +kernel
theorem dX6_term_86 : decode cX6_term 86 = .ok (.getfield 19, 3) := by decide +kernel
theorem dX6_term_89 : decode cX6_term 89 = .ok (.iload_n 1, 1) := by decide +kernel
theorem dX6_term_90 : decode cX6_term 90 = .ok (.dload_n 2, 1) := by decide +kernel
theorem dX6_term_91 : decode cX6_term 91 = .ok (.iload 4, 2) := by decide +kernel
theorem dX6_term_93 : decode cX6_term 93 = .ok (.iload 5, 2) := by decide +kernel
theorem dX6_term_95 : decode cX6_term 95 = .ok (.invokevirtual 85, 3) := by decide +kernel
theorem dX6_term_98 : decode cX6_term 98 = .ok (.aload_n 0, 1) := by decide +kernel
theorem dX6_term_99 : decode cX6_term 99 = .ok (.invokevirtual 89, 3) := by decide +kernel
theorem dX6_term_102 : decode cX6_term 102 = .ok (.aload_n 0, 1) := by decide +kernel
theorem dX6_term_103 : decode cX6_term 103 = .ok (.getfield 19, 3) := by decide +kernel
theorem dX6_term_106 : decode cX6_term 106 = .ok (.getfield 92, 3) := by decide +kernel
theorem dX6_term_109 : decode cX6_term 109 = .ok (.ireturn, 1) := by decide +kernel
theorem dX6_value_0 : decode cX6_value 0 = .ok (.aload_n 0, 1) := by decide +kernel
theorem dX6_value_1 : decode cX6_value 1 = .ok (.getfield 19, 3) := by decide +kernel
theorem dX6_value_4 : decode cX6_value 4 = .ok (.iload_n 1, 1) := by decide +kernel
theorem dX6_value_5 : decode cX6_value 5 = .ok (.invokevirtual 59, 3) := by decide +kernel
theorem dX6_value_8 : decode cX6_value 8 = .ok (.ifCond .eq 13, 3) := by decide +kernel
theorem dX6_value_11 : decode cX6_value 11 = .ok (.dload_n 2, 1) := by decide +kernel
theorem dX6_value_12 : decode cX6_value 12 = .ok (.ldc2_w 96, 3) := by decide +kernel
theorem dX6_value_15 : decode cX6_value 15 = .ok (.invokestatic 70, 3) := by decide +kernel
theorem dX6_value_18 : decode cX6_value 18 = .ok (.ifCond .ne 13, 3) := by decide +kernel
theorem dX6_value_21 : decode cX6_value 21 = .ok (.new 52, 3) := by decide +kernel
theorem dX6_value_24 : decode cX6_value 24 = .ok (.dup, 1) := by decide +kernel
theorem dX6_value_25 : decode cX6_value 25 = .ok (.ldc 98, 2) := by decide +kernel
theorem dX6_value_27 : decode cX6_value 27 = .ok (.invokespecial 56, 3) := by decide +kernel
theorem dX6_value_30 : decode cX6_value 30 = .ok (.athrow, 1) := by decide +kernel
theorem dX6_value_31 : decode cX6_value 31 = .ok (.aload_n 0, 1) := by decide +kernel
theorem dX6_value_32 : decode cX6_value 32 = .ok (.getfield 9, 3) := by decide +kernel
theorem dX6_value_35 : decode cX6_value 35 = .ok (.iload_n 1, 1) := by decide +kernel
theorem dX6_value_36 : decode cX6_value 36 = .ok (.dload_n 2, 1) := by decide +kernel
theorem dX6_value_37 : decode cX6_value 37 = .ok (.dastore, 1) := by decide +kernel
theorem dX6_value_38 : decode cX6_value 38 = .ok (.aload_n 0, 1) := by decide +kernel
theorem dX6_value_39 : decode cX6_value 39 = .ok (.invokevirtual 89, 3) := by decide +kernel
theorem dX6_value_42 : decode cX6_value 42 = .ok (.return_, 1) := by decide +kernel
theorem dX6_size_0 : decode cX6_size 0 = .ok (.dload_n 1, 1) := by decide +kernel
theorem dX6_size_1 : decode cX6_size 1 = .ok (.invokestatic 100, 3) := by decide +kernel
theorem dX6_size_4 : decode cX6_size 4 = .ok (.ifCond .eq 10, 3) := by decide +kernel
theorem dX6_size_7 : decode cX6_size 7 = .ok (.dload_n 3, 1) := by decide +kernel
theorem dX6_size_8 : decode cX6_size 8 = .ok (.invokestatic 100, 3) := by decide +kernel
theorem dX6_size_11 : decode cX6_size 11 = .ok (.ifCond .ne 13, 3) := by decide +kernel
theorem dX6_size_14 : decode cX6_size 14 = .ok (.new 52, 3) := by decide +kernel
theorem dX6_size_17 : decode cX6_size 17 = .ok (.dup, 1) := by decide +kernel
theorem dX6_size_18 : decode cX6_size 18 = .ok (.ldc 104, 2) := by decide +kernel
theorem dX6_size_20 : decode cX6_size 20 = .ok (.invokespecial 56, 3) := by decide +kernel
theorem dX6_size_23 : decode cX6_size 23 = .ok (.athrow, 1) := by decide +kernel
theorem dX6_size_24 : decode cX6_size 24 = .ok (.aload_n 0, 1) := by decide +kernel
theorem dX6_size_25 : decode cX6_size 25 = .ok (.dload_n 1, 1) := by decide +kernel
theorem dX6_size_26 : decode cX6_size 26 = .ok (.putfield 106, 3) := by decide +kernel
theorem dX6_size_29 : decode cX6_size 29 = .ok (.aload_n 0, 1) := by decide +kernel
theorem dX6_size_30 : decode cX6_size 30 = .ok (.dload_n 3, 1) := by decide +kernel
theorem dX6_size_31 : decode cX6_size 31 = .ok (.putfield 110, 3) := by decide +kernel
theorem dX6_size_34 : decode cX6_size 34 = .ok (.return_, 1) := by decide +kernel
theorem dX6_step_0 : decode cX6_step 0 = .ok (.iload_n 1, 1) := by decide +kernel
theorem dX6_step_1 : decode cX6_step 1 = .ok (.invokestatic 113, 3) := by decide +kernel
theorem dX6_step_4 : decode cX6_step 4 = .ok (.ifCond .ne 13, 3) := by decide +kernel
theorem dX6_step_7 : decode cX6_step 7 = .ok (.new 52, 3) := by decide +kernel
theorem dX6_step_10 : decode cX6_step 10 = .ok (.dup, 1) := by decide +kernel
theorem dX6_step_11 : decode cX6_step 11 = .ok (.ldc 116, 2) := by decide +kernel
theorem dX6_step_13 : decode cX6_step 13 = .ok (.invokespecial 56, 3) := by decide +kernel
theorem dX6_step_16 : decode cX6_step 16 = .ok (.athrow, 1) := by decide +kernel
theorem dX6_step_17 : decode cX6_step 17 = .ok (.aload_n 0, 1) := by decide +kernel
theorem dX6_step_18 : decode cX6_step 18 = .ok (.iload_n 1, 1) := by decide +kernel
theorem dX6_step_19 : decode cX6_step 19 = .ok (.aload_n 0, 1) := by decide +kernel
theorem dX6_step_20 : decode cX6_step 20 = .ok (.getfield 106, 3) := by decide +kernel
theorem dX6_step_23 : decode cX6_step 23 = .ok (.invokevirtual 118, 3) := by decide +kernel
theorem dX6_step_26 : decode cX6_step 26 = .ok (.ifCond .ne 17, 3) := by decide +kernel
theorem dX6_step_29 : decode cX6_step 29 = .ok (.aload_n 0, 1) := by decide +kernel
theorem dX6_step_30 : decode cX6_step 30 = .ok (.invokevirtual 122, 3) := by decide +kernel
theorem dX6_step_33 : decode cX6_step 33 = .ok (.new 125, 3) := by decide +kernel
theorem dX6_step_36 : decode cX6_step 36 = .ok (.dup, 1) := by decide +kernel
theorem dX6_step_37 : decode cX6_step 37 = .ok (.ldc 127, 2) := by decide +kernel
theorem dX6_step_39 : decode cX6_step 39 = .ok (.invokespecial 129, 3) := by decide +kernel
theorem dX6_step_42 : decode cX6_step 42 = .ok (.athrow, 1) := by decide +kernel
theorem dX6_step_43 : decode cX6_step 43 = .ok (.aload_n 0, 1) := by decide +kernel
theorem dX6_step_44 : decode cX6_step 44 = .ok (.iload_n 1, 1) := by decide +kernel
theorem dX6_step_45 : decode cX6_step 45 = .ok (.aload_n 0, 1) := by decide +kernel
theorem dX6_step_46 : decode cX6_step 46 = .ok (.getfield 130, 3) := by decide +kernel
theorem dX6_step_49 : decode cX6_step 49 = .ok (.aload_n 0, 1) := by decide +kernel
theorem dX6_step_50 : decode cX6_step 50 = .ok (.getfield 106, 3) := by decide +kernel
theorem dX6_step_53 : decode cX6_step 53 = .ok (.dadd, 1) := by decide +kernel
theorem dX6_step_54 : decode cX6_step 54 = .ok (.invokevirtual 133, 3) := by decide +kernel
theorem dX6_step_57 : decode cX6_step 57 = .ok (.return_, 1) := by decide +kernel
theorem dX6_go_0 : decode cX6_go 0 = .ok (.iload_n 1, 1) := by decide +kernel
theorem dX6_go_1 : decode cX6_go 1 = .ok (.invokestatic 113, 3) := by decide +kernel
theorem dX6_go_4 : decode cX6_go 4 = .ok (.ifCond .eq 25, 3) := by decide +kernel
theorem dX6_go_7 : decode cX6_go 7 = .ok (.dload_n 2, 1) := by decide +kernel
theorem dX6_go_8 : decode cX6_go 8 = .ok (.aload_n 0, 1) := by decide +kernel
theorem dX6_go_9 : decode cX6_go 9 = .ok (.getfield 130, 3) := by decide +kernel
theorem dX6_go_12 : decode cX6_go 12 = .ok (.dcmp .l, 1) := by decide +kernel
theorem dX6_go_13 : decode cX6_go 13 = .ok (.ifCond .le 16, 3) := by decide +kernel
theorem dX6_go_16 : decode cX6_go 16 = .ok (.dload_n 2, 1) := by decide +kernel
theorem dX6_go_17 : decode cX6_go 17 = .ok (.aload_n 0, 1) := by decide +kernel
theorem dX6_go_18 : decode cX6_go 18 = .ok (.getfield 130, 3) := by decide +kernel
theorem dX6_go_21 : decode cX6_go 21 = .ok (.ldc2_w 137, 3) := by decide +kernel
theorem dX6_go_24 : decode cX6_go 24 = .ok (.dadd, 1) := by decide +kernel
theorem dX6_go_25 : decode cX6_go 25 = .ok (.dcmp .l, 1) := by decide +kernel
theorem dX6_go_26 : decode cX6_go 26 = .ok (.ifCond .le 13, 3) := by decide +kernel
theorem dX6_go_29 : decode cX6_go 29 = .ok (.new 52, 3) := by decide +kernel
theorem dX6_go_32 : decode cX6_go 32 = .ok (.dup, 1) := by decide +kernel
theorem dX6_go_33 : decode cX6_go 33 = .ok (.ldc 139, 2) := by decide +kernel
theorem dX6_go_35 : decode cX6_go 35 = .ok (.invokespecial 56, 3) := by decide +kernel
theorem dX6_go_38 : decode cX6_go 38 = .ok (.athrow, 1) := by decide +kernel
theorem dX6_go_39 : decode cX6_go 39 = .ok (.aload_n 0, 1) := by decide +kernel
theorem dX6_go_40 : decode cX6_go 40 = .ok (.getfield 141, 3) := by decide +kernel
theorem dX6_go_43 : decode cX6_go 43 = .ok (.istore 4, 2) := by decide +kernel
theorem dX6_go_45 : decode cX6_go 45 = .ok (.iconst 0, 1) := by decide +kernel
theorem dX6_go_46 : decode cX6_go 46 = .ok (.istore 5, 2) := by decide +kernel
theorem dX6_go_48 : decode cX6_go 48 = .ok (.iload 5, 2) := by decide +kernel
theorem dX6_go_50 : decode cX6_go 50 = .ok (.bipush 100, 2) := by decide +kernel
theorem dX6_go_52 : decode cX6_go 52 = .ok (.if_icmp .ge 37, 3) := by decide +kernel
theorem dX6_go_55 : decode cX6_go 55 = .ok (.aload_n 0, 1) := by decide +kernel
theorem dX6_go_56 : decode cX6_go 56 = .ok (.getfield 130, 3) := by decide +kernel
theorem dX6_go_59 : decode cX6_go 59 = .ok (.dload_n 2, 1) := by decide +kernel
theorem dX6_go_60 : decode cX6_go 60 = .ok (.dcmp .g, 1) := by decide +kernel
theorem dX6_go_61 : decode cX6_go 61 = .ok (.ifCond .ge 28, 3) := by decide +kernel
theorem dX6_go_64 : decode cX6_go 64 = .ok (.aload_n 0, 1) := by decide +kernel
theorem dX6_go_65 : decode cX6_go 65 = .ok (.iload_n 1, 1) := by decide +kernel
theorem dX6_go_66 : decode cX6_go 66 = .ok (.dload_n 2, 1) := by decide +kernel
theorem dX6_go_67 : decode cX6_go 67 = .ok (.invokevirtual 144, 3) := by decide +kernel
theorem dX6_go_70 : decode cX6_go 70 = .ok (.ifCond .ne 13, 3) := by decide +kernel
theorem dX6_go_73 : decode cX6_go 73 = .ok (.new 125, 3) := by decide +kernel
theorem dX6_go_76 : decode cX6_go 76 = .ok (.dup, 1) := by decide +kernel
theorem dX6_go_77 : decode cX6_go 77 = .ok (.ldc 147, 2) := by decide +kernel
theorem dX6_go_79 : decode cX6_go 79 = .ok (.invokespecial 129, 3) := by decide +kernel
theorem dX6_go_82 : decode cX6_go 82 = .ok (.athrow, 1) := by decide +kernel
theorem dX6_go_83 : decode cX6_go 83 = .ok (.iinc 5 1, 3) := by decide +kernel
theorem dX6_go_86 : decode cX6_go 86 = .ok (.goto (-38), 3) := by decide +kernel
theorem dX6_go_89 : decode cX6_go 89 = .ok (.aload_n 0, 1) := by decide +kernel
theorem dX6_go_90 : decode cX6_go 90 = .ok (.getfield 130, 3) := by decide +kernel
theorem dX6_go_93 : decode cX6_go 93 = .ok (.dload_n 2, 1) := by decide +kernel
theorem dX6_go_94 : decode cX6_go 94 = .ok (.dcmp .g, 1) := by decide +kernel
theorem dX6_go_95 : decode cX6_go 95 = .ok (.ifCond .ge 13, 3) := by decide +kernel
theorem dX6_go_98 : decode cX6_go 98 = .ok (.new 125, 3) := by decide +kernel
theorem dX6_go_101 : decode cX6_go 101 = .ok (.dup, 1) := by decide +kernel
theorem dX6_go_102 : decode cX6_go 102 = .ok (.ldc 149, 2) := by decide +kernel
theorem dX6_go_104 : decode cX6_go 104 = .ok (.invokespecial 129, 3) := by decide +kernel
theorem dX6_go_107 : decode cX6_go 107 = .ok (.athrow, 1) := by decide +kernel
theorem dX6_go_108 : decode cX6_go 108 = .ok (.aload_n 0, 1) := by decide +kernel
theorem dX6_go_109 : decode cX6_go 109 = .ok (.getfield 141, 3) := by decide +kernel
theorem dX6_go_112 : decode cX6_go 112 = .ok (.iload 4, 2) := by decide +kernel
theorem dX6_go_114 : decode cX6_go 114 = .ok (.isub, 1) := by decide +kernel
theorem dX6_go_115 : decode cX6_go 115 = .ok (.ireturn, 1) := by decide +kernel
theorem dX6_watch_0 : decode cX6_watch 0 = .ok (.aload_n 0, 1) := by decide +kernel
theorem dX6_watch_1 : decode cX6_watch 1 = .ok (.getfield 19, 3) := by decide +kernel
theorem dX6_watch_4 : decode cX6_watch 4 = .ok (.iload_n 1, 1) := by decide +kernel
theorem dX6_watch_5 : decode cX6_watch 5 = .ok (.invokevirtual 59, 3) := by decide +kernel
theorem dX6_watch_8 : decode cX6_watch 8 = .ok (.ifCond .eq 13, 3) := by decide +kernel
theorem dX6_watch_11 : decode cX6_watch 11 = .ok (.dload_n 2, 1) := by decide +kernel
theorem dX6_watch_12 : decode cX6_watch 12 = .ok (.ldc2_w 96, 3) := by decide +kernel
theorem dX6_watch_15 : decode cX6_watch 15 = .ok (.invokestatic 70, 3) := by decide +kernel
theorem dX6_watch_18 : decode cX6_watch 18 = .ok (.ifCond .ne 13, 3) := by decide +kernel
theorem dX6_watch_21 : decode cX6_watch 21 = .ok (.new 52, 3) := by decide +kernel
theorem dX6_watch_24 : decode cX6_watch 24 = .ok (.dup, 1) := by decide +kernel
theorem dX6_watch_25 : decode cX6_watch 25 = .ok (.ldc 151, 2) := by decide +kernel
theorem dX6_watch_27 : decode cX6_watch 27 = .ok (.invokespecial 56, 3) := by decide +kernel
theorem dX6_watch_30 : decode cX6_watch 30 = .ok (.athrow, 1) := by decide +kernel
theorem dX6_watch_31 : decode cX6_watch 31 = .ok (.aload_n 0, 1) := by decide +kernel
theorem dX6_watch_32 : decode cX6_watch 32 = .ok (.getfield 44, 3) := by decide +kernel
theorem dX6_watch_35 : decode cX6_watch 35 = .ok (.iload_n 1, 1) := by decide +kernel
theorem dX6_watch_36 : decode cX6_watch 36 = .ok (.dload_n 2, 1) := by decide +kernel
theorem dX6_watch_37 : decode cX6_watch 37 = .ok (.invokevirtual 153, 3) := by decide +kernel
theorem dX6_watch_40 : decode cX6_watch 40 = .ok (.return_, 1) := by decide +kernel
theorem dX6_events_0 : decode cX6_events 0 = .ok (.aload_n 0, 1) := by decide +kernel
theorem dX6_events_1 : decode cX6_events 1 = .ok (.getfield 44, 3) := by decide +kernel
theorem dX6_events_4 : decode cX6_events 4 = .ok (.getfield 156, 3) := by decide +kernel
theorem dX6_events_7 : decode cX6_events 7 = .ok (.ireturn, 1) := by decide +kernel
theorem dX6_event_0 : decode cX6_event 0 = .ok (.aload_n 0, 1) := by decide +kernel
theorem dX6_event_1 : decode cX6_event 1 = .ok (.getfield 44, 3) := by decide +kernel
theorem dX6_event_4 : decode cX6_event 4 = .ok (.iload_n 1, 1) := by decide +kernel
theorem dX6_event_5 : decode cX6_event 5 = .ok (.invokevirtual 157, 3) := by decide +kernel
theorem dX6_event_8 : decode cX6_event 8 = .ok (.ifCond .ne 13, 3) := by decide +kernel
theorem dX6_event_11 : decode cX6_event 11 = .ok (.new 160, 3) := by decide +kernel
theorem dX6_event_14 : decode cX6_event 14 = .ok (.dup, 1) := by decide +kernel
theorem dX6_event_15 : decode cX6_event 15 = .ok (.ldc 162, 2) := by decide +kernel
theorem dX6_event_17 : decode cX6_event 17 = .ok (.invokespecial 164, 3) := by decide +kernel
theorem dX6_event_20 : decode cX6_event 20 = .ok (.athrow, 1) := by decide +kernel
theorem dX6_event_21 : decode cX6_event 21 = .ok (.aload_n 0, 1) := by decide +kernel
theorem dX6_event_22 : decode cX6_event 22 = .ok (.getfield 44, 3) := by decide +kernel
theorem dX6_event_25 : decode cX6_event 25 = .ok (.iload_n 1, 1) := by decide +kernel
theorem dX6_event_26 : decode cX6_event 26 = .ok (.invokevirtual 165, 3) := by decide +kernel
theorem dX6_event_29 : decode cX6_event 29 = .ok (.dreturn, 1) := by decide +kernel
theorem dX6_at_0 : decode cX6_at 0 = .ok (.aload_n 0, 1) := by decide +kernel
theorem dX6_at_1 : decode cX6_at 1 = .ok (.getfield 19, 3) := by decide +kernel
theorem dX6_at_4 : decode cX6_at 4 = .ok (.iload_n 1, 1) := by decide +kernel
theorem dX6_at_5 : decode cX6_at 5 = .ok (.invokevirtual 59, 3) := by decide +kernel
theorem dX6_at_8 : decode cX6_at 8 = .ok (.ifCond .ne 13, 3) := by decide +kernel
theorem dX6_at_11 : decode cX6_at 11 = .ok (.new 52, 3) := by decide +kernel
theorem dX6_at_14 : decode cX6_at 14 = .ok (.dup, 1) := by decide +kernel
theorem dX6_at_15 : decode cX6_at 15 = .ok (.ldc 169, 2) := by decide +kernel
theorem dX6_at_17 : decode cX6_at 17 = .ok (.invokespecial 56, 3) := by decide +kernel
theorem dX6_at_20 : decode cX6_at 20 = .ok (.athrow, 1) := by decide +kernel
theorem dX6_at_21 : decode cX6_at 21 = .ok (.aload_n 0, 1) := by decide +kernel
theorem dX6_at_22 : decode cX6_at 22 = .ok (.getfield 9, 3) := by decide +kernel
theorem dX6_at_25 : decode cX6_at 25 = .ok (.iload_n 1, 1) := by decide +kernel
theorem dX6_at_26 : decode cX6_at 26 = .ok (.daload, 1) := by decide +kernel
theorem dX6_at_27 : decode cX6_at 27 = .ok (.dreturn, 1) := by decide +kernel
theorem dX6_derivative_0 : decode cX6_derivative 0 = .ok (.aload_n 0, 1) := by decide +kernel
theorem dX6_derivative_1 : decode cX6_derivative 1 = .ok (.getfield 19, 3) := by decide +kernel
theorem dX6_derivative_4 : decode cX6_derivative 4 = .ok (.iload_n 1, 1) := by decide +kernel
theorem dX6_derivative_5 : decode cX6_derivative 5 = .ok (.invokevirtual 59, 3) := by decide +kernel
theorem dX6_derivative_8 : decode cX6_derivative 8 = .ok (.ifCond .ne 13, 3) := by decide +kernel
theorem dX6_derivative_11 : decode cX6_derivative 11 = .ok (.new 52, 3) := by decide +kernel
theorem dX6_derivative_14 : decode cX6_derivative 14 = .ok (.dup, 1) := by decide +kernel
theorem dX6_derivative_15 : decode cX6_derivative 15 = .ok (.ldc 169, 2) := by decide +kernel
theorem dX6_derivative_17 : decode cX6_derivative 17 = .ok (.invokespecial 56, 3) := by decide +kernel
theorem dX6_derivative_20 : decode cX6_derivative 20 = .ok (.athrow, 1) := by decide +kernel
theorem dX6_derivative_21 : decode cX6_derivative 21 = .ok (.aload_n 0, 1) := by decide +kernel
theorem dX6_derivative_22 : decode cX6_derivative 22 = .ok (.getfield 19, 3) := by decide +kernel
theorem dX6_derivative_25 : decode cX6_derivative 25 = .ok (.aload_n 0, 1) := by decide +kernel
theorem dX6_derivative_26 : decode cX6_derivative 26 = .ok (.getfield 130, 3) := by decide +kernel
theorem dX6_derivative_29 : decode cX6_derivative 29 = .ok (.aload_n 0, 1) := by decide +kernel
theorem dX6_derivative_30 : decode cX6_derivative 30 = .ok (.getfield 9, 3) := by decide +kernel
theorem dX6_derivative_33 : decode cX6_derivative 33 = .ok (.aload_n 0, 1) := by decide +kernel
theorem dX6_derivative_34 : decode cX6_derivative 34 = .ok (.getfield 13, 3) := by decide +kernel
theorem dX6_derivative_37 : decode cX6_derivative 37 = .ok (.invokevirtual 171, 3) := by decide +kernel
theorem dX6_derivative_40 : decode cX6_derivative 40 = .ok (.aload_n 0, 1) := by decide +kernel
theorem dX6_derivative_41 : decode cX6_derivative 41 = .ok (.getfield 13, 3) := by decide +kernel
theorem dX6_derivative_44 : decode cX6_derivative 44 = .ok (.iload_n 1, 1) := by decide +kernel
theorem dX6_derivative_45 : decode cX6_derivative 45 = .ok (.daload, 1) := by decide +kernel
theorem dX6_derivative_46 : decode cX6_derivative 46 = .ok (.dreturn, 1) := by decide +kernel
theorem dX6_between_0 : decode cX6_between 0 = .ok (.aload_n 0, 1) := by decide +kernel
theorem dX6_between_1 : decode cX6_between 1 = .ok (.getfield 19, 3) := by decide +kernel
theorem dX6_between_4 : decode cX6_between 4 = .ok (.iload_n 1, 1) := by decide +kernel
theorem dX6_between_5 : decode cX6_between 5 = .ok (.invokevirtual 59, 3) := by decide +kernel
theorem dX6_between_8 : decode cX6_between 8 = .ok (.ifCond .eq 15, 3) := by decide +kernel
theorem dX6_between_11 : decode cX6_between 11 = .ok (.dload_n 2, 1) := by decide +kernel
theorem dX6_between_12 : decode cX6_between 12 = .ok (.dconst 0, 1) := by decide +kernel
theorem dX6_between_13 : decode cX6_between 13 = .ok (.dcmp .l, 1) := by decide +kernel
theorem dX6_between_14 : decode cX6_between 14 = .ok (.ifCond .lt 9, 3) := by decide +kernel
theorem dX6_between_17 : decode cX6_between 17 = .ok (.dload_n 2, 1) := by decide +kernel
theorem dX6_between_18 : decode cX6_between 18 = .ok (.dconst 1, 1) := by decide +kernel
theorem dX6_between_19 : decode cX6_between 19 = .ok (.dcmp .g, 1) := by decide +kernel
theorem dX6_between_20 : decode cX6_between 20 = .ok (.ifCond .le 13, 3) := by decide +kernel
theorem dX6_between_23 : decode cX6_between 23 = .ok (.new 52, 3) := by decide +kernel
theorem dX6_between_26 : decode cX6_between 26 = .ok (.dup, 1) := by decide +kernel
theorem dX6_between_27 : decode cX6_between 27 = .ok (.ldc 175, 2) := by decide +kernel
theorem dX6_between_29 : decode cX6_between 29 = .ok (.invokespecial 56, 3) := by decide +kernel
theorem dX6_between_32 : decode cX6_between 32 = .ok (.athrow, 1) := by decide +kernel
theorem dX6_between_33 : decode cX6_between 33 = .ok (.aload_n 0, 1) := by decide +kernel
theorem dX6_between_34 : decode cX6_between 34 = .ok (.getfield 37, 3) := by decide +kernel
theorem dX6_between_37 : decode cX6_between 37 = .ok (.getfield 177, 3) := by decide +kernel
theorem dX6_between_40 : decode cX6_between 40 = .ok (.ifCond .ne 13, 3) := by decide +kernel
theorem dX6_between_43 : decode cX6_between 43 = .ok (.new 160, 3) := by decide +kernel
theorem dX6_between_46 : decode cX6_between 46 = .ok (.dup, 1) := by decide +kernel
theorem dX6_between_47 : decode cX6_between 47 = .ok (.ldc 181, 2) := by decide +kernel
theorem dX6_between_49 : decode cX6_between 49 = .ok (.invokespecial 164, 3) := by decide +kernel
theorem dX6_between_52 : decode cX6_between 52 = .ok (.athrow, 1) := by decide +kernel
theorem dX6_between_53 : decode cX6_between 53 = .ok (.aload_n 0, 1) := by decide +kernel
theorem dX6_between_54 : decode cX6_between 54 = .ok (.getfield 37, 3) := by decide +kernel
theorem dX6_between_57 : decode cX6_between 57 = .ok (.iload_n 1, 1) := by decide +kernel
theorem dX6_between_58 : decode cX6_between 58 = .ok (.dload_n 2, 1) := by decide +kernel
theorem dX6_between_59 : decode cX6_between 59 = .ok (.invokevirtual 183, 3) := by decide +kernel
theorem dX6_between_62 : decode cX6_between 62 = .ok (.dreturn, 1) := by decide +kernel
theorem dX6_time_0 : decode cX6_time 0 = .ok (.aload_n 0, 1) := by decide +kernel
theorem dX6_time_1 : decode cX6_time 1 = .ok (.getfield 130, 3) := by decide +kernel
theorem dX6_time_4 : decode cX6_time 4 = .ok (.dreturn, 1) := by decide +kernel
theorem dX6_nextSize_0 : decode cX6_nextSize 0 = .ok (.aload_n 0, 1) := by decide +kernel
theorem dX6_nextSize_1 : decode cX6_nextSize 1 = .ok (.getfield 106, 3) := by decide +kernel
theorem dX6_nextSize_4 : decode cX6_nextSize 4 = .ok (.dreturn, 1) := by decide +kernel
theorem dX6_steps_0 : decode cX6_steps 0 = .ok (.iload_n 1, 1) := by decide +kernel
theorem dX6_steps_1 : decode cX6_steps 1 = .ok (.ifCond .eq 10, 3) := by decide +kernel
theorem dX6_steps_4 : decode cX6_steps 4 = .ok (.aload_n 0, 1) := by decide +kernel
theorem dX6_steps_5 : decode cX6_steps 5 = .ok (.getfield 187, 3) := by decide +kernel
theorem dX6_steps_8 : decode cX6_steps 8 = .ok (.goto 7, 3) := by decide +kernel
theorem dX6_steps_11 : decode cX6_steps 11 = .ok (.aload_n 0, 1) := by decide +kernel
theorem dX6_steps_12 : decode cX6_steps 12 = .ok (.getfield 141, 3) := by decide +kernel
theorem dX6_steps_15 : decode cX6_steps 15 = .ok (.ireturn, 1) := by decide +kernel
theorem dX6_startAfresh_0 : decode cX6_startAfresh 0 = .ok (.aload_n 0, 1) := by decide +kernel
theorem dX6_startAfresh_1 : decode cX6_startAfresh 1 = .ok (.getfield 19, 3) := by decide +kernel
theorem dX6_startAfresh_4 : decode cX6_startAfresh 4 = .ok (.iload_n 1, 1) := by decide +kernel
theorem dX6_startAfresh_5 : decode cX6_startAfresh 5 = .ok (.invokevirtual 190, 3) := by decide +kernel
theorem dX6_startAfresh_8 : decode cX6_startAfresh 8 = .ok (.aload_n 0, 1) := by decide +kernel
theorem dX6_startAfresh_9 : decode cX6_startAfresh 9 = .ok (.getfield 44, 3) := by decide +kernel
theorem dX6_startAfresh_12 : decode cX6_startAfresh 12 = .ok (.invokevirtual 193, 3) := by decide +kernel
theorem dX6_startAfresh_15 : decode cX6_startAfresh 15 = .ok (.iconst 0, 1) := by decide +kernel
theorem dX6_startAfresh_16 : decode cX6_startAfresh 16 = .ok (.istore_n 2, 1) := by decide +kernel
theorem dX6_startAfresh_17 : decode cX6_startAfresh 17 = .ok (.iload_n 2, 1) := by decide +kernel
theorem dX6_startAfresh_18 : decode cX6_startAfresh 18 = .ok (.iconst 3, 1) := by decide +kernel
theorem dX6_startAfresh_19 : decode cX6_startAfresh 19 = .ok (.if_icmp .ge 16, 3) := by decide +kernel
theorem dX6_startAfresh_22 : decode cX6_startAfresh 22 = .ok (.aload_n 0, 1) := by decide +kernel
theorem dX6_startAfresh_23 : decode cX6_startAfresh 23 = .ok (.getfield 9, 3) := by decide +kernel
theorem dX6_startAfresh_26 : decode cX6_startAfresh 26 = .ok (.iload_n 2, 1) := by decide +kernel
theorem dX6_startAfresh_27 : decode cX6_startAfresh 27 = .ok (.dconst 0, 1) := by decide +kernel
theorem dX6_startAfresh_28 : decode cX6_startAfresh 28 = .ok (.dastore, 1) := by decide +kernel
theorem dX6_startAfresh_29 : decode cX6_startAfresh 29 = .ok (.iinc 2 1, 3) := by decide +kernel
theorem dX6_startAfresh_32 : decode cX6_startAfresh 32 = .ok (.goto (-15), 3) := by decide +kernel
theorem dX6_startAfresh_35 : decode cX6_startAfresh 35 = .ok (.aload_n 0, 1) := by decide +kernel
theorem dX6_startAfresh_36 : decode cX6_startAfresh 36 = .ok (.dconst 0, 1) := by decide +kernel
theorem dX6_startAfresh_37 : decode cX6_startAfresh 37 = .ok (.putfield 130, 3) := by decide +kernel
theorem dX6_startAfresh_40 : decode cX6_startAfresh 40 = .ok (.aload_n 0, 1) := by decide +kernel
theorem dX6_startAfresh_41 : decode cX6_startAfresh 41 = .ok (.ldc2_w 195, 3) := by decide +kernel
theorem dX6_startAfresh_44 : decode cX6_startAfresh 44 = .ok (.putfield 106, 3) := by decide +kernel
theorem dX6_startAfresh_47 : decode cX6_startAfresh 47 = .ok (.aload_n 0, 1) := by decide +kernel
theorem dX6_startAfresh_48 : decode cX6_startAfresh 48 = .ok (.ldc2_w 195, 3) := by decide +kernel
theorem dX6_startAfresh_51 : decode cX6_startAfresh 51 = .ok (.putfield 110, 3) := by decide +kernel
theorem dX6_startAfresh_54 : decode cX6_startAfresh 54 = .ok (.aload_n 0, 1) := by decide +kernel
theorem dX6_startAfresh_55 : decode cX6_startAfresh 55 = .ok (.iconst 0, 1) := by decide +kernel
theorem dX6_startAfresh_56 : decode cX6_startAfresh 56 = .ok (.putfield 141, 3) := by decide +kernel
theorem dX6_startAfresh_59 : decode cX6_startAfresh 59 = .ok (.aload_n 0, 1) := by decide +kernel
theorem dX6_startAfresh_60 : decode cX6_startAfresh 60 = .ok (.iconst 0, 1) := by decide +kernel
theorem dX6_startAfresh_61 : decode cX6_startAfresh 61 = .ok (.putfield 187, 3) := by decide +kernel
theorem dX6_startAfresh_64 : decode cX6_startAfresh 64 = .ok (.aload_n 0, 1) := by decide +kernel
theorem dX6_startAfresh_65 : decode cX6_startAfresh 65 = .ok (.invokevirtual 89, 3) := by decide +kernel
theorem dX6_startAfresh_68 : decode cX6_startAfresh 68 = .ok (.return_, 1) := by decide +kernel
theorem dX6_breakOff_0 : decode cX6_breakOff 0 = .ok (.aload_n 0, 1) := by decide +kernel
theorem dX6_breakOff_1 : decode cX6_breakOff 1 = .ok (.getfield 37, 3) := by decide +kernel
theorem dX6_breakOff_4 : decode cX6_breakOff 4 = .ok (.iconst 0, 1) := by decide +kernel
theorem dX6_breakOff_5 : decode cX6_breakOff 5 = .ok (.putfield 177, 3) := by decide +kernel
theorem dX6_breakOff_8 : decode cX6_breakOff 8 = .ok (.aload_n 0, 1) := by decide +kernel
theorem dX6_breakOff_9 : decode cX6_breakOff 9 = .ok (.iconst 0, 1) := by decide +kernel
theorem dX6_breakOff_10 : decode cX6_breakOff 10 = .ok (.putfield 197, 3) := by decide +kernel
theorem dX6_breakOff_13 : decode cX6_breakOff 13 = .ok (.return_, 1) := by decide +kernel
theorem dX6_tryStep_0 : decode cX6_tryStep 0 = .ok (.aload_n 0, 1) := by decide +kernel
theorem dX6_tryStep_1 : decode cX6_tryStep 1 = .ok (.getfield 28, 3) := by decide +kernel
theorem dX6_tryStep_4 : decode cX6_tryStep 4 = .ok (.aload_n 0, 1) := by decide +kernel
theorem dX6_tryStep_5 : decode cX6_tryStep 5 = .ok (.getfield 130, 3) := by decide +kernel
theorem dX6_tryStep_8 : decode cX6_tryStep 8 = .ok (.dload_n 2, 1) := by decide +kernel
theorem dX6_tryStep_9 : decode cX6_tryStep 9 = .ok (.invokevirtual 200, 3) := by decide +kernel
theorem dX6_tryStep_12 : decode cX6_tryStep 12 = .ok (.aload_n 0, 1) := by decide +kernel
theorem dX6_tryStep_13 : decode cX6_tryStep 13 = .ok (.getfield 197, 3) := by decide +kernel
theorem dX6_tryStep_16 : decode cX6_tryStep 16 = .ok (.ifCond .eq 19, 3) := by decide +kernel
theorem dX6_tryStep_19 : decode cX6_tryStep 19 = .ok (.aload_n 0, 1) := by decide +kernel
theorem dX6_tryStep_20 : decode cX6_tryStep 20 = .ok (.getfield 37, 3) := by decide +kernel
theorem dX6_tryStep_23 : decode cX6_tryStep 23 = .ok (.getfield 204, 3) := by decide +kernel
theorem dX6_tryStep_26 : decode cX6_tryStep 26 = .ok (.dload_n 2, 1) := by decide +kernel
theorem dX6_tryStep_27 : decode cX6_tryStep 27 = .ok (.dcmp .l, 1) := by decide +kernel
theorem dX6_tryStep_28 : decode cX6_tryStep 28 = .ok (.ifCond .ne 7, 3) := by decide +kernel
theorem dX6_tryStep_31 : decode cX6_tryStep 31 = .ok (.iconst 1, 1) := by decide +kernel
theorem dX6_tryStep_32 : decode cX6_tryStep 32 = .ok (.goto 4, 3) := by decide +kernel
theorem dX6_tryStep_35 : decode cX6_tryStep 35 = .ok (.iconst 0, 1) := by decide +kernel
theorem dX6_tryStep_36 : decode cX6_tryStep 36 = .ok (.istore 4, 2) := by decide +kernel
theorem dX6_tryStep_38 : decode cX6_tryStep 38 = .ok (.aload_n 0, 1) := by decide +kernel
theorem dX6_tryStep_39 : decode cX6_tryStep 39 = .ok (.getfield 28, 3) := by decide +kernel
theorem dX6_tryStep_42 : decode cX6_tryStep 42 = .ok (.iload_n 1, 1) := by decide +kernel
theorem dX6_tryStep_43 : decode cX6_tryStep 43 = .ok (.iload 4, 2) := by decide +kernel
theorem dX6_tryStep_45 : decode cX6_tryStep 45 = .ok (.aload_n 0, 1) := by decide +kernel
theorem dX6_tryStep_46 : decode cX6_tryStep 46 = .ok (.getfield 37, 3) := by decide +kernel
theorem dX6_tryStep_49 : decode cX6_tryStep 49 = .ok (.getfield 207, 3) := by decide +kernel
theorem dX6_tryStep_52 : decode cX6_tryStep 52 = .ok (.invokevirtual 210, 3) := by decide +kernel
theorem dX6_tryStep_55 : decode cX6_tryStep 55 = .ok (.ireturn, 1) := by decide +kernel
theorem dX6_stepTowards_0 : decode cX6_stepTowards 0 = .ok (.aload_n 0, 1) := by decide +kernel
theorem dX6_stepTowards_1 : decode cX6_stepTowards 1 = .ok (.getfield 130, 3) := by decide +kernel
theorem dX6_stepTowards_4 : decode cX6_stepTowards 4 = .ok (.aload_n 0, 1) := by decide +kernel
theorem dX6_stepTowards_5 : decode cX6_stepTowards 5 = .ok (.getfield 106, 3) := by decide +kernel
theorem dX6_stepTowards_8 : decode cX6_stepTowards 8 = .ok (.dadd, 1) := by decide +kernel
theorem dX6_stepTowards_9 : decode cX6_stepTowards 9 = .ok (.dload_n 2, 1) := by decide +kernel
theorem dX6_stepTowards_10 : decode cX6_stepTowards 10 = .ok (.dcmp .l, 1) := by decide +kernel
theorem dX6_stepTowards_11 : decode cX6_stepTowards 11 = .ok (.ifCond .le 7, 3) := by decide +kernel
theorem dX6_stepTowards_14 : decode cX6_stepTowards 14 = .ok (.iconst 1, 1) := by decide +kernel
theorem dX6_stepTowards_15 : decode cX6_stepTowards 15 = .ok (.goto 4, 3) := by decide +kernel
theorem dX6_stepTowards_18 : decode cX6_stepTowards 18 = .ok (.iconst 0, 1) := by decide +kernel
theorem dX6_stepTowards_19 : decode cX6_stepTowards 19 = .ok (.istore 4, 2) := by decide +kernel
theorem dX6_stepTowards_21 : decode cX6_stepTowards 21 = .ok (.iload 4, 2) := by decide +kernel
theorem dX6_stepTowards_23 : decode cX6_stepTowards 23 = .ok (.ifCond .eq 12, 3) := by decide +kernel
theorem dX6_stepTowards_26 : decode cX6_stepTowards 26 = .ok (.dload_n 2, 1) := by decide +kernel
theorem dX6_stepTowards_27 : decode cX6_stepTowards 27 = .ok (.aload_n 0, 1) := by decide +kernel
theorem dX6_stepTowards_28 : decode cX6_stepTowards 28 = .ok (.getfield 130, 3) := by decide +kernel
theorem dX6_stepTowards_31 : decode cX6_stepTowards 31 = .ok (.dsub, 1) := by decide +kernel
theorem dX6_stepTowards_32 : decode cX6_stepTowards 32 = .ok (.goto 7, 3) := by decide +kernel
theorem dX6_stepTowards_35 : decode cX6_stepTowards 35 = .ok (.aload_n 0, 1) := by decide +kernel
theorem dX6_stepTowards_36 : decode cX6_stepTowards 36 = .ok (.getfield 106, 3) := by decide +kernel
theorem dX6_stepTowards_39 : decode cX6_stepTowards 39 = .ok (.dstore 5, 2) := by decide +kernel
theorem dX6_stepTowards_41 : decode cX6_stepTowards 41 = .ok (.aload_n 0, 1) := by decide +kernel
theorem dX6_stepTowards_42 : decode cX6_stepTowards 42 = .ok (.iload_n 1, 1) := by decide +kernel
theorem dX6_stepTowards_43 : decode cX6_stepTowards 43 = .ok (.dload 5, 2) := by decide +kernel
theorem dX6_stepTowards_45 : decode cX6_stepTowards 45 = .ok (.invokevirtual 118, 3) := by decide +kernel
theorem dX6_stepTowards_48 : decode cX6_stepTowards 48 = .ok (.ifCond .ne 9, 3) := by decide +kernel
theorem dX6_stepTowards_51 : decode cX6_stepTowards 51 = .ok (.aload_n 0, 1) := by decide +kernel
theorem dX6_stepTowards_52 : decode cX6_stepTowards 52 = .ok (.invokevirtual 122, 3) := by decide +kernel
theorem dX6_stepTowards_55 : decode cX6_stepTowards 55 = .ok (.iconst 0, 1) := by decide +kernel
theorem dX6_stepTowards_56 : decode cX6_stepTowards 56 = .ok (.ireturn, 1) := by decide +kernel
theorem dX6_stepTowards_57 : decode cX6_stepTowards 57 = .ok (.iload_n 1, 1) := by decide +kernel
theorem dX6_stepTowards_58 : decode cX6_stepTowards 58 = .ok (.iconst 2, 1) := by decide +kernel
theorem dX6_stepTowards_59 : decode cX6_stepTowards 59 = .ok (.if_icmp .ne 49, 3) := by decide +kernel
theorem dX6_stepTowards_62 : decode cX6_stepTowards 62 = .ok (.aload_n 0, 1) := by decide +kernel
theorem dX6_stepTowards_63 : decode cX6_stepTowards 63 = .ok (.getfield 28, 3) := by decide +kernel
theorem dX6_stepTowards_66 : decode cX6_stepTowards 66 = .ok (.getfield 214, 3) := by decide +kernel
theorem dX6_stepTowards_69 : decode cX6_stepTowards 69 = .ok (.aload_n 0, 1) := by decide +kernel
theorem dX6_stepTowards_70 : decode cX6_stepTowards 70 = .ok (.getfield 110, 3) := by decide +kernel
theorem dX6_stepTowards_73 : decode cX6_stepTowards 73 = .ok (.dcmp .l, 1) := by decide +kernel
theorem dX6_stepTowards_74 : decode cX6_stepTowards 74 = .ok (.ifCond .le 34, 3) := by decide +kernel
theorem dX6_stepTowards_77 : decode cX6_stepTowards 77 = .ok (.aload_n 0, 1) := by decide +kernel
theorem dX6_stepTowards_78 : decode cX6_stepTowards 78 = .ok (.invokevirtual 122, 3) := by decide +kernel
theorem dX6_stepTowards_81 : decode cX6_stepTowards 81 = .ok (.aload_n 0, 1) := by decide +kernel
theorem dX6_stepTowards_82 : decode cX6_stepTowards 82 = .ok (.ldc2_w 217, 3) := by decide +kernel
theorem dX6_stepTowards_85 : decode cX6_stepTowards 85 = .ok (.dload 5, 2) := by decide +kernel
theorem dX6_stepTowards_87 : decode cX6_stepTowards 87 = .ok (.dmul, 1) := by decide +kernel
theorem dX6_stepTowards_88 : decode cX6_stepTowards 88 = .ok (.putfield 106, 3) := by decide +kernel
theorem dX6_stepTowards_91 : decode cX6_stepTowards 91 = .ok (.aload_n 0, 1) := by decide +kernel
theorem dX6_stepTowards_92 : decode cX6_stepTowards 92 = .ok (.getfield 106, 3) := by decide +kernel
theorem dX6_stepTowards_95 : decode cX6_stepTowards 95 = .ok (.ldc2_w 219, 3) := by decide +kernel
theorem dX6_stepTowards_98 : decode cX6_stepTowards 98 = .ok (.dcmp .l, 1) := by decide +kernel
theorem dX6_stepTowards_99 : decode cX6_stepTowards 99 = .ok (.ifCond .lt 7, 3) := by decide +kernel
theorem dX6_stepTowards_102 : decode cX6_stepTowards 102 = .ok (.iconst 1, 1) := by decide +kernel
theorem dX6_stepTowards_103 : decode cX6_stepTowards 103 = .ok (.goto 4, 3) := by decide +kernel
theorem dX6_stepTowards_106 : decode cX6_stepTowards 106 = .ok (.iconst 0, 1) := by decide +kernel
theorem dX6_stepTowards_107 : decode cX6_stepTowards 107 = .ok (.ireturn, 1) := by decide +kernel
theorem dX6_stepTowards_108 : decode cX6_stepTowards 108 = .ok (.aload_n 0, 1) := by decide +kernel
theorem dX6_stepTowards_109 : decode cX6_stepTowards 109 = .ok (.iload_n 1, 1) := by decide +kernel
theorem dX6_stepTowards_110 : decode cX6_stepTowards 110 = .ok (.iload 4, 2) := by decide +kernel
theorem dX6_stepTowards_112 : decode cX6_stepTowards 112 = .ok (.ifCond .eq 7, 3) := by decide +kernel
theorem dX6_stepTowards_115 : decode cX6_stepTowards 115 = .ok (.dload_n 2, 1) := by decide +kernel
theorem dX6_stepTowards_116 : decode cX6_stepTowards 116 = .ok (.goto 10, 3) := by decide +kernel
theorem dX6_stepTowards_119 : decode cX6_stepTowards 119 = .ok (.aload_n 0, 1) := by decide +kernel
theorem dX6_stepTowards_120 : decode cX6_stepTowards 120 = .ok (.getfield 130, 3) := by decide +kernel
theorem dX6_stepTowards_123 : decode cX6_stepTowards 123 = .ok (.dload 5, 2) := by decide +kernel
theorem dX6_stepTowards_125 : decode cX6_stepTowards 125 = .ok (.dadd, 1) := by decide +kernel
theorem dX6_stepTowards_126 : decode cX6_stepTowards 126 = .ok (.invokevirtual 133, 3) := by decide +kernel
theorem dX6_stepTowards_129 : decode cX6_stepTowards 129 = .ok (.iload_n 1, 1) := by decide +kernel
theorem dX6_stepTowards_130 : decode cX6_stepTowards 130 = .ok (.iconst 2, 1) := by decide +kernel
theorem dX6_stepTowards_131 : decode cX6_stepTowards 131 = .ok (.if_icmp .ne 47, 3) := by decide +kernel
theorem dX6_stepTowards_134 : decode cX6_stepTowards 134 = .ok (.aload_n 0, 1) := by decide +kernel
theorem dX6_stepTowards_135 : decode cX6_stepTowards 135 = .ok (.getfield 28, 3) := by decide +kernel
theorem dX6_stepTowards_138 : decode cX6_stepTowards 138 = .ok (.getfield 214, 3) := by decide +kernel
theorem dX6_stepTowards_141 : decode cX6_stepTowards 141 = .ok (.aload_n 0, 1) := by decide +kernel
theorem dX6_stepTowards_142 : decode cX6_stepTowards 142 = .ok (.getfield 110, 3) := by decide +kernel
theorem dX6_stepTowards_145 : decode cX6_stepTowards 145 = .ok (.ldc2_w 221, 3) := by decide +kernel
theorem dX6_stepTowards_148 : decode cX6_stepTowards 148 = .ok (.ddiv, 1) := by decide +kernel
theorem dX6_stepTowards_149 : decode cX6_stepTowards 149 = .ok (.dcmp .g, 1) := by decide +kernel
theorem dX6_stepTowards_150 : decode cX6_stepTowards 150 = .ok (.ifCond .ge 28, 3) := by decide +kernel
theorem dX6_stepTowards_153 : decode cX6_stepTowards 153 = .ok (.aload_n 0, 1) := by decide +kernel
theorem dX6_stepTowards_154 : decode cX6_stepTowards 154 = .ok (.ldc2_w 223, 3) := by decide +kernel
theorem dX6_stepTowards_157 : decode cX6_stepTowards 157 = .ok (.dload 5, 2) := by decide +kernel
theorem dX6_stepTowards_159 : decode cX6_stepTowards 159 = .ok (.dmul, 1) := by decide +kernel
theorem dX6_stepTowards_160 : decode cX6_stepTowards 160 = .ok (.dconst 1, 1) := by decide +kernel
theorem dX6_stepTowards_161 : decode cX6_stepTowards 161 = .ok (.dcmp .l, 1) := by decide +kernel
theorem dX6_stepTowards_162 : decode cX6_stepTowards 162 = .ok (.ifCond .le 7, 3) := by decide +kernel
theorem dX6_stepTowards_165 : decode cX6_stepTowards 165 = .ok (.dconst 1, 1) := by decide +kernel
theorem dX6_stepTowards_166 : decode cX6_stepTowards 166 = .ok (.goto 9, 3) := by decide +kernel
theorem dX6_stepTowards_169 : decode cX6_stepTowards 169 = .ok (.ldc2_w 223, 3) := by decide +kernel
theorem dX6_stepTowards_172 : decode cX6_stepTowards 172 = .ok (.dload 5, 2) := by decide +kernel
theorem dX6_stepTowards_174 : decode cX6_stepTowards 174 = .ok (.dmul, 1) := by decide +kernel
theorem dX6_stepTowards_175 : decode cX6_stepTowards 175 = .ok (.putfield 106, 3) := by decide +kernel
theorem dX6_stepTowards_178 : decode cX6_stepTowards 178 = .ok (.iconst 1, 1) := by decide +kernel
theorem dX6_stepTowards_179 : decode cX6_stepTowards 179 = .ok (.ireturn, 1) := by decide +kernel
theorem dX6_refuse_0 : decode cX6_refuse 0 = .ok (.aload_n 0, 1) := by decide +kernel
theorem dX6_refuse_1 : decode cX6_refuse 1 = .ok (.dup, 1) := by decide +kernel
theorem dX6_refuse_2 : decode cX6_refuse 2 = .ok (.getfield 187, 3) := by decide +kernel
theorem dX6_refuse_5 : decode cX6_refuse 5 = .ok (.iconst 1, 1) := by decide +kernel
theorem dX6_refuse_6 : decode cX6_refuse 6 = .ok (.iadd, 1) := by decide +kernel
theorem dX6_refuse_7 : decode cX6_refuse 7 = .ok (.putfield 187, 3) := by decide +kernel
theorem dX6_refuse_10 : decode cX6_refuse 10 = .ok (.aload_n 0, 1) := by decide +kernel
theorem dX6_refuse_11 : decode cX6_refuse 11 = .ok (.iconst 0, 1) := by decide +kernel
theorem dX6_refuse_12 : decode cX6_refuse 12 = .ok (.putfield 197, 3) := by decide +kernel
theorem dX6_refuse_15 : decode cX6_refuse 15 = .ok (.return_, 1) := by decide +kernel
theorem dX6_take_0 : decode cX6_take 0 = .ok (.aload_n 0, 1) := by decide +kernel
theorem dX6_take_1 : decode cX6_take 1 = .ok (.getfield 37, 3) := by decide +kernel
theorem dX6_take_4 : decode cX6_take 4 = .ok (.aload_n 0, 1) := by decide +kernel
theorem dX6_take_5 : decode cX6_take 5 = .ok (.getfield 28, 3) := by decide +kernel
theorem dX6_take_8 : decode cX6_take 8 = .ok (.invokevirtual 225, 3) := by decide +kernel
theorem dX6_take_11 : decode cX6_take 11 = .ok (.iconst 0, 1) := by decide +kernel
theorem dX6_take_12 : decode cX6_take 12 = .ok (.istore 4, 2) := by decide +kernel
theorem dX6_take_14 : decode cX6_take 14 = .ok (.iload 4, 2) := by decide +kernel
theorem dX6_take_16 : decode cX6_take 16 = .ok (.aload_n 0, 1) := by decide +kernel
theorem dX6_take_17 : decode cX6_take 17 = .ok (.getfield 19, 3) := by decide +kernel
theorem dX6_take_20 : decode cX6_take 20 = .ok (.getfield 229, 3) := by decide +kernel
theorem dX6_take_23 : decode cX6_take 23 = .ok (.if_icmp .ge 26, 3) := by decide +kernel
theorem dX6_take_26 : decode cX6_take 26 = .ok (.aload_n 0, 1) := by decide +kernel
theorem dX6_take_27 : decode cX6_take 27 = .ok (.getfield 9, 3) := by decide +kernel
theorem dX6_take_30 : decode cX6_take 30 = .ok (.iload 4, 2) := by decide +kernel
theorem dX6_take_32 : decode cX6_take 32 = .ok (.aload_n 0, 1) := by decide +kernel
theorem dX6_take_33 : decode cX6_take 33 = .ok (.getfield 28, 3) := by decide +kernel
theorem dX6_take_36 : decode cX6_take 36 = .ok (.getfield 232, 3) := by decide +kernel
theorem dX6_take_39 : decode cX6_take 39 = .ok (.iload 4, 2) := by decide +kernel
theorem dX6_take_41 : decode cX6_take 41 = .ok (.daload, 1) := by decide +kernel
theorem dX6_take_42 : decode cX6_take 42 = .ok (.dastore, 1) := by decide +kernel
theorem dX6_take_43 : decode cX6_take 43 = .ok (.iinc 4 1, 3) := by decide +kernel
theorem dX6_take_46 : decode cX6_take 46 = .ok (.goto (-32), 3) := by decide +kernel
theorem dX6_take_49 : decode cX6_take 49 = .ok (.aload_n 0, 1) := by decide +kernel
theorem dX6_take_50 : decode cX6_take 50 = .ok (.dload_n 2, 1) := by decide +kernel
theorem dX6_take_51 : decode cX6_take 51 = .ok (.putfield 130, 3) := by decide +kernel
theorem dX6_take_54 : decode cX6_take 54 = .ok (.aload_n 0, 1) := by decide +kernel
theorem dX6_take_55 : decode cX6_take 55 = .ok (.dup, 1) := by decide +kernel
theorem dX6_take_56 : decode cX6_take 56 = .ok (.getfield 141, 3) := by decide +kernel
theorem dX6_take_59 : decode cX6_take 59 = .ok (.iconst 1, 1) := by decide +kernel
theorem dX6_take_60 : decode cX6_take 60 = .ok (.iadd, 1) := by decide +kernel
theorem dX6_take_61 : decode cX6_take 61 = .ok (.putfield 141, 3) := by decide +kernel
theorem dX6_take_64 : decode cX6_take 64 = .ok (.aload_n 0, 1) := by decide +kernel
theorem dX6_take_65 : decode cX6_take 65 = .ok (.iload_n 1, 1) := by decide +kernel
theorem dX6_take_66 : decode cX6_take 66 = .ok (.iconst 3, 1) := by decide +kernel
theorem dX6_take_67 : decode cX6_take 67 = .ok (.if_icmp .ne 7, 3) := by decide +kernel
theorem dX6_take_70 : decode cX6_take 70 = .ok (.iconst 1, 1) := by decide +kernel
theorem dX6_take_71 : decode cX6_take 71 = .ok (.goto 4, 3) := by decide +kernel
theorem dX6_take_74 : decode cX6_take 74 = .ok (.iconst 0, 1) := by decide +kernel
theorem dX6_take_75 : decode cX6_take 75 = .ok (.putfield 197, 3) := by decide +kernel
theorem dX6_take_78 : decode cX6_take 78 = .ok (.aload_n 0, 1) := by decide +kernel
theorem dX6_take_79 : decode cX6_take 79 = .ok (.getfield 44, 3) := by decide +kernel
theorem dX6_take_82 : decode cX6_take 82 = .ok (.aload_n 0, 1) := by decide +kernel
theorem dX6_take_83 : decode cX6_take 83 = .ok (.getfield 37, 3) := by decide +kernel
theorem dX6_take_86 : decode cX6_take 86 = .ok (.invokevirtual 235, 3) := by decide +kernel
theorem dX6_take_89 : decode cX6_take 89 = .ok (.return_, 1) := by decide +kernel
theorem dX6_isMethod_0 : decode cX6_isMethod 0 = .ok (.iload_n 0, 1) := by decide +kernel
theorem dX6_isMethod_1 : decode cX6_isMethod 1 = .ok (.ifCond .lt 12, 3) := by decide +kernel
theorem dX6_isMethod_4 : decode cX6_isMethod 4 = .ok (.iload_n 0, 1) := by decide +kernel
theorem dX6_isMethod_5 : decode cX6_isMethod 5 = .ok (.iconst 5, 1) := by decide +kernel
theorem dX6_isMethod_6 : decode cX6_isMethod 6 = .ok (.if_icmp .gt 7, 3) := by decide +kernel
theorem dX6_isMethod_9 : decode cX6_isMethod 9 = .ok (.iconst 1, 1) := by decide +kernel
theorem dX6_isMethod_10 : decode cX6_isMethod 10 = .ok (.goto 4, 3) := by decide +kernel
theorem dX6_isMethod_13 : decode cX6_isMethod 13 = .ok (.iconst 0, 1) := by decide +kernel
theorem dX6_isMethod_14 : decode cX6_isMethod 14 = .ok (.ireturn, 1) := by decide +kernel
theorem dX6_isWithin_0 : decode cX6_isWithin 0 = .ok (.dload_n 0, 1) := by decide +kernel
theorem dX6_isWithin_1 : decode cX6_isWithin 1 = .ok (.dload_n 2, 1) := by decide +kernel
theorem dX6_isWithin_2 : decode cX6_isWithin 2 = .ok (.dneg, 1) := by decide +kernel
theorem dX6_isWithin_3 : decode cX6_isWithin 3 = .ok (.dcmp .l, 1) := by decide +kernel
theorem dX6_isWithin_4 : decode cX6_isWithin 4 = .ok (.ifCond .lt 13, 3) := by decide +kernel
theorem dX6_isWithin_7 : decode cX6_isWithin 7 = .ok (.dload_n 0, 1) := by decide +kernel
theorem dX6_isWithin_8 : decode cX6_isWithin 8 = .ok (.dload_n 2, 1) := by decide +kernel
theorem dX6_isWithin_9 : decode cX6_isWithin 9 = .ok (.dcmp .g, 1) := by decide +kernel
theorem dX6_isWithin_10 : decode cX6_isWithin 10 = .ok (.ifCond .gt 7, 3) := by decide +kernel
theorem dX6_isWithin_13 : decode cX6_isWithin 13 = .ok (.iconst 1, 1) := by decide +kernel
theorem dX6_isWithin_14 : decode cX6_isWithin 14 = .ok (.goto 4, 3) := by decide +kernel
theorem dX6_isWithin_17 : decode cX6_isWithin 17 = .ok (.iconst 0, 1) := by decide +kernel
theorem dX6_isWithin_18 : decode cX6_isWithin 18 = .ok (.ireturn, 1) := by decide +kernel
theorem dX6_isSize_0 : decode cX6_isSize 0 = .ok (.dload_n 0, 1) := by decide +kernel
theorem dX6_isSize_1 : decode cX6_isSize 1 = .ok (.dconst 0, 1) := by decide +kernel
theorem dX6_isSize_2 : decode cX6_isSize 2 = .ok (.dcmp .l, 1) := by decide +kernel
theorem dX6_isSize_3 : decode cX6_isSize 3 = .ok (.ifCond .le 15, 3) := by decide +kernel
theorem dX6_isSize_6 : decode cX6_isSize 6 = .ok (.dload_n 0, 1) := by decide +kernel
theorem dX6_isSize_7 : decode cX6_isSize 7 = .ok (.ldc2_w 239, 3) := by decide +kernel
theorem dX6_isSize_10 : decode cX6_isSize 10 = .ok (.dcmp .g, 1) := by decide +kernel
theorem dX6_isSize_11 : decode cX6_isSize 11 = .ok (.ifCond .gt 7, 3) := by decide +kernel
theorem dX6_isSize_14 : decode cX6_isSize 14 = .ok (.iconst 1, 1) := by decide +kernel
theorem dX6_isSize_15 : decode cX6_isSize 15 = .ok (.goto 4, 3) := by decide +kernel
theorem dX6_isSize_18 : decode cX6_isSize 18 = .ok (.iconst 0, 1) := by decide +kernel
theorem dX6_isSize_19 : decode cX6_isSize 19 = .ok (.ireturn, 1) := by decide +kernel
theorem dX6_sizeOf_0 : decode cX6_sizeOf 0 = .ok (.dload_n 0, 1) := by decide +kernel
theorem dX6_sizeOf_1 : decode cX6_sizeOf 1 = .ok (.dconst 0, 1) := by decide +kernel
theorem dX6_sizeOf_2 : decode cX6_sizeOf 2 = .ok (.dcmp .g, 1) := by decide +kernel
theorem dX6_sizeOf_3 : decode cX6_sizeOf 3 = .ok (.ifCond .ge 8, 3) := by decide +kernel
theorem dX6_sizeOf_6 : decode cX6_sizeOf 6 = .ok (.dload_n 0, 1) := by decide +kernel
theorem dX6_sizeOf_7 : decode cX6_sizeOf 7 = .ok (.dneg, 1) := by decide +kernel
theorem dX6_sizeOf_8 : decode cX6_sizeOf 8 = .ok (.goto 4, 3) := by decide +kernel
theorem dX6_sizeOf_11 : decode cX6_sizeOf 11 = .ok (.dload_n 0, 1) := by decide +kernel
theorem dX6_sizeOf_12 : decode cX6_sizeOf 12 = .ok (.dreturn, 1) := by decide +kernel
theorem dX6_greatest_0 : decode cX6_greatest 0 = .ok (.dconst 0, 1) := by decide +kernel
theorem dX6_greatest_1 : decode cX6_greatest 1 = .ok (.dstore_n 2, 1) := by decide +kernel
theorem dX6_greatest_2 : decode cX6_greatest 2 = .ok (.iconst 0, 1) := by decide +kernel
theorem dX6_greatest_3 : decode cX6_greatest 3 = .ok (.istore 4, 2) := by decide +kernel
theorem dX6_greatest_5 : decode cX6_greatest 5 = .ok (.iload 4, 2) := by decide +kernel
theorem dX6_greatest_7 : decode cX6_greatest 7 = .ok (.iload_n 1, 1) := by decide +kernel
theorem dX6_greatest_8 : decode cX6_greatest 8 = .ok (.if_icmp .ge 32, 3) := by decide +kernel
theorem dX6_greatest_11 : decode cX6_greatest 11 = .ok (.aload_n 0, 1) := by decide +kernel
theorem dX6_greatest_12 : decode cX6_greatest 12 = .ok (.iload 4, 2) := by decide +kernel
theorem dX6_greatest_14 : decode cX6_greatest 14 = .ok (.daload, 1) := by decide +kernel
theorem dX6_greatest_15 : decode cX6_greatest 15 = .ok (.invokestatic 241, 3) := by decide +kernel
theorem dX6_greatest_18 : decode cX6_greatest 18 = .ok (.dstore 5, 2) := by decide +kernel
theorem dX6_greatest_20 : decode cX6_greatest 20 = .ok (.dload 5, 2) := by decide +kernel
theorem dX6_greatest_22 : decode cX6_greatest 22 = .ok (.dload_n 2, 1) := by decide +kernel
theorem dX6_greatest_23 : decode cX6_greatest 23 = .ok (.dcmp .l, 1) := by decide +kernel
theorem dX6_greatest_24 : decode cX6_greatest 24 = .ok (.ifCond .le 8, 3) := by decide +kernel
theorem dX6_greatest_27 : decode cX6_greatest 27 = .ok (.dload 5, 2) := by decide +kernel
theorem dX6_greatest_29 : decode cX6_greatest 29 = .ok (.goto 4, 3) := by decide +kernel
theorem dX6_greatest_32 : decode cX6_greatest 32 = .ok (.dload_n 2, 1) := by decide +kernel
theorem dX6_greatest_33 : decode cX6_greatest 33 = .ok (.dstore_n 2, 1) := by decide +kernel
theorem dX6_greatest_34 : decode cX6_greatest 34 = .ok (.iinc 4 1, 3) := by decide +kernel
theorem dX6_greatest_37 : decode cX6_greatest 37 = .ok (.goto (-32), 3) := by decide +kernel
theorem dX6_greatest_40 : decode cX6_greatest 40 = .ok (.dload_n 2, 1) := by decide +kernel
theorem dX6_greatest_41 : decode cX6_greatest 41 = .ok (.dreturn, 1) := by decide +kernel
theorem dJ9_floorMod_7cf53_0 : decode cJ9_floorMod_7cf53 0 = .ok (.iload_n 0, 1) := by decide +kernel
theorem dJ9_floorMod_7cf53_1 : decode cJ9_floorMod_7cf53 1 = .ok (.iload_n 1, 1) := by decide +kernel
theorem dJ9_floorMod_7cf53_2 : decode cJ9_floorMod_7cf53 2 = .ok (.irem, 1) := by decide +kernel
theorem dJ9_floorMod_7cf53_3 : decode cJ9_floorMod_7cf53 3 = .ok (.istore_n 2, 1) := by decide +kernel
theorem dJ9_floorMod_7cf53_4 : decode cJ9_floorMod_7cf53 4 = .ok (.iload_n 0, 1) := by decide +kernel
theorem dJ9_floorMod_7cf53_5 : decode cJ9_floorMod_7cf53 5 = .ok (.iload_n 1, 1) := by decide +kernel
theorem dJ9_floorMod_7cf53_6 : decode cJ9_floorMod_7cf53 6 = .ok (.ixor, 1) := by decide +kernel
theorem dJ9_floorMod_7cf53_7 : decode cJ9_floorMod_7cf53 7 = .ok (.ifCond .ge 11, 3) := by decide +kernel
theorem dJ9_floorMod_7cf53_10 : decode cJ9_floorMod_7cf53 10 = .ok (.iload_n 2, 1) := by decide +kernel
theorem dJ9_floorMod_7cf53_11 : decode cJ9_floorMod_7cf53 11 = .ok (.ifCond .eq 7, 3) := by decide +kernel
theorem dJ9_floorMod_7cf53_14 : decode cJ9_floorMod_7cf53 14 = .ok (.iload_n 2, 1) := by decide +kernel
theorem dJ9_floorMod_7cf53_15 : decode cJ9_floorMod_7cf53 15 = .ok (.iload_n 1, 1) := by decide +kernel
theorem dJ9_floorMod_7cf53_16 : decode cJ9_floorMod_7cf53 16 = .ok (.iadd, 1) := by decide +kernel
theorem dJ9_floorMod_7cf53_17 : decode cJ9_floorMod_7cf53 17 = .ok (.ireturn, 1) := by decide +kernel
theorem dJ9_floorMod_7cf53_18 : decode cJ9_floorMod_7cf53 18 = .ok (.iload_n 2, 1) := by decide +kernel
theorem dJ9_floorMod_7cf53_19 : decode cJ9_floorMod_7cf53 19 = .ok (.ireturn, 1) := by decide +kernel
