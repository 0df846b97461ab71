theorem dX7_init_0 : decode cX7_init 0 = .ok (.aload_n 0, 1) := by decide +kernel
theorem dX7_init_1 : decode cX7_init 1 = .ok (.invokespecial 1, 3) := by decide +kernel
theorem dX7_init_4 : decode cX7_init 4 = .ok (.aload_n 0, 1) := by decide +kernel
theorem dX7_init_5 : decode cX7_init 5 = .ok (.iconst 1, 1) := by decide +kernel
theorem dX7_init_6 : decode cX7_init 6 = .ok (.putfield 7, 3) := by decide +kernel
theorem dX7_init_9 : decode cX7_init 9 = .ok (.aload_n 0, 1) := by decide +kernel
theorem dX7_init_10 : decode cX7_init 10 = .ok (.bipush 10, 2) := by decide +kernel
theorem dX7_init_12 : decode cX7_init 12 = .ok (.newarray .int, 2) := by decide +kernel
theorem dX7_init_14 : decode cX7_init 14 = .ok (.putfield 13, 3) := by decide +kernel
theorem dX7_init_17 : decode cX7_init 17 = .ok (.aload_n 0, 1) := by decide +kernel
theorem dX7_init_18 : decode cX7_init 18 = .ok (.bipush 10, 2) := by decide +kernel
theorem dX7_init_20 : decode cX7_init 20 = .ok (.newarray .int, 2) := by decide +kernel
theorem dX7_init_22 : decode cX7_init 22 = .ok (.putfield 17, 3) := by decide +kernel
theorem dX7_init_25 : decode cX7_init 25 = .ok (.aload_n 0, 1) := by decide +kernel
theorem dX7_init_26 : decode cX7_init 26 = .ok (.bipush 10, 2) := by decide +kernel
theorem dX7_init_28 : decode cX7_init 28 = .ok (.newarray .int, 2) := by decide +kernel
theorem dX7_init_30 : decode cX7_init 30 = .ok (.putfield 20, 3) := by decide +kernel
theorem dX7_init_33 : decode cX7_init 33 = .ok (.aload_n 0, 1) := by decide +kernel
theorem dX7_init_34 : decode cX7_init 34 = .ok (.bipush 10, 2) := by decide +kernel
theorem dX7_init_36 : decode cX7_init 36 = .ok (.newarray .double, 2) := by decide +kernel
theorem dX7_init_38 : decode cX7_init 38 = .ok (.putfield 23, 3) := by decide +kernel
theorem dX7_init_41 : decode cX7_init 41 = .ok (.aload_n 0, 1) := by decide +kernel
theorem dX7_init_42 : decode cX7_init 42 = .ok (.ldc2_w 27, 3) := by decide +kernel
theorem dX7_init_45 : decode cX7_init 45 = .ok (.putfield 29, 3) := by decide +kernel
theorem dX7_init_48 : decode cX7_init 48 = .ok (.aload_n 0, 1) := by decide +kernel
theorem dX7_init_49 : decode cX7_init 49 = .ok (.ldc2_w 27, 3) := by decide +kernel
theorem dX7_init_52 : decode cX7_init 52 = .ok (.putfield 33, 3) := by decide +kernel
theorem dX7_init_55 : decode cX7_init 55 = .ok (.aload_n 0, 1) := by decide +kernel
theorem dX7_init_56 : decode cX7_init 56 = .ok (.iconst 3, 1) := by decide +kernel
theorem dX7_init_57 : decode cX7_init 57 = .ok (.newarray .double, 2) := by decide +kernel
theorem dX7_init_59 : decode cX7_init 59 = .ok (.putfield 36, 3) := by decide +kernel
theorem dX7_init_62 : decode cX7_init 62 = .ok (.aload_n 0, 1) := by decide +kernel
theorem dX7_init_63 : decode cX7_init 63 = .ok (.iconst 3, 1) := by decide +kernel
theorem dX7_init_64 : decode cX7_init 64 = .ok (.newarray .double, 2) := by decide +kernel
theorem dX7_init_66 : decode cX7_init 66 = .ok (.putfield 39, 3) := by decide +kernel
theorem dX7_init_69 : decode cX7_init 69 = .ok (.aload_n 0, 1) := by decide +kernel
theorem dX7_init_70 : decode cX7_init 70 = .ok (.iconst 3, 1) := by decide +kernel
theorem dX7_init_71 : decode cX7_init 71 = .ok (.newarray .double, 2) := by decide +kernel
theorem dX7_init_73 : decode cX7_init 73 = .ok (.putfield 42, 3) := by decide +kernel
theorem dX7_init_76 : decode cX7_init 76 = .ok (.aload_n 0, 1) := by decide +kernel
theorem dX7_init_77 : decode cX7_init 77 = .ok (.iconst 3, 1) := by decide +kernel
theorem dX7_init_78 : decode cX7_init 78 = .ok (.newarray .double, 2) := by decide +kernel
theorem dX7_init_80 : decode cX7_init 80 = .ok (.putfield 45, 3) := by decide +kernel
theorem dX7_init_83 : decode cX7_init 83 = .ok (.aload_n 0, 1) := by decide +kernel
theorem dX7_init_84 : decode cX7_init 84 = .ok (.iconst 3, 1) := by decide +kernel
theorem dX7_init_85 : decode cX7_init 85 = .ok (.newarray .double, 2) := by decide +kernel
theorem dX7_init_87 : decode cX7_init 87 = .ok (.putfield 48, 3) := by decide +kernel
theorem dX7_init_90 : decode cX7_init 90 = .ok (.aload_n 0, 1) := by decide +kernel
theorem dX7_init_91 : decode cX7_init 91 = .ok (.iconst 3, 1) := by decide +kernel
theorem dX7_init_92 : decode cX7_init 92 = .ok (.newarray .double, 2) := by decide +kernel
theorem dX7_init_94 : decode cX7_init 94 = .ok (.putfield 51, 3) := by decide +kernel
theorem dX7_init_97 : decode cX7_init 97 = .ok (.aload_n 0, 1) := by decide +kernel
theorem dX7_init_98 : decode cX7_init 98 = .ok (.iconst 3, 1) := by decide +kernel
theorem dX7_init_99 : decode cX7_init 99 = .ok (.newarray .double, 2) := by decide +kernel
theorem dX7_init_101 : decode cX7_init 101 = .ok (.putfield 54, 3) := by decide +kernel
theorem dX7_init_104 : decode cX7_init 104 = .ok (.aload_n 0, 1) := by decide +kernel
theorem dX7_init_105 : decode cX7_init 105 = .ok (.iconst 3, 1) := by decide +kernel
theorem dX7_init_106 : decode cX7_init 106 = .ok (.newarray .double, 2) := by decide +kernel
theorem dX7_init_108 : decode cX7_init 108 = .ok (.putfield 57, 3) := by decide +kernel
theorem dX7_init_111 : decode cX7_init 111 = .ok (.aload_n 0, 1) := by decide +kernel
theorem dX7_init_112 : decode cX7_init 112 = .ok (.bipush 9, 2) := by decide +kernel
theorem dX7_init_114 : decode cX7_init 114 = .ok (.newarray .double, 2) := by decide +kernel
theorem dX7_init_116 : decode cX7_init 116 = .ok (.putfield 60, 3) := by decide +kernel
theorem dX7_init_119 : decode cX7_init 119 = .ok (.aload_n 0, 1) := by decide +kernel
theorem dX7_init_120 : decode cX7_init 120 = .ok (.iconst 3, 1) := by decide +kernel
theorem dX7_init_121 : decode cX7_init 121 = .ok (.newarray .double, 2) := by decide +kernel
theorem dX7_init_123 : decode cX7_init 123 = .ok (.putfield 63, 3) := by decide +kernel
theorem dX7_init_126 : decode cX7_init 126 = .ok (.aload_n 0, 1) := by decide +kernel
theorem dX7_init_127 : decode cX7_init 127 = .ok (.iconst 3, 1) := by decide +kernel
theorem dX7_init_128 : decode cX7_init 128 = .ok (.newarray .double, 2) := by decide +kernel
theorem dX7_init_130 : decode cX7_init 130 = .ok (.putfield 66, 3) := by decide +kernel
theorem dX7_init_133 : decode cX7_init 133 = .ok (.aload_n 0, 1) := by decide +kernel
theorem dX7_init_134 : decode cX7_init 134 = .ok (.iconst 3, 1) := by decide +kernel
theorem dX7_init_135 : decode cX7_init 135 = .ok (.newarray .double, 2) := by decide +kernel
theorem dX7_init_137 : decode cX7_init 137 = .ok (.putfield 69, 3) := by decide +kernel
theorem dX7_init_140 : decode cX7_init 140 = .ok (.aload_n 0, 1) := by decide +kernel
theorem dX7_init_141 : decode cX7_init 141 = .ok (.iconst 3, 1) := by decide +kernel
theorem dX7_init_142 : decode cX7_init 142 = .ok (.newarray .double, 2) := by decide +kernel
theorem dX7_init_144 : decode cX7_init 144 = .ok (.putfield 72, 3) := by decide +kernel
theorem dX7_init_147 : decode cX7_init 147 = .ok (.aload_n 0, 1) := by decide +kernel
theorem dX7_init_148 : decode cX7_init 148 = .ok (.iconst 3, 1) := by decide +kernel
theorem dX7_init_149 : decode cX7_init 149 = .ok (.newarray .double, 2) := by decide +kernel
theorem dX7_init_151 : decode cX7_init 151 = .ok (.putfield 75, 3) := by decide +kernel
theorem dX7_init_154 : decode cX7_init 154 = .ok (.aload_n 0, 1) := by decide +kernel
theorem dX7_init_155 : decode cX7_init 155 = .ok (.iconst (-1), 1) := by decide +kernel
theorem dX7_init_156 : decode cX7_init 156 = .ok (.putfield 78, 3) := by decide +kernel
theorem dX7_init_159 : decode cX7_init 159 = .ok (.aload_n 0, 1) := by decide +kernel
theorem dX7_init_160 : decode cX7_init 160 = .ok (.bipush 8, 2) := by decide +kernel
theorem dX7_init_162 : decode cX7_init 162 = .ok (.newarray .double, 2) := by decide +kernel
theorem dX7_init_164 : decode cX7_init 164 = .ok (.putfield 81, 3) := by decide +kernel
theorem dX7_init_167 : decode cX7_init 167 = .ok (.return_, 1) := by decide +kernel
theorem dX7_thrown_0 : decode cX7_thrown 0 = .ok (.aload_n 0, 1) := by decide +kernel
theorem dX7_thrown_1 : decode cX7_thrown 1 = .ok (.getfield 84, 3) := by decide +kernel
theorem dX7_thrown_4 : decode cX7_thrown 4 = .ok (.ireturn, 1) := by decide +kernel
theorem dX7_out_0 : decode cX7_out 0 = .ok (.iload_n 0, 1) := by decide +kernel
theorem dX7_out_1 : decode cX7_out 1 = .ok (.ifCond .lt 8, 3) := by decide +kernel
theorem dX7_out_4 : decode cX7_out 4 = .ok (.iload_n 0, 1) := by decide +kernel
theorem dX7_out_5 : decode cX7_out 5 = .ok (.iload_n 1, 1) := by decide +kernel
theorem dX7_out_6 : decode cX7_out 6 = .ok (.if_icmp .lt 7, 3) := by decide +kernel
theorem dX7_out_9 : decode cX7_out 9 = .ok (.iconst 1, 1) := by decide +kernel
theorem dX7_out_10 : decode cX7_out 10 = .ok (.goto 4, 3) := by decide +kernel
theorem dX7_out_13 : decode cX7_out 13 = .ok (.iconst 0, 1) := by decide +kernel
theorem dX7_out_14 : decode cX7_out 14 = .ok (.ireturn, 1) := by decide +kernel
theorem dX7_far_0 : decode cX7_far 0 = .ok (.dload_n 0, 1) := by decide +kernel
theorem dX7_far_1 : decode cX7_far 1 = .ok (.dconst 0, 1) := by decide +kernel
theorem dX7_far_2 : decode cX7_far 2 = .ok (.dcmp .g, 1) := by decide +kernel
theorem dX7_far_3 : decode cX7_far 3 = .ok (.ifCond .ge 8, 3) := by decide +kernel
theorem dX7_far_6 : decode cX7_far 6 = .ok (.dload_n 0, 1) := by decide +kernel
theorem dX7_far_7 : decode cX7_far 7 = .ok (.dneg, 1) := by decide +kernel
theorem dX7_far_8 : decode cX7_far 8 = .ok (.goto 4, 3) := by decide +kernel
theorem dX7_far_11 : decode cX7_far 11 = .ok (.dload_n 0, 1) := by decide +kernel
theorem dX7_far_12 : decode cX7_far 12 = .ok (.dreturn, 1) := by decide +kernel
theorem dX7_max_0 : decode cX7_max 0 = .ok (.dconst 0, 1) := by decide +kernel
theorem dX7_max_1 : decode cX7_max 1 = .ok (.dstore_n 2, 1) := by decide +kernel
theorem dX7_max_2 : decode cX7_max 2 = .ok (.iconst 0, 1) := by decide +kernel
theorem dX7_max_3 : decode cX7_max 3 = .ok (.istore 4, 2) := by decide +kernel
theorem dX7_max_5 : decode cX7_max 5 = .ok (.iload 4, 2) := by decide +kernel
theorem dX7_max_7 : decode cX7_max 7 = .ok (.aload_n 0, 1) := by decide +kernel
theorem dX7_max_8 : decode cX7_max 8 = .ok (.getfield 7, 3) := by decide +kernel
theorem dX7_max_11 : decode cX7_max 11 = .ok (.if_icmp .ge 29, 3) := by decide +kernel
theorem dX7_max_14 : decode cX7_max 14 = .ok (.aload_n 1, 1) := by decide +kernel
theorem dX7_max_15 : decode cX7_max 15 = .ok (.iload 4, 2) := by decide +kernel
theorem dX7_max_17 : decode cX7_max 17 = .ok (.daload, 1) := by decide +kernel
theorem dX7_max_18 : decode cX7_max 18 = .ok (.invokestatic 87, 3) := by decide +kernel
theorem dX7_max_21 : decode cX7_max 21 = .ok (.dload_n 2, 1) := by decide +kernel
theorem dX7_max_22 : decode cX7_max 22 = .ok (.dcmp .l, 1) := by decide +kernel
theorem dX7_max_23 : decode cX7_max 23 = .ok (.ifCond .le 11, 3) := by decide +kernel
theorem dX7_max_26 : decode cX7_max 26 = .ok (.aload_n 1, 1) := by decide +kernel
theorem dX7_max_27 : decode cX7_max 27 = .ok (.iload 4, 2) := by decide +kernel
theorem dX7_max_29 : decode cX7_max 29 = .ok (.daload, 1) := by decide +kernel
theorem dX7_max_30 : decode cX7_max 30 = .ok (.invokestatic 87, 3) := by decide +kernel
theorem dX7_max_33 : decode cX7_max 33 = .ok (.dstore_n 2, 1) := by decide +kernel
theorem dX7_max_34 : decode cX7_max 34 = .ok (.iinc 4 1, 3) := by decide +kernel
theorem dX7_max_37 : decode cX7_max 37 = .ok (.goto (-32), 3) := by decide +kernel
theorem dX7_max_40 : decode cX7_max 40 = .ok (.dload_n 2, 1) := by decide +kernel
theorem dX7_max_41 : decode cX7_max 41 = .ok (.dreturn, 1) := by decide +kernel
theorem dX7_named_0 : decode cX7_named 0 = .ok (.iload_n 0, 1) := by decide +kernel
theorem dX7_named_1 : decode cX7_named 1 = .ok (.iconst 4, 1) := by decide +kernel
theorem dX7_named_2 : decode cX7_named 2 = .ok (.if_icmp .ne 7, 3) := by decide +kernel
theorem dX7_named_5 : decode cX7_named 5 = .ok (.dconst 1, 1) := by decide +kernel
theorem dX7_named_6 : decode cX7_named 6 = .ok (.goto 15, 3) := by decide +kernel
theorem dX7_named_9 : decode cX7_named 9 = .ok (.iload_n 0, 1) := by decide +kernel
theorem dX7_named_10 : decode cX7_named 10 = .ok (.iconst 3, 1) := by decide +kernel
theorem dX7_named_11 : decode cX7_named 11 = .ok (.if_icmp .ne 7, 3) := by decide +kernel
theorem dX7_named_14 : decode cX7_named 14 = .ok (.dload_n 1, 1) := by decide +kernel
theorem dX7_named_15 : decode cX7_named 15 = .ok (.goto 6, 3) := by decide +kernel
theorem dX7_named_18 : decode cX7_named 18 = .ok (.aload_n 3, 1) := by decide +kernel
theorem dX7_named_19 : decode cX7_named 19 = .ok (.iload_n 0, 1) := by decide +kernel
theorem dX7_named_20 : decode cX7_named 20 = .ok (.daload, 1) := by decide +kernel
theorem dX7_named_21 : decode cX7_named 21 = .ok (.dreturn, 1) := by decide +kernel
theorem dX7_derive_0 : decode cX7_derive 0 = .ok (.iconst 0, 1) := by decide +kernel
theorem dX7_derive_1 : decode cX7_derive 1 = .ok (.istore 5, 2) := by decide +kernel
theorem dX7_derive_3 : decode cX7_derive 3 = .ok (.iload 5, 2) := by decide +kernel
theorem dX7_derive_5 : decode cX7_derive 5 = .ok (.aload_n 0, 1) := by decide +kernel
theorem dX7_derive_6 : decode cX7_derive 6 = .ok (.getfield 7, 3) := by decide +kernel
theorem dX7_derive_9 : decode cX7_derive 9 = .ok (.if_icmp .ge 87, 3) := by decide +kernel
theorem dX7_derive_12 : decode cX7_derive 12 = .ok (.dconst 0, 1) := by decide +kernel
theorem dX7_derive_13 : decode cX7_derive 13 = .ok (.dstore 6, 2) := by decide +kernel
theorem dX7_derive_15 : decode cX7_derive 15 = .ok (.iconst 0, 1) := by decide +kernel
theorem dX7_derive_16 : decode cX7_derive 16 = .ok (.istore 8, 2) := by decide +kernel
theorem dX7_derive_18 : decode cX7_derive 18 = .ok (.iload 8, 2) := by decide +kernel
theorem dX7_derive_20 : decode cX7_derive 20 = .ok (.aload_n 0, 1) := by decide +kernel
theorem dX7_derive_21 : decode cX7_derive 21 = .ok (.getfield 91, 3) := by decide +kernel
theorem dX7_derive_24 : decode cX7_derive 24 = .ok (.if_icmp .ge 59, 3) := by decide +kernel
theorem dX7_derive_27 : decode cX7_derive 27 = .ok (.aload_n 0, 1) := by decide +kernel
theorem dX7_derive_28 : decode cX7_derive 28 = .ok (.getfield 13, 3) := by decide +kernel
theorem dX7_derive_31 : decode cX7_derive 31 = .ok (.iload 8, 2) := by decide +kernel
theorem dX7_derive_33 : decode cX7_derive 33 = .ok (.iaload, 1) := by decide +kernel
theorem dX7_derive_34 : decode cX7_derive 34 = .ok (.iload 5, 2) := by decide +kernel
theorem dX7_derive_36 : decode cX7_derive 36 = .ok (.if_icmp .ne 41, 3) := by decide +kernel
theorem dX7_derive_39 : decode cX7_derive 39 = .ok (.dload 6, 2) := by decide +kernel
theorem dX7_derive_41 : decode cX7_derive 41 = .ok (.aload_n 0, 1) := by decide +kernel
theorem dX7_derive_42 : decode cX7_derive 42 = .ok (.getfield 23, 3) := by decide +kernel
theorem dX7_derive_45 : decode cX7_derive 45 = .ok (.iload 8, 2) := by decide +kernel
theorem dX7_derive_47 : decode cX7_derive 47 = .ok (.daload, 1) := by decide +kernel
theorem dX7_derive_48 : decode cX7_derive 48 = .ok (.aload_n 0, 1) := by decide +kernel
theorem dX7_derive_49 : decode cX7_derive 49 = .ok (.getfield 17, 3) := by decide +kernel
theorem dX7_derive_52 : decode cX7_derive 52 = .ok (.iload 8, 2) := by decide +kernel
theorem dX7_derive_54 : decode cX7_derive 54 = .ok (.iaload, 1) := by decide +kernel
theorem dX7_derive_55 : decode cX7_derive 55 = .ok (.dload_n 1, 1) := by decide +kernel
theorem dX7_derive_56 : decode cX7_derive 56 = .ok (.aload_n 3, 1) := by decide +kernel
theorem dX7_derive_57 : decode cX7_derive 57 = .ok (.invokestatic 94, 3) := by decide +kernel
theorem dX7_derive_60 : decode cX7_derive 60 = .ok (.dmul, 1) := by decide +kernel
theorem dX7_derive_61 : decode cX7_derive 61 = .ok (.aload_n 0, 1) := by decide +kernel
theorem dX7_derive_62 : decode cX7_derive 62 = .ok (.getfield 20, 3) := by decide +kernel
theorem dX7_derive_65 : decode cX7_derive 65 = .ok (.iload 8, 2) := by decide +kernel
theorem dX7_derive_67 : decode cX7_derive 67 = .ok (.iaload, 1) := by decide +kernel
theorem dX7_derive_68 : decode cX7_derive 68 = .ok (.dload_n 1, 1) := by decide +kernel
theorem dX7_derive_69 : decode cX7_derive 69 = .ok (.aload_n 3, 1) := by decide +kernel
theorem dX7_derive_70 : decode cX7_derive 70 = .ok (.invokestatic 94, 3) := by decide +kernel
theorem dX7_derive_73 : decode cX7_derive 73 = .ok (.dmul, 1) := by decide +kernel
theorem dX7_derive_74 : decode cX7_derive 74 = .ok (.dadd, 1) := by decide +kernel
theorem dX7_derive_75 : decode cX7_derive 75 = .ok (.dstore 6, 2) := by decide +kernel
theorem dX7_derive_77 : decode cX7_derive 77 = .ok (.iinc 8 1, 3) := by decide +kernel
theorem dX7_derive_80 : decode cX7_derive 80 = .ok (.goto (-62), 3) := by decide +kernel
theorem dX7_derive_83 : decode cX7_derive 83 = .ok (.aload 4, 2) := by decide +kernel
theorem dX7_derive_85 : decode cX7_derive 85 = .ok (.iload 5, 2) := by decide +kernel
theorem dX7_derive_87 : decode cX7_derive 87 = .ok (.dload 6, 2) := by decide +kernel
theorem dX7_derive_89 : decode cX7_derive 89 = .ok (.dastore, 1) := by decide +kernel
theorem dX7_derive_90 : decode cX7_derive 90 = .ok (.iinc 5 1, 3) := by decide +kernel
theorem dX7_derive_93 : decode cX7_derive 93 = .ok (.goto (-90), 3) := by decide +kernel
theorem dX7_derive_96 : decode cX7_derive 96 = .ok (.return_, 1) := by decide +kernel
theorem dX7_slope_0 : decode cX7_slope 0 = .ok (.dconst 0, 1) := by decide +kernel
theorem dX7_slope_1 : decode cX7_slope 1 = .ok (.dstore 6, 2) := by decide +kernel
theorem dX7_slope_3 : decode cX7_slope 3 = .ok (.iconst 0, 1) := by decide +kernel
theorem dX7_slope_4 : decode cX7_slope 4 = .ok (.istore 8, 2) := by decide +kernel
theorem dX7_slope_6 : decode cX7_slope 6 = .ok (.iload 8, 2) := by decide +kernel
theorem dX7_slope_8 : decode cX7_slope 8 = .ok (.aload_n 0, 1) := by decide +kernel
theorem dX7_slope_9 : decode cX7_slope 9 = .ok (.getfield 91, 3) := by decide +kernel
theorem dX7_slope_12 : decode cX7_slope 12 = .ok (.if_icmp .ge 105, 3) := by decide +kernel
theorem dX7_slope_15 : decode cX7_slope 15 = .ok (.aload_n 0, 1) := by decide +kernel
theorem dX7_slope_16 : decode cX7_slope 16 = .ok (.getfield 13, 3) := by decide +kernel
theorem dX7_slope_19 : decode cX7_slope 19 = .ok (.iload 8, 2) := by decide +kernel
theorem dX7_slope_21 : decode cX7_slope 21 = .ok (.iaload, 1) := by decide +kernel
theorem dX7_slope_22 : decode cX7_slope 22 = .ok (.iload_n 1, 1) := by decide +kernel
theorem dX7_slope_23 : decode cX7_slope 23 = .ok (.if_icmp .ne 40, 3) := by decide +kernel
theorem dX7_slope_26 : decode cX7_slope 26 = .ok (.aload_n 0, 1) := by decide +kernel
theorem dX7_slope_27 : decode cX7_slope 27 = .ok (.getfield 17, 3) := by decide +kernel
theorem dX7_slope_30 : decode cX7_slope 30 = .ok (.iload 8, 2) := by decide +kernel
theorem dX7_slope_32 : decode cX7_slope 32 = .ok (.iaload, 1) := by decide +kernel
theorem dX7_slope_33 : decode cX7_slope 33 = .ok (.iload_n 2, 1) := by decide +kernel
theorem dX7_slope_34 : decode cX7_slope 34 = .ok (.if_icmp .ne 29, 3) := by decide +kernel
theorem dX7_slope_37 : decode cX7_slope 37 = .ok (.dload 6, 2) := by decide +kernel
theorem dX7_slope_39 : decode cX7_slope 39 = .ok (.aload_n 0, 1) := by decide +kernel
theorem dX7_slope_40 : decode cX7_slope 40 = .ok (.getfield 23, 3) := by decide +kernel
theorem dX7_slope_43 : decode cX7_slope 43 = .ok (.iload 8, 2) := by decide +kernel
theorem dX7_slope_45 : decode cX7_slope 45 = .ok (.daload, 1) := by decide +kernel
theorem dX7_slope_46 : decode cX7_slope 46 = .ok (.aload_n 0, 1) := by decide +kernel
theorem dX7_slope_47 : decode cX7_slope 47 = .ok (.getfield 20, 3) := by decide +kernel
theorem dX7_slope_50 : decode cX7_slope 50 = .ok (.iload 8, 2) := by decide +kernel
theorem dX7_slope_52 : decode cX7_slope 52 = .ok (.iaload, 1) := by decide +kernel
theorem dX7_slope_53 : decode cX7_slope 53 = .ok (.dload_n 3, 1) := by decide +kernel
theorem dX7_slope_54 : decode cX7_slope 54 = .ok (.aload 5, 2) := by decide +kernel
theorem dX7_slope_56 : decode cX7_slope 56 = .ok (.invokestatic 94, 3) := by decide +kernel
theorem dX7_slope_59 : decode cX7_slope 59 = .ok (.dmul, 1) := by decide +kernel
theorem dX7_slope_60 : decode cX7_slope 60 = .ok (.dadd, 1) := by decide +kernel
theorem dX7_slope_61 : decode cX7_slope 61 = .ok (.dstore 6, 2) := by decide +kernel
theorem dX7_slope_63 : decode cX7_slope 63 = .ok (.aload_n 0, 1) := by decide +kernel
theorem dX7_slope_64 : decode cX7_slope 64 = .ok (.getfield 13, 3) := by decide +kernel
theorem dX7_slope_67 : decode cX7_slope 67 = .ok (.iload 8, 2) := by decide +kernel
theorem dX7_slope_69 : decode cX7_slope 69 = .ok (.iaload, 1) := by decide +kernel
theorem dX7_slope_70 : decode cX7_slope 70 = .ok (.iload_n 1, 1) := by decide +kernel
theorem dX7_slope_71 : decode cX7_slope 71 = .ok (.if_icmp .ne 40, 3) := by decide +kernel
theorem dX7_slope_74 : decode cX7_slope 74 = .ok (.aload_n 0, 1) := by decide +kernel
theorem dX7_slope_75 : decode cX7_slope 75 = .ok (.getfield 20, 3) := by decide +kernel
theorem dX7_slope_78 : decode cX7_slope 78 = .ok (.iload 8, 2) := by decide +kernel
theorem dX7_slope_80 : decode cX7_slope 80 = .ok (.iaload, 1) := by decide +kernel
theorem dX7_slope_81 : decode cX7_slope 81 = .ok (.iload_n 2, 1) := by decide +kernel
theorem dX7_slope_82 : decode cX7_slope 82 = .ok (.if_icmp .ne 29, 3) := by decide +kernel
theorem dX7_slope_85 : decode cX7_slope 85 = .ok (.dload 6, 2) := by decide +kernel
theorem dX7_slope_87 : decode cX7_slope 87 = .ok (.aload_n 0, 1) := by decide +kernel
theorem dX7_slope_88 : decode cX7_slope 88 = .ok (.getfield 23, 3) := by decide +kernel
theorem dX7_slope_91 : decode cX7_slope 91 = .ok (.iload 8, 2) := by decide +kernel
theorem dX7_slope_93 : decode cX7_slope 93 = .ok (.daload, 1) := by decide +kernel
theorem dX7_slope_94 : decode cX7_slope 94 = .ok (.aload_n 0, 1) := by decide +kernel
theorem dX7_slope_95 : decode cX7_slope 95 = .ok (.getfield 17, 3) := by decide +kernel
theorem dX7_slope_98 : decode cX7_slope 98 = .ok (.iload 8, 2) := by decide +kernel
theorem dX7_slope_100 : decode cX7_slope 100 = .ok (.iaload, 1) := by decide +kernel
theorem dX7_slope_101 : decode cX7_slope 101 = .ok (.dload_n 3, 1) := by decide +kernel
theorem dX7_slope_102 : decode cX7_slope 102 = .ok (.aload 5, 2) := by decide +kernel
theorem dX7_slope_104 : decode cX7_slope 104 = .ok (.invokestatic 94, 3) := by decide +kernel
theorem dX7_slope_107 : decode cX7_slope 107 = .ok (.dmul, 1) := by decide +kernel
theorem dX7_slope_108 : decode cX7_slope 108 = .ok (.dadd, 1) := by decide +kernel
theorem dX7_slope_109 : decode cX7_slope 109 = .ok (.dstore 6, 2) := by decide +kernel
theorem dX7_slope_111 : decode cX7_slope 111 = .ok (.iinc 8 1, 3) := by decide +kernel
theorem dX7_slope_114 : decode cX7_slope 114 = .ok (.goto (-108), 3) := by decide +kernel
theorem dX7_slope_117 : decode cX7_slope 117 = .ok (.dload 6, 2) := by decide +kernel
theorem dX7_slope_119 : decode cX7_slope 119 = .ok (.dreturn, 1) := by decide +kernel
theorem dX7_lead_0 : decode cX7_lead 0 = .ok (.iconst 0, 1) := by decide +kernel
theorem dX7_lead_1 : decode cX7_lead 1 = .ok (.istore 6, 2) := by decide +kernel
theorem dX7_lead_3 : decode cX7_lead 3 = .ok (.iload 6, 2) := by decide +kernel
theorem dX7_lead_5 : decode cX7_lead 5 = .ok (.aload_n 0, 1) := by decide +kernel
theorem dX7_lead_6 : decode cX7_lead 6 = .ok (.getfield 7, 3) := by decide +kernel
theorem dX7_lead_9 : decode cX7_lead 9 = .ok (.if_icmp .ge 26, 3) := by decide +kernel
theorem dX7_lead_12 : decode cX7_lead 12 = .ok (.aload 5, 2) := by decide +kernel
theorem dX7_lead_14 : decode cX7_lead 14 = .ok (.iload 6, 2) := by decide +kernel
theorem dX7_lead_16 : decode cX7_lead 16 = .ok (.aload_n 1, 1) := by decide +kernel
theorem dX7_lead_17 : decode cX7_lead 17 = .ok (.iload 6, 2) := by decide +kernel
theorem dX7_lead_19 : decode cX7_lead 19 = .ok (.daload, 1) := by decide +kernel
theorem dX7_lead_20 : decode cX7_lead 20 = .ok (.dload_n 2, 1) := by decide +kernel
theorem dX7_lead_21 : decode cX7_lead 21 = .ok (.aload 4, 2) := by decide +kernel
theorem dX7_lead_23 : decode cX7_lead 23 = .ok (.iload 6, 2) := by decide +kernel
theorem dX7_lead_25 : decode cX7_lead 25 = .ok (.daload, 1) := by decide +kernel
theorem dX7_lead_26 : decode cX7_lead 26 = .ok (.dmul, 1) := by decide +kernel
theorem dX7_lead_27 : decode cX7_lead 27 = .ok (.dadd, 1) := by decide +kernel
theorem dX7_lead_28 : decode cX7_lead 28 = .ok (.dastore, 1) := by decide +kernel
theorem dX7_lead_29 : decode cX7_lead 29 = .ok (.iinc 6 1, 3) := by decide +kernel
theorem dX7_lead_32 : decode cX7_lead 32 = .ok (.goto (-29), 3) := by decide +kernel
theorem dX7_lead_35 : decode cX7_lead 35 = .ok (.return_, 1) := by decide +kernel
theorem dX7_runge_0 : decode cX7_runge 0 = .ok (.aload_n 0, 1) := by decide +kernel
theorem dX7_runge_1 : decode cX7_runge 1 = .ok (.aload_n 0, 1) := by decide +kernel
theorem dX7_runge_2 : decode cX7_runge 2 = .ok (.getfield 98, 3) := by decide +kernel
theorem dX7_runge_5 : decode cX7_runge 5 = .ok (.aload_n 0, 1) := by decide +kernel
theorem dX7_runge_6 : decode cX7_runge 6 = .ok (.getfield 36, 3) := by decide +kernel
theorem dX7_runge_9 : decode cX7_runge 9 = .ok (.aload_n 0, 1) := by decide +kernel
theorem dX7_runge_10 : decode cX7_runge 10 = .ok (.getfield 42, 3) := by decide +kernel
theorem dX7_runge_13 : decode cX7_runge 13 = .ok (.invokevirtual 101, 3) := by decide +kernel
theorem dX7_runge_16 : decode cX7_runge 16 = .ok (.aload_n 0, 1) := by decide +kernel
theorem dX7_runge_17 : decode cX7_runge 17 = .ok (.aload_n 0, 1) := by decide +kernel
theorem dX7_runge_18 : decode cX7_runge 18 = .ok (.getfield 36, 3) := by decide +kernel
theorem dX7_runge_21 : decode cX7_runge 21 = .ok (.ldc2_w 105, 3) := by decide +kernel
theorem dX7_runge_24 : decode cX7_runge 24 = .ok (.dload_n 1, 1) := by decide +kernel
theorem dX7_runge_25 : decode cX7_runge 25 = .ok (.dmul, 1) := by decide +kernel
theorem dX7_runge_26 : decode cX7_runge 26 = .ok (.aload_n 0, 1) := by decide +kernel
theorem dX7_runge_27 : decode cX7_runge 27 = .ok (.getfield 42, 3) := by decide +kernel
theorem dX7_runge_30 : decode cX7_runge 30 = .ok (.aload_n 0, 1) := by decide +kernel
theorem dX7_runge_31 : decode cX7_runge 31 = .ok (.getfield 54, 3) := by decide +kernel
theorem dX7_runge_34 : decode cX7_runge 34 = .ok (.invokevirtual 107, 3) := by decide +kernel
theorem dX7_runge_37 : decode cX7_runge 37 = .ok (.aload_n 0, 1) := by decide +kernel
theorem dX7_runge_38 : decode cX7_runge 38 = .ok (.aload_n 0, 1) := by decide +kernel
theorem dX7_runge_39 : decode cX7_runge 39 = .ok (.getfield 98, 3) := by decide +kernel
theorem dX7_runge_42 : decode cX7_runge 42 = .ok (.ldc2_w 105, 3) := by decide +kernel
theorem dX7_runge_45 : decode cX7_runge 45 = .ok (.dload_n 1, 1) := by decide +kernel
theorem dX7_runge_46 : decode cX7_runge 46 = .ok (.dmul, 1) := by decide +kernel
theorem dX7_runge_47 : decode cX7_runge 47 = .ok (.dadd, 1) := by decide +kernel
theorem dX7_runge_48 : decode cX7_runge 48 = .ok (.aload_n 0, 1) := by decide +kernel
theorem dX7_runge_49 : decode cX7_runge 49 = .ok (.getfield 54, 3) := by decide +kernel
theorem dX7_runge_52 : decode cX7_runge 52 = .ok (.aload_n 0, 1) := by decide +kernel
theorem dX7_runge_53 : decode cX7_runge 53 = .ok (.getfield 45, 3) := by decide +kernel
theorem dX7_runge_56 : decode cX7_runge 56 = .ok (.invokevirtual 101, 3) := by decide +kernel
theorem dX7_runge_59 : decode cX7_runge 59 = .ok (.aload_n 0, 1) := by decide +kernel
theorem dX7_runge_60 : decode cX7_runge 60 = .ok (.aload_n 0, 1) := by decide +kernel
theorem dX7_runge_61 : decode cX7_runge 61 = .ok (.getfield 36, 3) := by decide +kernel
theorem dX7_runge_64 : decode cX7_runge 64 = .ok (.ldc2_w 105, 3) := by decide +kernel
theorem dX7_runge_67 : decode cX7_runge 67 = .ok (.dload_n 1, 1) := by decide +kernel
theorem dX7_runge_68 : decode cX7_runge 68 = .ok (.dmul, 1) := by decide +kernel
theorem dX7_runge_69 : decode cX7_runge 69 = .ok (.aload_n 0, 1) := by decide +kernel
theorem dX7_runge_70 : decode cX7_runge 70 = .ok (.getfield 45, 3) := by decide +kernel
theorem dX7_runge_73 : decode cX7_runge 73 = .ok (.aload_n 0, 1) := by decide +kernel
theorem dX7_runge_74 : decode cX7_runge 74 = .ok (.getfield 54, 3) := by decide +kernel
theorem dX7_runge_77 : decode cX7_runge 77 = .ok (.invokevirtual 107, 3) := by decide +kernel
theorem dX7_runge_80 : decode cX7_runge 80 = .ok (.aload_n 0, 1) := by decide +kernel
theorem dX7_runge_81 : decode cX7_runge 81 = .ok (.aload_n 0, 1) := by decide +kernel
theorem dX7_runge_82 : decode cX7_runge 82 = .ok (.getfield 98, 3) := by decide +kernel
theorem dX7_runge_85 : decode cX7_runge 85 = .ok (.ldc2_w 105, 3) := by decide +kernel
theorem dX7_runge_88 : decode cX7_runge 88 = .ok (.dload_n 1, 1) := by decide +kernel
theorem dX7_runge_89 : decode cX7_runge 89 = .ok (.dmul, 1) := by decide +kernel
theorem dX7_runge_90 : decode cX7_runge 90 = .ok (.dadd, 1) := by decide +kernel
theorem dX7_runge_91 : decode cX7_runge 91 = .ok (.aload_n 0, 1) := by decide +kernel
theorem dX7_runge_92 : decode cX7_runge 92 = .ok (.getfield 54, 3) := by decide +kernel
theorem dX7_runge_95 : decode cX7_runge 95 = .ok (.aload_n 0, 1) := by decide +kernel
theorem dX7_runge_96 : decode cX7_runge 96 = .ok (.getfield 48, 3) := by decide +kernel
theorem dX7_runge_99 : decode cX7_runge 99 = .ok (.invokevirtual 101, 3) := by decide +kernel
theorem dX7_runge_102 : decode cX7_runge 102 = .ok (.aload_n 0, 1) := by decide +kernel
theorem dX7_runge_103 : decode cX7_runge 103 = .ok (.aload_n 0, 1) := by decide +kernel
theorem dX7_runge_104 : decode cX7_runge 104 = .ok (.getfield 36, 3) := by decide +kernel
theorem dX7_runge_107 : decode cX7_runge 107 = .ok (.dload_n 1, 1) := by decide +kernel
theorem dX7_runge_108 : decode cX7_runge 108 = .ok (.aload_n 0, 1) := by decide +kernel
theorem dX7_runge_109 : decode cX7_runge 109 = .ok (.getfield 48, 3) := by decide +kernel
theorem dX7_runge_112 : decode cX7_runge 112 = .ok (.aload_n 0, 1) := by decide +kernel
theorem dX7_runge_113 : decode cX7_runge 113 = .ok (.getfield 54, 3) := by decide +kernel
theorem dX7_runge_116 : decode cX7_runge 116 = .ok (.invokevirtual 107, 3) := by decide +kernel
theorem dX7_runge_119 : decode cX7_runge 119 = .ok (.aload_n 0, 1) := by decide +kernel
theorem dX7_runge_120 : decode cX7_runge 120 = .ok (.aload_n 0, 1) := by decide +kernel
theorem dX7_runge_121 : decode cX7_runge 121 = .ok (.getfield 98, 3) := by decide +kernel
theorem dX7_runge_124 : decode cX7_runge 124 = .ok (.dload_n 1, 1) := by decide +kernel
theorem dX7_runge_125 : decode cX7_runge 125 = .ok (.dadd, 1) := by decide +kernel
theorem dX7_runge_126 : decode cX7_runge 126 = .ok (.aload_n 0, 1) := by decide +kernel
theorem dX7_runge_127 : decode cX7_runge 127 = .ok (.getfield 54, 3) := by decide +kernel
theorem dX7_runge_130 : decode cX7_runge 130 = .ok (.aload_n 0, 1) := by decide +kernel
theorem dX7_runge_131 : decode cX7_runge 131 = .ok (.getfield 51, 3) := by decide +kernel
theorem dX7_runge_134 : decode cX7_runge 134 = .ok (.invokevirtual 101, 3) := by decide +kernel
theorem dX7_runge_137 : decode cX7_runge 137 = .ok (.iconst 0, 1) := by decide +kernel
theorem dX7_runge_138 : decode cX7_runge 138 = .ok (.istore_n 3, 1) := by decide +kernel
theorem dX7_runge_139 : decode cX7_runge 139 = .ok (.iload_n 3, 1) := by decide +kernel
theorem dX7_runge_140 : decode cX7_runge 140 = .ok (.aload_n 0, 1) := by decide +kernel
theorem dX7_runge_141 : decode cX7_runge 141 = .ok (.getfield 7, 3) := by decide +kernel
theorem dX7_runge_144 : decode cX7_runge 144 = .ok (.if_icmp .ge 63, 3) := by decide +kernel
theorem dX7_runge_147 : decode cX7_runge 147 = .ok (.aload_n 0, 1) := by decide +kernel
theorem dX7_runge_148 : decode cX7_runge 148 = .ok (.getfield 39, 3) := by decide +kernel
theorem dX7_runge_151 : decode cX7_runge 151 = .ok (.iload_n 3, 1) := by decide +kernel
theorem dX7_runge_152 : decode cX7_runge 152 = .ok (.aload_n 0, 1) := by decide +kernel
theorem dX7_runge_153 : decode cX7_runge 153 = .ok (.getfield 36, 3) := by decide +kernel
theorem dX7_runge_156 : decode cX7_runge 156 = .ok (.iload_n 3, 1) := by decide +kernel
theorem dX7_runge_157 : decode cX7_runge 157 = .ok (.daload, 1) := by decide +kernel
theorem dX7_runge_158 : decode cX7_runge 158 = .ok (.dload_n 1, 1) := by decide +kernel
theorem dX7_runge_159 : decode cX7_runge 159 = .ok (.ldc2_w 111, 3) := by decide +kernel
theorem dX7_runge_162 : decode cX7_runge 162 = .ok (.ddiv, 1) := by decide +kernel
theorem dX7_runge_163 : decode cX7_runge 163 = .ok (.aload_n 0, 1) := by decide +kernel
theorem dX7_runge_164 : decode cX7_runge 164 = .ok (.getfield 42, 3) := by decide +kernel
theorem dX7_runge_167 : decode cX7_runge 167 = .ok (.iload_n 3, 1) := by decide +kernel
theorem dX7_runge_168 : decode cX7_runge 168 = .ok (.daload, 1) := by decide +kernel
theorem dX7_runge_169 : decode cX7_runge 169 = .ok (.ldc2_w 113, 3) := by decide +kernel
theorem dX7_runge_172 : decode cX7_runge 172 = .ok (.aload_n 0, 1) := by decide +kernel
theorem dX7_runge_173 : decode cX7_runge 173 = .ok (.getfield 45, 3) := by decide +kernel
theorem dX7_runge_176 : decode cX7_runge 176 = .ok (.iload_n 3, 1) := by decide +kernel
theorem dX7_runge_177 : decode cX7_runge 177 = .ok (.daload, 1) := by decide +kernel
theorem dX7_runge_178 : decode cX7_runge 178 = .ok (.dmul, 1) := by decide +kernel
theorem dX7_runge_179 : decode cX7_runge 179 = .ok (.dadd, 1) := by decide +kernel
theorem dX7_runge_180 : decode cX7_runge 180 = .ok (.ldc2_w 113, 3) := by decide +kernel
theorem dX7_runge_183 : decode cX7_runge 183 = .ok (.aload_n 0, 1) := by decide +kernel
theorem dX7_runge_184 : decode cX7_runge 184 = .ok (.getfield 48, 3) := by decide +kernel
theorem dX7_runge_187 : decode cX7_runge 187 = .ok (.iload_n 3, 1) := by decide +kernel
theorem dX7_runge_188 : decode cX7_runge 188 = .ok (.daload, 1) := by decide +kernel
theorem dX7_runge_189 : decode cX7_runge 189 = .ok (.dmul, 1) := by decide +kernel
theorem dX7_runge_190 : decode cX7_runge 190 = .ok (.dadd, 1) := by decide +kernel
theorem dX7_runge_191 : decode cX7_runge 191 = .ok (.aload_n 0, 1) := by decide +kernel
theorem dX7_runge_192 : decode cX7_runge 192 = .ok (.getfield 51, 3) := by decide +kernel
theorem dX7_runge_195 : decode cX7_runge 195 = .ok (.iload_n 3, 1) := by decide +kernel
theorem dX7_runge_196 : decode cX7_runge 196 = .ok (.daload, 1) := by decide +kernel
theorem dX7_runge_197 : decode cX7_runge 197 = .ok (.dadd, 1) := by decide +kernel
theorem dX7_runge_198 : decode cX7_runge 198 = .ok (.dmul, 1) := by decide +kernel
theorem dX7_runge_199 : decode cX7_runge 199 = .ok (.dadd, 1) := by decide +kernel
theorem dX7_runge_200 : decode cX7_runge 200 = .ok (.dastore, 1) := by decide +kernel
theorem dX7_runge_201 : decode cX7_runge 201 = .ok (.iinc 3 1, 3) := by decide +kernel
theorem dX7_runge_204 : decode cX7_runge 204 = .ok (.goto (-65), 3) := by decide +kernel
theorem dX7_runge_207 : decode cX7_runge 207 = .ok (.return_, 1) := by decide +kernel
theorem dX7_pair_0 : decode cX7_pair 0 = .ok (.aload_n 0, 1) := by decide +kernel
theorem dX7_pair_1 : decode cX7_pair 1 = .ok (.aload_n 0, 1) := by decide +kernel
theorem dX7_pair_2 : decode cX7_pair 2 = .ok (.getfield 98, 3) := by decide +kernel
theorem dX7_pair_5 : decode cX7_pair 5 = .ok (.aload_n 0, 1) := by decide +kernel
theorem dX7_pair_6 : decode cX7_pair 6 = .ok (.getfield 36, 3) := by decide +kernel
theorem dX7_pair_9 : decode cX7_pair 9 = .ok (.aload_n 0, 1) := by decide +kernel
theorem dX7_pair_10 : decode cX7_pair 10 = .ok (.getfield 42, 3) := by decide +kernel
theorem dX7_pair_13 : decode cX7_pair 13 = .ok (.invokevirtual 101, 3) := by decide +kernel
theorem dX7_pair_16 : decode cX7_pair 16 = .ok (.aload_n 0, 1) := by decide +kernel
theorem dX7_pair_17 : decode cX7_pair 17 = .ok (.aload_n 0, 1) := by decide +kernel
theorem dX7_pair_18 : decode cX7_pair 18 = .ok (.getfield 36, 3) := by decide +kernel
theorem dX7_pair_21 : decode cX7_pair 21 = .ok (.ldc2_w 105, 3) := by decide +kernel
theorem dX7_pair_24 : decode cX7_pair 24 = .ok (.dload_n 1, 1) := by decide +kernel
theorem dX7_pair_25 : decode cX7_pair 25 = .ok (.dmul, 1) := by decide +kernel
theorem dX7_pair_26 : decode cX7_pair 26 = .ok (.aload_n 0, 1) := by decide +kernel
theorem dX7_pair_27 : decode cX7_pair 27 = .ok (.getfield 42, 3) := by decide +kernel
theorem dX7_pair_30 : decode cX7_pair 30 = .ok (.aload_n 0, 1) := by decide +kernel
theorem dX7_pair_31 : decode cX7_pair 31 = .ok (.getfield 54, 3) := by decide +kernel
theorem dX7_pair_34 : decode cX7_pair 34 = .ok (.invokevirtual 107, 3) := by decide +kernel
theorem dX7_pair_37 : decode cX7_pair 37 = .ok (.aload_n 0, 1) := by decide +kernel
theorem dX7_pair_38 : decode cX7_pair 38 = .ok (.aload_n 0, 1) := by decide +kernel
theorem dX7_pair_39 : decode cX7_pair 39 = .ok (.getfield 98, 3) := by decide +kernel
theorem dX7_pair_42 : decode cX7_pair 42 = .ok (.ldc2_w 105, 3) := by decide +kernel
theorem dX7_pair_45 : decode cX7_pair 45 = .ok (.dload_n 1, 1) := by decide +kernel
theorem dX7_pair_46 : decode cX7_pair 46 = .ok (.dmul, 1) := by decide +kernel
theorem dX7_pair_47 : decode cX7_pair 47 = .ok (.dadd, 1) := by decide +kernel
theorem dX7_pair_48 : decode cX7_pair 48 = .ok (.aload_n 0, 1) := by decide +kernel
theorem dX7_pair_49 : decode cX7_pair 49 = .ok (.getfield 54, 3) := by decide +kernel
theorem dX7_pair_52 : decode cX7_pair 52 = .ok (.aload_n 0, 1) := by decide +kernel
theorem dX7_pair_53 : decode cX7_pair 53 = .ok (.getfield 45, 3) := by decide +kernel
theorem dX7_pair_56 : decode cX7_pair 56 = .ok (.invokevirtual 101, 3) := by decide +kernel
theorem dX7_pair_59 : decode cX7_pair 59 = .ok (.aload_n 0, 1) := by decide +kernel
theorem dX7_pair_60 : decode cX7_pair 60 = .ok (.aload_n 0, 1) := by decide +kernel
theorem dX7_pair_61 : decode cX7_pair 61 = .ok (.getfield 36, 3) := by decide +kernel
theorem dX7_pair_64 : decode cX7_pair 64 = .ok (.ldc2_w 115, 3) := by decide +kernel
theorem dX7_pair_67 : decode cX7_pair 67 = .ok (.dload_n 1, 1) := by decide +kernel
theorem dX7_pair_68 : decode cX7_pair 68 = .ok (.dmul, 1) := by decide +kernel
theorem dX7_pair_69 : decode cX7_pair 69 = .ok (.aload_n 0, 1) := by decide +kernel
theorem dX7_pair_70 : decode cX7_pair 70 = .ok (.getfield 45, 3) := by decide +kernel
theorem dX7_pair_73 : decode cX7_pair 73 = .ok (.aload_n 0, 1) := by decide +kernel
theorem dX7_pair_74 : decode cX7_pair 74 = .ok (.getfield 54, 3) := by decide +kernel
theorem dX7_pair_77 : decode cX7_pair 77 = .ok (.invokevirtual 107, 3) := by decide +kernel
theorem dX7_pair_80 : decode cX7_pair 80 = .ok (.aload_n 0, 1) := by decide +kernel
theorem dX7_pair_81 : decode cX7_pair 81 = .ok (.aload_n 0, 1) := by decide +kernel
theorem dX7_pair_82 : decode cX7_pair 82 = .ok (.getfield 98, 3) := by decide +kernel
theorem dX7_pair_85 : decode cX7_pair 85 = .ok (.ldc2_w 115, 3) := by decide +kernel
theorem dX7_pair_88 : decode cX7_pair 88 = .ok (.dload_n 1, 1) := by decide +kernel
theorem dX7_pair_89 : decode cX7_pair 89 = .ok (.dmul, 1) := by decide +kernel
theorem dX7_pair_90 : decode cX7_pair 90 = .ok (.dadd, 1) := by decide +kernel
theorem dX7_pair_91 : decode cX7_pair 91 = .ok (.aload_n 0, 1) := by decide +kernel
theorem dX7_pair_92 : decode cX7_pair 92 = .ok (.getfield 54, 3) := by decide +kernel
theorem dX7_pair_95 : decode cX7_pair 95 = .ok (.aload_n 0, 1) := by decide +kernel
theorem dX7_pair_96 : decode cX7_pair 96 = .ok (.getfield 48, 3) := by decide +kernel
theorem dX7_pair_99 : decode cX7_pair 99 = .ok (.invokevirtual 101, 3) := by decide +kernel
theorem dX7_pair_102 : decode cX7_pair 102 = .ok (.iconst 0, 1) := by decide +kernel
theorem dX7_pair_103 : decode cX7_pair 103 = .ok (.istore_n 3, 1) := by decide +kernel
theorem dX7_pair_104 : decode cX7_pair 104 = .ok (.iload_n 3, 1) := by decide +kernel
theorem dX7_pair_105 : decode cX7_pair 105 = .ok (.aload_n 0, 1) := by decide +kernel
theorem dX7_pair_106 : decode cX7_pair 106 = .ok (.getfield 7, 3) := by decide +kernel
theorem dX7_pair_109 : decode cX7_pair 109 = .ok (.if_icmp .ge 60, 3) := by decide +kernel
theorem dX7_pair_112 : decode cX7_pair 112 = .ok (.aload_n 0, 1) := by decide +kernel
theorem dX7_pair_113 : decode cX7_pair 113 = .ok (.getfield 39, 3) := by decide +kernel
theorem dX7_pair_116 : decode cX7_pair 116 = .ok (.iload_n 3, 1) := by decide +kernel
theorem dX7_pair_117 : decode cX7_pair 117 = .ok (.aload_n 0, 1) := by decide +kernel
theorem dX7_pair_118 : decode cX7_pair 118 = .ok (.getfield 36, 3) := by decide +kernel
theorem dX7_pair_121 : decode cX7_pair 121 = .ok (.iload_n 3, 1) := by decide +kernel
theorem dX7_pair_122 : decode cX7_pair 122 = .ok (.daload, 1) := by decide +kernel
theorem dX7_pair_123 : decode cX7_pair 123 = .ok (.dload_n 1, 1) := by decide +kernel
theorem dX7_pair_124 : decode cX7_pair 124 = .ok (.ldc2_w 117, 3) := by decide +kernel
theorem dX7_pair_127 : decode cX7_pair 127 = .ok (.ddiv, 1) := by decide +kernel
theorem dX7_pair_128 : decode cX7_pair 128 = .ok (.ldc2_w 113, 3) := by decide +kernel
theorem dX7_pair_131 : decode cX7_pair 131 = .ok (.aload_n 0, 1) := by decide +kernel
theorem dX7_pair_132 : decode cX7_pair 132 = .ok (.getfield 42, 3) := by decide +kernel
theorem dX7_pair_135 : decode cX7_pair 135 = .ok (.iload_n 3, 1) := by decide +kernel
theorem dX7_pair_136 : decode cX7_pair 136 = .ok (.daload, 1) := by decide +kernel
theorem dX7_pair_137 : decode cX7_pair 137 = .ok (.dmul, 1) := by decide +kernel
theorem dX7_pair_138 : decode cX7_pair 138 = .ok (.ldc2_w 119, 3) := by decide +kernel
theorem dX7_pair_141 : decode cX7_pair 141 = .ok (.aload_n 0, 1) := by decide +kernel
theorem dX7_pair_142 : decode cX7_pair 142 = .ok (.getfield 45, 3) := by decide +kernel
theorem dX7_pair_145 : decode cX7_pair 145 = .ok (.iload_n 3, 1) := by decide +kernel
theorem dX7_pair_146 : decode cX7_pair 146 = .ok (.daload, 1) := by decide +kernel
theorem dX7_pair_147 : decode cX7_pair 147 = .ok (.dmul, 1) := by decide +kernel
theorem dX7_pair_148 : decode cX7_pair 148 = .ok (.dadd, 1) := by decide +kernel
theorem dX7_pair_149 : decode cX7_pair 149 = .ok (.ldc2_w 121, 3) := by decide +kernel
theorem dX7_pair_152 : decode cX7_pair 152 = .ok (.aload_n 0, 1) := by decide +kernel
theorem dX7_pair_153 : decode cX7_pair 153 = .ok (.getfield 48, 3) := by decide +kernel
theorem dX7_pair_156 : decode cX7_pair 156 = .ok (.iload_n 3, 1) := by decide +kernel
theorem dX7_pair_157 : decode cX7_pair 157 = .ok (.daload, 1) := by decide +kernel
theorem dX7_pair_158 : decode cX7_pair 158 = .ok (.dmul, 1) := by decide +kernel
theorem dX7_pair_159 : decode cX7_pair 159 = .ok (.dadd, 1) := by decide +kernel
theorem dX7_pair_160 : decode cX7_pair 160 = .ok (.dmul, 1) := by decide +kernel
theorem dX7_pair_161 : decode cX7_pair 161 = .ok (.dadd, 1) := by decide +kernel
theorem dX7_pair_162 : decode cX7_pair 162 = .ok (.dastore, 1) := by decide +kernel
theorem dX7_pair_163 : decode cX7_pair 163 = .ok (.iinc 3 1, 3) := by decide +kernel
theorem dX7_pair_166 : decode cX7_pair 166 = .ok (.goto (-62), 3) := by decide +kernel
theorem dX7_pair_169 : decode cX7_pair 169 = .ok (.aload_n 0, 1) := by decide +kernel
theorem dX7_pair_170 : decode cX7_pair 170 = .ok (.aload_n 0, 1) := by decide +kernel
theorem dX7_pair_171 : decode cX7_pair 171 = .ok (.getfield 98, 3) := by decide +kernel
theorem dX7_pair_174 : decode cX7_pair 174 = .ok (.dload_n 1, 1) := by decide +kernel
theorem dX7_pair_175 : decode cX7_pair 175 = .ok (.dadd, 1) := by decide +kernel
theorem dX7_pair_176 : decode cX7_pair 176 = .ok (.aload_n 0, 1) := by decide +kernel
theorem dX7_pair_177 : decode cX7_pair 177 = .ok (.getfield 39, 3) := by decide +kernel
theorem dX7_pair_180 : decode cX7_pair 180 = .ok (.aload_n 0, 1) := by decide +kernel
theorem dX7_pair_181 : decode cX7_pair 181 = .ok (.getfield 51, 3) := by decide +kernel
theorem dX7_pair_184 : decode cX7_pair 184 = .ok (.invokevirtual 101, 3) := by decide +kernel
theorem dX7_pair_187 : decode cX7_pair 187 = .ok (.iconst 0, 1) := by decide +kernel
theorem dX7_pair_188 : decode cX7_pair 188 = .ok (.istore_n 3, 1) := by decide +kernel
theorem dX7_pair_189 : decode cX7_pair 189 = .ok (.iload_n 3, 1) := by decide +kernel
theorem dX7_pair_190 : decode cX7_pair 190 = .ok (.aload_n 0, 1) := by decide +kernel
theorem dX7_pair_191 : decode cX7_pair 191 = .ok (.getfield 7, 3) := by decide +kernel
theorem dX7_pair_194 : decode cX7_pair 194 = .ok (.if_icmp .ge 64, 3) := by decide +kernel
theorem dX7_pair_197 : decode cX7_pair 197 = .ok (.aload_n 0, 1) := by decide +kernel
theorem dX7_pair_198 : decode cX7_pair 198 = .ok (.getfield 54, 3) := by decide +kernel
theorem dX7_pair_201 : decode cX7_pair 201 = .ok (.iload_n 3, 1) := by decide +kernel
theorem dX7_pair_202 : decode cX7_pair 202 = .ok (.dload_n 1, 1) := by decide +kernel
theorem dX7_pair_203 : decode cX7_pair 203 = .ok (.ldc2_w 123, 3) := by decide +kernel
theorem dX7_pair_206 : decode cX7_pair 206 = .ok (.ddiv, 1) := by decide +kernel
theorem dX7_pair_207 : decode cX7_pair 207 = .ok (.ldc2_w 111, 3) := by decide +kernel
theorem dX7_pair_210 : decode cX7_pair 210 = .ok (.aload_n 0, 1) := by decide +kernel
theorem dX7_pair_211 : decode cX7_pair 211 = .ok (.getfield 45, 3) := by decide +kernel
theorem dX7_pair_214 : decode cX7_pair 214 = .ok (.iload_n 3, 1) := by decide +kernel
theorem dX7_pair_215 : decode cX7_pair 215 = .ok (.daload, 1) := by decide +kernel
theorem dX7_pair_216 : decode cX7_pair 216 = .ok (.dmul, 1) := by decide +kernel
theorem dX7_pair_217 : decode cX7_pair 217 = .ok (.ldc2_w 125, 3) := by decide +kernel
theorem dX7_pair_220 : decode cX7_pair 220 = .ok (.aload_n 0, 1) := by decide +kernel
theorem dX7_pair_221 : decode cX7_pair 221 = .ok (.getfield 48, 3) := by decide +kernel
theorem dX7_pair_224 : decode cX7_pair 224 = .ok (.iload_n 3, 1) := by decide +kernel
theorem dX7_pair_225 : decode cX7_pair 225 = .ok (.daload, 1) := by decide +kernel
theorem dX7_pair_226 : decode cX7_pair 226 = .ok (.dmul, 1) := by decide +kernel
theorem dX7_pair_227 : decode cX7_pair 227 = .ok (.dadd, 1) := by decide +kernel
theorem dX7_pair_228 : decode cX7_pair 228 = .ok (.ldc2_w 127, 3) := by decide +kernel
theorem dX7_pair_231 : decode cX7_pair 231 = .ok (.aload_n 0, 1) := by decide +kernel
theorem dX7_pair_232 : decode cX7_pair 232 = .ok (.getfield 42, 3) := by decide +kernel
theorem dX7_pair_235 : decode cX7_pair 235 = .ok (.iload_n 3, 1) := by decide +kernel
theorem dX7_pair_236 : decode cX7_pair 236 = .ok (.daload, 1) := by decide +kernel
theorem dX7_pair_237 : decode cX7_pair 237 = .ok (.dmul, 1) := by decide +kernel
theorem dX7_pair_238 : decode cX7_pair 238 = .ok (.dsub, 1) := by decide +kernel
theorem dX7_pair_239 : decode cX7_pair 239 = .ok (.ldc2_w 117, 3) := by decide +kernel
theorem dX7_pair_242 : decode cX7_pair 242 = .ok (.aload_n 0, 1) := by decide +kernel
theorem dX7_pair_243 : decode cX7_pair 243 = .ok (.getfield 51, 3) := by decide +kernel
theorem dX7_pair_246 : decode cX7_pair 246 = .ok (.iload_n 3, 1) := by decide +kernel
theorem dX7_pair_247 : decode cX7_pair 247 = .ok (.daload, 1) := by decide +kernel
theorem dX7_pair_248 : decode cX7_pair 248 = .ok (.dmul, 1) := by decide +kernel
theorem dX7_pair_249 : decode cX7_pair 249 = .ok (.dsub, 1) := by decide +kernel
theorem dX7_pair_250 : decode cX7_pair 250 = .ok (.dmul, 1) := by decide +kernel
theorem dX7_pair_251 : decode cX7_pair 251 = .ok (.dastore, 1) := by decide +kernel
theorem dX7_pair_252 : decode cX7_pair 252 = .ok (.iinc 3 1, 3) := by decide +kernel
theorem dX7_pair_255 : decode cX7_pair 255 = .ok (.goto (-66), 3) := by decide +kernel
theorem dX7_pair_258 : decode cX7_pair 258 = .ok (.aload_n 0, 1) := by decide +kernel
theorem dX7_pair_259 : decode cX7_pair 259 = .ok (.aload_n 0, 1) := by decide +kernel
theorem dX7_pair_260 : decode cX7_pair 260 = .ok (.aload_n 0, 1) := by decide +kernel
theorem dX7_pair_261 : decode cX7_pair 261 = .ok (.getfield 54, 3) := by decide +kernel
theorem dX7_pair_264 : decode cX7_pair 264 = .ok (.invokevirtual 129, 3) := by decide +kernel
theorem dX7_pair_267 : decode cX7_pair 267 = .ok (.putfield 133, 3) := by decide +kernel
theorem dX7_pair_270 : decode cX7_pair 270 = .ok (.return_, 1) := by decide +kernel
theorem dX7_adams_0 : decode cX7_adams 0 = .ok (.aload_n 0, 1) := by decide +kernel
theorem dX7_adams_1 : decode cX7_adams 1 = .ok (.aload_n 0, 1) := by decide +kernel
theorem dX7_adams_2 : decode cX7_adams 2 = .ok (.getfield 98, 3) := by decide +kernel
theorem dX7_adams_5 : decode cX7_adams 5 = .ok (.aload_n 0, 1) := by decide +kernel
theorem dX7_adams_6 : decode cX7_adams 6 = .ok (.getfield 36, 3) := by decide +kernel
theorem dX7_adams_9 : decode cX7_adams 9 = .ok (.aload_n 0, 1) := by decide +kernel
theorem dX7_adams_10 : decode cX7_adams 10 = .ok (.getfield 66, 3) := by decide +kernel
theorem dX7_adams_13 : decode cX7_adams 13 = .ok (.invokevirtual 101, 3) := by decide +kernel
theorem dX7_adams_16 : decode cX7_adams 16 = .ok (.aload_n 0, 1) := by decide +kernel
theorem dX7_adams_17 : decode cX7_adams 17 = .ok (.getfield 136, 3) := by decide +kernel
theorem dX7_adams_20 : decode cX7_adams 20 = .ok (.ifCond .eq 133, 3) := by decide +kernel
theorem dX7_adams_23 : decode cX7_adams 23 = .ok (.aload_n 0, 1) := by decide +kernel
theorem dX7_adams_24 : decode cX7_adams 24 = .ok (.getfield 140, 3) := by decide +kernel
theorem dX7_adams_27 : decode cX7_adams 27 = .ok (.dload_n 1, 1) := by decide +kernel
theorem dX7_adams_28 : decode cX7_adams 28 = .ok (.dcmp .l, 1) := by decide +kernel
theorem dX7_adams_29 : decode cX7_adams 29 = .ok (.ifCond .ne 124, 3) := by decide +kernel
theorem dX7_adams_32 : decode cX7_adams 32 = .ok (.iconst 0, 1) := by decide +kernel
theorem dX7_adams_33 : decode cX7_adams 33 = .ok (.istore_n 3, 1) := by decide +kernel
theorem dX7_adams_34 : decode cX7_adams 34 = .ok (.iload_n 3, 1) := by decide +kernel
theorem dX7_adams_35 : decode cX7_adams 35 = .ok (.aload_n 0, 1) := by decide +kernel
theorem dX7_adams_36 : decode cX7_adams 36 = .ok (.getfield 7, 3) := by decide +kernel
theorem dX7_adams_39 : decode cX7_adams 39 = .ok (.if_icmp .ge 45, 3) := by decide +kernel
theorem dX7_adams_42 : decode cX7_adams 42 = .ok (.aload_n 0, 1) := by decide +kernel
theorem dX7_adams_43 : decode cX7_adams 43 = .ok (.getfield 54, 3) := by decide +kernel
theorem dX7_adams_46 : decode cX7_adams 46 = .ok (.iload_n 3, 1) := by decide +kernel
theorem dX7_adams_47 : decode cX7_adams 47 = .ok (.aload_n 0, 1) := by decide +kernel
theorem dX7_adams_48 : decode cX7_adams 48 = .ok (.getfield 36, 3) := by decide +kernel
theorem dX7_adams_51 : decode cX7_adams 51 = .ok (.iload_n 3, 1) := by decide +kernel
theorem dX7_adams_52 : decode cX7_adams 52 = .ok (.daload, 1) := by decide +kernel
theorem dX7_adams_53 : decode cX7_adams 53 = .ok (.dload_n 1, 1) := by decide +kernel
theorem dX7_adams_54 : decode cX7_adams 54 = .ok (.ldc2_w 143, 3) := by decide +kernel
theorem dX7_adams_57 : decode cX7_adams 57 = .ok (.aload_n 0, 1) := by decide +kernel
theorem dX7_adams_58 : decode cX7_adams 58 = .ok (.getfield 66, 3) := by decide +kernel
theorem dX7_adams_61 : decode cX7_adams 61 = .ok (.iload_n 3, 1) := by decide +kernel
theorem dX7_adams_62 : decode cX7_adams 62 = .ok (.daload, 1) := by decide +kernel
theorem dX7_adams_63 : decode cX7_adams 63 = .ok (.dmul, 1) := by decide +kernel
theorem dX7_adams_64 : decode cX7_adams 64 = .ok (.ldc2_w 105, 3) := by decide +kernel
theorem dX7_adams_67 : decode cX7_adams 67 = .ok (.aload_n 0, 1) := by decide +kernel
theorem dX7_adams_68 : decode cX7_adams 68 = .ok (.getfield 63, 3) := by decide +kernel
theorem dX7_adams_71 : decode cX7_adams 71 = .ok (.iload_n 3, 1) := by decide +kernel
theorem dX7_adams_72 : decode cX7_adams 72 = .ok (.daload, 1) := by decide +kernel
theorem dX7_adams_73 : decode cX7_adams 73 = .ok (.dmul, 1) := by decide +kernel
theorem dX7_adams_74 : decode cX7_adams 74 = .ok (.dsub, 1) := by decide +kernel
theorem dX7_adams_75 : decode cX7_adams 75 = .ok (.dmul, 1) := by decide +kernel
theorem dX7_adams_76 : decode cX7_adams 76 = .ok (.dadd, 1) := by decide +kernel
theorem dX7_adams_77 : decode cX7_adams 77 = .ok (.dastore, 1) := by decide +kernel
theorem dX7_adams_78 : decode cX7_adams 78 = .ok (.iinc 3 1, 3) := by decide +kernel
theorem dX7_adams_81 : decode cX7_adams 81 = .ok (.goto (-47), 3) := by decide +kernel
theorem dX7_adams_84 : decode cX7_adams 84 = .ok (.aload_n 0, 1) := by decide +kernel
theorem dX7_adams_85 : decode cX7_adams 85 = .ok (.aload_n 0, 1) := by decide +kernel
theorem dX7_adams_86 : decode cX7_adams 86 = .ok (.getfield 98, 3) := by decide +kernel
theorem dX7_adams_89 : decode cX7_adams 89 = .ok (.dload_n 1, 1) := by decide +kernel
theorem dX7_adams_90 : decode cX7_adams 90 = .ok (.dadd, 1) := by decide +kernel
theorem dX7_adams_91 : decode cX7_adams 91 = .ok (.aload_n 0, 1) := by decide +kernel
theorem dX7_adams_92 : decode cX7_adams 92 = .ok (.getfield 54, 3) := by decide +kernel
theorem dX7_adams_95 : decode cX7_adams 95 = .ok (.aload_n 0, 1) := by decide +kernel
theorem dX7_adams_96 : decode cX7_adams 96 = .ok (.getfield 42, 3) := by decide +kernel
theorem dX7_adams_99 : decode cX7_adams 99 = .ok (.invokevirtual 101, 3) := by decide +kernel
theorem dX7_adams_102 : decode cX7_adams 102 = .ok (.iconst 0, 1) := by decide +kernel
theorem dX7_adams_103 : decode cX7_adams 103 = .ok (.istore_n 3, 1) := by decide +kernel
theorem dX7_adams_104 : decode cX7_adams 104 = .ok (.iload_n 3, 1) := by decide +kernel
theorem dX7_adams_105 : decode cX7_adams 105 = .ok (.aload_n 0, 1) := by decide +kernel
theorem dX7_adams_106 : decode cX7_adams 106 = .ok (.getfield 7, 3) := by decide +kernel
theorem dX7_adams_109 : decode cX7_adams 109 = .ok (.if_icmp .ge 41, 3) := by decide +kernel
theorem dX7_adams_112 : decode cX7_adams 112 = .ok (.aload_n 0, 1) := by decide +kernel
theorem dX7_adams_113 : decode cX7_adams 113 = .ok (.getfield 39, 3) := by decide +kernel
theorem dX7_adams_116 : decode cX7_adams 116 = .ok (.iload_n 3, 1) := by decide +kernel
theorem dX7_adams_117 : decode cX7_adams 117 = .ok (.aload_n 0, 1) := by decide +kernel
theorem dX7_adams_118 : decode cX7_adams 118 = .ok (.getfield 36, 3) := by decide +kernel
theorem dX7_adams_121 : decode cX7_adams 121 = .ok (.iload_n 3, 1) := by decide +kernel
theorem dX7_adams_122 : decode cX7_adams 122 = .ok (.daload, 1) := by decide +kernel
theorem dX7_adams_123 : decode cX7_adams 123 = .ok (.ldc2_w 105, 3) := by decide +kernel
theorem dX7_adams_126 : decode cX7_adams 126 = .ok (.dload_n 1, 1) := by decide +kernel
theorem dX7_adams_127 : decode cX7_adams 127 = .ok (.dmul, 1) := by decide +kernel
theorem dX7_adams_128 : decode cX7_adams 128 = .ok (.aload_n 0, 1) := by decide +kernel
theorem dX7_adams_129 : decode cX7_adams 129 = .ok (.getfield 42, 3) := by decide +kernel
theorem dX7_adams_132 : decode cX7_adams 132 = .ok (.iload_n 3, 1) := by decide +kernel
theorem dX7_adams_133 : decode cX7_adams 133 = .ok (.daload, 1) := by decide +kernel
theorem dX7_adams_134 : decode cX7_adams 134 = .ok (.aload_n 0, 1) := by decide +kernel
theorem dX7_adams_135 : decode cX7_adams 135 = .ok (.getfield 66, 3) := by decide +kernel
theorem dX7_adams_138 : decode cX7_adams 138 = .ok (.iload_n 3, 1) := by decide +kernel
theorem dX7_adams_139 : decode cX7_adams 139 = .ok (.daload, 1) := by decide +kernel
theorem dX7_adams_140 : decode cX7_adams 140 = .ok (.dadd, 1) := by decide +kernel
theorem dX7_adams_141 : decode cX7_adams 141 = .ok (.dmul, 1) := by decide +kernel
theorem dX7_adams_142 : decode cX7_adams 142 = .ok (.dadd, 1) := by decide +kernel
theorem dX7_adams_143 : decode cX7_adams 143 = .ok (.dastore, 1) := by decide +kernel
theorem dX7_adams_144 : decode cX7_adams 144 = .ok (.iinc 3 1, 3) := by decide +kernel
theorem dX7_adams_147 : decode cX7_adams 147 = .ok (.goto (-43), 3) := by decide +kernel
theorem dX7_adams_150 : decode cX7_adams 150 = .ok (.goto 8, 3) := by decide +kernel
theorem dX7_adams_153 : decode cX7_adams 153 = .ok (.aload_n 0, 1) := by decide +kernel
theorem dX7_adams_154 : decode cX7_adams 154 = .ok (.dload_n 1, 1) := by decide +kernel
theorem dX7_adams_155 : decode cX7_adams 155 = .ok (.invokevirtual 145, 3) := by decide +kernel
theorem dX7_adams_158 : decode cX7_adams 158 = .ok (.iconst 0, 1) := by decide +kernel
theorem dX7_adams_159 : decode cX7_adams 159 = .ok (.istore_n 3, 1) := by decide +kernel
theorem dX7_adams_160 : decode cX7_adams 160 = .ok (.iload_n 3, 1) := by decide +kernel
theorem dX7_adams_161 : decode cX7_adams 161 = .ok (.aload_n 0, 1) := by decide +kernel
theorem dX7_adams_162 : decode cX7_adams 162 = .ok (.getfield 7, 3) := by decide +kernel
theorem dX7_adams_165 : decode cX7_adams 165 = .ok (.if_icmp .ge 21, 3) := by decide +kernel
theorem dX7_adams_168 : decode cX7_adams 168 = .ok (.aload_n 0, 1) := by decide +kernel
theorem dX7_adams_169 : decode cX7_adams 169 = .ok (.getfield 63, 3) := by decide +kernel
theorem dX7_adams_172 : decode cX7_adams 172 = .ok (.iload_n 3, 1) := by decide +kernel
theorem dX7_adams_173 : decode cX7_adams 173 = .ok (.aload_n 0, 1) := by decide +kernel
theorem dX7_adams_174 : decode cX7_adams 174 = .ok (.getfield 66, 3) := by decide +kernel
theorem dX7_adams_177 : decode cX7_adams 177 = .ok (.iload_n 3, 1) := by decide +kernel
theorem dX7_adams_178 : decode cX7_adams 178 = .ok (.daload, 1) := by decide +kernel
theorem dX7_adams_179 : decode cX7_adams 179 = .ok (.dastore, 1) := by decide +kernel
theorem dX7_adams_180 : decode cX7_adams 180 = .ok (.iinc 3 1, 3) := by decide +kernel
theorem dX7_adams_183 : decode cX7_adams 183 = .ok (.goto (-23), 3) := by decide +kernel
theorem dX7_adams_186 : decode cX7_adams 186 = .ok (.aload_n 0, 1) := by decide +kernel
theorem dX7_adams_187 : decode cX7_adams 187 = .ok (.dload_n 1, 1) := by decide +kernel
theorem dX7_adams_188 : decode cX7_adams 188 = .ok (.putfield 140, 3) := by decide +kernel
theorem dX7_adams_191 : decode cX7_adams 191 = .ok (.return_, 1) := by decide +kernel
theorem dX7_implicit_0 : decode cX7_implicit 0 = .ok (.iconst 0, 1) := by decide +kernel
theorem dX7_implicit_1 : decode cX7_implicit 1 = .ok (.istore_n 3, 1) := by decide +kernel
theorem dX7_implicit_2 : decode cX7_implicit 2 = .ok (.iload_n 3, 1) := by decide +kernel
theorem dX7_implicit_3 : decode cX7_implicit 3 = .ok (.aload_n 0, 1) := by decide +kernel
theorem dX7_implicit_4 : decode cX7_implicit 4 = .ok (.getfield 7, 3) := by decide +kernel
theorem dX7_implicit_7 : decode cX7_implicit 7 = .ok (.if_icmp .ge 21, 3) := by decide +kernel
theorem dX7_implicit_10 : decode cX7_implicit 10 = .ok (.aload_n 0, 1) := by decide +kernel
theorem dX7_implicit_11 : decode cX7_implicit 11 = .ok (.getfield 39, 3) := by decide +kernel
theorem dX7_implicit_14 : decode cX7_implicit 14 = .ok (.iload_n 3, 1) := by decide +kernel
theorem dX7_implicit_15 : decode cX7_implicit 15 = .ok (.aload_n 0, 1) := by decide +kernel
theorem dX7_implicit_16 : decode cX7_implicit 16 = .ok (.getfield 36, 3) := by decide +kernel
theorem dX7_implicit_19 : decode cX7_implicit 19 = .ok (.iload_n 3, 1) := by decide +kernel
theorem dX7_implicit_20 : decode cX7_implicit 20 = .ok (.daload, 1) := by decide +kernel
theorem dX7_implicit_21 : decode cX7_implicit 21 = .ok (.dastore, 1) := by decide +kernel
theorem dX7_implicit_22 : decode cX7_implicit 22 = .ok (.iinc 3 1, 3) := by decide +kernel
theorem dX7_implicit_25 : decode cX7_implicit 25 = .ok (.goto (-23), 3) := by decide +kernel
theorem dX7_implicit_28 : decode cX7_implicit 28 = .ok (.iconst 0, 1) := by decide +kernel
theorem dX7_implicit_29 : decode cX7_implicit 29 = .ok (.istore_n 3, 1) := by decide +kernel
theorem dX7_implicit_30 : decode cX7_implicit 30 = .ok (.iconst 0, 1) := by decide +kernel
theorem dX7_implicit_31 : decode cX7_implicit 31 = .ok (.istore 4, 2) := by decide +kernel
theorem dX7_implicit_33 : decode cX7_implicit 33 = .ok (.iload 4, 2) := by decide +kernel
theorem dX7_implicit_35 : decode cX7_implicit 35 = .ok (.bipush 8, 2) := by decide +kernel
theorem dX7_implicit_37 : decode cX7_implicit 37 = .ok (.if_icmp .ge 252, 3) := by decide +kernel
theorem dX7_implicit_40 : decode cX7_implicit 40 = .ok (.iload_n 3, 1) := by decide +kernel
theorem dX7_implicit_41 : decode cX7_implicit 41 = .ok (.ifCond .ne 248, 3) := by decide +kernel
theorem dX7_implicit_44 : decode cX7_implicit 44 = .ok (.aload_n 0, 1) := by decide +kernel
theorem dX7_implicit_45 : decode cX7_implicit 45 = .ok (.getfield 149, 3) := by decide +kernel
theorem dX7_implicit_48 : decode cX7_implicit 48 = .ok (.ifCond .ne 241, 3) := by decide +kernel
theorem dX7_implicit_51 : decode cX7_implicit 51 = .ok (.aload_n 0, 1) := by decide +kernel
theorem dX7_implicit_52 : decode cX7_implicit 52 = .ok (.aload_n 0, 1) := by decide +kernel
theorem dX7_implicit_53 : decode cX7_implicit 53 = .ok (.getfield 98, 3) := by decide +kernel
theorem dX7_implicit_56 : decode cX7_implicit 56 = .ok (.dload_n 1, 1) := by decide +kernel
theorem dX7_implicit_57 : decode cX7_implicit 57 = .ok (.dadd, 1) := by decide +kernel
theorem dX7_implicit_58 : decode cX7_implicit 58 = .ok (.aload_n 0, 1) := by decide +kernel
theorem dX7_implicit_59 : decode cX7_implicit 59 = .ok (.getfield 39, 3) := by decide +kernel
theorem dX7_implicit_62 : decode cX7_implicit 62 = .ok (.aload_n 0, 1) := by decide +kernel
theorem dX7_implicit_63 : decode cX7_implicit 63 = .ok (.getfield 42, 3) := by decide +kernel
theorem dX7_implicit_66 : decode cX7_implicit 66 = .ok (.invokevirtual 101, 3) := by decide +kernel
theorem dX7_implicit_69 : decode cX7_implicit 69 = .ok (.iconst 0, 1) := by decide +kernel
theorem dX7_implicit_70 : decode cX7_implicit 70 = .ok (.istore 5, 2) := by decide +kernel
theorem dX7_implicit_72 : decode cX7_implicit 72 = .ok (.iload 5, 2) := by decide +kernel
theorem dX7_implicit_74 : decode cX7_implicit 74 = .ok (.aload_n 0, 1) := by decide +kernel
theorem dX7_implicit_75 : decode cX7_implicit 75 = .ok (.getfield 7, 3) := by decide +kernel
theorem dX7_implicit_78 : decode cX7_implicit 78 = .ok (.if_icmp .ge 104, 3) := by decide +kernel
theorem dX7_implicit_81 : decode cX7_implicit 81 = .ok (.aload_n 0, 1) := by decide +kernel
theorem dX7_implicit_82 : decode cX7_implicit 82 = .ok (.getfield 54, 3) := by decide +kernel
theorem dX7_implicit_85 : decode cX7_implicit 85 = .ok (.iload 5, 2) := by decide +kernel
theorem dX7_implicit_87 : decode cX7_implicit 87 = .ok (.aload_n 0, 1) := by decide +kernel
theorem dX7_implicit_88 : decode cX7_implicit 88 = .ok (.getfield 39, 3) := by decide +kernel
theorem dX7_implicit_91 : decode cX7_implicit 91 = .ok (.iload 5, 2) := by decide +kernel
theorem dX7_implicit_93 : decode cX7_implicit 93 = .ok (.daload, 1) := by decide +kernel
theorem dX7_implicit_94 : decode cX7_implicit 94 = .ok (.aload_n 0, 1) := by decide +kernel
theorem dX7_implicit_95 : decode cX7_implicit 95 = .ok (.getfield 36, 3) := by decide +kernel
theorem dX7_implicit_98 : decode cX7_implicit 98 = .ok (.iload 5, 2) := by decide +kernel
theorem dX7_implicit_100 : decode cX7_implicit 100 = .ok (.daload, 1) := by decide +kernel
theorem dX7_implicit_101 : decode cX7_implicit 101 = .ok (.dsub, 1) := by decide +kernel
theorem dX7_implicit_102 : decode cX7_implicit 102 = .ok (.dload_n 1, 1) := by decide +kernel
theorem dX7_implicit_103 : decode cX7_implicit 103 = .ok (.aload_n 0, 1) := by decide +kernel
theorem dX7_implicit_104 : decode cX7_implicit 104 = .ok (.getfield 42, 3) := by decide +kernel
theorem dX7_implicit_107 : decode cX7_implicit 107 = .ok (.iload 5, 2) := by decide +kernel
theorem dX7_implicit_109 : decode cX7_implicit 109 = .ok (.daload, 1) := by decide +kernel
theorem dX7_implicit_110 : decode cX7_implicit 110 = .ok (.dmul, 1) := by decide +kernel
theorem dX7_implicit_111 : decode cX7_implicit 111 = .ok (.dsub, 1) := by decide +kernel
theorem dX7_implicit_112 : decode cX7_implicit 112 = .ok (.dastore, 1) := by decide +kernel
theorem dX7_implicit_113 : decode cX7_implicit 113 = .ok (.iconst 0, 1) := by decide +kernel
theorem dX7_implicit_114 : decode cX7_implicit 114 = .ok (.istore 6, 2) := by decide +kernel
theorem dX7_implicit_116 : decode cX7_implicit 116 = .ok (.iload 6, 2) := by decide +kernel
theorem dX7_implicit_118 : decode cX7_implicit 118 = .ok (.aload_n 0, 1) := by decide +kernel
theorem dX7_implicit_119 : decode cX7_implicit 119 = .ok (.getfield 7, 3) := by decide +kernel
theorem dX7_implicit_122 : decode cX7_implicit 122 = .ok (.if_icmp .ge 54, 3) := by decide +kernel
theorem dX7_implicit_125 : decode cX7_implicit 125 = .ok (.aload_n 0, 1) := by decide +kernel
theorem dX7_implicit_126 : decode cX7_implicit 126 = .ok (.getfield 60, 3) := by decide +kernel
theorem dX7_implicit_129 : decode cX7_implicit 129 = .ok (.iconst 3, 1) := by decide +kernel
theorem dX7_implicit_130 : decode cX7_implicit 130 = .ok (.iload 5, 2) := by decide +kernel
theorem dX7_implicit_132 : decode cX7_implicit 132 = .ok (.imul, 1) := by decide +kernel
theorem dX7_implicit_133 : decode cX7_implicit 133 = .ok (.iload 6, 2) := by decide +kernel
theorem dX7_implicit_135 : decode cX7_implicit 135 = .ok (.iadd, 1) := by decide +kernel
theorem dX7_implicit_136 : decode cX7_implicit 136 = .ok (.iload 5, 2) := by decide +kernel
theorem dX7_implicit_138 : decode cX7_implicit 138 = .ok (.iload 6, 2) := by decide +kernel
theorem dX7_implicit_140 : decode cX7_implicit 140 = .ok (.if_icmp .ne 7, 3) := by decide +kernel
theorem dX7_implicit_143 : decode cX7_implicit 143 = .ok (.dconst 1, 1) := by decide +kernel
theorem dX7_implicit_144 : decode cX7_implicit 144 = .ok (.goto 4, 3) := by decide +kernel
theorem dX7_implicit_147 : decode cX7_implicit 147 = .ok (.dconst 0, 1) := by decide +kernel
theorem dX7_implicit_148 : decode cX7_implicit 148 = .ok (.dload_n 1, 1) := by decide +kernel
theorem dX7_implicit_149 : decode cX7_implicit 149 = .ok (.aload_n 0, 1) := by decide +kernel
theorem dX7_implicit_150 : decode cX7_implicit 150 = .ok (.iload 5, 2) := by decide +kernel
theorem dX7_implicit_152 : decode cX7_implicit 152 = .ok (.iload 6, 2) := by decide +kernel
theorem dX7_implicit_154 : decode cX7_implicit 154 = .ok (.aload_n 0, 1) := by decide +kernel
theorem dX7_implicit_155 : decode cX7_implicit 155 = .ok (.getfield 98, 3) := by decide +kernel
theorem dX7_implicit_158 : decode cX7_implicit 158 = .ok (.dload_n 1, 1) := by decide +kernel
theorem dX7_implicit_159 : decode cX7_implicit 159 = .ok (.dadd, 1) := by decide +kernel
theorem dX7_implicit_160 : decode cX7_implicit 160 = .ok (.aload_n 0, 1) := by decide +kernel
theorem dX7_implicit_161 : decode cX7_implicit 161 = .ok (.getfield 39, 3) := by decide +kernel
theorem dX7_implicit_164 : decode cX7_implicit 164 = .ok (.invokevirtual 152, 3) := by decide +kernel
theorem dX7_implicit_167 : decode cX7_implicit 167 = .ok (.dmul, 1) := by decide +kernel
theorem dX7_implicit_168 : decode cX7_implicit 168 = .ok (.dsub, 1) := by decide +kernel
theorem dX7_implicit_169 : decode cX7_implicit 169 = .ok (.dastore, 1) := by decide +kernel
theorem dX7_implicit_170 : decode cX7_implicit 170 = .ok (.iinc 6 1, 3) := by decide +kernel
theorem dX7_implicit_173 : decode cX7_implicit 173 = .ok (.goto (-57), 3) := by decide +kernel
theorem dX7_implicit_176 : decode cX7_implicit 176 = .ok (.iinc 5 1, 3) := by decide +kernel
theorem dX7_implicit_179 : decode cX7_implicit 179 = .ok (.goto (-107), 3) := by decide +kernel
theorem dX7_implicit_182 : decode cX7_implicit 182 = .ok (.aload_n 0, 1) := by decide +kernel
theorem dX7_implicit_183 : decode cX7_implicit 183 = .ok (.invokevirtual 156, 3) := by decide +kernel
theorem dX7_implicit_186 : decode cX7_implicit 186 = .ok (.aload_n 0, 1) := by decide +kernel
theorem dX7_implicit_187 : decode cX7_implicit 187 = .ok (.getfield 149, 3) := by decide +kernel
theorem dX7_implicit_190 : decode cX7_implicit 190 = .ok (.ifCond .eq 4, 3) := by decide +kernel
theorem dX7_implicit_193 : decode cX7_implicit 193 = .ok (.return_, 1) := by decide +kernel
theorem dX7_implicit_194 : decode cX7_implicit 194 = .ok (.iconst 0, 1) := by decide +kernel
theorem dX7_implicit_195 : decode cX7_implicit 195 = .ok (.istore 5, 2) := by decide +kernel
theorem dX7_implicit_197 : decode cX7_implicit 197 = .ok (.iload 5, 2) := by decide +kernel
theorem dX7_implicit_199 : decode cX7_implicit 199 = .ok (.aload_n 0, 1) := by decide +kernel
theorem dX7_implicit_200 : decode cX7_implicit 200 = .ok (.getfield 7, 3) := by decide +kernel
theorem dX7_implicit_203 : decode cX7_implicit 203 = .ok (.if_icmp .ge 31, 3) := by decide +kernel
theorem dX7_implicit_206 : decode cX7_implicit 206 = .ok (.aload_n 0, 1) := by decide +kernel
theorem dX7_implicit_207 : decode cX7_implicit 207 = .ok (.getfield 39, 3) := by decide +kernel
theorem dX7_implicit_210 : decode cX7_implicit 210 = .ok (.iload 5, 2) := by decide +kernel
theorem dX7_implicit_212 : decode cX7_implicit 212 = .ok (.aload_n 0, 1) := by decide +kernel
theorem dX7_implicit_213 : decode cX7_implicit 213 = .ok (.getfield 39, 3) := by decide +kernel
theorem dX7_implicit_216 : decode cX7_implicit 216 = .ok (.iload 5, 2) := by decide +kernel
theorem dX7_implicit_218 : decode cX7_implicit 218 = .ok (.daload, 1) := by decide +kernel
theorem dX7_implicit_219 : decode cX7_implicit 219 = .ok (.aload_n 0, 1) := by decide +kernel
theorem dX7_implicit_220 : decode cX7_implicit 220 = .ok (.getfield 51, 3) := by decide +kernel
theorem dX7_implicit_223 : decode cX7_implicit 223 = .ok (.iload 5, 2) := by decide +kernel
theorem dX7_implicit_225 : decode cX7_implicit 225 = .ok (.daload, 1) := by decide +kernel
theorem dX7_implicit_226 : decode cX7_implicit 226 = .ok (.dsub, 1) := by decide +kernel
theorem dX7_implicit_227 : decode cX7_implicit 227 = .ok (.dastore, 1) := by decide +kernel
theorem dX7_implicit_228 : decode cX7_implicit 228 = .ok (.iinc 5 1, 3) := by decide +kernel
theorem dX7_implicit_231 : decode cX7_implicit 231 = .ok (.goto (-34), 3) := by decide +kernel
theorem dX7_implicit_234 : decode cX7_implicit 234 = .ok (.aload_n 0, 1) := by decide +kernel
theorem dX7_implicit_235 : decode cX7_implicit 235 = .ok (.aload_n 0, 1) := by decide +kernel
theorem dX7_implicit_236 : decode cX7_implicit 236 = .ok (.getfield 51, 3) := by decide +kernel
theorem dX7_implicit_239 : decode cX7_implicit 239 = .ok (.invokevirtual 129, 3) := by decide +kernel
theorem dX7_implicit_242 : decode cX7_implicit 242 = .ok (.ldc2_w 159, 3) := by decide +kernel
theorem dX7_implicit_245 : decode cX7_implicit 245 = .ok (.dcmp .g, 1) := by decide +kernel
theorem dX7_implicit_246 : decode cX7_implicit 246 = .ok (.ifCond .gt 7, 3) := by decide +kernel
theorem dX7_implicit_249 : decode cX7_implicit 249 = .ok (.iconst 1, 1) := by decide +kernel
theorem dX7_implicit_250 : decode cX7_implicit 250 = .ok (.goto 4, 3) := by decide +kernel
theorem dX7_implicit_253 : decode cX7_implicit 253 = .ok (.iconst 0, 1) := by decide +kernel
theorem dX7_implicit_254 : decode cX7_implicit 254 = .ok (.istore_n 3, 1) := by decide +kernel
theorem dX7_implicit_255 : decode cX7_implicit 255 = .ok (.aload_n 0, 1) := by decide +kernel
theorem dX7_implicit_256 : decode cX7_implicit 256 = .ok (.iload_n 3, 1) := by decide +kernel
theorem dX7_implicit_257 : decode cX7_implicit 257 = .ok (.ifCond .ne 22, 3) := by decide +kernel
theorem dX7_implicit_260 : decode cX7_implicit 260 = .ok (.aload_n 0, 1) := by decide +kernel
theorem dX7_implicit_261 : decode cX7_implicit 261 = .ok (.aload_n 0, 1) := by decide +kernel
theorem dX7_implicit_262 : decode cX7_implicit 262 = .ok (.getfield 39, 3) := by decide +kernel
theorem dX7_implicit_265 : decode cX7_implicit 265 = .ok (.invokevirtual 129, 3) := by decide +kernel
theorem dX7_implicit_268 : decode cX7_implicit 268 = .ok (.ldc2_w 161, 3) := by decide +kernel
theorem dX7_implicit_271 : decode cX7_implicit 271 = .ok (.dcmp .l, 1) := by decide +kernel
theorem dX7_implicit_272 : decode cX7_implicit 272 = .ok (.ifCond .le 7, 3) := by decide +kernel
theorem dX7_implicit_275 : decode cX7_implicit 275 = .ok (.iconst 1, 1) := by decide +kernel
theorem dX7_implicit_276 : decode cX7_implicit 276 = .ok (.goto 4, 3) := by decide +kernel
theorem dX7_implicit_279 : decode cX7_implicit 279 = .ok (.iconst 0, 1) := by decide +kernel
theorem dX7_implicit_280 : decode cX7_implicit 280 = .ok (.putfield 149, 3) := by decide +kernel
theorem dX7_implicit_283 : decode cX7_implicit 283 = .ok (.iinc 4 1, 3) := by decide +kernel
theorem dX7_implicit_286 : decode cX7_implicit 286 = .ok (.goto (-253), 3) := by decide +kernel
theorem dX7_implicit_289 : decode cX7_implicit 289 = .ok (.aload_n 0, 1) := by decide +kernel
theorem dX7_implicit_290 : decode cX7_implicit 290 = .ok (.aload_n 0, 1) := by decide +kernel
theorem dX7_implicit_291 : decode cX7_implicit 291 = .ok (.getfield 149, 3) := by decide +kernel
theorem dX7_implicit_294 : decode cX7_implicit 294 = .ok (.ifCond .ne 7, 3) := by decide +kernel
theorem dX7_implicit_297 : decode cX7_implicit 297 = .ok (.iload_n 3, 1) := by decide +kernel
theorem dX7_implicit_298 : decode cX7_implicit 298 = .ok (.ifCond .ne 7, 3) := by decide +kernel
theorem dX7_implicit_301 : decode cX7_implicit 301 = .ok (.iconst 1, 1) := by decide +kernel
theorem dX7_implicit_302 : decode cX7_implicit 302 = .ok (.goto 4, 3) := by decide +kernel
theorem dX7_implicit_305 : decode cX7_implicit 305 = .ok (.iconst 0, 1) := by decide +kernel
theorem dX7_implicit_306 : decode cX7_implicit 306 = .ok (.putfield 149, 3) := by decide +kernel
theorem dX7_implicit_309 : decode cX7_implicit 309 = .ok (.return_, 1) := by decide +kernel
theorem dX7_solve_0 : decode cX7_solve 0 = .ok (.iconst 0, 1) := by decide +kernel
theorem dX7_solve_1 : decode cX7_solve 1 = .ok (.istore_n 1, 1) := by decide +kernel
theorem dX7_solve_2 : decode cX7_solve 2 = .ok (.iload_n 1, 1) := by decide +kernel
theorem dX7_solve_3 : decode cX7_solve 3 = .ok (.aload_n 0, 1) := by decide +kernel
theorem dX7_solve_4 : decode cX7_solve 4 = .ok (.getfield 7, 3) := by decide +kernel
theorem dX7_solve_7 : decode cX7_solve 7 = .ok (.if_icmp .ge 302, 3) := by decide +kernel
theorem dX7_solve_10 : decode cX7_solve 10 = .ok (.iload_n 1, 1) := by decide +kernel
theorem dX7_solve_11 : decode cX7_solve 11 = .ok (.istore_n 2, 1) := by decide +kernel
theorem dX7_solve_12 : decode cX7_solve 12 = .ok (.iload_n 1, 1) := by decide +kernel
theorem dX7_solve_13 : decode cX7_solve 13 = .ok (.iconst 1, 1) := by decide +kernel
theorem dX7_solve_14 : decode cX7_solve 14 = .ok (.iadd, 1) := by decide +kernel
theorem dX7_solve_15 : decode cX7_solve 15 = .ok (.istore_n 3, 1) := by decide +kernel
theorem dX7_solve_16 : decode cX7_solve 16 = .ok (.iload_n 3, 1) := by decide +kernel
theorem dX7_solve_17 : decode cX7_solve 17 = .ok (.aload_n 0, 1) := by decide +kernel
theorem dX7_solve_18 : decode cX7_solve 18 = .ok (.getfield 7, 3) := by decide +kernel
theorem dX7_solve_21 : decode cX7_solve 21 = .ok (.if_icmp .ge 45, 3) := by decide +kernel
theorem dX7_solve_24 : decode cX7_solve 24 = .ok (.aload_n 0, 1) := by decide +kernel
theorem dX7_solve_25 : decode cX7_solve 25 = .ok (.getfield 60, 3) := by decide +kernel
theorem dX7_solve_28 : decode cX7_solve 28 = .ok (.iconst 3, 1) := by decide +kernel
theorem dX7_solve_29 : decode cX7_solve 29 = .ok (.iload_n 3, 1) := by decide +kernel
theorem dX7_solve_30 : decode cX7_solve 30 = .ok (.imul, 1) := by decide +kernel
theorem dX7_solve_31 : decode cX7_solve 31 = .ok (.iload_n 1, 1) := by decide +kernel
theorem dX7_solve_32 : decode cX7_solve 32 = .ok (.iadd, 1) := by decide +kernel
theorem dX7_solve_33 : decode cX7_solve 33 = .ok (.daload, 1) := by decide +kernel
theorem dX7_solve_34 : decode cX7_solve 34 = .ok (.invokestatic 87, 3) := by decide +kernel
theorem dX7_solve_37 : decode cX7_solve 37 = .ok (.aload_n 0, 1) := by decide +kernel
theorem dX7_solve_38 : decode cX7_solve 38 = .ok (.getfield 60, 3) := by decide +kernel
theorem dX7_solve_41 : decode cX7_solve 41 = .ok (.iconst 3, 1) := by decide +kernel
theorem dX7_solve_42 : decode cX7_solve 42 = .ok (.iload_n 2, 1) := by decide +kernel
theorem dX7_solve_43 : decode cX7_solve 43 = .ok (.imul, 1) := by decide +kernel
theorem dX7_solve_44 : decode cX7_solve 44 = .ok (.iload_n 1, 1) := by decide +kernel
theorem dX7_solve_45 : decode cX7_solve 45 = .ok (.iadd, 1) := by decide +kernel
theorem dX7_solve_46 : decode cX7_solve 46 = .ok (.daload, 1) := by decide +kernel
theorem dX7_solve_47 : decode cX7_solve 47 = .ok (.invokestatic 87, 3) := by decide +kernel
theorem dX7_solve_50 : decode cX7_solve 50 = .ok (.dcmp .l, 1) := by decide +kernel
theorem dX7_solve_51 : decode cX7_solve 51 = .ok (.ifCond .le 7, 3) := by decide +kernel
theorem dX7_solve_54 : decode cX7_solve 54 = .ok (.iload_n 3, 1) := by decide +kernel
theorem dX7_solve_55 : decode cX7_solve 55 = .ok (.goto 4, 3) := by decide +kernel
theorem dX7_solve_58 : decode cX7_solve 58 = .ok (.iload_n 2, 1) := by decide +kernel
theorem dX7_solve_59 : decode cX7_solve 59 = .ok (.istore_n 2, 1) := by decide +kernel
theorem dX7_solve_60 : decode cX7_solve 60 = .ok (.iinc 3 1, 3) := by decide +kernel
theorem dX7_solve_63 : decode cX7_solve 63 = .ok (.goto (-47), 3) := by decide +kernel
theorem dX7_solve_66 : decode cX7_solve 66 = .ok (.aload_n 0, 1) := by decide +kernel
theorem dX7_solve_67 : decode cX7_solve 67 = .ok (.getfield 60, 3) := by decide +kernel
theorem dX7_solve_70 : decode cX7_solve 70 = .ok (.iconst 3, 1) := by decide +kernel
theorem dX7_solve_71 : decode cX7_solve 71 = .ok (.iload_n 2, 1) := by decide +kernel
theorem dX7_solve_72 : decode cX7_solve 72 = .ok (.imul, 1) := by decide +kernel
theorem dX7_solve_73 : decode cX7_solve 73 = .ok (.iload_n 1, 1) := by decide +kernel
theorem dX7_solve_74 : decode cX7_solve 74 = .ok (.iadd, 1) := by decide +kernel
theorem dX7_solve_75 : decode cX7_solve 75 = .ok (.daload, 1) := by decide +kernel
theorem dX7_solve_76 : decode cX7_solve 76 = .ok (.invokestatic 87, 3) := by decide +kernel
theorem dX7_solve_79 : decode cX7_solve 79 = .ok (.ldc2_w 159, 3) := by decide +kernel
theorem dX7_solve_82 : decode cX7_solve 82 = .ok (.dcmp .g, 1) := by decide +kernel
theorem dX7_solve_83 : decode cX7_solve 83 = .ok (.ifCond .ge 9, 3) := by decide +kernel
theorem dX7_solve_86 : decode cX7_solve 86 = .ok (.aload_n 0, 1) := by decide +kernel
theorem dX7_solve_87 : decode cX7_solve 87 = .ok (.iconst 1, 1) := by decide +kernel
theorem dX7_solve_88 : decode cX7_solve 88 = .ok (.putfield 149, 3) := by decide +kernel
theorem dX7_solve_91 : decode cX7_solve 91 = .ok (.return_, 1) := by decide +kernel
theorem dX7_solve_92 : decode cX7_solve 92 = .ok (.iconst 0, 1) := by decide +kernel
theorem dX7_solve_93 : decode cX7_solve 93 = .ok (.istore_n 3, 1) := by decide +kernel
theorem dX7_solve_94 : decode cX7_solve 94 = .ok (.iload_n 3, 1) := by decide +kernel
theorem dX7_solve_95 : decode cX7_solve 95 = .ok (.aload_n 0, 1) := by decide +kernel
theorem dX7_solve_96 : decode cX7_solve 96 = .ok (.getfield 7, 3) := by decide +kernel
theorem dX7_solve_99 : decode cX7_solve 99 = .ok (.if_icmp .ge 53, 3) := by decide +kernel
theorem dX7_solve_102 : decode cX7_solve 102 = .ok (.aload_n 0, 1) := by decide +kernel
theorem dX7_solve_103 : decode cX7_solve 103 = .ok (.getfield 60, 3) := by decide +kernel
theorem dX7_solve_106 : decode cX7_solve 106 = .ok (.iconst 3, 1) := by decide +kernel
theorem dX7_solve_107 : decode cX7_solve 107 = .ok (.iload_n 1, 1) := by decide +kernel
theorem dX7_solve_108 : decode cX7_solve 108 = .ok (.imul, 1) := by decide +kernel
theorem dX7_solve_109 : decode cX7_solve 109 = .ok (.iload_n 3, 1) := by decide +kernel
theorem dX7_solve_110 : decode cX7_solve 110 = .ok (.iadd, 1) := by decide +kernel
theorem dX7_solve_111 : decode cX7_solve 111 = .ok (.daload, 1) := by decide +kernel
theorem dX7_solve_112 : decode cX7_solve 112 = .ok (.dstore 4, 2) := by decide +kernel
theorem dX7_solve_114 : decode cX7_solve 114 = .ok (.aload_n 0, 1) := by decide +kernel
theorem dX7_solve_115 : decode cX7_solve 115 = .ok (.getfield 60, 3) := by decide +kernel
theorem dX7_solve_118 : decode cX7_solve 118 = .ok (.iconst 3, 1) := by decide +kernel
theorem dX7_solve_119 : decode cX7_solve 119 = .ok (.iload_n 1, 1) := by decide +kernel
theorem dX7_solve_120 : decode cX7_solve 120 = .ok (.imul, 1) := by decide +kernel
theorem dX7_solve_121 : decode cX7_solve 121 = .ok (.iload_n 3, 1) := by decide +kernel
theorem dX7_solve_122 : decode cX7_solve 122 = .ok (.iadd, 1) := by decide +kernel
theorem dX7_solve_123 : decode cX7_solve 123 = .ok (.aload_n 0, 1) := by decide +kernel
theorem dX7_solve_124 : decode cX7_solve 124 = .ok (.getfield 60, 3) := by decide +kernel
theorem dX7_solve_127 : decode cX7_solve 127 = .ok (.iconst 3, 1) := by decide +kernel
theorem dX7_solve_128 : decode cX7_solve 128 = .ok (.iload_n 2, 1) := by decide +kernel
theorem dX7_solve_129 : decode cX7_solve 129 = .ok (.imul, 1) := by decide +kernel
theorem dX7_solve_130 : decode cX7_solve 130 = .ok (.iload_n 3, 1) := by decide +kernel
theorem dX7_solve_131 : decode cX7_solve 131 = .ok (.iadd, 1) := by decide +kernel
theorem dX7_solve_132 : decode cX7_solve 132 = .ok (.daload, 1) := by decide +kernel
theorem dX7_solve_133 : decode cX7_solve 133 = .ok (.dastore, 1) := by decide +kernel
theorem dX7_solve_134 : decode cX7_solve 134 = .ok (.aload_n 0, 1) := by decide +kernel
theorem dX7_solve_135 : decode cX7_solve 135 = .ok (.getfield 60, 3) := by decide +kernel
theorem dX7_solve_138 : decode cX7_solve 138 = .ok (.iconst 3, 1) := by decide +kernel
theorem dX7_solve_139 : decode cX7_solve 139 = .ok (.iload_n 2, 1) := by decide +kernel
theorem dX7_solve_140 : decode cX7_solve 140 = .ok (.imul, 1) := by decide +kernel
theorem dX7_solve_141 : decode cX7_solve 141 = .ok (.iload_n 3, 1) := by decide +kernel
theorem dX7_solve_142 : decode cX7_solve 142 = .ok (.iadd, 1) := by decide +kernel
theorem dX7_solve_143 : decode cX7_solve 143 = .ok (.dload 4, 2) := by decide +kernel
theorem dX7_solve_145 : decode cX7_solve 145 = .ok (.dastore, 1) := by decide +kernel
theorem dX7_solve_146 : decode cX7_solve 146 = .ok (.iinc 3 1, 3) := by decide +kernel
theorem dX7_solve_149 : decode cX7_solve 149 = .ok (.goto (-55), 3) := by decide +kernel
theorem dX7_solve_152 : decode cX7_solve 152 = .ok (.aload_n 0, 1) := by decide +kernel
theorem dX7_solve_153 : decode cX7_solve 153 = .ok (.getfield 54, 3) := by decide +kernel
theorem dX7_solve_156 : decode cX7_solve 156 = .ok (.iload_n 1, 1) := by decide +kernel
theorem dX7_solve_157 : decode cX7_solve 157 = .ok (.daload, 1) := by decide +kernel
theorem dX7_solve_158 : decode cX7_solve 158 = .ok (.dstore_n 3, 1) := by decide +kernel
theorem dX7_solve_159 : decode cX7_solve 159 = .ok (.aload_n 0, 1) := by decide +kernel
theorem dX7_solve_160 : decode cX7_solve 160 = .ok (.getfield 54, 3) := by decide +kernel
theorem dX7_solve_163 : decode cX7_solve 163 = .ok (.iload_n 1, 1) := by decide +kernel
theorem dX7_solve_164 : decode cX7_solve 164 = .ok (.aload_n 0, 1) := by decide +kernel
theorem dX7_solve_165 : decode cX7_solve 165 = .ok (.getfield 54, 3) := by decide +kernel
theorem dX7_solve_168 : decode cX7_solve 168 = .ok (.iload_n 2, 1) := by decide +kernel
theorem dX7_solve_169 : decode cX7_solve 169 = .ok (.daload, 1) := by decide +kernel
theorem dX7_solve_170 : decode cX7_solve 170 = .ok (.dastore, 1) := by decide +kernel
theorem dX7_solve_171 : decode cX7_solve 171 = .ok (.aload_n 0, 1) := by decide +kernel
theorem dX7_solve_172 : decode cX7_solve 172 = .ok (.getfield 54, 3) := by decide +kernel
theorem dX7_solve_175 : decode cX7_solve 175 = .ok (.iload_n 2, 1) := by decide +kernel
theorem dX7_solve_176 : decode cX7_solve 176 = .ok (.dload_n 3, 1) := by decide +kernel
theorem dX7_solve_177 : decode cX7_solve 177 = .ok (.dastore, 1) := by decide +kernel
theorem dX7_solve_178 : decode cX7_solve 178 = .ok (.iload_n 1, 1) := by decide +kernel
theorem dX7_solve_179 : decode cX7_solve 179 = .ok (.iconst 1, 1) := by decide +kernel
theorem dX7_solve_180 : decode cX7_solve 180 = .ok (.iadd, 1) := by decide +kernel
theorem dX7_solve_181 : decode cX7_solve 181 = .ok (.istore 5, 2) := by decide +kernel
theorem dX7_solve_183 : decode cX7_solve 183 = .ok (.iload 5, 2) := by decide +kernel
theorem dX7_solve_185 : decode cX7_solve 185 = .ok (.aload_n 0, 1) := by decide +kernel
theorem dX7_solve_186 : decode cX7_solve 186 = .ok (.getfield 7, 3) := by decide +kernel
theorem dX7_solve_189 : decode cX7_solve 189 = .ok (.if_icmp .ge 114, 3) := by decide +kernel
theorem dX7_solve_192 : decode cX7_solve 192 = .ok (.aload_n 0, 1) := by decide +kernel
theorem dX7_solve_193 : decode cX7_solve 193 = .ok (.getfield 60, 3) := by decide +kernel
theorem dX7_solve_196 : decode cX7_solve 196 = .ok (.iconst 3, 1) := by decide +kernel
theorem dX7_solve_197 : decode cX7_solve 197 = .ok (.iload 5, 2) := by decide +kernel
theorem dX7_solve_199 : decode cX7_solve 199 = .ok (.imul, 1) := by decide +kernel
theorem dX7_solve_200 : decode cX7_solve 200 = .ok (.iload_n 1, 1) := by decide +kernel
theorem dX7_solve_201 : decode cX7_solve 201 = .ok (.iadd, 1) := by decide +kernel
theorem dX7_solve_202 : decode cX7_solve 202 = .ok (.daload, 1) := by decide +kernel
theorem dX7_solve_203 : decode cX7_solve 203 = .ok (.aload_n 0, 1) := by decide +kernel
theorem dX7_solve_204 : decode cX7_solve 204 = .ok (.getfield 60, 3) := by decide +kernel
theorem dX7_solve_207 : decode cX7_solve 207 = .ok (.iconst 3, 1) := by decide +kernel
theorem dX7_solve_208 : decode cX7_solve 208 = .ok (.iload_n 1, 1) := by decide +kernel
theorem dX7_solve_209 : decode cX7_solve 209 = .ok (.imul, 1) := by decide +kernel
theorem dX7_solve_210 : decode cX7_solve 210 = .ok (.iload_n 1, 1) := by decide +kernel
theorem dX7_solve_211 : decode cX7_solve 211 = .ok (.iadd, 1) := by decide +kernel
theorem dX7_solve_212 : decode cX7_solve 212 = .ok (.daload, 1) := by decide +kernel
theorem dX7_solve_213 : decode cX7_solve 213 = .ok (.ddiv, 1) := by decide +kernel
theorem dX7_solve_214 : decode cX7_solve 214 = .ok (.dstore 6, 2) := by decide +kernel
theorem dX7_solve_216 : decode cX7_solve 216 = .ok (.iload_n 1, 1) := by decide +kernel
theorem dX7_solve_217 : decode cX7_solve 217 = .ok (.istore 8, 2) := by decide +kernel
theorem dX7_solve_219 : decode cX7_solve 219 = .ok (.iload 8, 2) := by decide +kernel
theorem dX7_solve_221 : decode cX7_solve 221 = .ok (.aload_n 0, 1) := by decide +kernel
theorem dX7_solve_222 : decode cX7_solve 222 = .ok (.getfield 7, 3) := by decide +kernel
theorem dX7_solve_225 : decode cX7_solve 225 = .ok (.if_icmp .ge 48, 3) := by decide +kernel
theorem dX7_solve_228 : decode cX7_solve 228 = .ok (.aload_n 0, 1) := by decide +kernel
theorem dX7_solve_229 : decode cX7_solve 229 = .ok (.getfield 60, 3) := by decide +kernel
theorem dX7_solve_232 : decode cX7_solve 232 = .ok (.iconst 3, 1) := by decide +kernel
theorem dX7_solve_233 : decode cX7_solve 233 = .ok (.iload 5, 2) := by decide +kernel
theorem dX7_solve_235 : decode cX7_solve 235 = .ok (.imul, 1) := by decide +kernel
theorem dX7_solve_236 : decode cX7_solve 236 = .ok (.iload 8, 2) := by decide +kernel
theorem dX7_solve_238 : decode cX7_solve 238 = .ok (.iadd, 1) := by decide +kernel
theorem dX7_solve_239 : decode cX7_solve 239 = .ok (.aload_n 0, 1) := by decide +kernel
theorem dX7_solve_240 : decode cX7_solve 240 = .ok (.getfield 60, 3) := by decide +kernel
theorem dX7_solve_243 : decode cX7_solve 243 = .ok (.iconst 3, 1) := by decide +kernel
theorem dX7_solve_244 : decode cX7_solve 244 = .ok (.iload 5, 2) := by decide +kernel
theorem dX7_solve_246 : decode cX7_solve 246 = .ok (.imul, 1) := by decide +kernel
theorem dX7_solve_247 : decode cX7_solve 247 = .ok (.iload 8, 2) := by decide +kernel
theorem dX7_solve_249 : decode cX7_solve 249 = .ok (.iadd, 1) := by decide +kernel
theorem dX7_solve_250 : decode cX7_solve 250 = .ok (.daload, 1) := by decide +kernel
theorem dX7_solve_251 : decode cX7_solve 251 = .ok (.dload 6, 2) := by decide +kernel
theorem dX7_solve_253 : decode cX7_solve 253 = .ok (.aload_n 0, 1) := by decide +kernel
theorem dX7_solve_254 : decode cX7_solve 254 = .ok (.getfield 60, 3) := by decide +kernel
theorem dX7_solve_257 : decode cX7_solve 257 = .ok (.iconst 3, 1) := by decide +kernel
theorem dX7_solve_258 : decode cX7_solve 258 = .ok (.iload_n 1, 1) := by decide +kernel
theorem dX7_solve_259 : decode cX7_solve 259 = .ok (.imul, 1) := by decide +kernel
theorem dX7_solve_260 : decode cX7_solve 260 = .ok (.iload 8, 2) := by decide +kernel
theorem dX7_solve_262 : decode cX7_solve 262 = .ok (.iadd, 1) := by decide +kernel
theorem dX7_solve_263 : decode cX7_solve 263 = .ok (.daload, 1) := by decide +kernel
theorem dX7_solve_264 : decode cX7_solve 264 = .ok (.dmul, 1) := by decide +kernel
theorem dX7_solve_265 : decode cX7_solve 265 = .ok (.dsub, 1) := by decide +kernel
theorem dX7_solve_266 : decode cX7_solve 266 = .ok (.dastore, 1) := by decide +kernel
theorem dX7_solve_267 : decode cX7_solve 267 = .ok (.iinc 8 1, 3) := by decide +kernel
theorem dX7_solve_270 : decode cX7_solve 270 = .ok (.goto (-51), 3) := by decide +kernel
theorem dX7_solve_273 : decode cX7_solve 273 = .ok (.aload_n 0, 1) := by decide +kernel
theorem dX7_solve_274 : decode cX7_solve 274 = .ok (.getfield 54, 3) := by decide +kernel
theorem dX7_solve_277 : decode cX7_solve 277 = .ok (.iload 5, 2) := by decide +kernel
theorem dX7_solve_279 : decode cX7_solve 279 = .ok (.aload_n 0, 1) := by decide +kernel
theorem dX7_solve_280 : decode cX7_solve 280 = .ok (.getfield 54, 3) := by decide +kernel
theorem dX7_solve_283 : decode cX7_solve 283 = .ok (.iload 5, 2) := by decide +kernel
theorem dX7_solve_285 : decode cX7_solve 285 = .ok (.daload, 1) := by decide +kernel
theorem dX7_solve_286 : decode cX7_solve 286 = .ok (.dload 6, 2) := by decide +kernel
theorem dX7_solve_288 : decode cX7_solve 288 = .ok (.aload_n 0, 1) := by decide +kernel
theorem dX7_solve_289 : decode cX7_solve 289 = .ok (.getfield 54, 3) := by decide +kernel
theorem dX7_solve_292 : decode cX7_solve 292 = .ok (.iload_n 1, 1) := by decide +kernel
theorem dX7_solve_293 : decode cX7_solve 293 = .ok (.daload, 1) := by decide +kernel
theorem dX7_solve_294 : decode cX7_solve 294 = .ok (.dmul, 1) := by decide +kernel
theorem dX7_solve_295 : decode cX7_solve 295 = .ok (.dsub, 1) := by decide +kernel
theorem dX7_solve_296 : decode cX7_solve 296 = .ok (.dastore, 1) := by decide +kernel
theorem dX7_solve_297 : decode cX7_solve 297 = .ok (.iinc 5 1, 3) := by decide +kernel
theorem dX7_solve_300 : decode cX7_solve 300 = .ok (.goto (-117), 3) := by decide +kernel
theorem dX7_solve_303 : decode cX7_solve 303 = .ok (.iinc 1 1, 3) := by decide +kernel
theorem dX7_solve_306 : decode cX7_solve 306 = .ok (.goto (-304), 3) := by decide +kernel
theorem dX7_solve_309 : decode cX7_solve 309 = .ok (.aload_n 0, 1) := by decide +kernel
theorem dX7_solve_310 : decode cX7_solve 310 = .ok (.getfield 7, 3) := by decide +kernel
theorem dX7_solve_313 : decode cX7_solve 313 = .ok (.iconst 1, 1) := by decide +kernel
theorem dX7_solve_314 : decode cX7_solve 314 = .ok (.isub, 1) := by decide +kernel
theorem dX7_solve_315 : decode cX7_solve 315 = .ok (.istore_n 1, 1) := by decide +kernel
theorem dX7_solve_316 : decode cX7_solve 316 = .ok (.iload_n 1, 1) := by decide +kernel
theorem dX7_solve_317 : decode cX7_solve 317 = .ok (.ifCond .lt 76, 3) := by decide +kernel
theorem dX7_solve_320 : decode cX7_solve 320 = .ok (.aload_n 0, 1) := by decide +kernel
theorem dX7_solve_321 : decode cX7_solve 321 = .ok (.getfield 54, 3) := by decide +kernel
theorem dX7_solve_324 : decode cX7_solve 324 = .ok (.iload_n 1, 1) := by decide +kernel
theorem dX7_solve_325 : decode cX7_solve 325 = .ok (.daload, 1) := by decide +kernel
theorem dX7_solve_326 : decode cX7_solve 326 = .ok (.dstore_n 2, 1) := by decide +kernel
theorem dX7_solve_327 : decode cX7_solve 327 = .ok (.iload_n 1, 1) := by decide +kernel
theorem dX7_solve_328 : decode cX7_solve 328 = .ok (.iconst 1, 1) := by decide +kernel
theorem dX7_solve_329 : decode cX7_solve 329 = .ok (.iadd, 1) := by decide +kernel
theorem dX7_solve_330 : decode cX7_solve 330 = .ok (.istore 4, 2) := by decide +kernel
theorem dX7_solve_332 : decode cX7_solve 332 = .ok (.iload 4, 2) := by decide +kernel
theorem dX7_solve_334 : decode cX7_solve 334 = .ok (.aload_n 0, 1) := by decide +kernel
theorem dX7_solve_335 : decode cX7_solve 335 = .ok (.getfield 7, 3) := by decide +kernel
theorem dX7_solve_338 : decode cX7_solve 338 = .ok (.if_icmp .ge 31, 3) := by decide +kernel
theorem dX7_solve_341 : decode cX7_solve 341 = .ok (.dload_n 2, 1) := by decide +kernel
theorem dX7_solve_342 : decode cX7_solve 342 = .ok (.aload_n 0, 1) := by decide +kernel
theorem dX7_solve_343 : decode cX7_solve 343 = .ok (.getfield 60, 3) := by decide +kernel
theorem dX7_solve_346 : decode cX7_solve 346 = .ok (.iconst 3, 1) := by decide +kernel
theorem dX7_solve_347 : decode cX7_solve 347 = .ok (.iload_n 1, 1) := by decide +kernel
theorem dX7_solve_348 : decode cX7_solve 348 = .ok (.imul, 1) := by decide +kernel
theorem dX7_solve_349 : decode cX7_solve 349 = .ok (.iload 4, 2) := by decide +kernel
theorem dX7_solve_351 : decode cX7_solve 351 = .ok (.iadd, 1) := by decide +kernel
theorem dX7_solve_352 : decode cX7_solve 352 = .ok (.daload, 1) := by decide +kernel
theorem dX7_solve_353 : decode cX7_solve 353 = .ok (.aload_n 0, 1) := by decide +kernel
theorem dX7_solve_354 : decode cX7_solve 354 = .ok (.getfield 51, 3) := by decide +kernel
theorem dX7_solve_357 : decode cX7_solve 357 = .ok (.iload 4, 2) := by decide +kernel
theorem dX7_solve_359 : decode cX7_solve 359 = .ok (.daload, 1) := by decide +kernel
theorem dX7_solve_360 : decode cX7_solve 360 = .ok (.dmul, 1) := by decide +kernel
theorem dX7_solve_361 : decode cX7_solve 361 = .ok (.dsub, 1) := by decide +kernel
theorem dX7_solve_362 : decode cX7_solve 362 = .ok (.dstore_n 2, 1) := by decide +kernel
theorem dX7_solve_363 : decode cX7_solve 363 = .ok (.iinc 4 1, 3) := by decide +kernel
theorem dX7_solve_366 : decode cX7_solve 366 = .ok (.goto (-34), 3) := by decide +kernel
theorem dX7_solve_369 : decode cX7_solve 369 = .ok (.aload_n 0, 1) := by decide +kernel
theorem dX7_solve_370 : decode cX7_solve 370 = .ok (.getfield 51, 3) := by decide +kernel
theorem dX7_solve_373 : decode cX7_solve 373 = .ok (.iload_n 1, 1) := by decide +kernel
theorem dX7_solve_374 : decode cX7_solve 374 = .ok (.dload_n 2, 1) := by decide +kernel
theorem dX7_solve_375 : decode cX7_solve 375 = .ok (.aload_n 0, 1) := by decide +kernel
theorem dX7_solve_376 : decode cX7_solve 376 = .ok (.getfield 60, 3) := by decide +kernel
theorem dX7_solve_379 : decode cX7_solve 379 = .ok (.iconst 3, 1) := by decide +kernel
theorem dX7_solve_380 : decode cX7_solve 380 = .ok (.iload_n 1, 1) := by decide +kernel
theorem dX7_solve_381 : decode cX7_solve 381 = .ok (.imul, 1) := by decide +kernel
theorem dX7_solve_382 : decode cX7_solve 382 = .ok (.iload_n 1, 1) := by decide +kernel
theorem dX7_solve_383 : decode cX7_solve 383 = .ok (.iadd, 1) := by decide +kernel
theorem dX7_solve_384 : decode cX7_solve 384 = .ok (.daload, 1) := by decide +kernel
theorem dX7_solve_385 : decode cX7_solve 385 = .ok (.ddiv, 1) := by decide +kernel
theorem dX7_solve_386 : decode cX7_solve 386 = .ok (.dastore, 1) := by decide +kernel
theorem dX7_solve_387 : decode cX7_solve 387 = .ok (.iinc 1 (-1), 3) := by decide +kernel
theorem dX7_solve_390 : decode cX7_solve 390 = .ok (.goto (-74), 3) := by decide +kernel
theorem dX7_solve_393 : decode cX7_solve 393 = .ok (.return_, 1) := by decide +kernel
theorem dX7_midpoints_0 : decode cX7_midpoints 0 = .ok (.dload_n 1, 1) := by decide +kernel
theorem dX7_midpoints_1 : decode cX7_midpoints 1 = .ok (.iload_n 3, 1) := by decide +kernel
theorem dX7_midpoints_2 : decode cX7_midpoints 2 = .ok (.i2d, 1) := by decide +kernel
theorem dX7_midpoints_3 : decode cX7_midpoints 3 = .ok (.ddiv, 1) := by decide +kernel
theorem dX7_midpoints_4 : decode cX7_midpoints 4 = .ok (.dstore 5, 2) := by decide +kernel
theorem dX7_midpoints_6 : decode cX7_midpoints 6 = .ok (.aload_n 0, 1) := by decide +kernel
theorem dX7_midpoints_7 : decode cX7_midpoints 7 = .ok (.aload_n 0, 1) := by decide +kernel
theorem dX7_midpoints_8 : decode cX7_midpoints 8 = .ok (.getfield 98, 3) := by decide +kernel
theorem dX7_midpoints_11 : decode cX7_midpoints 11 = .ok (.aload_n 0, 1) := by decide +kernel
theorem dX7_midpoints_12 : decode cX7_midpoints 12 = .ok (.getfield 36, 3) := by decide +kernel
theorem dX7_midpoints_15 : decode cX7_midpoints 15 = .ok (.aload_n 0, 1) := by decide +kernel
theorem dX7_midpoints_16 : decode cX7_midpoints 16 = .ok (.getfield 42, 3) := by decide +kernel
theorem dX7_midpoints_19 : decode cX7_midpoints 19 = .ok (.invokevirtual 101, 3) := by decide +kernel
theorem dX7_midpoints_22 : decode cX7_midpoints 22 = .ok (.iconst 0, 1) := by decide +kernel
theorem dX7_midpoints_23 : decode cX7_midpoints 23 = .ok (.istore 7, 2) := by decide +kernel
theorem dX7_midpoints_25 : decode cX7_midpoints 25 = .ok (.iload 7, 2) := by decide +kernel
theorem dX7_midpoints_27 : decode cX7_midpoints 27 = .ok (.aload_n 0, 1) := by decide +kernel
theorem dX7_midpoints_28 : decode cX7_midpoints 28 = .ok (.getfield 7, 3) := by decide +kernel
theorem dX7_midpoints_31 : decode cX7_midpoints 31 = .ok (.if_icmp .ge 48, 3) := by decide +kernel
theorem dX7_midpoints_34 : decode cX7_midpoints 34 = .ok (.aload_n 0, 1) := by decide +kernel
theorem dX7_midpoints_35 : decode cX7_midpoints 35 = .ok (.getfield 54, 3) := by decide +kernel
theorem dX7_midpoints_38 : decode cX7_midpoints 38 = .ok (.iload 7, 2) := by decide +kernel
theorem dX7_midpoints_40 : decode cX7_midpoints 40 = .ok (.aload_n 0, 1) := by decide +kernel
theorem dX7_midpoints_41 : decode cX7_midpoints 41 = .ok (.getfield 36, 3) := by decide +kernel
theorem dX7_midpoints_44 : decode cX7_midpoints 44 = .ok (.iload 7, 2) := by decide +kernel
theorem dX7_midpoints_46 : decode cX7_midpoints 46 = .ok (.daload, 1) := by decide +kernel
theorem dX7_midpoints_47 : decode cX7_midpoints 47 = .ok (.dastore, 1) := by decide +kernel
theorem dX7_midpoints_48 : decode cX7_midpoints 48 = .ok (.aload_n 0, 1) := by decide +kernel
theorem dX7_midpoints_49 : decode cX7_midpoints 49 = .ok (.getfield 57, 3) := by decide +kernel
theorem dX7_midpoints_52 : decode cX7_midpoints 52 = .ok (.iload 7, 2) := by decide +kernel
theorem dX7_midpoints_54 : decode cX7_midpoints 54 = .ok (.aload_n 0, 1) := by decide +kernel
theorem dX7_midpoints_55 : decode cX7_midpoints 55 = .ok (.getfield 36, 3) := by decide +kernel
theorem dX7_midpoints_58 : decode cX7_midpoints 58 = .ok (.iload 7, 2) := by decide +kernel
theorem dX7_midpoints_60 : decode cX7_midpoints 60 = .ok (.daload, 1) := by decide +kernel
theorem dX7_midpoints_61 : decode cX7_midpoints 61 = .ok (.dload 5, 2) := by decide +kernel
theorem dX7_midpoints_63 : decode cX7_midpoints 63 = .ok (.aload_n 0, 1) := by decide +kernel
theorem dX7_midpoints_64 : decode cX7_midpoints 64 = .ok (.getfield 42, 3) := by decide +kernel
theorem dX7_midpoints_67 : decode cX7_midpoints 67 = .ok (.iload 7, 2) := by decide +kernel
theorem dX7_midpoints_69 : decode cX7_midpoints 69 = .ok (.daload, 1) := by decide +kernel
theorem dX7_midpoints_70 : decode cX7_midpoints 70 = .ok (.dmul, 1) := by decide +kernel
theorem dX7_midpoints_71 : decode cX7_midpoints 71 = .ok (.dadd, 1) := by decide +kernel
theorem dX7_midpoints_72 : decode cX7_midpoints 72 = .ok (.dastore, 1) := by decide +kernel
theorem dX7_midpoints_73 : decode cX7_midpoints 73 = .ok (.iinc 7 1, 3) := by decide +kernel
theorem dX7_midpoints_76 : decode cX7_midpoints 76 = .ok (.goto (-51), 3) := by decide +kernel
theorem dX7_midpoints_79 : decode cX7_midpoints 79 = .ok (.iconst 1, 1) := by decide +kernel
theorem dX7_midpoints_80 : decode cX7_midpoints 80 = .ok (.istore 7, 2) := by decide +kernel
theorem dX7_midpoints_82 : decode cX7_midpoints 82 = .ok (.iload 7, 2) := by decide +kernel
theorem dX7_midpoints_84 : decode cX7_midpoints 84 = .ok (.iload_n 3, 1) := by decide +kernel
theorem dX7_midpoints_85 : decode cX7_midpoints 85 = .ok (.if_icmp .ge 97, 3) := by decide +kernel
theorem dX7_midpoints_88 : decode cX7_midpoints 88 = .ok (.aload_n 0, 1) := by decide +kernel
theorem dX7_midpoints_89 : decode cX7_midpoints 89 = .ok (.aload_n 0, 1) := by decide +kernel
theorem dX7_midpoints_90 : decode cX7_midpoints 90 = .ok (.getfield 98, 3) := by decide +kernel
theorem dX7_midpoints_93 : decode cX7_midpoints 93 = .ok (.iload 7, 2) := by decide +kernel
theorem dX7_midpoints_95 : decode cX7_midpoints 95 = .ok (.i2d, 1) := by decide +kernel
theorem dX7_midpoints_96 : decode cX7_midpoints 96 = .ok (.dload 5, 2) := by decide +kernel
theorem dX7_midpoints_98 : decode cX7_midpoints 98 = .ok (.dmul, 1) := by decide +kernel
theorem dX7_midpoints_99 : decode cX7_midpoints 99 = .ok (.dadd, 1) := by decide +kernel
theorem dX7_midpoints_100 : decode cX7_midpoints 100 = .ok (.aload_n 0, 1) := by decide +kernel
theorem dX7_midpoints_101 : decode cX7_midpoints 101 = .ok (.getfield 57, 3) := by decide +kernel
theorem dX7_midpoints_104 : decode cX7_midpoints 104 = .ok (.aload_n 0, 1) := by decide +kernel
theorem dX7_midpoints_105 : decode cX7_midpoints 105 = .ok (.getfield 42, 3) := by decide +kernel
theorem dX7_midpoints_108 : decode cX7_midpoints 108 = .ok (.invokevirtual 101, 3) := by decide +kernel
theorem dX7_midpoints_111 : decode cX7_midpoints 111 = .ok (.iconst 0, 1) := by decide +kernel
theorem dX7_midpoints_112 : decode cX7_midpoints 112 = .ok (.istore 8, 2) := by decide +kernel
theorem dX7_midpoints_114 : decode cX7_midpoints 114 = .ok (.iload 8, 2) := by decide +kernel
theorem dX7_midpoints_116 : decode cX7_midpoints 116 = .ok (.aload_n 0, 1) := by decide +kernel
theorem dX7_midpoints_117 : decode cX7_midpoints 117 = .ok (.getfield 7, 3) := by decide +kernel
theorem dX7_midpoints_120 : decode cX7_midpoints 120 = .ok (.if_icmp .ge 56, 3) := by decide +kernel
theorem dX7_midpoints_123 : decode cX7_midpoints 123 = .ok (.aload_n 0, 1) := by decide +kernel
theorem dX7_midpoints_124 : decode cX7_midpoints 124 = .ok (.getfield 54, 3) := by decide +kernel
theorem dX7_midpoints_127 : decode cX7_midpoints 127 = .ok (.iload 8, 2) := by decide +kernel
theorem dX7_midpoints_129 : decode cX7_midpoints 129 = .ok (.daload, 1) := by decide +kernel
theorem dX7_midpoints_130 : decode cX7_midpoints 130 = .ok (.ldc2_w 113, 3) := by decide +kernel
theorem dX7_midpoints_133 : decode cX7_midpoints 133 = .ok (.dload 5, 2) := by decide +kernel
theorem dX7_midpoints_135 : decode cX7_midpoints 135 = .ok (.dmul, 1) := by decide +kernel
theorem dX7_midpoints_136 : decode cX7_midpoints 136 = .ok (.aload_n 0, 1) := by decide +kernel
theorem dX7_midpoints_137 : decode cX7_midpoints 137 = .ok (.getfield 42, 3) := by decide +kernel
theorem dX7_midpoints_140 : decode cX7_midpoints 140 = .ok (.iload 8, 2) := by decide +kernel
theorem dX7_midpoints_142 : decode cX7_midpoints 142 = .ok (.daload, 1) := by decide +kernel
theorem dX7_midpoints_143 : decode cX7_midpoints 143 = .ok (.dmul, 1) := by decide +kernel
theorem dX7_midpoints_144 : decode cX7_midpoints 144 = .ok (.dadd, 1) := by decide +kernel
theorem dX7_midpoints_145 : decode cX7_midpoints 145 = .ok (.dstore 9, 2) := by decide +kernel
theorem dX7_midpoints_147 : decode cX7_midpoints 147 = .ok (.aload_n 0, 1) := by decide +kernel
theorem dX7_midpoints_148 : decode cX7_midpoints 148 = .ok (.getfield 54, 3) := by decide +kernel
theorem dX7_midpoints_151 : decode cX7_midpoints 151 = .ok (.iload 8, 2) := by decide +kernel
theorem dX7_midpoints_153 : decode cX7_midpoints 153 = .ok (.aload_n 0, 1) := by decide +kernel
theorem dX7_midpoints_154 : decode cX7_midpoints 154 = .ok (.getfield 57, 3) := by decide +kernel
theorem dX7_midpoints_157 : decode cX7_midpoints 157 = .ok (.iload 8, 2) := by decide +kernel
theorem dX7_midpoints_159 : decode cX7_midpoints 159 = .ok (.daload, 1) := by decide +kernel
theorem dX7_midpoints_160 : decode cX7_midpoints 160 = .ok (.dastore, 1) := by decide +kernel
theorem dX7_midpoints_161 : decode cX7_midpoints 161 = .ok (.aload_n 0, 1) := by decide +kernel
theorem dX7_midpoints_162 : decode cX7_midpoints 162 = .ok (.getfield 57, 3) := by decide +kernel
theorem dX7_midpoints_165 : decode cX7_midpoints 165 = .ok (.iload 8, 2) := by decide +kernel
theorem dX7_midpoints_167 : decode cX7_midpoints 167 = .ok (.dload 9, 2) := by decide +kernel
theorem dX7_midpoints_169 : decode cX7_midpoints 169 = .ok (.dastore, 1) := by decide +kernel
theorem dX7_midpoints_170 : decode cX7_midpoints 170 = .ok (.iinc 8 1, 3) := by decide +kernel
theorem dX7_midpoints_173 : decode cX7_midpoints 173 = .ok (.goto (-59), 3) := by decide +kernel
theorem dX7_midpoints_176 : decode cX7_midpoints 176 = .ok (.iinc 7 1, 3) := by decide +kernel
theorem dX7_midpoints_179 : decode cX7_midpoints 179 = .ok (.goto (-97), 3) := by decide +kernel
theorem dX7_midpoints_182 : decode cX7_midpoints 182 = .ok (.aload_n 0, 1) := by decide +kernel
theorem dX7_midpoints_183 : decode cX7_midpoints 183 = .ok (.aload_n 0, 1) := by decide +kernel
theorem dX7_midpoints_184 : decode cX7_midpoints 184 = .ok (.getfield 98, 3) := by decide +kernel
theorem dX7_midpoints_187 : decode cX7_midpoints 187 = .ok (.dload_n 1, 1) := by decide +kernel
theorem dX7_midpoints_188 : decode cX7_midpoints 188 = .ok (.dadd, 1) := by decide +kernel
theorem dX7_midpoints_189 : decode cX7_midpoints 189 = .ok (.aload_n 0, 1) := by decide +kernel
theorem dX7_midpoints_190 : decode cX7_midpoints 190 = .ok (.getfield 57, 3) := by decide +kernel
theorem dX7_midpoints_193 : decode cX7_midpoints 193 = .ok (.aload_n 0, 1) := by decide +kernel
theorem dX7_midpoints_194 : decode cX7_midpoints 194 = .ok (.getfield 42, 3) := by decide +kernel
theorem dX7_midpoints_197 : decode cX7_midpoints 197 = .ok (.invokevirtual 101, 3) := by decide +kernel
theorem dX7_midpoints_200 : decode cX7_midpoints 200 = .ok (.iconst 0, 1) := by decide +kernel
theorem dX7_midpoints_201 : decode cX7_midpoints 201 = .ok (.istore 7, 2) := by decide +kernel
theorem dX7_midpoints_203 : decode cX7_midpoints 203 = .ok (.iload 7, 2) := by decide +kernel
theorem dX7_midpoints_205 : decode cX7_midpoints 205 = .ok (.aload_n 0, 1) := by decide +kernel
theorem dX7_midpoints_206 : decode cX7_midpoints 206 = .ok (.getfield 7, 3) := by decide +kernel
theorem dX7_midpoints_209 : decode cX7_midpoints 209 = .ok (.if_icmp .ge 44, 3) := by decide +kernel
theorem dX7_midpoints_212 : decode cX7_midpoints 212 = .ok (.aload 4, 2) := by decide +kernel
theorem dX7_midpoints_214 : decode cX7_midpoints 214 = .ok (.iload 7, 2) := by decide +kernel
theorem dX7_midpoints_216 : decode cX7_midpoints 216 = .ok (.ldc2_w 105, 3) := by decide +kernel
theorem dX7_midpoints_219 : decode cX7_midpoints 219 = .ok (.aload_n 0, 1) := by decide +kernel
theorem dX7_midpoints_220 : decode cX7_midpoints 220 = .ok (.getfield 57, 3) := by decide +kernel
theorem dX7_midpoints_223 : decode cX7_midpoints 223 = .ok (.iload 7, 2) := by decide +kernel
theorem dX7_midpoints_225 : decode cX7_midpoints 225 = .ok (.daload, 1) := by decide +kernel
theorem dX7_midpoints_226 : decode cX7_midpoints 226 = .ok (.aload_n 0, 1) := by decide +kernel
theorem dX7_midpoints_227 : decode cX7_midpoints 227 = .ok (.getfield 54, 3) := by decide +kernel
theorem dX7_midpoints_230 : decode cX7_midpoints 230 = .ok (.iload 7, 2) := by decide +kernel
theorem dX7_midpoints_232 : decode cX7_midpoints 232 = .ok (.daload, 1) := by decide +kernel
theorem dX7_midpoints_233 : decode cX7_midpoints 233 = .ok (.dadd, 1) := by decide +kernel
theorem dX7_midpoints_234 : decode cX7_midpoints 234 = .ok (.dload 5, 2) := by decide +kernel
theorem dX7_midpoints_236 : decode cX7_midpoints 236 = .ok (.aload_n 0, 1) := by decide +kernel
theorem dX7_midpoints_237 : decode cX7_midpoints 237 = .ok (.getfield 42, 3) := by decide +kernel
theorem dX7_midpoints_240 : decode cX7_midpoints 240 = .ok (.iload 7, 2) := by decide +kernel
theorem dX7_midpoints_242 : decode cX7_midpoints 242 = .ok (.daload, 1) := by decide +kernel
theorem dX7_midpoints_243 : decode cX7_midpoints 243 = .ok (.dmul, 1) := by decide +kernel
theorem dX7_midpoints_244 : decode cX7_midpoints 244 = .ok (.dadd, 1) := by decide +kernel
theorem dX7_midpoints_245 : decode cX7_midpoints 245 = .ok (.dmul, 1) := by decide +kernel
theorem dX7_midpoints_246 : decode cX7_midpoints 246 = .ok (.dastore, 1) := by decide +kernel
theorem dX7_midpoints_247 : decode cX7_midpoints 247 = .ok (.iinc 7 1, 3) := by decide +kernel
theorem dX7_midpoints_250 : decode cX7_midpoints 250 = .ok (.goto (-47), 3) := by decide +kernel
theorem dX7_midpoints_253 : decode cX7_midpoints 253 = .ok (.return_, 1) := by decide +kernel
theorem dX7_tried_0 : decode cX7_tried 0 = .ok (.aload_n 0, 1) := by decide +kernel
theorem dX7_tried_1 : decode cX7_tried 1 = .ok (.iconst 0, 1) := by decide +kernel
theorem dX7_tried_2 : decode cX7_tried 2 = .ok (.putfield 149, 3) := by decide +kernel
theorem dX7_tried_5 : decode cX7_tried 5 = .ok (.aload_n 0, 1) := by decide +kernel
theorem dX7_tried_6 : decode cX7_tried 6 = .ok (.dconst 0, 1) := by decide +kernel
theorem dX7_tried_7 : decode cX7_tried 7 = .ok (.putfield 133, 3) := by decide +kernel
theorem dX7_tried_10 : decode cX7_tried 10 = .ok (.aload_n 0, 1) := by decide +kernel
theorem dX7_tried_11 : decode cX7_tried 11 = .ok (.aload_n 0, 1) := by decide +kernel
theorem dX7_tried_12 : decode cX7_tried 12 = .ok (.getfield 136, 3) := by decide +kernel
theorem dX7_tried_15 : decode cX7_tried 15 = .ok (.ifCond .eq 12, 3) := by decide +kernel
theorem dX7_tried_18 : decode cX7_tried 18 = .ok (.iload_n 1, 1) := by decide +kernel
theorem dX7_tried_19 : decode cX7_tried 19 = .ok (.iconst 3, 1) := by decide +kernel
theorem dX7_tried_20 : decode cX7_tried 20 = .ok (.if_icmp .ne 7, 3) := by decide +kernel
theorem dX7_tried_23 : decode cX7_tried 23 = .ok (.iconst 1, 1) := by decide +kernel
theorem dX7_tried_24 : decode cX7_tried 24 = .ok (.goto 4, 3) := by decide +kernel
theorem dX7_tried_27 : decode cX7_tried 27 = .ok (.iconst 0, 1) := by decide +kernel
theorem dX7_tried_28 : decode cX7_tried 28 = .ok (.putfield 136, 3) := by decide +kernel
theorem dX7_tried_31 : decode cX7_tried 31 = .ok (.iload_n 1, 1) := by decide +kernel
theorem dX7_tried_32 : decode cX7_tried 32 = .ok (.ifCond .ne 39, 3) := by decide +kernel
theorem dX7_tried_35 : decode cX7_tried 35 = .ok (.aload_n 0, 1) := by decide +kernel
theorem dX7_tried_36 : decode cX7_tried 36 = .ok (.aload_n 0, 1) := by decide +kernel
theorem dX7_tried_37 : decode cX7_tried 37 = .ok (.getfield 98, 3) := by decide +kernel
theorem dX7_tried_40 : decode cX7_tried 40 = .ok (.aload_n 0, 1) := by decide +kernel
theorem dX7_tried_41 : decode cX7_tried 41 = .ok (.getfield 36, 3) := by decide +kernel
theorem dX7_tried_44 : decode cX7_tried 44 = .ok (.aload_n 0, 1) := by decide +kernel
theorem dX7_tried_45 : decode cX7_tried 45 = .ok (.getfield 42, 3) := by decide +kernel
theorem dX7_tried_48 : decode cX7_tried 48 = .ok (.invokevirtual 101, 3) := by decide +kernel
theorem dX7_tried_51 : decode cX7_tried 51 = .ok (.aload_n 0, 1) := by decide +kernel
theorem dX7_tried_52 : decode cX7_tried 52 = .ok (.aload_n 0, 1) := by decide +kernel
theorem dX7_tried_53 : decode cX7_tried 53 = .ok (.getfield 36, 3) := by decide +kernel
theorem dX7_tried_56 : decode cX7_tried 56 = .ok (.dload_n 2, 1) := by decide +kernel
theorem dX7_tried_57 : decode cX7_tried 57 = .ok (.aload_n 0, 1) := by decide +kernel
theorem dX7_tried_58 : decode cX7_tried 58 = .ok (.getfield 42, 3) := by decide +kernel
theorem dX7_tried_61 : decode cX7_tried 61 = .ok (.aload_n 0, 1) := by decide +kernel
theorem dX7_tried_62 : decode cX7_tried 62 = .ok (.getfield 39, 3) := by decide +kernel
theorem dX7_tried_65 : decode cX7_tried 65 = .ok (.invokevirtual 107, 3) := by decide +kernel
theorem dX7_tried_68 : decode cX7_tried 68 = .ok (.goto 127, 3) := by decide +kernel
theorem dX7_tried_71 : decode cX7_tried 71 = .ok (.iload_n 1, 1) := by decide +kernel
theorem dX7_tried_72 : decode cX7_tried 72 = .ok (.iconst 1, 1) := by decide +kernel
theorem dX7_tried_73 : decode cX7_tried 73 = .ok (.if_icmp .ne 11, 3) := by decide +kernel
theorem dX7_tried_76 : decode cX7_tried 76 = .ok (.aload_n 0, 1) := by decide +kernel
theorem dX7_tried_77 : decode cX7_tried 77 = .ok (.dload_n 2, 1) := by decide +kernel
theorem dX7_tried_78 : decode cX7_tried 78 = .ok (.invokevirtual 145, 3) := by decide +kernel
theorem dX7_tried_81 : decode cX7_tried 81 = .ok (.goto 114, 3) := by decide +kernel
theorem dX7_tried_84 : decode cX7_tried 84 = .ok (.iload_n 1, 1) := by decide +kernel
theorem dX7_tried_85 : decode cX7_tried 85 = .ok (.iconst 2, 1) := by decide +kernel
theorem dX7_tried_86 : decode cX7_tried 86 = .ok (.if_icmp .ne 11, 3) := by decide +kernel
theorem dX7_tried_89 : decode cX7_tried 89 = .ok (.aload_n 0, 1) := by decide +kernel
theorem dX7_tried_90 : decode cX7_tried 90 = .ok (.dload_n 2, 1) := by decide +kernel
theorem dX7_tried_91 : decode cX7_tried 91 = .ok (.invokevirtual 163, 3) := by decide +kernel
theorem dX7_tried_94 : decode cX7_tried 94 = .ok (.goto 101, 3) := by decide +kernel
theorem dX7_tried_97 : decode cX7_tried 97 = .ok (.iload_n 1, 1) := by decide +kernel
theorem dX7_tried_98 : decode cX7_tried 98 = .ok (.iconst 3, 1) := by decide +kernel
theorem dX7_tried_99 : decode cX7_tried 99 = .ok (.if_icmp .ne 11, 3) := by decide +kernel
theorem dX7_tried_102 : decode cX7_tried 102 = .ok (.aload_n 0, 1) := by decide +kernel
theorem dX7_tried_103 : decode cX7_tried 103 = .ok (.dload_n 2, 1) := by decide +kernel
theorem dX7_tried_104 : decode cX7_tried 104 = .ok (.invokevirtual 166, 3) := by decide +kernel
theorem dX7_tried_107 : decode cX7_tried 107 = .ok (.goto 88, 3) := by decide +kernel
theorem dX7_tried_110 : decode cX7_tried 110 = .ok (.iload_n 1, 1) := by decide +kernel
theorem dX7_tried_111 : decode cX7_tried 111 = .ok (.iconst 4, 1) := by decide +kernel
theorem dX7_tried_112 : decode cX7_tried 112 = .ok (.if_icmp .ne 11, 3) := by decide +kernel
theorem dX7_tried_115 : decode cX7_tried 115 = .ok (.aload_n 0, 1) := by decide +kernel
theorem dX7_tried_116 : decode cX7_tried 116 = .ok (.dload_n 2, 1) := by decide +kernel
theorem dX7_tried_117 : decode cX7_tried 117 = .ok (.invokevirtual 169, 3) := by decide +kernel
theorem dX7_tried_120 : decode cX7_tried 120 = .ok (.goto 75, 3) := by decide +kernel
theorem dX7_tried_123 : decode cX7_tried 123 = .ok (.aload_n 0, 1) := by decide +kernel
theorem dX7_tried_124 : decode cX7_tried 124 = .ok (.dload_n 2, 1) := by decide +kernel
theorem dX7_tried_125 : decode cX7_tried 125 = .ok (.iconst 2, 1) := by decide +kernel
theorem dX7_tried_126 : decode cX7_tried 126 = .ok (.aload_n 0, 1) := by decide +kernel
theorem dX7_tried_127 : decode cX7_tried 127 = .ok (.getfield 48, 3) := by decide +kernel
theorem dX7_tried_130 : decode cX7_tried 130 = .ok (.invokevirtual 172, 3) := by decide +kernel
theorem dX7_tried_133 : decode cX7_tried 133 = .ok (.aload_n 0, 1) := by decide +kernel
theorem dX7_tried_134 : decode cX7_tried 134 = .ok (.dload_n 2, 1) := by decide +kernel
theorem dX7_tried_135 : decode cX7_tried 135 = .ok (.iconst 4, 1) := by decide +kernel
theorem dX7_tried_136 : decode cX7_tried 136 = .ok (.aload_n 0, 1) := by decide +kernel
theorem dX7_tried_137 : decode cX7_tried 137 = .ok (.getfield 51, 3) := by decide +kernel
theorem dX7_tried_140 : decode cX7_tried 140 = .ok (.invokevirtual 172, 3) := by decide +kernel
theorem dX7_tried_143 : decode cX7_tried 143 = .ok (.iconst 0, 1) := by decide +kernel
theorem dX7_tried_144 : decode cX7_tried 144 = .ok (.istore 4, 2) := by decide +kernel
theorem dX7_tried_146 : decode cX7_tried 146 = .ok (.iload 4, 2) := by decide +kernel
theorem dX7_tried_148 : decode cX7_tried 148 = .ok (.aload_n 0, 1) := by decide +kernel
theorem dX7_tried_149 : decode cX7_tried 149 = .ok (.getfield 7, 3) := by decide +kernel
theorem dX7_tried_152 : decode cX7_tried 152 = .ok (.if_icmp .ge 43, 3) := by decide +kernel
theorem dX7_tried_155 : decode cX7_tried 155 = .ok (.aload_n 0, 1) := by decide +kernel
theorem dX7_tried_156 : decode cX7_tried 156 = .ok (.getfield 39, 3) := by decide +kernel
theorem dX7_tried_159 : decode cX7_tried 159 = .ok (.iload 4, 2) := by decide +kernel
theorem dX7_tried_161 : decode cX7_tried 161 = .ok (.aload_n 0, 1) := by decide +kernel
theorem dX7_tried_162 : decode cX7_tried 162 = .ok (.getfield 51, 3) := by decide +kernel
theorem dX7_tried_165 : decode cX7_tried 165 = .ok (.iload 4, 2) := by decide +kernel
theorem dX7_tried_167 : decode cX7_tried 167 = .ok (.daload, 1) := by decide +kernel
theorem dX7_tried_168 : decode cX7_tried 168 = .ok (.aload_n 0, 1) := by decide +kernel
theorem dX7_tried_169 : decode cX7_tried 169 = .ok (.getfield 51, 3) := by decide +kernel
theorem dX7_tried_172 : decode cX7_tried 172 = .ok (.iload 4, 2) := by decide +kernel
theorem dX7_tried_174 : decode cX7_tried 174 = .ok (.daload, 1) := by decide +kernel
theorem dX7_tried_175 : decode cX7_tried 175 = .ok (.aload_n 0, 1) := by decide +kernel
theorem dX7_tried_176 : decode cX7_tried 176 = .ok (.getfield 48, 3) := by decide +kernel
theorem dX7_tried_179 : decode cX7_tried 179 = .ok (.iload 4, 2) := by decide +kernel
theorem dX7_tried_181 : decode cX7_tried 181 = .ok (.daload, 1) := by decide +kernel
theorem dX7_tried_182 : decode cX7_tried 182 = .ok (.dsub, 1) := by decide +kernel
theorem dX7_tried_183 : decode cX7_tried 183 = .ok (.ldc2_w 119, 3) := by decide +kernel
theorem dX7_tried_186 : decode cX7_tried 186 = .ok (.ddiv, 1) := by decide +kernel
theorem dX7_tried_187 : decode cX7_tried 187 = .ok (.dadd, 1) := by decide +kernel
theorem dX7_tried_188 : decode cX7_tried 188 = .ok (.dastore, 1) := by decide +kernel
theorem dX7_tried_189 : decode cX7_tried 189 = .ok (.iinc 4 1, 3) := by decide +kernel
theorem dX7_tried_192 : decode cX7_tried 192 = .ok (.goto (-46), 3) := by decide +kernel
theorem dX7_tried_195 : decode cX7_tried 195 = .ok (.aload_n 0, 1) := by decide +kernel
theorem dX7_tried_196 : decode cX7_tried 196 = .ok (.aload_n 0, 1) := by decide +kernel
theorem dX7_tried_197 : decode cX7_tried 197 = .ok (.getfield 149, 3) := by decide +kernel
theorem dX7_tried_200 : decode cX7_tried 200 = .ok (.ifCond .ne 18, 3) := by decide +kernel
theorem dX7_tried_203 : decode cX7_tried 203 = .ok (.aload_n 0, 1) := by decide +kernel
theorem dX7_tried_204 : decode cX7_tried 204 = .ok (.aload_n 0, 1) := by decide +kernel
theorem dX7_tried_205 : decode cX7_tried 205 = .ok (.getfield 39, 3) := by decide +kernel
theorem dX7_tried_208 : decode cX7_tried 208 = .ok (.invokevirtual 129, 3) := by decide +kernel
theorem dX7_tried_211 : decode cX7_tried 211 = .ok (.ldc2_w 176, 3) := by decide +kernel
theorem dX7_tried_214 : decode cX7_tried 214 = .ok (.dcmp .l, 1) := by decide +kernel
theorem dX7_tried_215 : decode cX7_tried 215 = .ok (.ifCond .le 7, 3) := by decide +kernel
theorem dX7_tried_218 : decode cX7_tried 218 = .ok (.iconst 1, 1) := by decide +kernel
theorem dX7_tried_219 : decode cX7_tried 219 = .ok (.goto 4, 3) := by decide +kernel
theorem dX7_tried_222 : decode cX7_tried 222 = .ok (.iconst 0, 1) := by decide +kernel
theorem dX7_tried_223 : decode cX7_tried 223 = .ok (.putfield 149, 3) := by decide +kernel
theorem dX7_tried_226 : decode cX7_tried 226 = .ok (.aload_n 0, 1) := by decide +kernel
theorem dX7_tried_227 : decode cX7_tried 227 = .ok (.iload_n 1, 1) := by decide +kernel
theorem dX7_tried_228 : decode cX7_tried 228 = .ok (.iconst 3, 1) := by decide +kernel
theorem dX7_tried_229 : decode cX7_tried 229 = .ok (.if_icmp .ne 14, 3) := by decide +kernel
theorem dX7_tried_232 : decode cX7_tried 232 = .ok (.aload_n 0, 1) := by decide +kernel
theorem dX7_tried_233 : decode cX7_tried 233 = .ok (.getfield 149, 3) := by decide +kernel
theorem dX7_tried_236 : decode cX7_tried 236 = .ok (.ifCond .ne 7, 3) := by decide +kernel
theorem dX7_tried_239 : decode cX7_tried 239 = .ok (.iconst 1, 1) := by decide +kernel
theorem dX7_tried_240 : decode cX7_tried 240 = .ok (.goto 4, 3) := by decide +kernel
theorem dX7_tried_243 : decode cX7_tried 243 = .ok (.iconst 0, 1) := by decide +kernel
theorem dX7_tried_244 : decode cX7_tried 244 = .ok (.putfield 136, 3) := by decide +kernel
theorem dX7_tried_247 : decode cX7_tried 247 = .ok (.aload_n 0, 1) := by decide +kernel
theorem dX7_tried_248 : decode cX7_tried 248 = .ok (.getfield 149, 3) := by decide +kernel
theorem dX7_tried_251 : decode cX7_tried 251 = .ok (.ifCond .eq 13, 3) := by decide +kernel
theorem dX7_tried_254 : decode cX7_tried 254 = .ok (.aload_n 0, 1) := by decide +kernel
theorem dX7_tried_255 : decode cX7_tried 255 = .ok (.dup, 1) := by decide +kernel
theorem dX7_tried_256 : decode cX7_tried 256 = .ok (.getfield 178, 3) := by decide +kernel
theorem dX7_tried_259 : decode cX7_tried 259 = .ok (.iconst 1, 1) := by decide +kernel
theorem dX7_tried_260 : decode cX7_tried 260 = .ok (.iadd, 1) := by decide +kernel
theorem dX7_tried_261 : decode cX7_tried 261 = .ok (.putfield 178, 3) := by decide +kernel
theorem dX7_tried_264 : decode cX7_tried 264 = .ok (.aload_n 0, 1) := by decide +kernel
theorem dX7_tried_265 : decode cX7_tried 265 = .ok (.getfield 149, 3) := by decide +kernel
theorem dX7_tried_268 : decode cX7_tried 268 = .ok (.ifCond .ne 7, 3) := by decide +kernel
theorem dX7_tried_271 : decode cX7_tried 271 = .ok (.iconst 1, 1) := by decide +kernel
theorem dX7_tried_272 : decode cX7_tried 272 = .ok (.goto 4, 3) := by decide +kernel
theorem dX7_tried_275 : decode cX7_tried 275 = .ok (.iconst 0, 1) := by decide +kernel
theorem dX7_tried_276 : decode cX7_tried 276 = .ok (.ireturn, 1) := by decide +kernel
theorem dX7_take_0 : decode cX7_take 0 = .ok (.aload_n 0, 1) := by decide +kernel
theorem dX7_take_1 : decode cX7_take 1 = .ok (.aload_n 0, 1) := by decide +kernel
theorem dX7_take_2 : decode cX7_take 2 = .ok (.getfield 98, 3) := by decide +kernel
theorem dX7_take_5 : decode cX7_take 5 = .ok (.aload_n 0, 1) := by decide +kernel
theorem dX7_take_6 : decode cX7_take 6 = .ok (.getfield 36, 3) := by decide +kernel
theorem dX7_take_9 : decode cX7_take 9 = .ok (.aload_n 0, 1) := by decide +kernel
theorem dX7_take_10 : decode cX7_take 10 = .ok (.getfield 72, 3) := by decide +kernel
theorem dX7_take_13 : decode cX7_take 13 = .ok (.invokevirtual 101, 3) := by decide +kernel
theorem dX7_take_16 : decode cX7_take 16 = .ok (.iconst 0, 1) := by decide +kernel
theorem dX7_take_17 : decode cX7_take 17 = .ok (.istore 5, 2) := by decide +kernel
theorem dX7_take_19 : decode cX7_take 19 = .ok (.iload 5, 2) := by decide +kernel
theorem dX7_take_21 : decode cX7_take 21 = .ok (.aload_n 0, 1) := by decide +kernel
theorem dX7_take_22 : decode cX7_take 22 = .ok (.getfield 7, 3) := by decide +kernel
theorem dX7_take_25 : decode cX7_take 25 = .ok (.if_icmp .ge 37, 3) := by decide +kernel
theorem dX7_take_28 : decode cX7_take 28 = .ok (.aload_n 0, 1) := by decide +kernel
theorem dX7_take_29 : decode cX7_take 29 = .ok (.getfield 69, 3) := by decide +kernel
theorem dX7_take_32 : decode cX7_take 32 = .ok (.iload 5, 2) := by decide +kernel
theorem dX7_take_34 : decode cX7_take 34 = .ok (.aload_n 0, 1) := by decide +kernel
theorem dX7_take_35 : decode cX7_take 35 = .ok (.getfield 36, 3) := by decide +kernel
theorem dX7_take_38 : decode cX7_take 38 = .ok (.iload 5, 2) := by decide +kernel
theorem dX7_take_40 : decode cX7_take 40 = .ok (.daload, 1) := by decide +kernel
theorem dX7_take_41 : decode cX7_take 41 = .ok (.dastore, 1) := by decide +kernel
theorem dX7_take_42 : decode cX7_take 42 = .ok (.aload_n 0, 1) := by decide +kernel
theorem dX7_take_43 : decode cX7_take 43 = .ok (.getfield 36, 3) := by decide +kernel
theorem dX7_take_46 : decode cX7_take 46 = .ok (.iload 5, 2) := by decide +kernel
theorem dX7_take_48 : decode cX7_take 48 = .ok (.aload_n 0, 1) := by decide +kernel
theorem dX7_take_49 : decode cX7_take 49 = .ok (.getfield 39, 3) := by decide +kernel
theorem dX7_take_52 : decode cX7_take 52 = .ok (.iload 5, 2) := by decide +kernel
theorem dX7_take_54 : decode cX7_take 54 = .ok (.daload, 1) := by decide +kernel
theorem dX7_take_55 : decode cX7_take 55 = .ok (.dastore, 1) := by decide +kernel
theorem dX7_take_56 : decode cX7_take 56 = .ok (.iinc 5 1, 3) := by decide +kernel
theorem dX7_take_59 : decode cX7_take 59 = .ok (.goto (-40), 3) := by decide +kernel
theorem dX7_take_62 : decode cX7_take 62 = .ok (.aload_n 0, 1) := by decide +kernel
theorem dX7_take_63 : decode cX7_take 63 = .ok (.aload_n 0, 1) := by decide +kernel
theorem dX7_take_64 : decode cX7_take 64 = .ok (.getfield 98, 3) := by decide +kernel
theorem dX7_take_67 : decode cX7_take 67 = .ok (.putfield 181, 3) := by decide +kernel
theorem dX7_take_70 : decode cX7_take 70 = .ok (.aload_n 0, 1) := by decide +kernel
theorem dX7_take_71 : decode cX7_take 71 = .ok (.dload_n 1, 1) := by decide +kernel
theorem dX7_take_72 : decode cX7_take 72 = .ok (.putfield 184, 3) := by decide +kernel
theorem dX7_take_75 : decode cX7_take 75 = .ok (.aload_n 0, 1) := by decide +kernel
theorem dX7_take_76 : decode cX7_take 76 = .ok (.dload_n 3, 1) := by decide +kernel
theorem dX7_take_77 : decode cX7_take 77 = .ok (.putfield 98, 3) := by decide +kernel
theorem dX7_take_80 : decode cX7_take 80 = .ok (.aload_n 0, 1) := by decide +kernel
theorem dX7_take_81 : decode cX7_take 81 = .ok (.aload_n 0, 1) := by decide +kernel
theorem dX7_take_82 : decode cX7_take 82 = .ok (.getfield 181, 3) := by decide +kernel
theorem dX7_take_85 : decode cX7_take 85 = .ok (.aload_n 0, 1) := by decide +kernel
theorem dX7_take_86 : decode cX7_take 86 = .ok (.getfield 184, 3) := by decide +kernel
theorem dX7_take_89 : decode cX7_take 89 = .ok (.dadd, 1) := by decide +kernel
theorem dX7_take_90 : decode cX7_take 90 = .ok (.aload_n 0, 1) := by decide +kernel
theorem dX7_take_91 : decode cX7_take 91 = .ok (.getfield 36, 3) := by decide +kernel
theorem dX7_take_94 : decode cX7_take 94 = .ok (.aload_n 0, 1) := by decide +kernel
theorem dX7_take_95 : decode cX7_take 95 = .ok (.getfield 75, 3) := by decide +kernel
theorem dX7_take_98 : decode cX7_take 98 = .ok (.invokevirtual 101, 3) := by decide +kernel
theorem dX7_take_101 : decode cX7_take 101 = .ok (.aload_n 0, 1) := by decide +kernel
theorem dX7_take_102 : decode cX7_take 102 = .ok (.iconst 1, 1) := by decide +kernel
theorem dX7_take_103 : decode cX7_take 103 = .ok (.putfield 187, 3) := by decide +kernel
theorem dX7_take_106 : decode cX7_take 106 = .ok (.aload_n 0, 1) := by decide +kernel
theorem dX7_take_107 : decode cX7_take 107 = .ok (.dup, 1) := by decide +kernel
theorem dX7_take_108 : decode cX7_take 108 = .ok (.getfield 190, 3) := by decide +kernel
theorem dX7_take_111 : decode cX7_take 111 = .ok (.iconst 1, 1) := by decide +kernel
theorem dX7_take_112 : decode cX7_take 112 = .ok (.iadd, 1) := by decide +kernel
theorem dX7_take_113 : decode cX7_take 113 = .ok (.putfield 190, 3) := by decide +kernel
theorem dX7_take_116 : decode cX7_take 116 = .ok (.aload_n 0, 1) := by decide +kernel
theorem dX7_take_117 : decode cX7_take 117 = .ok (.getfield 78, 3) := by decide +kernel
theorem dX7_take_120 : decode cX7_take 120 = .ok (.ifCond .lt 7, 3) := by decide +kernel
theorem dX7_take_123 : decode cX7_take 123 = .ok (.aload_n 0, 1) := by decide +kernel
theorem dX7_take_124 : decode cX7_take 124 = .ok (.invokevirtual 193, 3) := by decide +kernel
theorem dX7_take_127 : decode cX7_take 127 = .ok (.return_, 1) := by decide +kernel
theorem dX7_curve_0 : decode cX7_curve 0 = .ok (.dconst 1, 1) := by decide +kernel
theorem dX7_curve_1 : decode cX7_curve 1 = .ok (.ldc2_w 113, 3) := by decide +kernel
theorem dX7_curve_4 : decode cX7_curve 4 = .ok (.dload_n 2, 1) := by decide +kernel
theorem dX7_curve_5 : decode cX7_curve 5 = .ok (.dmul, 1) := by decide +kernel
theorem dX7_curve_6 : decode cX7_curve 6 = .ok (.dadd, 1) := by decide +kernel
theorem dX7_curve_7 : decode cX7_curve 7 = .ok (.dconst 1, 1) := by decide +kernel
theorem dX7_curve_8 : decode cX7_curve 8 = .ok (.dload_n 2, 1) := by decide +kernel
theorem dX7_curve_9 : decode cX7_curve 9 = .ok (.dsub, 1) := by decide +kernel
theorem dX7_curve_10 : decode cX7_curve 10 = .ok (.dmul, 1) := by decide +kernel
theorem dX7_curve_11 : decode cX7_curve 11 = .ok (.dconst 1, 1) := by decide +kernel
theorem dX7_curve_12 : decode cX7_curve 12 = .ok (.dload_n 2, 1) := by decide +kernel
theorem dX7_curve_13 : decode cX7_curve 13 = .ok (.dsub, 1) := by decide +kernel
theorem dX7_curve_14 : decode cX7_curve 14 = .ok (.dmul, 1) := by decide +kernel
theorem dX7_curve_15 : decode cX7_curve 15 = .ok (.aload_n 0, 1) := by decide +kernel
theorem dX7_curve_16 : decode cX7_curve 16 = .ok (.getfield 69, 3) := by decide +kernel
theorem dX7_curve_19 : decode cX7_curve 19 = .ok (.iload_n 1, 1) := by decide +kernel
theorem dX7_curve_20 : decode cX7_curve 20 = .ok (.daload, 1) := by decide +kernel
theorem dX7_curve_21 : decode cX7_curve 21 = .ok (.dmul, 1) := by decide +kernel
theorem dX7_curve_22 : decode cX7_curve 22 = .ok (.dload_n 2, 1) := by decide +kernel
theorem dX7_curve_23 : decode cX7_curve 23 = .ok (.dconst 1, 1) := by decide +kernel
theorem dX7_curve_24 : decode cX7_curve 24 = .ok (.dload_n 2, 1) := by decide +kernel
theorem dX7_curve_25 : decode cX7_curve 25 = .ok (.dsub, 1) := by decide +kernel
theorem dX7_curve_26 : decode cX7_curve 26 = .ok (.dmul, 1) := by decide +kernel
theorem dX7_curve_27 : decode cX7_curve 27 = .ok (.dconst 1, 1) := by decide +kernel
theorem dX7_curve_28 : decode cX7_curve 28 = .ok (.dload_n 2, 1) := by decide +kernel
theorem dX7_curve_29 : decode cX7_curve 29 = .ok (.dsub, 1) := by decide +kernel
theorem dX7_curve_30 : decode cX7_curve 30 = .ok (.dmul, 1) := by decide +kernel
theorem dX7_curve_31 : decode cX7_curve 31 = .ok (.aload_n 0, 1) := by decide +kernel
theorem dX7_curve_32 : decode cX7_curve 32 = .ok (.getfield 184, 3) := by decide +kernel
theorem dX7_curve_35 : decode cX7_curve 35 = .ok (.dmul, 1) := by decide +kernel
theorem dX7_curve_36 : decode cX7_curve 36 = .ok (.aload_n 0, 1) := by decide +kernel
theorem dX7_curve_37 : decode cX7_curve 37 = .ok (.getfield 72, 3) := by decide +kernel
theorem dX7_curve_40 : decode cX7_curve 40 = .ok (.iload_n 1, 1) := by decide +kernel
theorem dX7_curve_41 : decode cX7_curve 41 = .ok (.daload, 1) := by decide +kernel
theorem dX7_curve_42 : decode cX7_curve 42 = .ok (.dmul, 1) := by decide +kernel
theorem dX7_curve_43 : decode cX7_curve 43 = .ok (.dadd, 1) := by decide +kernel
theorem dX7_curve_44 : decode cX7_curve 44 = .ok (.dload_n 2, 1) := by decide +kernel
theorem dX7_curve_45 : decode cX7_curve 45 = .ok (.dload_n 2, 1) := by decide +kernel
theorem dX7_curve_46 : decode cX7_curve 46 = .ok (.dmul, 1) := by decide +kernel
theorem dX7_curve_47 : decode cX7_curve 47 = .ok (.ldc2_w 119, 3) := by decide +kernel
theorem dX7_curve_50 : decode cX7_curve 50 = .ok (.ldc2_w 113, 3) := by decide +kernel
theorem dX7_curve_53 : decode cX7_curve 53 = .ok (.dload_n 2, 1) := by decide +kernel
theorem dX7_curve_54 : decode cX7_curve 54 = .ok (.dmul, 1) := by decide +kernel
theorem dX7_curve_55 : decode cX7_curve 55 = .ok (.dsub, 1) := by decide +kernel
theorem dX7_curve_56 : decode cX7_curve 56 = .ok (.dmul, 1) := by decide +kernel
theorem dX7_curve_57 : decode cX7_curve 57 = .ok (.aload_n 0, 1) := by decide +kernel
theorem dX7_curve_58 : decode cX7_curve 58 = .ok (.getfield 36, 3) := by decide +kernel
theorem dX7_curve_61 : decode cX7_curve 61 = .ok (.iload_n 1, 1) := by decide +kernel
theorem dX7_curve_62 : decode cX7_curve 62 = .ok (.daload, 1) := by decide +kernel
theorem dX7_curve_63 : decode cX7_curve 63 = .ok (.dmul, 1) := by decide +kernel
theorem dX7_curve_64 : decode cX7_curve 64 = .ok (.dadd, 1) := by decide +kernel
theorem dX7_curve_65 : decode cX7_curve 65 = .ok (.dload_n 2, 1) := by decide +kernel
theorem dX7_curve_66 : decode cX7_curve 66 = .ok (.dload_n 2, 1) := by decide +kernel
theorem dX7_curve_67 : decode cX7_curve 67 = .ok (.dmul, 1) := by decide +kernel
theorem dX7_curve_68 : decode cX7_curve 68 = .ok (.dload_n 2, 1) := by decide +kernel
theorem dX7_curve_69 : decode cX7_curve 69 = .ok (.dconst 1, 1) := by decide +kernel
theorem dX7_curve_70 : decode cX7_curve 70 = .ok (.dsub, 1) := by decide +kernel
theorem dX7_curve_71 : decode cX7_curve 71 = .ok (.dmul, 1) := by decide +kernel
theorem dX7_curve_72 : decode cX7_curve 72 = .ok (.aload_n 0, 1) := by decide +kernel
theorem dX7_curve_73 : decode cX7_curve 73 = .ok (.getfield 184, 3) := by decide +kernel
theorem dX7_curve_76 : decode cX7_curve 76 = .ok (.dmul, 1) := by decide +kernel
theorem dX7_curve_77 : decode cX7_curve 77 = .ok (.aload_n 0, 1) := by decide +kernel
theorem dX7_curve_78 : decode cX7_curve 78 = .ok (.getfield 75, 3) := by decide +kernel
theorem dX7_curve_81 : decode cX7_curve 81 = .ok (.iload_n 1, 1) := by decide +kernel
theorem dX7_curve_82 : decode cX7_curve 82 = .ok (.daload, 1) := by decide +kernel
theorem dX7_curve_83 : decode cX7_curve 83 = .ok (.dmul, 1) := by decide +kernel
theorem dX7_curve_84 : decode cX7_curve 84 = .ok (.dadd, 1) := by decide +kernel
theorem dX7_curve_85 : decode cX7_curve 85 = .ok (.dreturn, 1) := by decide +kernel
theorem dX7_watchStep_0 : decode cX7_watchStep 0 = .ok (.aload_n 0, 1) := by decide +kernel
theorem dX7_watchStep_1 : decode cX7_watchStep 1 = .ok (.getfield 69, 3) := by decide +kernel
theorem dX7_watchStep_4 : decode cX7_watchStep 4 = .ok (.aload_n 0, 1) := by decide +kernel
theorem dX7_watchStep_5 : decode cX7_watchStep 5 = .ok (.getfield 78, 3) := by decide +kernel
theorem dX7_watchStep_8 : decode cX7_watchStep 8 = .ok (.daload, 1) := by decide +kernel
theorem dX7_watchStep_9 : decode cX7_watchStep 9 = .ok (.aload_n 0, 1) := by decide +kernel
theorem dX7_watchStep_10 : decode cX7_watchStep 10 = .ok (.getfield 196, 3) := by decide +kernel
theorem dX7_watchStep_13 : decode cX7_watchStep 13 = .ok (.dsub, 1) := by decide +kernel
theorem dX7_watchStep_14 : decode cX7_watchStep 14 = .ok (.dconst 0, 1) := by decide +kernel
theorem dX7_watchStep_15 : decode cX7_watchStep 15 = .ok (.dcmp .g, 1) := by decide +kernel
theorem dX7_watchStep_16 : decode cX7_watchStep 16 = .ok (.ifCond .ge 7, 3) := by decide +kernel
theorem dX7_watchStep_19 : decode cX7_watchStep 19 = .ok (.iconst 1, 1) := by decide +kernel
theorem dX7_watchStep_20 : decode cX7_watchStep 20 = .ok (.goto 4, 3) := by decide +kernel
theorem dX7_watchStep_23 : decode cX7_watchStep 23 = .ok (.iconst 0, 1) := by decide +kernel
theorem dX7_watchStep_24 : decode cX7_watchStep 24 = .ok (.istore_n 1, 1) := by decide +kernel
theorem dX7_watchStep_25 : decode cX7_watchStep 25 = .ok (.iload_n 1, 1) := by decide +kernel
theorem dX7_watchStep_26 : decode cX7_watchStep 26 = .ok (.aload_n 0, 1) := by decide +kernel
theorem dX7_watchStep_27 : decode cX7_watchStep 27 = .ok (.getfield 36, 3) := by decide +kernel
theorem dX7_watchStep_30 : decode cX7_watchStep 30 = .ok (.aload_n 0, 1) := by decide +kernel
theorem dX7_watchStep_31 : decode cX7_watchStep 31 = .ok (.getfield 78, 3) := by decide +kernel
theorem dX7_watchStep_34 : decode cX7_watchStep 34 = .ok (.daload, 1) := by decide +kernel
theorem dX7_watchStep_35 : decode cX7_watchStep 35 = .ok (.aload_n 0, 1) := by decide +kernel
theorem dX7_watchStep_36 : decode cX7_watchStep 36 = .ok (.getfield 196, 3) := by decide +kernel
theorem dX7_watchStep_39 : decode cX7_watchStep 39 = .ok (.dsub, 1) := by decide +kernel
theorem dX7_watchStep_40 : decode cX7_watchStep 40 = .ok (.dconst 0, 1) := by decide +kernel
theorem dX7_watchStep_41 : decode cX7_watchStep 41 = .ok (.dcmp .g, 1) := by decide +kernel
theorem dX7_watchStep_42 : decode cX7_watchStep 42 = .ok (.ifCond .ge 7, 3) := by decide +kernel
theorem dX7_watchStep_45 : decode cX7_watchStep 45 = .ok (.iconst 1, 1) := by decide +kernel
theorem dX7_watchStep_46 : decode cX7_watchStep 46 = .ok (.goto 4, 3) := by decide +kernel
theorem dX7_watchStep_49 : decode cX7_watchStep 49 = .ok (.iconst 0, 1) := by decide +kernel
theorem dX7_watchStep_50 : decode cX7_watchStep 50 = .ok (.if_icmp .ne 4, 3) := by decide +kernel
theorem dX7_watchStep_53 : decode cX7_watchStep 53 = .ok (.return_, 1) := by decide +kernel
theorem dX7_watchStep_54 : decode cX7_watchStep 54 = .ok (.dconst 0, 1) := by decide +kernel
theorem dX7_watchStep_55 : decode cX7_watchStep 55 = .ok (.dstore_n 2, 1) := by decide +kernel
theorem dX7_watchStep_56 : decode cX7_watchStep 56 = .ok (.dconst 1, 1) := by decide +kernel
theorem dX7_watchStep_57 : decode cX7_watchStep 57 = .ok (.dstore 4, 2) := by decide +kernel
theorem dX7_watchStep_59 : decode cX7_watchStep 59 = .ok (.dconst 0, 1) := by decide +kernel
theorem dX7_watchStep_60 : decode cX7_watchStep 60 = .ok (.dstore 6, 2) := by decide +kernel
theorem dX7_watchStep_62 : decode cX7_watchStep 62 = .ok (.iconst 0, 1) := by decide +kernel
theorem dX7_watchStep_63 : decode cX7_watchStep 63 = .ok (.istore 8, 2) := by decide +kernel
theorem dX7_watchStep_65 : decode cX7_watchStep 65 = .ok (.iload 8, 2) := by decide +kernel
theorem dX7_watchStep_67 : decode cX7_watchStep 67 = .ok (.bipush 20, 2) := by decide +kernel
theorem dX7_watchStep_69 : decode cX7_watchStep 69 = .ok (.if_icmp .ge 81, 3) := by decide +kernel
theorem dX7_watchStep_72 : decode cX7_watchStep 72 = .ok (.ldc2_w 105, 3) := by decide +kernel
theorem dX7_watchStep_75 : decode cX7_watchStep 75 = .ok (.dload_n 2, 1) := by decide +kernel
theorem dX7_watchStep_76 : decode cX7_watchStep 76 = .ok (.dload 4, 2) := by decide +kernel
theorem dX7_watchStep_78 : decode cX7_watchStep 78 = .ok (.dadd, 1) := by decide +kernel
theorem dX7_watchStep_79 : decode cX7_watchStep 79 = .ok (.dmul, 1) := by decide +kernel
theorem dX7_watchStep_80 : decode cX7_watchStep 80 = .ok (.dstore 6, 2) := by decide +kernel
theorem dX7_watchStep_82 : decode cX7_watchStep 82 = .ok (.aload_n 0, 1) := by decide +kernel
theorem dX7_watchStep_83 : decode cX7_watchStep 83 = .ok (.aload_n 0, 1) := by decide +kernel
theorem dX7_watchStep_84 : decode cX7_watchStep 84 = .ok (.getfield 78, 3) := by decide +kernel
theorem dX7_watchStep_87 : decode cX7_watchStep 87 = .ok (.dload 6, 2) := by decide +kernel
theorem dX7_watchStep_89 : decode cX7_watchStep 89 = .ok (.invokevirtual 199, 3) := by decide +kernel
theorem dX7_watchStep_92 : decode cX7_watchStep 92 = .ok (.aload_n 0, 1) := by decide +kernel
theorem dX7_watchStep_93 : decode cX7_watchStep 93 = .ok (.getfield 196, 3) := by decide +kernel
theorem dX7_watchStep_96 : decode cX7_watchStep 96 = .ok (.dsub, 1) := by decide +kernel
theorem dX7_watchStep_97 : decode cX7_watchStep 97 = .ok (.dconst 0, 1) := by decide +kernel
theorem dX7_watchStep_98 : decode cX7_watchStep 98 = .ok (.dcmp .g, 1) := by decide +kernel
theorem dX7_watchStep_99 : decode cX7_watchStep 99 = .ok (.ifCond .ge 7, 3) := by decide +kernel
theorem dX7_watchStep_102 : decode cX7_watchStep 102 = .ok (.iconst 1, 1) := by decide +kernel
theorem dX7_watchStep_103 : decode cX7_watchStep 103 = .ok (.goto 4, 3) := by decide +kernel
theorem dX7_watchStep_106 : decode cX7_watchStep 106 = .ok (.iconst 0, 1) := by decide +kernel
theorem dX7_watchStep_107 : decode cX7_watchStep 107 = .ok (.iload_n 1, 1) := by decide +kernel
theorem dX7_watchStep_108 : decode cX7_watchStep 108 = .ok (.if_icmp .ne 7, 3) := by decide +kernel
theorem dX7_watchStep_111 : decode cX7_watchStep 111 = .ok (.iconst 1, 1) := by decide +kernel
theorem dX7_watchStep_112 : decode cX7_watchStep 112 = .ok (.goto 4, 3) := by decide +kernel
theorem dX7_watchStep_115 : decode cX7_watchStep 115 = .ok (.iconst 0, 1) := by decide +kernel
theorem dX7_watchStep_116 : decode cX7_watchStep 116 = .ok (.istore 9, 2) := by decide +kernel
theorem dX7_watchStep_118 : decode cX7_watchStep 118 = .ok (.iload 9, 2) := by decide +kernel
theorem dX7_watchStep_120 : decode cX7_watchStep 120 = .ok (.ifCond .eq 8, 3) := by decide +kernel
theorem dX7_watchStep_123 : decode cX7_watchStep 123 = .ok (.dload 6, 2) := by decide +kernel
theorem dX7_watchStep_125 : decode cX7_watchStep 125 = .ok (.goto 4, 3) := by decide +kernel
theorem dX7_watchStep_128 : decode cX7_watchStep 128 = .ok (.dload_n 2, 1) := by decide +kernel
theorem dX7_watchStep_129 : decode cX7_watchStep 129 = .ok (.dstore_n 2, 1) := by decide +kernel
theorem dX7_watchStep_130 : decode cX7_watchStep 130 = .ok (.iload 9, 2) := by decide +kernel
theorem dX7_watchStep_132 : decode cX7_watchStep 132 = .ok (.ifCond .eq 8, 3) := by decide +kernel
theorem dX7_watchStep_135 : decode cX7_watchStep 135 = .ok (.dload 4, 2) := by decide +kernel
theorem dX7_watchStep_137 : decode cX7_watchStep 137 = .ok (.goto 5, 3) := by decide +kernel
theorem dX7_watchStep_140 : decode cX7_watchStep 140 = .ok (.dload 6, 2) := by decide +kernel
theorem dX7_watchStep_142 : decode cX7_watchStep 142 = .ok (.dstore 4, 2) := by decide +kernel
theorem dX7_watchStep_144 : decode cX7_watchStep 144 = .ok (.iinc 8 1, 3) := by decide +kernel
theorem dX7_watchStep_147 : decode cX7_watchStep 147 = .ok (.goto (-82), 3) := by decide +kernel
theorem dX7_watchStep_150 : decode cX7_watchStep 150 = .ok (.aload_n 0, 1) := by decide +kernel
theorem dX7_watchStep_151 : decode cX7_watchStep 151 = .ok (.getfield 81, 3) := by decide +kernel
theorem dX7_watchStep_154 : decode cX7_watchStep 154 = .ok (.aload_n 0, 1) := by decide +kernel
theorem dX7_watchStep_155 : decode cX7_watchStep 155 = .ok (.getfield 203, 3) := by decide +kernel
theorem dX7_watchStep_158 : decode cX7_watchStep 158 = .ok (.bipush 8, 2) := by decide +kernel
theorem dX7_watchStep_160 : decode cX7_watchStep 160 = .ok (.irem, 1) := by decide +kernel
theorem dX7_watchStep_161 : decode cX7_watchStep 161 = .ok (.aload_n 0, 1) := by decide +kernel
theorem dX7_watchStep_162 : decode cX7_watchStep 162 = .ok (.getfield 181, 3) := by decide +kernel
theorem dX7_watchStep_165 : decode cX7_watchStep 165 = .ok (.dload 6, 2) := by decide +kernel
theorem dX7_watchStep_167 : decode cX7_watchStep 167 = .ok (.aload_n 0, 1) := by decide +kernel
theorem dX7_watchStep_168 : decode cX7_watchStep 168 = .ok (.getfield 184, 3) := by decide +kernel
theorem dX7_watchStep_171 : decode cX7_watchStep 171 = .ok (.dmul, 1) := by decide +kernel
theorem dX7_watchStep_172 : decode cX7_watchStep 172 = .ok (.dadd, 1) := by decide +kernel
theorem dX7_watchStep_173 : decode cX7_watchStep 173 = .ok (.dastore, 1) := by decide +kernel
theorem dX7_watchStep_174 : decode cX7_watchStep 174 = .ok (.aload_n 0, 1) := by decide +kernel
theorem dX7_watchStep_175 : decode cX7_watchStep 175 = .ok (.dup, 1) := by decide +kernel
theorem dX7_watchStep_176 : decode cX7_watchStep 176 = .ok (.getfield 203, 3) := by decide +kernel
theorem dX7_watchStep_179 : decode cX7_watchStep 179 = .ok (.iconst 1, 1) := by decide +kernel
theorem dX7_watchStep_180 : decode cX7_watchStep 180 = .ok (.iadd, 1) := by decide +kernel
theorem dX7_watchStep_181 : decode cX7_watchStep 181 = .ok (.putfield 203, 3) := by decide +kernel
theorem dX7_watchStep_184 : decode cX7_watchStep 184 = .ok (.return_, 1) := by decide +kernel
theorem dX7_system_0 : decode cX7_system 0 = .ok (.aload_n 0, 1) := by decide +kernel
theorem dX7_system_1 : decode cX7_system 1 = .ok (.iload_n 1, 1) := by decide +kernel
theorem dX7_system_2 : decode cX7_system 2 = .ok (.iconst 1, 1) := by decide +kernel
theorem dX7_system_3 : decode cX7_system 3 = .ok (.if_icmp .lt 8, 3) := by decide +kernel
theorem dX7_system_6 : decode cX7_system 6 = .ok (.iload_n 1, 1) := by decide +kernel
theorem dX7_system_7 : decode cX7_system 7 = .ok (.iconst 3, 1) := by decide +kernel
theorem dX7_system_8 : decode cX7_system 8 = .ok (.if_icmp .le 7, 3) := by decide +kernel
theorem dX7_system_11 : decode cX7_system 11 = .ok (.iconst 1, 1) := by decide +kernel
theorem dX7_system_12 : decode cX7_system 12 = .ok (.goto 4, 3) := by decide +kernel
theorem dX7_system_15 : decode cX7_system 15 = .ok (.iconst 0, 1) := by decide +kernel
theorem dX7_system_16 : decode cX7_system 16 = .ok (.putfield 84, 3) := by decide +kernel
theorem dX7_system_19 : decode cX7_system 19 = .ok (.aload_n 0, 1) := by decide +kernel
theorem dX7_system_20 : decode cX7_system 20 = .ok (.getfield 84, 3) := by decide +kernel
theorem dX7_system_23 : decode cX7_system 23 = .ok (.ifCond .le 4, 3) := by decide +kernel
theorem dX7_system_26 : decode cX7_system 26 = .ok (.return_, 1) := by decide +kernel
theorem dX7_system_27 : decode cX7_system 27 = .ok (.aload_n 0, 1) := by decide +kernel
theorem dX7_system_28 : decode cX7_system 28 = .ok (.iload_n 1, 1) := by decide +kernel
theorem dX7_system_29 : decode cX7_system 29 = .ok (.putfield 7, 3) := by decide +kernel
theorem dX7_system_32 : decode cX7_system 32 = .ok (.aload_n 0, 1) := by decide +kernel
theorem dX7_system_33 : decode cX7_system 33 = .ok (.iconst 0, 1) := by decide +kernel
theorem dX7_system_34 : decode cX7_system 34 = .ok (.putfield 91, 3) := by decide +kernel
theorem dX7_system_37 : decode cX7_system 37 = .ok (.iconst 0, 1) := by decide +kernel
theorem dX7_system_38 : decode cX7_system 38 = .ok (.istore_n 2, 1) := by decide +kernel
theorem dX7_system_39 : decode cX7_system 39 = .ok (.iload_n 2, 1) := by decide +kernel
theorem dX7_system_40 : decode cX7_system 40 = .ok (.iconst 3, 1) := by decide +kernel
theorem dX7_system_41 : decode cX7_system 41 = .ok (.if_icmp .ge 16, 3) := by decide +kernel
theorem dX7_system_44 : decode cX7_system 44 = .ok (.aload_n 0, 1) := by decide +kernel
theorem dX7_system_45 : decode cX7_system 45 = .ok (.getfield 36, 3) := by decide +kernel
theorem dX7_system_48 : decode cX7_system 48 = .ok (.iload_n 2, 1) := by decide +kernel
theorem dX7_system_49 : decode cX7_system 49 = .ok (.dconst 0, 1) := by decide +kernel
theorem dX7_system_50 : decode cX7_system 50 = .ok (.dastore, 1) := by decide +kernel
theorem dX7_system_51 : decode cX7_system 51 = .ok (.iinc 2 1, 3) := by decide +kernel
theorem dX7_system_54 : decode cX7_system 54 = .ok (.goto (-15), 3) := by decide +kernel
theorem dX7_system_57 : decode cX7_system 57 = .ok (.aload_n 0, 1) := by decide +kernel
theorem dX7_system_58 : decode cX7_system 58 = .ok (.dconst 0, 1) := by decide +kernel
theorem dX7_system_59 : decode cX7_system 59 = .ok (.putfield 98, 3) := by decide +kernel
theorem dX7_system_62 : decode cX7_system 62 = .ok (.aload_n 0, 1) := by decide +kernel
theorem dX7_system_63 : decode cX7_system 63 = .ok (.ldc2_w 27, 3) := by decide +kernel
theorem dX7_system_66 : decode cX7_system 66 = .ok (.putfield 29, 3) := by decide +kernel
theorem dX7_system_69 : decode cX7_system 69 = .ok (.aload_n 0, 1) := by decide +kernel
theorem dX7_system_70 : decode cX7_system 70 = .ok (.ldc2_w 27, 3) := by decide +kernel
theorem dX7_system_73 : decode cX7_system 73 = .ok (.putfield 33, 3) := by decide +kernel
theorem dX7_system_76 : decode cX7_system 76 = .ok (.aload_n 0, 1) := by decide +kernel
theorem dX7_system_77 : decode cX7_system 77 = .ok (.iconst 0, 1) := by decide +kernel
theorem dX7_system_78 : decode cX7_system 78 = .ok (.putfield 187, 3) := by decide +kernel
theorem dX7_system_81 : decode cX7_system 81 = .ok (.aload_n 0, 1) := by decide +kernel
theorem dX7_system_82 : decode cX7_system 82 = .ok (.iconst 0, 1) := by decide +kernel
theorem dX7_system_83 : decode cX7_system 83 = .ok (.putfield 136, 3) := by decide +kernel
theorem dX7_system_86 : decode cX7_system 86 = .ok (.aload_n 0, 1) := by decide +kernel
theorem dX7_system_87 : decode cX7_system 87 = .ok (.iconst (-1), 1) := by decide +kernel
theorem dX7_system_88 : decode cX7_system 88 = .ok (.putfield 78, 3) := by decide +kernel
theorem dX7_system_91 : decode cX7_system 91 = .ok (.aload_n 0, 1) := by decide +kernel
theorem dX7_system_92 : decode cX7_system 92 = .ok (.iconst 0, 1) := by decide +kernel
theorem dX7_system_93 : decode cX7_system 93 = .ok (.putfield 190, 3) := by decide +kernel
theorem dX7_system_96 : decode cX7_system 96 = .ok (.aload_n 0, 1) := by decide +kernel
theorem dX7_system_97 : decode cX7_system 97 = .ok (.iconst 0, 1) := by decide +kernel
theorem dX7_system_98 : decode cX7_system 98 = .ok (.putfield 178, 3) := by decide +kernel
theorem dX7_system_101 : decode cX7_system 101 = .ok (.aload_n 0, 1) := by decide +kernel
theorem dX7_system_102 : decode cX7_system 102 = .ok (.iconst 0, 1) := by decide +kernel
theorem dX7_system_103 : decode cX7_system 103 = .ok (.putfield 203, 3) := by decide +kernel
theorem dX7_system_106 : decode cX7_system 106 = .ok (.return_, 1) := by decide +kernel
theorem dX7_isNamed_0 : decode cX7_isNamed 0 = .ok (.iload_n 1, 1) := by decide +kernel
theorem dX7_isNamed_1 : decode cX7_isNamed 1 = .ok (.aload_n 0, 1) := by decide +kernel
theorem dX7_isNamed_2 : decode cX7_isNamed 2 = .ok (.getfield 7, 3) := by decide +kernel
theorem dX7_isNamed_5 : decode cX7_isNamed 5 = .ok (.invokestatic 206, 3) := by decide +kernel
theorem dX7_isNamed_8 : decode cX7_isNamed 8 = .ok (.ifCond .eq 13, 3) := by decide +kernel
theorem dX7_isNamed_11 : decode cX7_isNamed 11 = .ok (.iload_n 1, 1) := by decide +kernel
theorem dX7_isNamed_12 : decode cX7_isNamed 12 = .ok (.iconst 3, 1) := by decide +kernel
theorem dX7_isNamed_13 : decode cX7_isNamed 13 = .ok (.if_icmp .eq 8, 3) := by decide +kernel
theorem dX7_isNamed_16 : decode cX7_isNamed 16 = .ok (.iload_n 1, 1) := by decide +kernel
theorem dX7_isNamed_17 : decode cX7_isNamed 17 = .ok (.iconst 4, 1) := by decide +kernel
theorem dX7_isNamed_18 : decode cX7_isNamed 18 = .ok (.if_icmp .ne 7, 3) := by decide +kernel
theorem dX7_isNamed_21 : decode cX7_isNamed 21 = .ok (.iconst 1, 1) := by decide +kernel
theorem dX7_isNamed_22 : decode cX7_isNamed 22 = .ok (.goto 4, 3) := by decide +kernel
theorem dX7_isNamed_25 : decode cX7_isNamed 25 = .ok (.iconst 0, 1) := by decide +kernel
theorem dX7_isNamed_26 : decode cX7_isNamed 26 = .ok (.ireturn, 1) := by decide +kernel
theorem dX7_term_0 : decode cX7_term 0 = .ok (.iload_n 1, 1) := by decide +kernel
theorem dX7_term_1 : decode cX7_term 1 = .ok (.aload_n 0, 1) := by decide +kernel
theorem dX7_term_2 : decode cX7_term 2 = .ok (.getfield 7, 3) := by decide +kernel
theorem dX7_term_5 : decode cX7_term 5 = .ok (.invokestatic 206, 3) := by decide +kernel
theorem dX7_term_8 : decode cX7_term 8 = .ok (.ifCond .ne 41, 3) := by decide +kernel
theorem dX7_term_11 : decode cX7_term 11 = .ok (.aload_n 0, 1) := by decide +kernel
theorem dX7_term_12 : decode cX7_term 12 = .ok (.iload 4, 2) := by decide +kernel
theorem dX7_term_14 : decode cX7_term 14 = .ok (.invokevirtual 210, 3) := by decide +kernel
theorem dX7_term_17 : decode cX7_term 17 = .ok (.ifCond .eq 32, 3) := by decide +kernel
theorem dX7_term_20 : decode cX7_term 20 = .ok (.aload_n 0, 1) := by decide +kernel
theorem dX7_term_21 : decode cX7_term 21 = .ok (.iload 5, 2) := by decide +kernel
theorem dX7_term_23 : decode cX7_term 23 = .ok (.invokevirtual 210, 3) := by decide +kernel
theorem dX7_term_26 : decode cX7_term 26 = .ok (.ifCond .eq 23, 3) := by decide +kernel
theorem dX7_term_29 : decode cX7_term 29 = .ok (.dload_n 2, 1) := by decide +kernel
theorem dX7_term_30 : decode cX7_term 30 = .ok (.ldc2_w 214, 3) := by decide +kernel
theorem dX7_term_33 : decode cX7_term 33 = .ok (.dcmp .l, 1) := by decide +kernel
theorem dX7_term_34 : decode cX7_term 34 = .ok (.ifCond .lt 15, 3) := by decide +kernel
theorem dX7_term_37 : decode cX7_term 37 = .ok (.dload_n 2, 1) := by decide +kernel
theorem dX7_term_38 : decode cX7_term 38 = .ok (.ldc2_w 216, 3) := by decide +kernel
theorem dX7_term_41 : decode cX7_term 41 = .ok (.dcmp .g, 1) := by decide +kernel
theorem dX7_term_42 : decode cX7_term 42 = .ok (.ifCond .gt 7, 3) := by decide +kernel
theorem dX7_term_45 : decode cX7_term 45 = .ok (.iconst 1, 1) := by decide +kernel
theorem dX7_term_46 : decode cX7_term 46 = .ok (.goto 4, 3) := by decide +kernel
theorem dX7_term_49 : decode cX7_term 49 = .ok (.iconst 0, 1) := by decide +kernel
theorem dX7_term_50 : decode cX7_term 50 = .ok (.istore 6, 2) := by decide +kernel
theorem dX7_term_52 : decode cX7_term 52 = .ok (.aload_n 0, 1) := by decide +kernel
theorem dX7_term_53 : decode cX7_term 53 = .ok (.iload 6, 2) := by decide +kernel
theorem dX7_term_55 : decode cX7_term 55 = .ok (.ifCond .ne 7, 3) := by decide +kernel
theorem dX7_term_58 : decode cX7_term 58 = .ok (.iconst 1, 1) := by decide +kernel
theorem dX7_term_59 : decode cX7_term 59 = .ok (.goto 17, 3) := by decide +kernel
theorem dX7_term_62 : decode cX7_term 62 = .ok (.aload_n 0, 1) := by decide +kernel
theorem dX7_term_63 : decode cX7_term 63 = .ok (.getfield 91, 3) := by decide +kernel
theorem dX7_term_66 : decode cX7_term 66 = .ok (.bipush 10, 2) := by decide +kernel
theorem dX7_term_68 : decode cX7_term 68 = .ok (.if_icmp .ne 7, 3) := by decide +kernel
theorem dX7_term_71 : decode cX7_term 71 = .ok (.iconst 2, 1) := by decide +kernel
theorem dX7_term_72 : decode cX7_term 72 = .ok (.goto 4, 3) := by decide +kernel
theorem dX7_term_75 : decode cX7_term 75 = .ok (.iconst 0, 1) := by decide +kernel
theorem dX7_term_76 : decode cX7_term 76 = .ok (.putfield 84, 3) := by decide +kernel
theorem dX7_term_79 : decode cX7_term 79 = .ok (.aload_n 0, 1) := by decide +kernel
theorem dX7_term_80 : decode cX7_term 80 = .ok (.getfield 84, 3) := by decide +kernel
theorem dX7_term_83 : decode cX7_term 83 = .ok (.ifCond .le 5, 3) := by decide +kernel
theorem dX7_term_86 : decode cX7_term 86 = .ok (.iconst 0, 1) := by decide +kernel
theorem dX7_term_87 : decode cX7_term 87 = .ok (.ireturn, 1) := by decide +kernel
theorem dX7_term_88 : decode cX7_term 88 = .ok (.aload_n 0, 1) := by decide +kernel
theorem dX7_term_89 : decode cX7_term 89 = .ok (.getfield 13, 3) := by decide +kernel
theorem dX7_term_92 : decode cX7_term 92 = .ok (.aload_n 0, 1) := by decide +kernel
theorem dX7_term_93 : decode cX7_term 93 = .ok (.getfield 91, 3) := by decide +kernel
theorem dX7_term_96 : decode cX7_term 96 = .ok (.iload_n 1, 1) := by decide +kernel
theorem dX7_term_97 : decode cX7_term 97 = .ok (.iastore, 1) := by decide +kernel
theorem dX7_term_98 : decode cX7_term 98 = .ok (.aload_n 0, 1) := by decide +kernel
theorem dX7_term_99 : decode cX7_term 99 = .ok (.getfield 23, 3) := by decide +kernel
theorem dX7_term_102 : decode cX7_term 102 = .ok (.aload_n 0, 1) := by decide +kernel
theorem dX7_term_103 : decode cX7_term 103 = .ok (.getfield 91, 3) := by decide +kernel
theorem dX7_term_106 : decode cX7_term 106 = .ok (.dload_n 2, 1) := by decide +kernel
theorem dX7_term_107 : decode cX7_term 107 = .ok (.dastore, 1) := by decide +kernel
theorem dX7_term_108 : decode cX7_term 108 = .ok (.aload_n 0, 1) := by decide +kernel
theorem dX7_term_109 : decode cX7_term 109 = .ok (.getfield 17, 3) := by decide +kernel
theorem dX7_term_112 : decode cX7_term 112 = .ok (.aload_n 0, 1) := by decide +kernel
theorem dX7_term_113 : decode cX7_term 113 = .ok (.getfield 91, 3) := by decide +kernel
theorem dX7_term_116 : decode cX7_term 116 = .ok (.iload 4, 2) := by decide +kernel
theorem dX7_term_118 : decode cX7_term 118 = .ok (.iastore, 1) := by decide +kernel
theorem dX7_term_119 : decode cX7_term 119 = .ok (.aload_n 0, 1) := by decide +kernel
theorem dX7_term_120 : decode cX7_term 120 = .ok (.getfield 20, 3) := by decide +kernel
theorem dX7_term_123 : decode cX7_term 123 = .ok (.aload_n 0, 1) := by decide +kernel
theorem dX7_term_124 : decode cX7_term 124 = .ok (.getfield 91, 3) := by decide +kernel
theorem dX7_term_127 : decode cX7_term 127 = .ok (.iload 5, 2) := by decide +kernel
theorem dX7_term_129 : decode cX7_term 129 = .ok (.iastore, 1) := by decide +kernel
theorem dX7_term_130 : decode cX7_term 130 = .ok (.aload_n 0, 1) := by decide +kernel
theorem dX7_term_131 : decode cX7_term 131 = .ok (.dup, 1) := by decide +kernel
theorem dX7_term_132 : decode cX7_term 132 = .ok (.getfield 91, 3) := by decide +kernel
theorem dX7_term_135 : decode cX7_term 135 = .ok (.iconst 1, 1) := by decide +kernel
theorem dX7_term_136 : decode cX7_term 136 = .ok (.iadd, 1) := by decide +kernel
theorem dX7_term_137 : decode cX7_term 137 = .ok (.putfield 91, 3) := by decide +kernel
theorem dX7_term_140 : decode cX7_term 140 = .ok (.aload_n 0, 1) := by decide +kernel
theorem dX7_term_141 : decode cX7_term 141 = .ok (.iconst 0, 1) := by decide +kernel
theorem dX7_term_142 : decode cX7_term 142 = .ok (.putfield 187, 3) := by decide +kernel
theorem dX7_term_145 : decode cX7_term 145 = .ok (.aload_n 0, 1) := by decide +kernel
theorem dX7_term_146 : decode cX7_term 146 = .ok (.iconst 0, 1) := by decide +kernel
theorem dX7_term_147 : decode cX7_term 147 = .ok (.putfield 136, 3) := by decide +kernel
theorem dX7_term_150 : decode cX7_term 150 = .ok (.aload_n 0, 1) := by decide +kernel
theorem dX7_term_151 : decode cX7_term 151 = .ok (.getfield 91, 3) := by decide +kernel
theorem dX7_term_154 : decode cX7_term 154 = .ok (.ireturn, 1) := by decide +kernel
theorem dX7_value_0 : decode cX7_value 0 = .ok (.aload_n 0, 1) := by decide +kernel
theorem dX7_value_1 : decode cX7_value 1 = .ok (.iload_n 1, 1) := by decide +kernel
theorem dX7_value_2 : decode cX7_value 2 = .ok (.aload_n 0, 1) := by decide +kernel
theorem dX7_value_3 : decode cX7_value 3 = .ok (.getfield 7, 3) := by decide +kernel
theorem dX7_value_6 : decode cX7_value 6 = .ok (.invokestatic 206, 3) := by decide +kernel
theorem dX7_value_9 : decode cX7_value 9 = .ok (.ifCond .ne 23, 3) := by decide +kernel
theorem dX7_value_12 : decode cX7_value 12 = .ok (.dload_n 2, 1) := by decide +kernel
theorem dX7_value_13 : decode cX7_value 13 = .ok (.ldc2_w 218, 3) := by decide +kernel
theorem dX7_value_16 : decode cX7_value 16 = .ok (.dcmp .l, 1) := by decide +kernel
theorem dX7_value_17 : decode cX7_value 17 = .ok (.ifCond .lt 15, 3) := by decide +kernel
theorem dX7_value_20 : decode cX7_value 20 = .ok (.dload_n 2, 1) := by decide +kernel
theorem dX7_value_21 : decode cX7_value 21 = .ok (.ldc2_w 220, 3) := by decide +kernel
theorem dX7_value_24 : decode cX7_value 24 = .ok (.dcmp .g, 1) := by decide +kernel
theorem dX7_value_25 : decode cX7_value 25 = .ok (.ifCond .gt 7, 3) := by decide +kernel
theorem dX7_value_28 : decode cX7_value 28 = .ok (.iconst 0, 1) := by decide +kernel
theorem dX7_value_29 : decode cX7_value 29 = .ok (.goto 4, 3) := by decide +kernel
theorem dX7_value_32 : decode cX7_value 32 = .ok (.iconst 1, 1) := by decide +kernel
theorem dX7_value_33 : decode cX7_value 33 = .ok (.putfield 84, 3) := by decide +kernel
theorem dX7_value_36 : decode cX7_value 36 = .ok (.aload_n 0, 1) := by decide +kernel
theorem dX7_value_37 : decode cX7_value 37 = .ok (.getfield 84, 3) := by decide +kernel
theorem dX7_value_40 : decode cX7_value 40 = .ok (.ifCond .le 4, 3) := by decide +kernel
theorem dX7_value_43 : decode cX7_value 43 = .ok (.return_, 1) := by decide +kernel
theorem dX7_value_44 : decode cX7_value 44 = .ok (.aload_n 0, 1) := by decide +kernel
theorem dX7_value_45 : decode cX7_value 45 = .ok (.getfield 36, 3) := by decide +kernel
theorem dX7_value_48 : decode cX7_value 48 = .ok (.iload_n 1, 1) := by decide +kernel
theorem dX7_value_49 : decode cX7_value 49 = .ok (.dload_n 2, 1) := by decide +kernel
theorem dX7_value_50 : decode cX7_value 50 = .ok (.dastore, 1) := by decide +kernel
theorem dX7_value_51 : decode cX7_value 51 = .ok (.aload_n 0, 1) := by decide +kernel
theorem dX7_value_52 : decode cX7_value 52 = .ok (.iconst 0, 1) := by decide +kernel
theorem dX7_value_53 : decode cX7_value 53 = .ok (.putfield 187, 3) := by decide +kernel
theorem dX7_value_56 : decode cX7_value 56 = .ok (.aload_n 0, 1) := by decide +kernel
theorem dX7_value_57 : decode cX7_value 57 = .ok (.iconst 0, 1) := by decide +kernel
theorem dX7_value_58 : decode cX7_value 58 = .ok (.putfield 136, 3) := by decide +kernel
theorem dX7_value_61 : decode cX7_value 61 = .ok (.return_, 1) := by decide +kernel
theorem dX7_size_0 : decode cX7_size 0 = .ok (.aload_n 0, 1) := by decide +kernel
theorem dX7_size_1 : decode cX7_size 1 = .ok (.dload_n 1, 1) := by decide +kernel
theorem dX7_size_2 : decode cX7_size 2 = .ok (.dconst 0, 1) := by decide +kernel
theorem dX7_size_3 : decode cX7_size 3 = .ok (.dcmp .l, 1) := by decide +kernel
theorem dX7_size_4 : decode cX7_size 4 = .ok (.ifCond .le 29, 3) := by decide +kernel
theorem dX7_size_7 : decode cX7_size 7 = .ok (.dload_n 1, 1) := by decide +kernel
theorem dX7_size_8 : decode cX7_size 8 = .ok (.ldc2_w 121, 3) := by decide +kernel
theorem dX7_size_11 : decode cX7_size 11 = .ok (.dcmp .g, 1) := by decide +kernel
theorem dX7_size_12 : decode cX7_size 12 = .ok (.ifCond .gt 21, 3) := by decide +kernel
theorem dX7_size_15 : decode cX7_size 15 = .ok (.dload_n 3, 1) := by decide +kernel
theorem dX7_size_16 : decode cX7_size 16 = .ok (.dconst 0, 1) := by decide +kernel
theorem dX7_size_17 : decode cX7_size 17 = .ok (.dcmp .l, 1) := by decide +kernel
theorem dX7_size_18 : decode cX7_size 18 = .ok (.ifCond .le 15, 3) := by decide +kernel
theorem dX7_size_21 : decode cX7_size 21 = .ok (.dload_n 3, 1) := by decide +kernel
theorem dX7_size_22 : decode cX7_size 22 = .ok (.ldc2_w 121, 3) := by decide +kernel
theorem dX7_size_25 : decode cX7_size 25 = .ok (.dcmp .g, 1) := by decide +kernel
theorem dX7_size_26 : decode cX7_size 26 = .ok (.ifCond .gt 7, 3) := by decide +kernel
theorem dX7_size_29 : decode cX7_size 29 = .ok (.iconst 0, 1) := by decide +kernel
theorem dX7_size_30 : decode cX7_size 30 = .ok (.goto 4, 3) := by decide +kernel
theorem dX7_size_33 : decode cX7_size 33 = .ok (.iconst 1, 1) := by decide +kernel
theorem dX7_size_34 : decode cX7_size 34 = .ok (.putfield 84, 3) := by decide +kernel
theorem dX7_size_37 : decode cX7_size 37 = .ok (.aload_n 0, 1) := by decide +kernel
theorem dX7_size_38 : decode cX7_size 38 = .ok (.getfield 84, 3) := by decide +kernel
theorem dX7_size_41 : decode cX7_size 41 = .ok (.ifCond .le 4, 3) := by decide +kernel
theorem dX7_size_44 : decode cX7_size 44 = .ok (.return_, 1) := by decide +kernel
theorem dX7_size_45 : decode cX7_size 45 = .ok (.aload_n 0, 1) := by decide +kernel
theorem dX7_size_46 : decode cX7_size 46 = .ok (.dload_n 1, 1) := by decide +kernel
theorem dX7_size_47 : decode cX7_size 47 = .ok (.putfield 29, 3) := by decide +kernel
theorem dX7_size_50 : decode cX7_size 50 = .ok (.aload_n 0, 1) := by decide +kernel
theorem dX7_size_51 : decode cX7_size 51 = .ok (.dload_n 3, 1) := by decide +kernel
theorem dX7_size_52 : decode cX7_size 52 = .ok (.putfield 33, 3) := by decide +kernel
theorem dX7_size_55 : decode cX7_size 55 = .ok (.return_, 1) := by decide +kernel
theorem dX7_step_0 : decode cX7_step 0 = .ok (.aload_n 0, 1) := by decide +kernel
theorem dX7_step_1 : decode cX7_step 1 = .ok (.iload_n 1, 1) := by decide +kernel
theorem dX7_step_2 : decode cX7_step 2 = .ok (.bipush 6, 2) := by decide +kernel
theorem dX7_step_4 : decode cX7_step 4 = .ok (.invokestatic 206, 3) := by decide +kernel
theorem dX7_step_7 : decode cX7_step 7 = .ok (.ifCond .eq 7, 3) := by decide +kernel
theorem dX7_step_10 : decode cX7_step 10 = .ok (.iconst 1, 1) := by decide +kernel
theorem dX7_step_11 : decode cX7_step 11 = .ok (.goto 4, 3) := by decide +kernel
theorem dX7_step_14 : decode cX7_step 14 = .ok (.iconst 0, 1) := by decide +kernel
theorem dX7_step_15 : decode cX7_step 15 = .ok (.putfield 84, 3) := by decide +kernel
theorem dX7_step_18 : decode cX7_step 18 = .ok (.aload_n 0, 1) := by decide +kernel
theorem dX7_step_19 : decode cX7_step 19 = .ok (.getfield 84, 3) := by decide +kernel
theorem dX7_step_22 : decode cX7_step 22 = .ok (.ifCond .le 4, 3) := by decide +kernel
theorem dX7_step_25 : decode cX7_step 25 = .ok (.return_, 1) := by decide +kernel
theorem dX7_step_26 : decode cX7_step 26 = .ok (.aload_n 0, 1) := by decide +kernel
theorem dX7_step_27 : decode cX7_step 27 = .ok (.getfield 29, 3) := by decide +kernel
theorem dX7_step_30 : decode cX7_step 30 = .ok (.dstore_n 2, 1) := by decide +kernel
theorem dX7_step_31 : decode cX7_step 31 = .ok (.aload_n 0, 1) := by decide +kernel
theorem dX7_step_32 : decode cX7_step 32 = .ok (.iload_n 1, 1) := by decide +kernel
theorem dX7_step_33 : decode cX7_step 33 = .ok (.dload_n 2, 1) := by decide +kernel
theorem dX7_step_34 : decode cX7_step 34 = .ok (.invokevirtual 222, 3) := by decide +kernel
theorem dX7_step_37 : decode cX7_step 37 = .ok (.ifCond .eq 17, 3) := by decide +kernel
theorem dX7_step_40 : decode cX7_step 40 = .ok (.aload_n 0, 1) := by decide +kernel
theorem dX7_step_41 : decode cX7_step 41 = .ok (.dload_n 2, 1) := by decide +kernel
theorem dX7_step_42 : decode cX7_step 42 = .ok (.aload_n 0, 1) := by decide +kernel
theorem dX7_step_43 : decode cX7_step 43 = .ok (.getfield 98, 3) := by decide +kernel
theorem dX7_step_46 : decode cX7_step 46 = .ok (.dload_n 2, 1) := by decide +kernel
theorem dX7_step_47 : decode cX7_step 47 = .ok (.dadd, 1) := by decide +kernel
theorem dX7_step_48 : decode cX7_step 48 = .ok (.invokevirtual 226, 3) := by decide +kernel
theorem dX7_step_51 : decode cX7_step 51 = .ok (.goto 8, 3) := by decide +kernel
theorem dX7_step_54 : decode cX7_step 54 = .ok (.aload_n 0, 1) := by decide +kernel
theorem dX7_step_55 : decode cX7_step 55 = .ok (.iconst 2, 1) := by decide +kernel
theorem dX7_step_56 : decode cX7_step 56 = .ok (.putfield 84, 3) := by decide +kernel
theorem dX7_step_59 : decode cX7_step 59 = .ok (.return_, 1) := by decide +kernel
theorem dX7_go_0 : decode cX7_go 0 = .ok (.aload_n 0, 1) := by decide +kernel
theorem dX7_go_1 : decode cX7_go 1 = .ok (.iload_n 1, 1) := by decide +kernel
theorem dX7_go_2 : decode cX7_go 2 = .ok (.bipush 6, 2) := by decide +kernel
theorem dX7_go_4 : decode cX7_go 4 = .ok (.invokestatic 206, 3) := by decide +kernel
theorem dX7_go_7 : decode cX7_go 7 = .ok (.ifCond .ne 29, 3) := by decide +kernel
theorem dX7_go_10 : decode cX7_go 10 = .ok (.dload_n 2, 1) := by decide +kernel
theorem dX7_go_11 : decode cX7_go 11 = .ok (.aload_n 0, 1) := by decide +kernel
theorem dX7_go_12 : decode cX7_go 12 = .ok (.getfield 98, 3) := by decide +kernel
theorem dX7_go_15 : decode cX7_go 15 = .ok (.dcmp .l, 1) := by decide +kernel
theorem dX7_go_16 : decode cX7_go 16 = .ok (.ifCond .le 20, 3) := by decide +kernel
theorem dX7_go_19 : decode cX7_go 19 = .ok (.dload_n 2, 1) := by decide +kernel
theorem dX7_go_20 : decode cX7_go 20 = .ok (.aload_n 0, 1) := by decide +kernel
theorem dX7_go_21 : decode cX7_go 21 = .ok (.getfield 98, 3) := by decide +kernel
theorem dX7_go_24 : decode cX7_go 24 = .ok (.ldc2_w 230, 3) := by decide +kernel
theorem dX7_go_27 : decode cX7_go 27 = .ok (.dadd, 1) := by decide +kernel
theorem dX7_go_28 : decode cX7_go 28 = .ok (.dcmp .g, 1) := by decide +kernel
theorem dX7_go_29 : decode cX7_go 29 = .ok (.ifCond .gt 7, 3) := by decide +kernel
theorem dX7_go_32 : decode cX7_go 32 = .ok (.iconst 0, 1) := by decide +kernel
theorem dX7_go_33 : decode cX7_go 33 = .ok (.goto 4, 3) := by decide +kernel
theorem dX7_go_36 : decode cX7_go 36 = .ok (.iconst 1, 1) := by decide +kernel
theorem dX7_go_37 : decode cX7_go 37 = .ok (.putfield 84, 3) := by decide +kernel
theorem dX7_go_40 : decode cX7_go 40 = .ok (.aload_n 0, 1) := by decide +kernel
theorem dX7_go_41 : decode cX7_go 41 = .ok (.getfield 84, 3) := by decide +kernel
theorem dX7_go_44 : decode cX7_go 44 = .ok (.ifCond .le 5, 3) := by decide +kernel
theorem dX7_go_47 : decode cX7_go 47 = .ok (.iconst 0, 1) := by decide +kernel
theorem dX7_go_48 : decode cX7_go 48 = .ok (.ireturn, 1) := by decide +kernel
theorem dX7_go_49 : decode cX7_go 49 = .ok (.aload_n 0, 1) := by decide +kernel
theorem dX7_go_50 : decode cX7_go 50 = .ok (.getfield 190, 3) := by decide +kernel
theorem dX7_go_53 : decode cX7_go 53 = .ok (.istore 4, 2) := by decide +kernel
theorem dX7_go_55 : decode cX7_go 55 = .ok (.iconst 0, 1) := by decide +kernel
theorem dX7_go_56 : decode cX7_go 56 = .ok (.istore 5, 2) := by decide +kernel
theorem dX7_go_58 : decode cX7_go 58 = .ok (.iload 5, 2) := by decide +kernel
theorem dX7_go_60 : decode cX7_go 60 = .ok (.bipush 100, 2) := by decide +kernel
theorem dX7_go_62 : decode cX7_go 62 = .ok (.if_icmp .ge 194, 3) := by decide +kernel
theorem dX7_go_65 : decode cX7_go 65 = .ok (.aload_n 0, 1) := by decide +kernel
theorem dX7_go_66 : decode cX7_go 66 = .ok (.getfield 98, 3) := by decide +kernel
theorem dX7_go_69 : decode cX7_go 69 = .ok (.dload_n 2, 1) := by decide +kernel
theorem dX7_go_70 : decode cX7_go 70 = .ok (.dcmp .g, 1) := by decide +kernel
theorem dX7_go_71 : decode cX7_go 71 = .ok (.ifCond .ge 185, 3) := by decide +kernel
theorem dX7_go_74 : decode cX7_go 74 = .ok (.aload_n 0, 1) := by decide +kernel
theorem dX7_go_75 : decode cX7_go 75 = .ok (.getfield 98, 3) := by decide +kernel
theorem dX7_go_78 : decode cX7_go 78 = .ok (.aload_n 0, 1) := by decide +kernel
theorem dX7_go_79 : decode cX7_go 79 = .ok (.getfield 29, 3) := by decide +kernel
theorem dX7_go_82 : decode cX7_go 82 = .ok (.dadd, 1) := by decide +kernel
theorem dX7_go_83 : decode cX7_go 83 = .ok (.dload_n 2, 1) := by decide +kernel
theorem dX7_go_84 : decode cX7_go 84 = .ok (.dcmp .l, 1) := by decide +kernel
theorem dX7_go_85 : decode cX7_go 85 = .ok (.ifCond .le 7, 3) := by decide +kernel
theorem dX7_go_88 : decode cX7_go 88 = .ok (.iconst 1, 1) := by decide +kernel
theorem dX7_go_89 : decode cX7_go 89 = .ok (.goto 4, 3) := by decide +kernel
theorem dX7_go_92 : decode cX7_go 92 = .ok (.iconst 0, 1) := by decide +kernel
theorem dX7_go_93 : decode cX7_go 93 = .ok (.istore 6, 2) := by decide +kernel
theorem dX7_go_95 : decode cX7_go 95 = .ok (.iload 6, 2) := by decide +kernel
theorem dX7_go_97 : decode cX7_go 97 = .ok (.ifCond .eq 12, 3) := by decide +kernel
theorem dX7_go_100 : decode cX7_go 100 = .ok (.dload_n 2, 1) := by decide +kernel
theorem dX7_go_101 : decode cX7_go 101 = .ok (.aload_n 0, 1) := by decide +kernel
theorem dX7_go_102 : decode cX7_go 102 = .ok (.getfield 98, 3) := by decide +kernel
theorem dX7_go_105 : decode cX7_go 105 = .ok (.dsub, 1) := by decide +kernel
theorem dX7_go_106 : decode cX7_go 106 = .ok (.goto 7, 3) := by decide +kernel
theorem dX7_go_109 : decode cX7_go 109 = .ok (.aload_n 0, 1) := by decide +kernel
theorem dX7_go_110 : decode cX7_go 110 = .ok (.getfield 29, 3) := by decide +kernel
theorem dX7_go_113 : decode cX7_go 113 = .ok (.dstore 7, 2) := by decide +kernel
theorem dX7_go_115 : decode cX7_go 115 = .ok (.aload_n 0, 1) := by decide +kernel
theorem dX7_go_116 : decode cX7_go 116 = .ok (.iload_n 1, 1) := by decide +kernel
theorem dX7_go_117 : decode cX7_go 117 = .ok (.dload 7, 2) := by decide +kernel
theorem dX7_go_119 : decode cX7_go 119 = .ok (.invokevirtual 222, 3) := by decide +kernel
theorem dX7_go_122 : decode cX7_go 122 = .ok (.ifCond .ne 10, 3) := by decide +kernel
theorem dX7_go_125 : decode cX7_go 125 = .ok (.aload_n 0, 1) := by decide +kernel
theorem dX7_go_126 : decode cX7_go 126 = .ok (.iconst 2, 1) := by decide +kernel
theorem dX7_go_127 : decode cX7_go 127 = .ok (.putfield 84, 3) := by decide +kernel
theorem dX7_go_130 : decode cX7_go 130 = .ok (.iconst 0, 1) := by decide +kernel
theorem dX7_go_131 : decode cX7_go 131 = .ok (.ireturn, 1) := by decide +kernel
theorem dX7_go_132 : decode cX7_go 132 = .ok (.aload_n 0, 1) := by decide +kernel
theorem dX7_go_133 : decode cX7_go 133 = .ok (.getfield 133, 3) := by decide +kernel
theorem dX7_go_136 : decode cX7_go 136 = .ok (.aload_n 0, 1) := by decide +kernel
theorem dX7_go_137 : decode cX7_go 137 = .ok (.getfield 33, 3) := by decide +kernel
theorem dX7_go_140 : decode cX7_go 140 = .ok (.dcmp .l, 1) := by decide +kernel
theorem dX7_go_141 : decode cX7_go 141 = .ok (.ifCond .le 41, 3) := by decide +kernel
theorem dX7_go_144 : decode cX7_go 144 = .ok (.aload_n 0, 1) := by decide +kernel
theorem dX7_go_145 : decode cX7_go 145 = .ok (.dup, 1) := by decide +kernel
theorem dX7_go_146 : decode cX7_go 146 = .ok (.getfield 178, 3) := by decide +kernel
theorem dX7_go_149 : decode cX7_go 149 = .ok (.iconst 1, 1) := by decide +kernel
theorem dX7_go_150 : decode cX7_go 150 = .ok (.iadd, 1) := by decide +kernel
theorem dX7_go_151 : decode cX7_go 151 = .ok (.putfield 178, 3) := by decide +kernel
theorem dX7_go_154 : decode cX7_go 154 = .ok (.aload_n 0, 1) := by decide +kernel
theorem dX7_go_155 : decode cX7_go 155 = .ok (.ldc2_w 105, 3) := by decide +kernel
theorem dX7_go_158 : decode cX7_go 158 = .ok (.dload 7, 2) := by decide +kernel
theorem dX7_go_160 : decode cX7_go 160 = .ok (.dmul, 1) := by decide +kernel
theorem dX7_go_161 : decode cX7_go 161 = .ok (.putfield 29, 3) := by decide +kernel
theorem dX7_go_164 : decode cX7_go 164 = .ok (.aload_n 0, 1) := by decide +kernel
theorem dX7_go_165 : decode cX7_go 165 = .ok (.getfield 29, 3) := by decide +kernel
theorem dX7_go_168 : decode cX7_go 168 = .ok (.ldc2_w 232, 3) := by decide +kernel
theorem dX7_go_171 : decode cX7_go 171 = .ok (.dcmp .g, 1) := by decide +kernel
theorem dX7_go_172 : decode cX7_go 172 = .ok (.ifCond .ge 78, 3) := by decide +kernel
theorem dX7_go_175 : decode cX7_go 175 = .ok (.aload_n 0, 1) := by decide +kernel
theorem dX7_go_176 : decode cX7_go 176 = .ok (.iconst 2, 1) := by decide +kernel
theorem dX7_go_177 : decode cX7_go 177 = .ok (.putfield 84, 3) := by decide +kernel
theorem dX7_go_180 : decode cX7_go 180 = .ok (.iconst 0, 1) := by decide +kernel
theorem dX7_go_181 : decode cX7_go 181 = .ok (.ireturn, 1) := by decide +kernel
theorem dX7_go_182 : decode cX7_go 182 = .ok (.aload_n 0, 1) := by decide +kernel
theorem dX7_go_183 : decode cX7_go 183 = .ok (.dload 7, 2) := by decide +kernel
theorem dX7_go_185 : decode cX7_go 185 = .ok (.iload 6, 2) := by decide +kernel
theorem dX7_go_187 : decode cX7_go 187 = .ok (.ifCond .eq 7, 3) := by decide +kernel
theorem dX7_go_190 : decode cX7_go 190 = .ok (.dload_n 2, 1) := by decide +kernel
theorem dX7_go_191 : decode cX7_go 191 = .ok (.goto 10, 3) := by decide +kernel
theorem dX7_go_194 : decode cX7_go 194 = .ok (.aload_n 0, 1) := by decide +kernel
theorem dX7_go_195 : decode cX7_go 195 = .ok (.getfield 98, 3) := by decide +kernel
theorem dX7_go_198 : decode cX7_go 198 = .ok (.dload 7, 2) := by decide +kernel
theorem dX7_go_200 : decode cX7_go 200 = .ok (.dadd, 1) := by decide +kernel
theorem dX7_go_201 : decode cX7_go 201 = .ok (.invokevirtual 226, 3) := by decide +kernel
theorem dX7_go_204 : decode cX7_go 204 = .ok (.iload_n 1, 1) := by decide +kernel
theorem dX7_go_205 : decode cX7_go 205 = .ok (.iconst 2, 1) := by decide +kernel
theorem dX7_go_206 : decode cX7_go 206 = .ok (.if_icmp .ne 44, 3) := by decide +kernel
theorem dX7_go_209 : decode cX7_go 209 = .ok (.aload_n 0, 1) := by decide +kernel
theorem dX7_go_210 : decode cX7_go 210 = .ok (.getfield 133, 3) := by decide +kernel
theorem dX7_go_213 : decode cX7_go 213 = .ok (.aload_n 0, 1) := by decide +kernel
theorem dX7_go_214 : decode cX7_go 214 = .ok (.getfield 33, 3) := by decide +kernel
theorem dX7_go_217 : decode cX7_go 217 = .ok (.ldc2_w 234, 3) := by decide +kernel
theorem dX7_go_220 : decode cX7_go 220 = .ok (.ddiv, 1) := by decide +kernel
theorem dX7_go_221 : decode cX7_go 221 = .ok (.dcmp .g, 1) := by decide +kernel
theorem dX7_go_222 : decode cX7_go 222 = .ok (.ifCond .ge 28, 3) := by decide +kernel
theorem dX7_go_225 : decode cX7_go 225 = .ok (.aload_n 0, 1) := by decide +kernel
theorem dX7_go_226 : decode cX7_go 226 = .ok (.ldc2_w 113, 3) := by decide +kernel
theorem dX7_go_229 : decode cX7_go 229 = .ok (.dload 7, 2) := by decide +kernel
theorem dX7_go_231 : decode cX7_go 231 = .ok (.dmul, 1) := by decide +kernel
theorem dX7_go_232 : decode cX7_go 232 = .ok (.dconst 1, 1) := by decide +kernel
theorem dX7_go_233 : decode cX7_go 233 = .ok (.dcmp .l, 1) := by decide +kernel
theorem dX7_go_234 : decode cX7_go 234 = .ok (.ifCond .le 7, 3) := by decide +kernel
theorem dX7_go_237 : decode cX7_go 237 = .ok (.dconst 1, 1) := by decide +kernel
theorem dX7_go_238 : decode cX7_go 238 = .ok (.goto 9, 3) := by decide +kernel
theorem dX7_go_241 : decode cX7_go 241 = .ok (.ldc2_w 113, 3) := by decide +kernel
theorem dX7_go_244 : decode cX7_go 244 = .ok (.dload 7, 2) := by decide +kernel
theorem dX7_go_246 : decode cX7_go 246 = .ok (.dmul, 1) := by decide +kernel
theorem dX7_go_247 : decode cX7_go 247 = .ok (.putfield 29, 3) := by decide +kernel
theorem dX7_go_250 : decode cX7_go 250 = .ok (.iinc 5 1, 3) := by decide +kernel
theorem dX7_go_253 : decode cX7_go 253 = .ok (.goto (-195), 3) := by decide +kernel
theorem dX7_go_256 : decode cX7_go 256 = .ok (.aload_n 0, 1) := by decide +kernel
theorem dX7_go_257 : decode cX7_go 257 = .ok (.aload_n 0, 1) := by decide +kernel
theorem dX7_go_258 : decode cX7_go 258 = .ok (.getfield 98, 3) := by decide +kernel
theorem dX7_go_261 : decode cX7_go 261 = .ok (.dload_n 2, 1) := by decide +kernel
theorem dX7_go_262 : decode cX7_go 262 = .ok (.dcmp .g, 1) := by decide +kernel
theorem dX7_go_263 : decode cX7_go 263 = .ok (.ifCond .ge 7, 3) := by decide +kernel
theorem dX7_go_266 : decode cX7_go 266 = .ok (.iconst 2, 1) := by decide +kernel
theorem dX7_go_267 : decode cX7_go 267 = .ok (.goto 4, 3) := by decide +kernel
theorem dX7_go_270 : decode cX7_go 270 = .ok (.iconst 0, 1) := by decide +kernel
theorem dX7_go_271 : decode cX7_go 271 = .ok (.putfield 84, 3) := by decide +kernel
theorem dX7_go_274 : decode cX7_go 274 = .ok (.aload_n 0, 1) := by decide +kernel
theorem dX7_go_275 : decode cX7_go 275 = .ok (.getfield 84, 3) := by decide +kernel
theorem dX7_go_278 : decode cX7_go 278 = .ok (.ifCond .le 7, 3) := by decide +kernel
theorem dX7_go_281 : decode cX7_go 281 = .ok (.iconst 0, 1) := by decide +kernel
theorem dX7_go_282 : decode cX7_go 282 = .ok (.goto 10, 3) := by decide +kernel
theorem dX7_go_285 : decode cX7_go 285 = .ok (.aload_n 0, 1) := by decide +kernel
theorem dX7_go_286 : decode cX7_go 286 = .ok (.getfield 190, 3) := by decide +kernel
theorem dX7_go_289 : decode cX7_go 289 = .ok (.iload 4, 2) := by decide +kernel
theorem dX7_go_291 : decode cX7_go 291 = .ok (.isub, 1) := by decide +kernel
theorem dX7_go_292 : decode cX7_go 292 = .ok (.ireturn, 1) := by decide +kernel
theorem dX7_watch_0 : decode cX7_watch 0 = .ok (.aload_n 0, 1) := by decide +kernel
theorem dX7_watch_1 : decode cX7_watch 1 = .ok (.iload_n 1, 1) := by decide +kernel
theorem dX7_watch_2 : decode cX7_watch 2 = .ok (.aload_n 0, 1) := by decide +kernel
theorem dX7_watch_3 : decode cX7_watch 3 = .ok (.getfield 7, 3) := by decide +kernel
theorem dX7_watch_6 : decode cX7_watch 6 = .ok (.invokestatic 206, 3) := by decide +kernel
theorem dX7_watch_9 : decode cX7_watch 9 = .ok (.ifCond .ne 23, 3) := by decide +kernel
theorem dX7_watch_12 : decode cX7_watch 12 = .ok (.dload_n 2, 1) := by decide +kernel
theorem dX7_watch_13 : decode cX7_watch 13 = .ok (.ldc2_w 218, 3) := by decide +kernel
theorem dX7_watch_16 : decode cX7_watch 16 = .ok (.dcmp .l, 1) := by decide +kernel
theorem dX7_watch_17 : decode cX7_watch 17 = .ok (.ifCond .lt 15, 3) := by decide +kernel
theorem dX7_watch_20 : decode cX7_watch 20 = .ok (.dload_n 2, 1) := by decide +kernel
theorem dX7_watch_21 : decode cX7_watch 21 = .ok (.ldc2_w 220, 3) := by decide +kernel
theorem dX7_watch_24 : decode cX7_watch 24 = .ok (.dcmp .g, 1) := by decide +kernel
theorem dX7_watch_25 : decode cX7_watch 25 = .ok (.ifCond .gt 7, 3) := by decide +kernel
theorem dX7_watch_28 : decode cX7_watch 28 = .ok (.iconst 0, 1) := by decide +kernel
theorem dX7_watch_29 : decode cX7_watch 29 = .ok (.goto 4, 3) := by decide +kernel
theorem dX7_watch_32 : decode cX7_watch 32 = .ok (.iconst 1, 1) := by decide +kernel
theorem dX7_watch_33 : decode cX7_watch 33 = .ok (.putfield 84, 3) := by decide +kernel
theorem dX7_watch_36 : decode cX7_watch 36 = .ok (.aload_n 0, 1) := by decide +kernel
theorem dX7_watch_37 : decode cX7_watch 37 = .ok (.getfield 84, 3) := by decide +kernel
theorem dX7_watch_40 : decode cX7_watch 40 = .ok (.ifCond .le 4, 3) := by decide +kernel
theorem dX7_watch_43 : decode cX7_watch 43 = .ok (.return_, 1) := by decide +kernel
theorem dX7_watch_44 : decode cX7_watch 44 = .ok (.aload_n 0, 1) := by decide +kernel
theorem dX7_watch_45 : decode cX7_watch 45 = .ok (.iload_n 1, 1) := by decide +kernel
theorem dX7_watch_46 : decode cX7_watch 46 = .ok (.putfield 78, 3) := by decide +kernel
theorem dX7_watch_49 : decode cX7_watch 49 = .ok (.aload_n 0, 1) := by decide +kernel
theorem dX7_watch_50 : decode cX7_watch 50 = .ok (.dload_n 2, 1) := by decide +kernel
theorem dX7_watch_51 : decode cX7_watch 51 = .ok (.putfield 196, 3) := by decide +kernel
theorem dX7_watch_54 : decode cX7_watch 54 = .ok (.return_, 1) := by decide +kernel
theorem dX7_events_0 : decode cX7_events 0 = .ok (.aload_n 0, 1) := by decide +kernel
theorem dX7_events_1 : decode cX7_events 1 = .ok (.iconst 0, 1) := by decide +kernel
theorem dX7_events_2 : decode cX7_events 2 = .ok (.putfield 84, 3) := by decide +kernel
theorem dX7_events_5 : decode cX7_events 5 = .ok (.aload_n 0, 1) := by decide +kernel
theorem dX7_events_6 : decode cX7_events 6 = .ok (.getfield 203, 3) := by decide +kernel
theorem dX7_events_9 : decode cX7_events 9 = .ok (.ireturn, 1) := by decide +kernel
theorem dX7_event_0 : decode cX7_event 0 = .ok (.aload_n 0, 1) := by decide +kernel
theorem dX7_event_1 : decode cX7_event 1 = .ok (.iload_n 1, 1) := by decide +kernel
theorem dX7_event_2 : decode cX7_event 2 = .ok (.bipush 8, 2) := by decide +kernel
theorem dX7_event_4 : decode cX7_event 4 = .ok (.invokestatic 206, 3) := by decide +kernel
theorem dX7_event_7 : decode cX7_event 7 = .ok (.ifCond .ne 11, 3) := by decide +kernel
theorem dX7_event_10 : decode cX7_event 10 = .ok (.iload_n 1, 1) := by decide +kernel
theorem dX7_event_11 : decode cX7_event 11 = .ok (.aload_n 0, 1) := by decide +kernel
theorem dX7_event_12 : decode cX7_event 12 = .ok (.getfield 203, 3) := by decide +kernel
theorem dX7_event_15 : decode cX7_event 15 = .ok (.if_icmp .lt 7, 3) := by decide +kernel
theorem dX7_event_18 : decode cX7_event 18 = .ok (.iconst 1, 1) := by decide +kernel
theorem dX7_event_19 : decode cX7_event 19 = .ok (.goto 4, 3) := by decide +kernel
theorem dX7_event_22 : decode cX7_event 22 = .ok (.iconst 0, 1) := by decide +kernel
theorem dX7_event_23 : decode cX7_event 23 = .ok (.putfield 84, 3) := by decide +kernel
theorem dX7_event_26 : decode cX7_event 26 = .ok (.aload_n 0, 1) := by decide +kernel
theorem dX7_event_27 : decode cX7_event 27 = .ok (.getfield 84, 3) := by decide +kernel
theorem dX7_event_30 : decode cX7_event 30 = .ok (.ifCond .le 7, 3) := by decide +kernel
theorem dX7_event_33 : decode cX7_event 33 = .ok (.dconst 0, 1) := by decide +kernel
theorem dX7_event_34 : decode cX7_event 34 = .ok (.goto 19, 3) := by decide +kernel
theorem dX7_event_37 : decode cX7_event 37 = .ok (.aload_n 0, 1) := by decide +kernel
theorem dX7_event_38 : decode cX7_event 38 = .ok (.getfield 81, 3) := by decide +kernel
theorem dX7_event_41 : decode cX7_event 41 = .ok (.aload_n 0, 1) := by decide +kernel
theorem dX7_event_42 : decode cX7_event 42 = .ok (.getfield 203, 3) := by decide +kernel
theorem dX7_event_45 : decode cX7_event 45 = .ok (.iconst 1, 1) := by decide +kernel
theorem dX7_event_46 : decode cX7_event 46 = .ok (.isub, 1) := by decide +kernel
theorem dX7_event_47 : decode cX7_event 47 = .ok (.iload_n 1, 1) := by decide +kernel
theorem dX7_event_48 : decode cX7_event 48 = .ok (.isub, 1) := by decide +kernel
theorem dX7_event_49 : decode cX7_event 49 = .ok (.bipush 8, 2) := by decide +kernel
theorem dX7_event_51 : decode cX7_event 51 = .ok (.irem, 1) := by decide +kernel
theorem dX7_event_52 : decode cX7_event 52 = .ok (.daload, 1) := by decide +kernel
theorem dX7_event_53 : decode cX7_event 53 = .ok (.dreturn, 1) := by decide +kernel
theorem dX7_at_0 : decode cX7_at 0 = .ok (.aload_n 0, 1) := by decide +kernel
theorem dX7_at_1 : decode cX7_at 1 = .ok (.iload_n 1, 1) := by decide +kernel
theorem dX7_at_2 : decode cX7_at 2 = .ok (.aload_n 0, 1) := by decide +kernel
theorem dX7_at_3 : decode cX7_at 3 = .ok (.getfield 7, 3) := by decide +kernel
theorem dX7_at_6 : decode cX7_at 6 = .ok (.invokestatic 206, 3) := by decide +kernel
theorem dX7_at_9 : decode cX7_at 9 = .ok (.ifCond .eq 7, 3) := by decide +kernel
theorem dX7_at_12 : decode cX7_at 12 = .ok (.iconst 1, 1) := by decide +kernel
theorem dX7_at_13 : decode cX7_at 13 = .ok (.goto 4, 3) := by decide +kernel
theorem dX7_at_16 : decode cX7_at 16 = .ok (.iconst 0, 1) := by decide +kernel
theorem dX7_at_17 : decode cX7_at 17 = .ok (.putfield 84, 3) := by decide +kernel
theorem dX7_at_20 : decode cX7_at 20 = .ok (.aload_n 0, 1) := by decide +kernel
theorem dX7_at_21 : decode cX7_at 21 = .ok (.getfield 84, 3) := by decide +kernel
theorem dX7_at_24 : decode cX7_at 24 = .ok (.ifCond .le 7, 3) := by decide +kernel
theorem dX7_at_27 : decode cX7_at 27 = .ok (.dconst 0, 1) := by decide +kernel
theorem dX7_at_28 : decode cX7_at 28 = .ok (.goto 9, 3) := by decide +kernel
theorem dX7_at_31 : decode cX7_at 31 = .ok (.aload_n 0, 1) := by decide +kernel
theorem dX7_at_32 : decode cX7_at 32 = .ok (.getfield 36, 3) := by decide +kernel
theorem dX7_at_35 : decode cX7_at 35 = .ok (.iload_n 1, 1) := by decide +kernel
theorem dX7_at_36 : decode cX7_at 36 = .ok (.daload, 1) := by decide +kernel
theorem dX7_at_37 : decode cX7_at 37 = .ok (.dreturn, 1) := by decide +kernel
theorem dX7_derivative_0 : decode cX7_derivative 0 = .ok (.aload_n 0, 1) := by decide +kernel
theorem dX7_derivative_1 : decode cX7_derivative 1 = .ok (.iload_n 1, 1) := by decide +kernel
theorem dX7_derivative_2 : decode cX7_derivative 2 = .ok (.aload_n 0, 1) := by decide +kernel
theorem dX7_derivative_3 : decode cX7_derivative 3 = .ok (.getfield 7, 3) := by decide +kernel
theorem dX7_derivative_6 : decode cX7_derivative 6 = .ok (.invokestatic 206, 3) := by decide +kernel
theorem dX7_derivative_9 : decode cX7_derivative 9 = .ok (.ifCond .eq 7, 3) := by decide +kernel
theorem dX7_derivative_12 : decode cX7_derivative 12 = .ok (.iconst 1, 1) := by decide +kernel
theorem dX7_derivative_13 : decode cX7_derivative 13 = .ok (.goto 4, 3) := by decide +kernel
theorem dX7_derivative_16 : decode cX7_derivative 16 = .ok (.iconst 0, 1) := by decide +kernel
theorem dX7_derivative_17 : decode cX7_derivative 17 = .ok (.putfield 84, 3) := by decide +kernel
theorem dX7_derivative_20 : decode cX7_derivative 20 = .ok (.aload_n 0, 1) := by decide +kernel
theorem dX7_derivative_21 : decode cX7_derivative 21 = .ok (.getfield 84, 3) := by decide +kernel
theorem dX7_derivative_24 : decode cX7_derivative 24 = .ok (.ifCond .le 5, 3) := by decide +kernel
theorem dX7_derivative_27 : decode cX7_derivative 27 = .ok (.dconst 0, 1) := by decide +kernel
theorem dX7_derivative_28 : decode cX7_derivative 28 = .ok (.dreturn, 1) := by decide +kernel
theorem dX7_derivative_29 : decode cX7_derivative 29 = .ok (.aload_n 0, 1) := by decide +kernel
theorem dX7_derivative_30 : decode cX7_derivative 30 = .ok (.aload_n 0, 1) := by decide +kernel
theorem dX7_derivative_31 : decode cX7_derivative 31 = .ok (.getfield 98, 3) := by decide +kernel
theorem dX7_derivative_34 : decode cX7_derivative 34 = .ok (.aload_n 0, 1) := by decide +kernel
theorem dX7_derivative_35 : decode cX7_derivative 35 = .ok (.getfield 36, 3) := by decide +kernel
theorem dX7_derivative_38 : decode cX7_derivative 38 = .ok (.aload_n 0, 1) := by decide +kernel
theorem dX7_derivative_39 : decode cX7_derivative 39 = .ok (.getfield 54, 3) := by decide +kernel
theorem dX7_derivative_42 : decode cX7_derivative 42 = .ok (.invokevirtual 101, 3) := by decide +kernel
theorem dX7_derivative_45 : decode cX7_derivative 45 = .ok (.aload_n 0, 1) := by decide +kernel
theorem dX7_derivative_46 : decode cX7_derivative 46 = .ok (.getfield 54, 3) := by decide +kernel
theorem dX7_derivative_49 : decode cX7_derivative 49 = .ok (.iload_n 1, 1) := by decide +kernel
theorem dX7_derivative_50 : decode cX7_derivative 50 = .ok (.daload, 1) := by decide +kernel
theorem dX7_derivative_51 : decode cX7_derivative 51 = .ok (.dreturn, 1) := by decide +kernel
theorem dX7_between_0 : decode cX7_between 0 = .ok (.aload_n 0, 1) := by decide +kernel
theorem dX7_between_1 : decode cX7_between 1 = .ok (.iload_n 1, 1) := by decide +kernel
theorem dX7_between_2 : decode cX7_between 2 = .ok (.aload_n 0, 1) := by decide +kernel
theorem dX7_between_3 : decode cX7_between 3 = .ok (.getfield 7, 3) := by decide +kernel
theorem dX7_between_6 : decode cX7_between 6 = .ok (.invokestatic 206, 3) := by decide +kernel
theorem dX7_between_9 : decode cX7_between 9 = .ok (.ifCond .ne 15, 3) := by decide +kernel
theorem dX7_between_12 : decode cX7_between 12 = .ok (.dload_n 2, 1) := by decide +kernel
theorem dX7_between_13 : decode cX7_between 13 = .ok (.dconst 0, 1) := by decide +kernel
theorem dX7_between_14 : decode cX7_between 14 = .ok (.dcmp .l, 1) := by decide +kernel
theorem dX7_between_15 : decode cX7_between 15 = .ok (.ifCond .lt 9, 3) := by decide +kernel
theorem dX7_between_18 : decode cX7_between 18 = .ok (.dload_n 2, 1) := by decide +kernel
theorem dX7_between_19 : decode cX7_between 19 = .ok (.dconst 1, 1) := by decide +kernel
theorem dX7_between_20 : decode cX7_between 20 = .ok (.dcmp .g, 1) := by decide +kernel
theorem dX7_between_21 : decode cX7_between 21 = .ok (.ifCond .le 7, 3) := by decide +kernel
theorem dX7_between_24 : decode cX7_between 24 = .ok (.iconst 1, 1) := by decide +kernel
theorem dX7_between_25 : decode cX7_between 25 = .ok (.goto 15, 3) := by decide +kernel
theorem dX7_between_28 : decode cX7_between 28 = .ok (.aload_n 0, 1) := by decide +kernel
theorem dX7_between_29 : decode cX7_between 29 = .ok (.getfield 187, 3) := by decide +kernel
theorem dX7_between_32 : decode cX7_between 32 = .ok (.ifCond .eq 7, 3) := by decide +kernel
theorem dX7_between_35 : decode cX7_between 35 = .ok (.iconst 0, 1) := by decide +kernel
theorem dX7_between_36 : decode cX7_between 36 = .ok (.goto 4, 3) := by decide +kernel
theorem dX7_between_39 : decode cX7_between 39 = .ok (.iconst 2, 1) := by decide +kernel
theorem dX7_between_40 : decode cX7_between 40 = .ok (.putfield 84, 3) := by decide +kernel
theorem dX7_between_43 : decode cX7_between 43 = .ok (.aload_n 0, 1) := by decide +kernel
theorem dX7_between_44 : decode cX7_between 44 = .ok (.getfield 84, 3) := by decide +kernel
theorem dX7_between_47 : decode cX7_between 47 = .ok (.ifCond .le 7, 3) := by decide +kernel
theorem dX7_between_50 : decode cX7_between 50 = .ok (.dconst 0, 1) := by decide +kernel
theorem dX7_between_51 : decode cX7_between 51 = .ok (.goto 9, 3) := by decide +kernel
theorem dX7_between_54 : decode cX7_between 54 = .ok (.aload_n 0, 1) := by decide +kernel
theorem dX7_between_55 : decode cX7_between 55 = .ok (.iload_n 1, 1) := by decide +kernel
theorem dX7_between_56 : decode cX7_between 56 = .ok (.dload_n 2, 1) := by decide +kernel
theorem dX7_between_57 : decode cX7_between 57 = .ok (.invokevirtual 199, 3) := by decide +kernel
theorem dX7_between_60 : decode cX7_between 60 = .ok (.dreturn, 1) := by decide +kernel
theorem dX7_time_0 : decode cX7_time 0 = .ok (.aload_n 0, 1) := by decide +kernel
theorem dX7_time_1 : decode cX7_time 1 = .ok (.iconst 0, 1) := by decide +kernel
theorem dX7_time_2 : decode cX7_time 2 = .ok (.putfield 84, 3) := by decide +kernel
theorem dX7_time_5 : decode cX7_time 5 = .ok (.aload_n 0, 1) := by decide +kernel
theorem dX7_time_6 : decode cX7_time 6 = .ok (.getfield 98, 3) := by decide +kernel
theorem dX7_time_9 : decode cX7_time 9 = .ok (.dreturn, 1) := by decide +kernel
theorem dX7_nextSize_0 : decode cX7_nextSize 0 = .ok (.aload_n 0, 1) := by decide +kernel
theorem dX7_nextSize_1 : decode cX7_nextSize 1 = .ok (.iconst 0, 1) := by decide +kernel
theorem dX7_nextSize_2 : decode cX7_nextSize 2 = .ok (.putfield 84, 3) := by decide +kernel
theorem dX7_nextSize_5 : decode cX7_nextSize 5 = .ok (.aload_n 0, 1) := by decide +kernel
theorem dX7_nextSize_6 : decode cX7_nextSize 6 = .ok (.getfield 29, 3) := by decide +kernel
theorem dX7_nextSize_9 : decode cX7_nextSize 9 = .ok (.dreturn, 1) := by decide +kernel
theorem dX7_steps_0 : decode cX7_steps 0 = .ok (.aload_n 0, 1) := by decide +kernel
theorem dX7_steps_1 : decode cX7_steps 1 = .ok (.iconst 0, 1) := by decide +kernel
theorem dX7_steps_2 : decode cX7_steps 2 = .ok (.putfield 84, 3) := by decide +kernel
theorem dX7_steps_5 : decode cX7_steps 5 = .ok (.iload_n 1, 1) := by decide +kernel
theorem dX7_steps_6 : decode cX7_steps 6 = .ok (.ifCond .eq 10, 3) := by decide +kernel
theorem dX7_steps_9 : decode cX7_steps 9 = .ok (.aload_n 0, 1) := by decide +kernel
theorem dX7_steps_10 : decode cX7_steps 10 = .ok (.getfield 178, 3) := by decide +kernel
theorem dX7_steps_13 : decode cX7_steps 13 = .ok (.goto 7, 3) := by decide +kernel
theorem dX7_steps_16 : decode cX7_steps 16 = .ok (.aload_n 0, 1) := by decide +kernel
theorem dX7_steps_17 : decode cX7_steps 17 = .ok (.getfield 190, 3) := by decide +kernel
theorem dX7_steps_20 : decode cX7_steps 20 = .ok (.ireturn, 1) := by decide +kernel
