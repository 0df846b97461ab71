theorem dL_system_0 : decode cL_system 0 = .ok (.aload_n 0, 1) := by decide +kernel
theorem dL_system_1 : decode cL_system 1 = .ok (.iload_n 1, 1) := by decide +kernel
theorem dL_system_2 : decode cL_system 2 = .ok (.invokevirtual 7, 3) := by decide +kernel
theorem dL_system_5 : decode cL_system 5 = .ok (.goto 6, 3) := by decide +kernel
theorem dL_system_8 : decode cL_system 8 = .ok (.astore_n 2, 1) := by decide +kernel
theorem dL_system_9 : decode cL_system 9 = .ok (.iconst 1, 1) := by decide +kernel
theorem dL_system_10 : decode cL_system 10 = .ok (.ireturn, 1) := by decide +kernel
theorem dL_system_11 : decode cL_system 11 = .ok (.iconst 0, 1) := by decide +kernel
theorem dL_system_12 : decode cL_system 12 = .ok (.ireturn, 1) := by decide +kernel
theorem dL_term_0 : decode cL_term 0 = .ok (.aload 6, 2) := by decide +kernel
theorem dL_term_2 : decode cL_term 2 = .ok (.iconst 0, 1) := by decide +kernel
theorem dL_term_3 : decode cL_term 3 = .ok (.aload_n 0, 1) := by decide +kernel
theorem dL_term_4 : decode cL_term 4 = .ok (.iload_n 1, 1) := by decide +kernel
theorem dL_term_5 : decode cL_term 5 = .ok (.dload_n 2, 1) := by decide +kernel
theorem dL_term_6 : decode cL_term 6 = .ok (.iload 4, 2) := by decide +kernel
theorem dL_term_8 : decode cL_term 8 = .ok (.iload 5, 2) := by decide +kernel
theorem dL_term_10 : decode cL_term 10 = .ok (.invokevirtual 15, 3) := by decide +kernel
theorem dL_term_13 : decode cL_term 13 = .ok (.i2l, 1) := by decide +kernel
theorem dL_term_14 : decode cL_term 14 = .ok (.lastore, 1) := by decide +kernel
theorem dL_term_15 : decode cL_term 15 = .ok (.goto 11, 3) := by decide +kernel
theorem dL_term_18 : decode cL_term 18 = .ok (.astore 7, 2) := by decide +kernel
theorem dL_term_20 : decode cL_term 20 = .ok (.iconst 1, 1) := by decide +kernel
theorem dL_term_21 : decode cL_term 21 = .ok (.ireturn, 1) := by decide +kernel
theorem dL_term_22 : decode cL_term 22 = .ok (.astore 7, 2) := by decide +kernel
theorem dL_term_24 : decode cL_term 24 = .ok (.iconst 2, 1) := by decide +kernel
theorem dL_term_25 : decode cL_term 25 = .ok (.ireturn, 1) := by decide +kernel
theorem dL_term_26 : decode cL_term 26 = .ok (.iconst 0, 1) := by decide +kernel
theorem dL_term_27 : decode cL_term 27 = .ok (.ireturn, 1) := by decide +kernel
theorem dL_value_0 : decode cL_value 0 = .ok (.aload_n 0, 1) := by decide +kernel
theorem dL_value_1 : decode cL_value 1 = .ok (.iload_n 1, 1) := by decide +kernel
theorem dL_value_2 : decode cL_value 2 = .ok (.dload_n 2, 1) := by decide +kernel
theorem dL_value_3 : decode cL_value 3 = .ok (.invokevirtual 21, 3) := by decide +kernel
theorem dL_value_6 : decode cL_value 6 = .ok (.goto 7, 3) := by decide +kernel
theorem dL_value_9 : decode cL_value 9 = .ok (.astore 4, 2) := by decide +kernel
theorem dL_value_11 : decode cL_value 11 = .ok (.iconst 1, 1) := by decide +kernel
theorem dL_value_12 : decode cL_value 12 = .ok (.ireturn, 1) := by decide +kernel
theorem dL_value_13 : decode cL_value 13 = .ok (.iconst 0, 1) := by decide +kernel
theorem dL_value_14 : decode cL_value 14 = .ok (.ireturn, 1) := by decide +kernel
theorem dL_size_0 : decode cL_size 0 = .ok (.aload_n 0, 1) := by decide +kernel
theorem dL_size_1 : decode cL_size 1 = .ok (.dload_n 1, 1) := by decide +kernel
theorem dL_size_2 : decode cL_size 2 = .ok (.dload_n 3, 1) := by decide +kernel
theorem dL_size_3 : decode cL_size 3 = .ok (.invokevirtual 25, 3) := by decide +kernel
theorem dL_size_6 : decode cL_size 6 = .ok (.goto 7, 3) := by decide +kernel
theorem dL_size_9 : decode cL_size 9 = .ok (.astore 5, 2) := by decide +kernel
theorem dL_size_11 : decode cL_size 11 = .ok (.iconst 1, 1) := by decide +kernel
theorem dL_size_12 : decode cL_size 12 = .ok (.ireturn, 1) := by decide +kernel
theorem dL_size_13 : decode cL_size 13 = .ok (.iconst 0, 1) := by decide +kernel
theorem dL_size_14 : decode cL_size 14 = .ok (.ireturn, 1) := by decide +kernel
theorem dL_step_0 : decode cL_step 0 = .ok (.aload_n 0, 1) := by decide +kernel
theorem dL_step_1 : decode cL_step 1 = .ok (.iload_n 1, 1) := by decide +kernel
theorem dL_step_2 : decode cL_step 2 = .ok (.invokevirtual 29, 3) := by decide +kernel
theorem dL_step_5 : decode cL_step 5 = .ok (.goto 9, 3) := by decide +kernel
theorem dL_step_8 : decode cL_step 8 = .ok (.astore_n 2, 1) := by decide +kernel
theorem dL_step_9 : decode cL_step 9 = .ok (.iconst 1, 1) := by decide +kernel
theorem dL_step_10 : decode cL_step 10 = .ok (.ireturn, 1) := by decide +kernel
theorem dL_step_11 : decode cL_step 11 = .ok (.astore_n 2, 1) := by decide +kernel
theorem dL_step_12 : decode cL_step 12 = .ok (.iconst 2, 1) := by decide +kernel
theorem dL_step_13 : decode cL_step 13 = .ok (.ireturn, 1) := by decide +kernel
theorem dL_step_14 : decode cL_step 14 = .ok (.iconst 0, 1) := by decide +kernel
theorem dL_step_15 : decode cL_step 15 = .ok (.ireturn, 1) := by decide +kernel
theorem dL_go_0 : decode cL_go 0 = .ok (.aload 4, 2) := by decide +kernel
theorem dL_go_2 : decode cL_go 2 = .ok (.iconst 0, 1) := by decide +kernel
theorem dL_go_3 : decode cL_go 3 = .ok (.aload_n 0, 1) := by decide +kernel
theorem dL_go_4 : decode cL_go 4 = .ok (.iload_n 1, 1) := by decide +kernel
theorem dL_go_5 : decode cL_go 5 = .ok (.dload_n 2, 1) := by decide +kernel
theorem dL_go_6 : decode cL_go 6 = .ok (.invokevirtual 34, 3) := by decide +kernel
theorem dL_go_9 : decode cL_go 9 = .ok (.i2l, 1) := by decide +kernel
theorem dL_go_10 : decode cL_go 10 = .ok (.lastore, 1) := by decide +kernel
theorem dL_go_11 : decode cL_go 11 = .ok (.goto 11, 3) := by decide +kernel
theorem dL_go_14 : decode cL_go 14 = .ok (.astore 5, 2) := by decide +kernel
theorem dL_go_16 : decode cL_go 16 = .ok (.iconst 1, 1) := by decide +kernel
theorem dL_go_17 : decode cL_go 17 = .ok (.ireturn, 1) := by decide +kernel
theorem dL_go_18 : decode cL_go 18 = .ok (.astore 5, 2) := by decide +kernel
theorem dL_go_20 : decode cL_go 20 = .ok (.iconst 2, 1) := by decide +kernel
theorem dL_go_21 : decode cL_go 21 = .ok (.ireturn, 1) := by decide +kernel
theorem dL_go_22 : decode cL_go 22 = .ok (.iconst 0, 1) := by decide +kernel
theorem dL_go_23 : decode cL_go 23 = .ok (.ireturn, 1) := by decide +kernel
theorem dL_watch_0 : decode cL_watch 0 = .ok (.aload_n 0, 1) := by decide +kernel
theorem dL_watch_1 : decode cL_watch 1 = .ok (.iload_n 1, 1) := by decide +kernel
theorem dL_watch_2 : decode cL_watch 2 = .ok (.dload_n 2, 1) := by decide +kernel
theorem dL_watch_3 : decode cL_watch 3 = .ok (.invokevirtual 38, 3) := by decide +kernel
theorem dL_watch_6 : decode cL_watch 6 = .ok (.goto 7, 3) := by decide +kernel
theorem dL_watch_9 : decode cL_watch 9 = .ok (.astore 4, 2) := by decide +kernel
theorem dL_watch_11 : decode cL_watch 11 = .ok (.iconst 1, 1) := by decide +kernel
theorem dL_watch_12 : decode cL_watch 12 = .ok (.ireturn, 1) := by decide +kernel
theorem dL_watch_13 : decode cL_watch 13 = .ok (.iconst 0, 1) := by decide +kernel
theorem dL_watch_14 : decode cL_watch 14 = .ok (.ireturn, 1) := by decide +kernel
theorem dL_event_0 : decode cL_event 0 = .ok (.aload_n 2, 1) := by decide +kernel
theorem dL_event_1 : decode cL_event 1 = .ok (.iconst 0, 1) := by decide +kernel
theorem dL_event_2 : decode cL_event 2 = .ok (.aload_n 0, 1) := by decide +kernel
theorem dL_event_3 : decode cL_event 3 = .ok (.iload_n 1, 1) := by decide +kernel
theorem dL_event_4 : decode cL_event 4 = .ok (.invokevirtual 41, 3) := by decide +kernel
theorem dL_event_7 : decode cL_event 7 = .ok (.dastore, 1) := by decide +kernel
theorem dL_event_8 : decode cL_event 8 = .ok (.goto 6, 3) := by decide +kernel
theorem dL_event_11 : decode cL_event 11 = .ok (.astore_n 3, 1) := by decide +kernel
theorem dL_event_12 : decode cL_event 12 = .ok (.iconst 1, 1) := by decide +kernel
theorem dL_event_13 : decode cL_event 13 = .ok (.ireturn, 1) := by decide +kernel
theorem dL_event_14 : decode cL_event 14 = .ok (.iconst 0, 1) := by decide +kernel
theorem dL_event_15 : decode cL_event 15 = .ok (.ireturn, 1) := by decide +kernel
theorem dL_at_0 : decode cL_at 0 = .ok (.aload_n 2, 1) := by decide +kernel
theorem dL_at_1 : decode cL_at 1 = .ok (.iconst 0, 1) := by decide +kernel
theorem dL_at_2 : decode cL_at 2 = .ok (.aload_n 0, 1) := by decide +kernel
theorem dL_at_3 : decode cL_at 3 = .ok (.iload_n 1, 1) := by decide +kernel
theorem dL_at_4 : decode cL_at 4 = .ok (.invokevirtual 47, 3) := by decide +kernel
theorem dL_at_7 : decode cL_at 7 = .ok (.dastore, 1) := by decide +kernel
theorem dL_at_8 : decode cL_at 8 = .ok (.goto 6, 3) := by decide +kernel
theorem dL_at_11 : decode cL_at 11 = .ok (.astore_n 3, 1) := by decide +kernel
theorem dL_at_12 : decode cL_at 12 = .ok (.iconst 1, 1) := by decide +kernel
theorem dL_at_13 : decode cL_at 13 = .ok (.ireturn, 1) := by decide +kernel
theorem dL_at_14 : decode cL_at 14 = .ok (.iconst 0, 1) := by decide +kernel
theorem dL_at_15 : decode cL_at 15 = .ok (.ireturn, 1) := by decide +kernel
theorem dL_derivative_0 : decode cL_derivative 0 = .ok (.aload_n 2, 1) := by decide +kernel
theorem dL_derivative_1 : decode cL_derivative 1 = .ok (.iconst 0, 1) := by decide +kernel
theorem dL_derivative_2 : decode cL_derivative 2 = .ok (.aload_n 0, 1) := by decide +kernel
theorem dL_derivative_3 : decode cL_derivative 3 = .ok (.iload_n 1, 1) := by decide +kernel
theorem dL_derivative_4 : decode cL_derivative 4 = .ok (.invokevirtual 50, 3) := by decide +kernel
theorem dL_derivative_7 : decode cL_derivative 7 = .ok (.dastore, 1) := by decide +kernel
theorem dL_derivative_8 : decode cL_derivative 8 = .ok (.goto 6, 3) := by decide +kernel
theorem dL_derivative_11 : decode cL_derivative 11 = .ok (.astore_n 3, 1) := by decide +kernel
theorem dL_derivative_12 : decode cL_derivative 12 = .ok (.iconst 1, 1) := by decide +kernel
theorem dL_derivative_13 : decode cL_derivative 13 = .ok (.ireturn, 1) := by decide +kernel
theorem dL_derivative_14 : decode cL_derivative 14 = .ok (.iconst 0, 1) := by decide +kernel
theorem dL_derivative_15 : decode cL_derivative 15 = .ok (.ireturn, 1) := by decide +kernel
theorem dL_between_0 : decode cL_between 0 = .ok (.aload 4, 2) := by decide +kernel
theorem dL_between_2 : decode cL_between 2 = .ok (.iconst 0, 1) := by decide +kernel
theorem dL_between_3 : decode cL_between 3 = .ok (.aload_n 0, 1) := by decide +kernel
theorem dL_between_4 : decode cL_between 4 = .ok (.iload_n 1, 1) := by decide +kernel
theorem dL_between_5 : decode cL_between 5 = .ok (.dload_n 2, 1) := by decide +kernel
theorem dL_between_6 : decode cL_between 6 = .ok (.invokevirtual 53, 3) := by decide +kernel
theorem dL_between_9 : decode cL_between 9 = .ok (.dastore, 1) := by decide +kernel
theorem dL_between_10 : decode cL_between 10 = .ok (.goto 11, 3) := by decide +kernel
theorem dL_between_13 : decode cL_between 13 = .ok (.astore 5, 2) := by decide +kernel
theorem dL_between_15 : decode cL_between 15 = .ok (.iconst 1, 1) := by decide +kernel
theorem dL_between_16 : decode cL_between 16 = .ok (.ireturn, 1) := by decide +kernel
theorem dL_between_17 : decode cL_between 17 = .ok (.astore 5, 2) := by decide +kernel
theorem dL_between_19 : decode cL_between 19 = .ok (.iconst 2, 1) := by decide +kernel
theorem dL_between_20 : decode cL_between 20 = .ok (.ireturn, 1) := by decide +kernel
theorem dL_between_21 : decode cL_between 21 = .ok (.iconst 0, 1) := by decide +kernel
theorem dL_between_22 : decode cL_between 22 = .ok (.ireturn, 1) := by decide +kernel
theorem dL_law_0 : decode cL_law 0 = .ok (.new 8, 3) := by decide +kernel
theorem dL_law_3 : decode cL_law 3 = .ok (.dup, 1) := by decide +kernel
theorem dL_law_4 : decode cL_law 4 = .ok (.invokespecial 57, 3) := by decide +kernel
theorem dL_law_7 : decode cL_law 7 = .ok (.astore_n 1, 1) := by decide +kernel
theorem dL_law_8 : decode cL_law 8 = .ok (.new 58, 3) := by decide +kernel
theorem dL_law_11 : decode cL_law 11 = .ok (.dup, 1) := by decide +kernel
theorem dL_law_12 : decode cL_law 12 = .ok (.invokespecial 60, 3) := by decide +kernel
theorem dL_law_15 : decode cL_law 15 = .ok (.astore_n 2, 1) := by decide +kernel
theorem dL_law_16 : decode cL_law 16 = .ok (.iconst 1, 1) := by decide +kernel
theorem dL_law_17 : decode cL_law 17 = .ok (.newarray .long, 2) := by decide +kernel
theorem dL_law_19 : decode cL_law 19 = .ok (.astore_n 3, 1) := by decide +kernel
theorem dL_law_20 : decode cL_law 20 = .ok (.iconst 1, 1) := by decide +kernel
theorem dL_law_21 : decode cL_law 21 = .ok (.newarray .double, 2) := by decide +kernel
theorem dL_law_23 : decode cL_law 23 = .ok (.astore 4, 2) := by decide +kernel
theorem dL_law_25 : decode cL_law 25 = .ok (.iconst 0, 1) := by decide +kernel
theorem dL_law_26 : decode cL_law 26 = .ok (.istore 5, 2) := by decide +kernel
theorem dL_law_28 : decode cL_law 28 = .ok (.iload 5, 2) := by decide +kernel
theorem dL_law_30 : decode cL_law 30 = .ok (.aload_n 0, 1) := by decide +kernel
theorem dL_law_31 : decode cL_law 31 = .ok (.arraylength, 1) := by decide +kernel
theorem dL_law_32 : decode cL_law 32 = .ok (.iconst 5, 1) := by decide +kernel
theorem dL_law_33 : decode cL_law 33 = .ok (.isub, 1) := by decide +kernel
theorem dL_law_34 : decode cL_law 34 = .ok (.if_icmp .gt 994, 3) := by decide +kernel
theorem dL_law_37 : decode cL_law 37 = .ok (.aload_n 0, 1) := by decide +kernel
theorem dL_law_38 : decode cL_law 38 = .ok (.iload 5, 2) := by decide +kernel
theorem dL_law_40 : decode cL_law 40 = .ok (.iaload, 1) := by decide +kernel
theorem dL_law_41 : decode cL_law 41 = .ok (.bipush 15, 2) := by decide +kernel
theorem dL_law_43 : decode cL_law 43 = .ok (.iand, 1) := by decide +kernel
theorem dL_law_44 : decode cL_law 44 = .ok (.tableswitch 978 0 14 #[76, 112, 214, 272, 340, 376, 454, 512, 525, 602, 679, 756, 855, 896, 937], 76) := by decide +kernel
theorem dL_law_120 : decode cL_law 120 = .ok (.aload_n 1, 1) := by decide +kernel
theorem dL_law_121 : decode cL_law 121 = .ok (.aload_n 0, 1) := by decide +kernel
theorem dL_law_122 : decode cL_law 122 = .ok (.iload 5, 2) := by decide +kernel
theorem dL_law_124 : decode cL_law 124 = .ok (.iconst 1, 1) := by decide +kernel
theorem dL_law_125 : decode cL_law 125 = .ok (.iadd, 1) := by decide +kernel
theorem dL_law_126 : decode cL_law 126 = .ok (.iaload, 1) := by decide +kernel
theorem dL_law_127 : decode cL_law 127 = .ok (.invokestatic 61, 3) := by decide +kernel
theorem dL_law_130 : decode cL_law 130 = .ok (.istore 6, 2) := by decide +kernel
theorem dL_law_132 : decode cL_law 132 = .ok (.aload_n 2, 1) := by decide +kernel
theorem dL_law_133 : decode cL_law 133 = .ok (.aload_n 0, 1) := by decide +kernel
theorem dL_law_134 : decode cL_law 134 = .ok (.iload 5, 2) := by decide +kernel
theorem dL_law_136 : decode cL_law 136 = .ok (.iconst 1, 1) := by decide +kernel
theorem dL_law_137 : decode cL_law 137 = .ok (.iadd, 1) := by decide +kernel
theorem dL_law_138 : decode cL_law 138 = .ok (.iaload, 1) := by decide +kernel
theorem dL_law_139 : decode cL_law 139 = .ok (.invokevirtual 66, 3) := by decide +kernel
theorem dL_law_142 : decode cL_law 142 = .ok (.aload_n 2, 1) := by decide +kernel
theorem dL_law_143 : decode cL_law 143 = .ok (.invokevirtual 67, 3) := by decide +kernel
theorem dL_law_146 : decode cL_law 146 = .ok (.iload 6, 2) := by decide +kernel
theorem dL_law_148 : decode cL_law 148 = .ok (.if_icmp .eq 5, 3) := by decide +kernel
theorem dL_law_151 : decode cL_law 151 = .ok (.iconst 0, 1) := by decide +kernel
theorem dL_law_152 : decode cL_law 152 = .ok (.ireturn, 1) := by decide +kernel
theorem dL_law_153 : decode cL_law 153 = .ok (.goto 869, 3) := by decide +kernel
theorem dL_law_156 : decode cL_law 156 = .ok (.aload_n 1, 1) := by decide +kernel
theorem dL_law_157 : decode cL_law 157 = .ok (.aload_n 0, 1) := by decide +kernel
theorem dL_law_158 : decode cL_law 158 = .ok (.iload 5, 2) := by decide +kernel
theorem dL_law_160 : decode cL_law 160 = .ok (.iconst 1, 1) := by decide +kernel
theorem dL_law_161 : decode cL_law 161 = .ok (.iadd, 1) := by decide +kernel
theorem dL_law_162 : decode cL_law 162 = .ok (.iaload, 1) := by decide +kernel
theorem dL_law_163 : decode cL_law 163 = .ok (.aload_n 0, 1) := by decide +kernel
theorem dL_law_164 : decode cL_law 164 = .ok (.iload 5, 2) := by decide +kernel
theorem dL_law_166 : decode cL_law 166 = .ok (.iconst 2, 1) := by decide +kernel
theorem dL_law_167 : decode cL_law 167 = .ok (.iadd, 1) := by decide +kernel
theorem dL_law_168 : decode cL_law 168 = .ok (.iaload, 1) := by decide +kernel
theorem dL_law_169 : decode cL_law 169 = .ok (.i2d, 1) := by decide +kernel
theorem dL_law_170 : decode cL_law 170 = .ok (.ldc2_w 71, 3) := by decide +kernel
theorem dL_law_173 : decode cL_law 173 = .ok (.dmul, 1) := by decide +kernel
theorem dL_law_174 : decode cL_law 174 = .ok (.aload_n 0, 1) := by decide +kernel
theorem dL_law_175 : decode cL_law 175 = .ok (.iload 5, 2) := by decide +kernel
theorem dL_law_177 : decode cL_law 177 = .ok (.iconst 3, 1) := by decide +kernel
theorem dL_law_178 : decode cL_law 178 = .ok (.iadd, 1) := by decide +kernel
theorem dL_law_179 : decode cL_law 179 = .ok (.iaload, 1) := by decide +kernel
theorem dL_law_180 : decode cL_law 180 = .ok (.aload_n 0, 1) := by decide +kernel
theorem dL_law_181 : decode cL_law 181 = .ok (.iload 5, 2) := by decide +kernel
theorem dL_law_183 : decode cL_law 183 = .ok (.iconst 4, 1) := by decide +kernel
theorem dL_law_184 : decode cL_law 184 = .ok (.iadd, 1) := by decide +kernel
theorem dL_law_185 : decode cL_law 185 = .ok (.iaload, 1) := by decide +kernel
theorem dL_law_186 : decode cL_law 186 = .ok (.aload_n 3, 1) := by decide +kernel
theorem dL_law_187 : decode cL_law 187 = .ok (.invokestatic 73, 3) := by decide +kernel
theorem dL_law_190 : decode cL_law 190 = .ok (.istore 6, 2) := by decide +kernel
theorem dL_law_192 : decode cL_law 192 = .ok (.aload_n 2, 1) := by decide +kernel
theorem dL_law_193 : decode cL_law 193 = .ok (.aload_n 0, 1) := by decide +kernel
theorem dL_law_194 : decode cL_law 194 = .ok (.iload 5, 2) := by decide +kernel
theorem dL_law_196 : decode cL_law 196 = .ok (.iconst 1, 1) := by decide +kernel
theorem dL_law_197 : decode cL_law 197 = .ok (.iadd, 1) := by decide +kernel
theorem dL_law_198 : decode cL_law 198 = .ok (.iaload, 1) := by decide +kernel
theorem dL_law_199 : decode cL_law 199 = .ok (.aload_n 0, 1) := by decide +kernel
theorem dL_law_200 : decode cL_law 200 = .ok (.iload 5, 2) := by decide +kernel
theorem dL_law_202 : decode cL_law 202 = .ok (.iconst 2, 1) := by decide +kernel
theorem dL_law_203 : decode cL_law 203 = .ok (.iadd, 1) := by decide +kernel
theorem dL_law_204 : decode cL_law 204 = .ok (.iaload, 1) := by decide +kernel
theorem dL_law_205 : decode cL_law 205 = .ok (.i2d, 1) := by decide +kernel
theorem dL_law_206 : decode cL_law 206 = .ok (.ldc2_w 71, 3) := by decide +kernel
theorem dL_law_209 : decode cL_law 209 = .ok (.dmul, 1) := by decide +kernel
theorem dL_law_210 : decode cL_law 210 = .ok (.aload_n 0, 1) := by decide +kernel
theorem dL_law_211 : decode cL_law 211 = .ok (.iload 5, 2) := by decide +kernel
theorem dL_law_213 : decode cL_law 213 = .ok (.iconst 3, 1) := by decide +kernel
theorem dL_law_214 : decode cL_law 214 = .ok (.iadd, 1) := by decide +kernel
theorem dL_law_215 : decode cL_law 215 = .ok (.iaload, 1) := by decide +kernel
theorem dL_law_216 : decode cL_law 216 = .ok (.aload_n 0, 1) := by decide +kernel
theorem dL_law_217 : decode cL_law 217 = .ok (.iload 5, 2) := by decide +kernel
theorem dL_law_219 : decode cL_law 219 = .ok (.iconst 4, 1) := by decide +kernel
theorem dL_law_220 : decode cL_law 220 = .ok (.iadd, 1) := by decide +kernel
theorem dL_law_221 : decode cL_law 221 = .ok (.iaload, 1) := by decide +kernel
theorem dL_law_222 : decode cL_law 222 = .ok (.invokevirtual 76, 3) := by decide +kernel
theorem dL_law_225 : decode cL_law 225 = .ok (.istore 7, 2) := by decide +kernel
theorem dL_law_227 : decode cL_law 227 = .ok (.aload_n 2, 1) := by decide +kernel
theorem dL_law_228 : decode cL_law 228 = .ok (.invokevirtual 67, 3) := by decide +kernel
theorem dL_law_231 : decode cL_law 231 = .ok (.iload 6, 2) := by decide +kernel
theorem dL_law_233 : decode cL_law 233 = .ok (.if_icmp .eq 5, 3) := by decide +kernel
theorem dL_law_236 : decode cL_law 236 = .ok (.iconst 0, 1) := by decide +kernel
theorem dL_law_237 : decode cL_law 237 = .ok (.ireturn, 1) := by decide +kernel
theorem dL_law_238 : decode cL_law 238 = .ok (.iload 6, 2) := by decide +kernel
theorem dL_law_240 : decode cL_law 240 = .ok (.ifCond .ne 15, 3) := by decide +kernel
theorem dL_law_243 : decode cL_law 243 = .ok (.aload_n 3, 1) := by decide +kernel
theorem dL_law_244 : decode cL_law 244 = .ok (.iconst 0, 1) := by decide +kernel
theorem dL_law_245 : decode cL_law 245 = .ok (.laload, 1) := by decide +kernel
theorem dL_law_246 : decode cL_law 246 = .ok (.iload 7, 2) := by decide +kernel
theorem dL_law_248 : decode cL_law 248 = .ok (.i2l, 1) := by decide +kernel
theorem dL_law_249 : decode cL_law 249 = .ok (.lcmp, 1) := by decide +kernel
theorem dL_law_250 : decode cL_law 250 = .ok (.ifCond .eq 5, 3) := by decide +kernel
theorem dL_law_253 : decode cL_law 253 = .ok (.iconst 0, 1) := by decide +kernel
theorem dL_law_254 : decode cL_law 254 = .ok (.ireturn, 1) := by decide +kernel
theorem dL_law_255 : decode cL_law 255 = .ok (.goto 767, 3) := by decide +kernel
theorem dL_law_258 : decode cL_law 258 = .ok (.aload_n 1, 1) := by decide +kernel
theorem dL_law_259 : decode cL_law 259 = .ok (.aload_n 0, 1) := by decide +kernel
theorem dL_law_260 : decode cL_law 260 = .ok (.iload 5, 2) := by decide +kernel
theorem dL_law_262 : decode cL_law 262 = .ok (.iconst 1, 1) := by decide +kernel
theorem dL_law_263 : decode cL_law 263 = .ok (.iadd, 1) := by decide +kernel
theorem dL_law_264 : decode cL_law 264 = .ok (.iaload, 1) := by decide +kernel
theorem dL_law_265 : decode cL_law 265 = .ok (.aload_n 0, 1) := by decide +kernel
theorem dL_law_266 : decode cL_law 266 = .ok (.iload 5, 2) := by decide +kernel
theorem dL_law_268 : decode cL_law 268 = .ok (.iconst 2, 1) := by decide +kernel
theorem dL_law_269 : decode cL_law 269 = .ok (.iadd, 1) := by decide +kernel
theorem dL_law_270 : decode cL_law 270 = .ok (.iaload, 1) := by decide +kernel
theorem dL_law_271 : decode cL_law 271 = .ok (.i2d, 1) := by decide +kernel
theorem dL_law_272 : decode cL_law 272 = .ok (.ldc2_w 71, 3) := by decide +kernel
theorem dL_law_275 : decode cL_law 275 = .ok (.dmul, 1) := by decide +kernel
theorem dL_law_276 : decode cL_law 276 = .ok (.invokestatic 77, 3) := by decide +kernel
theorem dL_law_279 : decode cL_law 279 = .ok (.istore 6, 2) := by decide +kernel
theorem dL_law_281 : decode cL_law 281 = .ok (.aload_n 2, 1) := by decide +kernel
theorem dL_law_282 : decode cL_law 282 = .ok (.aload_n 0, 1) := by decide +kernel
theorem dL_law_283 : decode cL_law 283 = .ok (.iload 5, 2) := by decide +kernel
theorem dL_law_285 : decode cL_law 285 = .ok (.iconst 1, 1) := by decide +kernel
theorem dL_law_286 : decode cL_law 286 = .ok (.iadd, 1) := by decide +kernel
theorem dL_law_287 : decode cL_law 287 = .ok (.iaload, 1) := by decide +kernel
theorem dL_law_288 : decode cL_law 288 = .ok (.aload_n 0, 1) := by decide +kernel
theorem dL_law_289 : decode cL_law 289 = .ok (.iload 5, 2) := by decide +kernel
theorem dL_law_291 : decode cL_law 291 = .ok (.iconst 2, 1) := by decide +kernel
theorem dL_law_292 : decode cL_law 292 = .ok (.iadd, 1) := by decide +kernel
theorem dL_law_293 : decode cL_law 293 = .ok (.iaload, 1) := by decide +kernel
theorem dL_law_294 : decode cL_law 294 = .ok (.i2d, 1) := by decide +kernel
theorem dL_law_295 : decode cL_law 295 = .ok (.ldc2_w 71, 3) := by decide +kernel
theorem dL_law_298 : decode cL_law 298 = .ok (.dmul, 1) := by decide +kernel
theorem dL_law_299 : decode cL_law 299 = .ok (.invokevirtual 80, 3) := by decide +kernel
theorem dL_law_302 : decode cL_law 302 = .ok (.aload_n 2, 1) := by decide +kernel
theorem dL_law_303 : decode cL_law 303 = .ok (.invokevirtual 67, 3) := by decide +kernel
theorem dL_law_306 : decode cL_law 306 = .ok (.iload 6, 2) := by decide +kernel
theorem dL_law_308 : decode cL_law 308 = .ok (.if_icmp .eq 5, 3) := by decide +kernel
theorem dL_law_311 : decode cL_law 311 = .ok (.iconst 0, 1) := by decide +kernel
theorem dL_law_312 : decode cL_law 312 = .ok (.ireturn, 1) := by decide +kernel
theorem dL_law_313 : decode cL_law 313 = .ok (.goto 709, 3) := by decide +kernel
theorem dL_law_316 : decode cL_law 316 = .ok (.aload_n 1, 1) := by decide +kernel
theorem dL_law_317 : decode cL_law 317 = .ok (.aload_n 0, 1) := by decide +kernel
theorem dL_law_318 : decode cL_law 318 = .ok (.iload 5, 2) := by decide +kernel
theorem dL_law_320 : decode cL_law 320 = .ok (.iconst 1, 1) := by decide +kernel
theorem dL_law_321 : decode cL_law 321 = .ok (.iadd, 1) := by decide +kernel
theorem dL_law_322 : decode cL_law 322 = .ok (.iaload, 1) := by decide +kernel
theorem dL_law_323 : decode cL_law 323 = .ok (.i2d, 1) := by decide +kernel
theorem dL_law_324 : decode cL_law 324 = .ok (.ldc2_w 71, 3) := by decide +kernel
theorem dL_law_327 : decode cL_law 327 = .ok (.dmul, 1) := by decide +kernel
theorem dL_law_328 : decode cL_law 328 = .ok (.aload_n 0, 1) := by decide +kernel
theorem dL_law_329 : decode cL_law 329 = .ok (.iload 5, 2) := by decide +kernel
theorem dL_law_331 : decode cL_law 331 = .ok (.iconst 2, 1) := by decide +kernel
theorem dL_law_332 : decode cL_law 332 = .ok (.iadd, 1) := by decide +kernel
theorem dL_law_333 : decode cL_law 333 = .ok (.iaload, 1) := by decide +kernel
theorem dL_law_334 : decode cL_law 334 = .ok (.i2d, 1) := by decide +kernel
theorem dL_law_335 : decode cL_law 335 = .ok (.ldc2_w 71, 3) := by decide +kernel
theorem dL_law_338 : decode cL_law 338 = .ok (.dmul, 1) := by decide +kernel
theorem dL_law_339 : decode cL_law 339 = .ok (.invokestatic 81, 3) := by decide +kernel
theorem dL_law_342 : decode cL_law 342 = .ok (.istore 6, 2) := by decide +kernel
theorem dL_law_344 : decode cL_law 344 = .ok (.aload_n 2, 1) := by decide +kernel
theorem dL_law_345 : decode cL_law 345 = .ok (.aload_n 0, 1) := by decide +kernel
theorem dL_law_346 : decode cL_law 346 = .ok (.iload 5, 2) := by decide +kernel
theorem dL_law_348 : decode cL_law 348 = .ok (.iconst 1, 1) := by decide +kernel
theorem dL_law_349 : decode cL_law 349 = .ok (.iadd, 1) := by decide +kernel
theorem dL_law_350 : decode cL_law 350 = .ok (.iaload, 1) := by decide +kernel
theorem dL_law_351 : decode cL_law 351 = .ok (.i2d, 1) := by decide +kernel
theorem dL_law_352 : decode cL_law 352 = .ok (.ldc2_w 71, 3) := by decide +kernel
theorem dL_law_355 : decode cL_law 355 = .ok (.dmul, 1) := by decide +kernel
theorem dL_law_356 : decode cL_law 356 = .ok (.aload_n 0, 1) := by decide +kernel
theorem dL_law_357 : decode cL_law 357 = .ok (.iload 5, 2) := by decide +kernel
theorem dL_law_359 : decode cL_law 359 = .ok (.iconst 2, 1) := by decide +kernel
theorem dL_law_360 : decode cL_law 360 = .ok (.iadd, 1) := by decide +kernel
theorem dL_law_361 : decode cL_law 361 = .ok (.iaload, 1) := by decide +kernel
theorem dL_law_362 : decode cL_law 362 = .ok (.i2d, 1) := by decide +kernel
theorem dL_law_363 : decode cL_law 363 = .ok (.ldc2_w 71, 3) := by decide +kernel
theorem dL_law_366 : decode cL_law 366 = .ok (.dmul, 1) := by decide +kernel
theorem dL_law_367 : decode cL_law 367 = .ok (.invokevirtual 84, 3) := by decide +kernel
theorem dL_law_370 : decode cL_law 370 = .ok (.aload_n 2, 1) := by decide +kernel
theorem dL_law_371 : decode cL_law 371 = .ok (.invokevirtual 67, 3) := by decide +kernel
theorem dL_law_374 : decode cL_law 374 = .ok (.iload 6, 2) := by decide +kernel
theorem dL_law_376 : decode cL_law 376 = .ok (.if_icmp .eq 5, 3) := by decide +kernel
theorem dL_law_379 : decode cL_law 379 = .ok (.iconst 0, 1) := by decide +kernel
theorem dL_law_380 : decode cL_law 380 = .ok (.ireturn, 1) := by decide +kernel
theorem dL_law_381 : decode cL_law 381 = .ok (.goto 641, 3) := by decide +kernel
theorem dL_law_384 : decode cL_law 384 = .ok (.aload_n 1, 1) := by decide +kernel
theorem dL_law_385 : decode cL_law 385 = .ok (.aload_n 0, 1) := by decide +kernel
theorem dL_law_386 : decode cL_law 386 = .ok (.iload 5, 2) := by decide +kernel
theorem dL_law_388 : decode cL_law 388 = .ok (.iconst 1, 1) := by decide +kernel
theorem dL_law_389 : decode cL_law 389 = .ok (.iadd, 1) := by decide +kernel
theorem dL_law_390 : decode cL_law 390 = .ok (.iaload, 1) := by decide +kernel
theorem dL_law_391 : decode cL_law 391 = .ok (.invokestatic 85, 3) := by decide +kernel
theorem dL_law_394 : decode cL_law 394 = .ok (.istore 6, 2) := by decide +kernel
theorem dL_law_396 : decode cL_law 396 = .ok (.aload_n 2, 1) := by decide +kernel
theorem dL_law_397 : decode cL_law 397 = .ok (.aload_n 0, 1) := by decide +kernel
theorem dL_law_398 : decode cL_law 398 = .ok (.iload 5, 2) := by decide +kernel
theorem dL_law_400 : decode cL_law 400 = .ok (.iconst 1, 1) := by decide +kernel
theorem dL_law_401 : decode cL_law 401 = .ok (.iadd, 1) := by decide +kernel
theorem dL_law_402 : decode cL_law 402 = .ok (.iaload, 1) := by decide +kernel
theorem dL_law_403 : decode cL_law 403 = .ok (.invokevirtual 87, 3) := by decide +kernel
theorem dL_law_406 : decode cL_law 406 = .ok (.aload_n 2, 1) := by decide +kernel
theorem dL_law_407 : decode cL_law 407 = .ok (.invokevirtual 67, 3) := by decide +kernel
theorem dL_law_410 : decode cL_law 410 = .ok (.iload 6, 2) := by decide +kernel
theorem dL_law_412 : decode cL_law 412 = .ok (.if_icmp .eq 5, 3) := by decide +kernel
theorem dL_law_415 : decode cL_law 415 = .ok (.iconst 0, 1) := by decide +kernel
theorem dL_law_416 : decode cL_law 416 = .ok (.ireturn, 1) := by decide +kernel
theorem dL_law_417 : decode cL_law 417 = .ok (.goto 605, 3) := by decide +kernel
theorem dL_law_420 : decode cL_law 420 = .ok (.aload_n 1, 1) := by decide +kernel
theorem dL_law_421 : decode cL_law 421 = .ok (.aload_n 0, 1) := by decide +kernel
theorem dL_law_422 : decode cL_law 422 = .ok (.iload 5, 2) := by decide +kernel
theorem dL_law_424 : decode cL_law 424 = .ok (.iconst 1, 1) := by decide +kernel
theorem dL_law_425 : decode cL_law 425 = .ok (.iadd, 1) := by decide +kernel
theorem dL_law_426 : decode cL_law 426 = .ok (.iaload, 1) := by decide +kernel
theorem dL_law_427 : decode cL_law 427 = .ok (.aload_n 0, 1) := by decide +kernel
theorem dL_law_428 : decode cL_law 428 = .ok (.iload 5, 2) := by decide +kernel
theorem dL_law_430 : decode cL_law 430 = .ok (.iconst 2, 1) := by decide +kernel
theorem dL_law_431 : decode cL_law 431 = .ok (.iadd, 1) := by decide +kernel
theorem dL_law_432 : decode cL_law 432 = .ok (.iaload, 1) := by decide +kernel
theorem dL_law_433 : decode cL_law 433 = .ok (.i2d, 1) := by decide +kernel
theorem dL_law_434 : decode cL_law 434 = .ok (.ldc2_w 71, 3) := by decide +kernel
theorem dL_law_437 : decode cL_law 437 = .ok (.dmul, 1) := by decide +kernel
theorem dL_law_438 : decode cL_law 438 = .ok (.aload_n 3, 1) := by decide +kernel
theorem dL_law_439 : decode cL_law 439 = .ok (.invokestatic 88, 3) := by decide +kernel
theorem dL_law_442 : decode cL_law 442 = .ok (.istore 6, 2) := by decide +kernel
theorem dL_law_444 : decode cL_law 444 = .ok (.aload_n 2, 1) := by decide +kernel
theorem dL_law_445 : decode cL_law 445 = .ok (.aload_n 0, 1) := by decide +kernel
theorem dL_law_446 : decode cL_law 446 = .ok (.iload 5, 2) := by decide +kernel
theorem dL_law_448 : decode cL_law 448 = .ok (.iconst 1, 1) := by decide +kernel
theorem dL_law_449 : decode cL_law 449 = .ok (.iadd, 1) := by decide +kernel
theorem dL_law_450 : decode cL_law 450 = .ok (.iaload, 1) := by decide +kernel
theorem dL_law_451 : decode cL_law 451 = .ok (.aload_n 0, 1) := by decide +kernel
theorem dL_law_452 : decode cL_law 452 = .ok (.iload 5, 2) := by decide +kernel
theorem dL_law_454 : decode cL_law 454 = .ok (.iconst 2, 1) := by decide +kernel
theorem dL_law_455 : decode cL_law 455 = .ok (.iadd, 1) := by decide +kernel
theorem dL_law_456 : decode cL_law 456 = .ok (.iaload, 1) := by decide +kernel
theorem dL_law_457 : decode cL_law 457 = .ok (.i2d, 1) := by decide +kernel
theorem dL_law_458 : decode cL_law 458 = .ok (.ldc2_w 71, 3) := by decide +kernel
theorem dL_law_461 : decode cL_law 461 = .ok (.dmul, 1) := by decide +kernel
theorem dL_law_462 : decode cL_law 462 = .ok (.invokevirtual 91, 3) := by decide +kernel
theorem dL_law_465 : decode cL_law 465 = .ok (.istore 7, 2) := by decide +kernel
theorem dL_law_467 : decode cL_law 467 = .ok (.aload_n 2, 1) := by decide +kernel
theorem dL_law_468 : decode cL_law 468 = .ok (.invokevirtual 67, 3) := by decide +kernel
theorem dL_law_471 : decode cL_law 471 = .ok (.iload 6, 2) := by decide +kernel
theorem dL_law_473 : decode cL_law 473 = .ok (.if_icmp .eq 5, 3) := by decide +kernel
theorem dL_law_476 : decode cL_law 476 = .ok (.iconst 0, 1) := by decide +kernel
theorem dL_law_477 : decode cL_law 477 = .ok (.ireturn, 1) := by decide +kernel
theorem dL_law_478 : decode cL_law 478 = .ok (.iload 6, 2) := by decide +kernel
theorem dL_law_480 : decode cL_law 480 = .ok (.ifCond .ne 15, 3) := by decide +kernel
theorem dL_law_483 : decode cL_law 483 = .ok (.aload_n 3, 1) := by decide +kernel
theorem dL_law_484 : decode cL_law 484 = .ok (.iconst 0, 1) := by decide +kernel
theorem dL_law_485 : decode cL_law 485 = .ok (.laload, 1) := by decide +kernel
theorem dL_law_486 : decode cL_law 486 = .ok (.iload 7, 2) := by decide +kernel
theorem dL_law_488 : decode cL_law 488 = .ok (.i2l, 1) := by decide +kernel
theorem dL_law_489 : decode cL_law 489 = .ok (.lcmp, 1) := by decide +kernel
theorem dL_law_490 : decode cL_law 490 = .ok (.ifCond .eq 5, 3) := by decide +kernel
theorem dL_law_493 : decode cL_law 493 = .ok (.iconst 0, 1) := by decide +kernel
theorem dL_law_494 : decode cL_law 494 = .ok (.ireturn, 1) := by decide +kernel
theorem dL_law_495 : decode cL_law 495 = .ok (.goto 527, 3) := by decide +kernel
theorem dL_law_498 : decode cL_law 498 = .ok (.aload_n 1, 1) := by decide +kernel
theorem dL_law_499 : decode cL_law 499 = .ok (.aload_n 0, 1) := by decide +kernel
theorem dL_law_500 : decode cL_law 500 = .ok (.iload 5, 2) := by decide +kernel
theorem dL_law_502 : decode cL_law 502 = .ok (.iconst 1, 1) := by decide +kernel
theorem dL_law_503 : decode cL_law 503 = .ok (.iadd, 1) := by decide +kernel
theorem dL_law_504 : decode cL_law 504 = .ok (.iaload, 1) := by decide +kernel
theorem dL_law_505 : decode cL_law 505 = .ok (.aload_n 0, 1) := by decide +kernel
theorem dL_law_506 : decode cL_law 506 = .ok (.iload 5, 2) := by decide +kernel
theorem dL_law_508 : decode cL_law 508 = .ok (.iconst 2, 1) := by decide +kernel
theorem dL_law_509 : decode cL_law 509 = .ok (.iadd, 1) := by decide +kernel
theorem dL_law_510 : decode cL_law 510 = .ok (.iaload, 1) := by decide +kernel
theorem dL_law_511 : decode cL_law 511 = .ok (.i2d, 1) := by decide +kernel
theorem dL_law_512 : decode cL_law 512 = .ok (.ldc2_w 71, 3) := by decide +kernel
theorem dL_law_515 : decode cL_law 515 = .ok (.dmul, 1) := by decide +kernel
theorem dL_law_516 : decode cL_law 516 = .ok (.invokestatic 92, 3) := by decide +kernel
theorem dL_law_519 : decode cL_law 519 = .ok (.istore 6, 2) := by decide +kernel
theorem dL_law_521 : decode cL_law 521 = .ok (.aload_n 2, 1) := by decide +kernel
theorem dL_law_522 : decode cL_law 522 = .ok (.aload_n 0, 1) := by decide +kernel
theorem dL_law_523 : decode cL_law 523 = .ok (.iload 5, 2) := by decide +kernel
theorem dL_law_525 : decode cL_law 525 = .ok (.iconst 1, 1) := by decide +kernel
theorem dL_law_526 : decode cL_law 526 = .ok (.iadd, 1) := by decide +kernel
theorem dL_law_527 : decode cL_law 527 = .ok (.iaload, 1) := by decide +kernel
theorem dL_law_528 : decode cL_law 528 = .ok (.aload_n 0, 1) := by decide +kernel
theorem dL_law_529 : decode cL_law 529 = .ok (.iload 5, 2) := by decide +kernel
theorem dL_law_531 : decode cL_law 531 = .ok (.iconst 2, 1) := by decide +kernel
theorem dL_law_532 : decode cL_law 532 = .ok (.iadd, 1) := by decide +kernel
theorem dL_law_533 : decode cL_law 533 = .ok (.iaload, 1) := by decide +kernel
theorem dL_law_534 : decode cL_law 534 = .ok (.i2d, 1) := by decide +kernel
theorem dL_law_535 : decode cL_law 535 = .ok (.ldc2_w 71, 3) := by decide +kernel
theorem dL_law_538 : decode cL_law 538 = .ok (.dmul, 1) := by decide +kernel
theorem dL_law_539 : decode cL_law 539 = .ok (.invokevirtual 94, 3) := by decide +kernel
theorem dL_law_542 : decode cL_law 542 = .ok (.aload_n 2, 1) := by decide +kernel
theorem dL_law_543 : decode cL_law 543 = .ok (.invokevirtual 67, 3) := by decide +kernel
theorem dL_law_546 : decode cL_law 546 = .ok (.iload 6, 2) := by decide +kernel
theorem dL_law_548 : decode cL_law 548 = .ok (.if_icmp .eq 5, 3) := by decide +kernel
theorem dL_law_551 : decode cL_law 551 = .ok (.iconst 0, 1) := by decide +kernel
theorem dL_law_552 : decode cL_law 552 = .ok (.ireturn, 1) := by decide +kernel
theorem dL_law_553 : decode cL_law 553 = .ok (.goto 469, 3) := by decide +kernel
theorem dL_law_556 : decode cL_law 556 = .ok (.aload_n 1, 1) := by decide +kernel
theorem dL_law_557 : decode cL_law 557 = .ok (.invokevirtual 95, 3) := by decide +kernel
theorem dL_law_560 : decode cL_law 560 = .ok (.aload_n 2, 1) := by decide +kernel
theorem dL_law_561 : decode cL_law 561 = .ok (.invokevirtual 98, 3) := by decide +kernel
theorem dL_law_564 : decode cL_law 564 = .ok (.if_icmp .eq 458, 3) := by decide +kernel
theorem dL_law_567 : decode cL_law 567 = .ok (.iconst 0, 1) := by decide +kernel
theorem dL_law_568 : decode cL_law 568 = .ok (.ireturn, 1) := by decide +kernel
theorem dL_law_569 : decode cL_law 569 = .ok (.aload_n 1, 1) := by decide +kernel
theorem dL_law_570 : decode cL_law 570 = .ok (.aload_n 0, 1) := by decide +kernel
theorem dL_law_571 : decode cL_law 571 = .ok (.iload 5, 2) := by decide +kernel
theorem dL_law_573 : decode cL_law 573 = .ok (.iconst 1, 1) := by decide +kernel
theorem dL_law_574 : decode cL_law 574 = .ok (.iadd, 1) := by decide +kernel
theorem dL_law_575 : decode cL_law 575 = .ok (.iaload, 1) := by decide +kernel
theorem dL_law_576 : decode cL_law 576 = .ok (.aload 4, 2) := by decide +kernel
theorem dL_law_578 : decode cL_law 578 = .ok (.invokestatic 99, 3) := by decide +kernel
theorem dL_law_581 : decode cL_law 581 = .ok (.istore 6, 2) := by decide +kernel
theorem dL_law_583 : decode cL_law 583 = .ok (.aload_n 2, 1) := by decide +kernel
theorem dL_law_584 : decode cL_law 584 = .ok (.aload_n 0, 1) := by decide +kernel
theorem dL_law_585 : decode cL_law 585 = .ok (.iload 5, 2) := by decide +kernel
theorem dL_law_587 : decode cL_law 587 = .ok (.iconst 1, 1) := by decide +kernel
theorem dL_law_588 : decode cL_law 588 = .ok (.iadd, 1) := by decide +kernel
theorem dL_law_589 : decode cL_law 589 = .ok (.iaload, 1) := by decide +kernel
theorem dL_law_590 : decode cL_law 590 = .ok (.invokevirtual 102, 3) := by decide +kernel
theorem dL_law_593 : decode cL_law 593 = .ok (.dstore 7, 2) := by decide +kernel
theorem dL_law_595 : decode cL_law 595 = .ok (.aload_n 2, 1) := by decide +kernel
theorem dL_law_596 : decode cL_law 596 = .ok (.invokevirtual 67, 3) := by decide +kernel
theorem dL_law_599 : decode cL_law 599 = .ok (.iload 6, 2) := by decide +kernel
theorem dL_law_601 : decode cL_law 601 = .ok (.if_icmp .eq 5, 3) := by decide +kernel
theorem dL_law_604 : decode cL_law 604 = .ok (.iconst 0, 1) := by decide +kernel
theorem dL_law_605 : decode cL_law 605 = .ok (.ireturn, 1) := by decide +kernel
theorem dL_law_606 : decode cL_law 606 = .ok (.iload 6, 2) := by decide +kernel
theorem dL_law_608 : decode cL_law 608 = .ok (.ifCond .ne 35, 3) := by decide +kernel
theorem dL_law_611 : decode cL_law 611 = .ok (.aload 4, 2) := by decide +kernel
theorem dL_law_613 : decode cL_law 613 = .ok (.iconst 0, 1) := by decide +kernel
theorem dL_law_614 : decode cL_law 614 = .ok (.daload, 1) := by decide +kernel
theorem dL_law_615 : decode cL_law 615 = .ok (.dload 7, 2) := by decide +kernel
theorem dL_law_617 : decode cL_law 617 = .ok (.dcmp .l, 1) := by decide +kernel
theorem dL_law_618 : decode cL_law 618 = .ok (.ifCond .eq 25, 3) := by decide +kernel
theorem dL_law_621 : decode cL_law 621 = .ok (.aload 4, 2) := by decide +kernel
theorem dL_law_623 : decode cL_law 623 = .ok (.iconst 0, 1) := by decide +kernel
theorem dL_law_624 : decode cL_law 624 = .ok (.daload, 1) := by decide +kernel
theorem dL_law_625 : decode cL_law 625 = .ok (.aload 4, 2) := by decide +kernel
theorem dL_law_627 : decode cL_law 627 = .ok (.iconst 0, 1) := by decide +kernel
theorem dL_law_628 : decode cL_law 628 = .ok (.daload, 1) := by decide +kernel
theorem dL_law_629 : decode cL_law 629 = .ok (.dcmp .l, 1) := by decide +kernel
theorem dL_law_630 : decode cL_law 630 = .ok (.ifCond .eq 11, 3) := by decide +kernel
theorem dL_law_633 : decode cL_law 633 = .ok (.dload 7, 2) := by decide +kernel
theorem dL_law_635 : decode cL_law 635 = .ok (.dload 7, 2) := by decide +kernel
theorem dL_law_637 : decode cL_law 637 = .ok (.dcmp .l, 1) := by decide +kernel
theorem dL_law_638 : decode cL_law 638 = .ok (.ifCond .ne 5, 3) := by decide +kernel
theorem dL_law_641 : decode cL_law 641 = .ok (.iconst 0, 1) := by decide +kernel
theorem dL_law_642 : decode cL_law 642 = .ok (.ireturn, 1) := by decide +kernel
theorem dL_law_643 : decode cL_law 643 = .ok (.goto 379, 3) := by decide +kernel
theorem dL_law_646 : decode cL_law 646 = .ok (.aload_n 1, 1) := by decide +kernel
theorem dL_law_647 : decode cL_law 647 = .ok (.aload_n 0, 1) := by decide +kernel
theorem dL_law_648 : decode cL_law 648 = .ok (.iload 5, 2) := by decide +kernel
theorem dL_law_650 : decode cL_law 650 = .ok (.iconst 1, 1) := by decide +kernel
theorem dL_law_651 : decode cL_law 651 = .ok (.iadd, 1) := by decide +kernel
theorem dL_law_652 : decode cL_law 652 = .ok (.iaload, 1) := by decide +kernel
theorem dL_law_653 : decode cL_law 653 = .ok (.aload 4, 2) := by decide +kernel
theorem dL_law_655 : decode cL_law 655 = .ok (.invokestatic 103, 3) := by decide +kernel
theorem dL_law_658 : decode cL_law 658 = .ok (.istore 6, 2) := by decide +kernel
theorem dL_law_660 : decode cL_law 660 = .ok (.aload_n 2, 1) := by decide +kernel
theorem dL_law_661 : decode cL_law 661 = .ok (.aload_n 0, 1) := by decide +kernel
theorem dL_law_662 : decode cL_law 662 = .ok (.iload 5, 2) := by decide +kernel
theorem dL_law_664 : decode cL_law 664 = .ok (.iconst 1, 1) := by decide +kernel
theorem dL_law_665 : decode cL_law 665 = .ok (.iadd, 1) := by decide +kernel
theorem dL_law_666 : decode cL_law 666 = .ok (.iaload, 1) := by decide +kernel
theorem dL_law_667 : decode cL_law 667 = .ok (.invokevirtual 105, 3) := by decide +kernel
theorem dL_law_670 : decode cL_law 670 = .ok (.dstore 7, 2) := by decide +kernel
theorem dL_law_672 : decode cL_law 672 = .ok (.aload_n 2, 1) := by decide +kernel
theorem dL_law_673 : decode cL_law 673 = .ok (.invokevirtual 67, 3) := by decide +kernel
theorem dL_law_676 : decode cL_law 676 = .ok (.iload 6, 2) := by decide +kernel
theorem dL_law_678 : decode cL_law 678 = .ok (.if_icmp .eq 5, 3) := by decide +kernel
theorem dL_law_681 : decode cL_law 681 = .ok (.iconst 0, 1) := by decide +kernel
theorem dL_law_682 : decode cL_law 682 = .ok (.ireturn, 1) := by decide +kernel
theorem dL_law_683 : decode cL_law 683 = .ok (.iload 6, 2) := by decide +kernel
theorem dL_law_685 : decode cL_law 685 = .ok (.ifCond .ne 35, 3) := by decide +kernel
theorem dL_law_688 : decode cL_law 688 = .ok (.aload 4, 2) := by decide +kernel
theorem dL_law_690 : decode cL_law 690 = .ok (.iconst 0, 1) := by decide +kernel
theorem dL_law_691 : decode cL_law 691 = .ok (.daload, 1) := by decide +kernel
theorem dL_law_692 : decode cL_law 692 = .ok (.dload 7, 2) := by decide +kernel
theorem dL_law_694 : decode cL_law 694 = .ok (.dcmp .l, 1) := by decide +kernel
theorem dL_law_695 : decode cL_law 695 = .ok (.ifCond .eq 25, 3) := by decide +kernel
theorem dL_law_698 : decode cL_law 698 = .ok (.aload 4, 2) := by decide +kernel
theorem dL_law_700 : decode cL_law 700 = .ok (.iconst 0, 1) := by decide +kernel
theorem dL_law_701 : decode cL_law 701 = .ok (.daload, 1) := by decide +kernel
theorem dL_law_702 : decode cL_law 702 = .ok (.aload 4, 2) := by decide +kernel
theorem dL_law_704 : decode cL_law 704 = .ok (.iconst 0, 1) := by decide +kernel
theorem dL_law_705 : decode cL_law 705 = .ok (.daload, 1) := by decide +kernel
theorem dL_law_706 : decode cL_law 706 = .ok (.dcmp .l, 1) := by decide +kernel
theorem dL_law_707 : decode cL_law 707 = .ok (.ifCond .eq 11, 3) := by decide +kernel
theorem dL_law_710 : decode cL_law 710 = .ok (.dload 7, 2) := by decide +kernel
theorem dL_law_712 : decode cL_law 712 = .ok (.dload 7, 2) := by decide +kernel
theorem dL_law_714 : decode cL_law 714 = .ok (.dcmp .l, 1) := by decide +kernel
theorem dL_law_715 : decode cL_law 715 = .ok (.ifCond .ne 5, 3) := by decide +kernel
theorem dL_law_718 : decode cL_law 718 = .ok (.iconst 0, 1) := by decide +kernel
theorem dL_law_719 : decode cL_law 719 = .ok (.ireturn, 1) := by decide +kernel
theorem dL_law_720 : decode cL_law 720 = .ok (.goto 302, 3) := by decide +kernel
theorem dL_law_723 : decode cL_law 723 = .ok (.aload_n 1, 1) := by decide +kernel
theorem dL_law_724 : decode cL_law 724 = .ok (.aload_n 0, 1) := by decide +kernel
theorem dL_law_725 : decode cL_law 725 = .ok (.iload 5, 2) := by decide +kernel
theorem dL_law_727 : decode cL_law 727 = .ok (.iconst 1, 1) := by decide +kernel
theorem dL_law_728 : decode cL_law 728 = .ok (.iadd, 1) := by decide +kernel
theorem dL_law_729 : decode cL_law 729 = .ok (.iaload, 1) := by decide +kernel
theorem dL_law_730 : decode cL_law 730 = .ok (.aload 4, 2) := by decide +kernel
theorem dL_law_732 : decode cL_law 732 = .ok (.invokestatic 106, 3) := by decide +kernel
theorem dL_law_735 : decode cL_law 735 = .ok (.istore 6, 2) := by decide +kernel
theorem dL_law_737 : decode cL_law 737 = .ok (.aload_n 2, 1) := by decide +kernel
theorem dL_law_738 : decode cL_law 738 = .ok (.aload_n 0, 1) := by decide +kernel
theorem dL_law_739 : decode cL_law 739 = .ok (.iload 5, 2) := by decide +kernel
theorem dL_law_741 : decode cL_law 741 = .ok (.iconst 1, 1) := by decide +kernel
theorem dL_law_742 : decode cL_law 742 = .ok (.iadd, 1) := by decide +kernel
theorem dL_law_743 : decode cL_law 743 = .ok (.iaload, 1) := by decide +kernel
theorem dL_law_744 : decode cL_law 744 = .ok (.invokevirtual 108, 3) := by decide +kernel
theorem dL_law_747 : decode cL_law 747 = .ok (.dstore 7, 2) := by decide +kernel
theorem dL_law_749 : decode cL_law 749 = .ok (.aload_n 2, 1) := by decide +kernel
theorem dL_law_750 : decode cL_law 750 = .ok (.invokevirtual 67, 3) := by decide +kernel
theorem dL_law_753 : decode cL_law 753 = .ok (.iload 6, 2) := by decide +kernel
theorem dL_law_755 : decode cL_law 755 = .ok (.if_icmp .eq 5, 3) := by decide +kernel
theorem dL_law_758 : decode cL_law 758 = .ok (.iconst 0, 1) := by decide +kernel
theorem dL_law_759 : decode cL_law 759 = .ok (.ireturn, 1) := by decide +kernel
theorem dL_law_760 : decode cL_law 760 = .ok (.iload 6, 2) := by decide +kernel
theorem dL_law_762 : decode cL_law 762 = .ok (.ifCond .ne 35, 3) := by decide +kernel
theorem dL_law_765 : decode cL_law 765 = .ok (.aload 4, 2) := by decide +kernel
theorem dL_law_767 : decode cL_law 767 = .ok (.iconst 0, 1) := by decide +kernel
theorem dL_law_768 : decode cL_law 768 = .ok (.daload, 1) := by decide +kernel
theorem dL_law_769 : decode cL_law 769 = .ok (.dload 7, 2) := by decide +kernel
theorem dL_law_771 : decode cL_law 771 = .ok (.dcmp .l, 1) := by decide +kernel
theorem dL_law_772 : decode cL_law 772 = .ok (.ifCond .eq 25, 3) := by decide +kernel
theorem dL_law_775 : decode cL_law 775 = .ok (.aload 4, 2) := by decide +kernel
theorem dL_law_777 : decode cL_law 777 = .ok (.iconst 0, 1) := by decide +kernel
theorem dL_law_778 : decode cL_law 778 = .ok (.daload, 1) := by decide +kernel
theorem dL_law_779 : decode cL_law 779 = .ok (.aload 4, 2) := by decide +kernel
theorem dL_law_781 : decode cL_law 781 = .ok (.iconst 0, 1) := by decide +kernel
theorem dL_law_782 : decode cL_law 782 = .ok (.daload, 1) := by decide +kernel
theorem dL_law_783 : decode cL_law 783 = .ok (.dcmp .l, 1) := by decide +kernel
theorem dL_law_784 : decode cL_law 784 = .ok (.ifCond .eq 11, 3) := by decide +kernel
theorem dL_law_787 : decode cL_law 787 = .ok (.dload 7, 2) := by decide +kernel
theorem dL_law_789 : decode cL_law 789 = .ok (.dload 7, 2) := by decide +kernel
theorem dL_law_791 : decode cL_law 791 = .ok (.dcmp .l, 1) := by decide +kernel
theorem dL_law_792 : decode cL_law 792 = .ok (.ifCond .ne 5, 3) := by decide +kernel
theorem dL_law_795 : decode cL_law 795 = .ok (.iconst 0, 1) := by decide +kernel
theorem dL_law_796 : decode cL_law 796 = .ok (.ireturn, 1) := by decide +kernel
theorem dL_law_797 : decode cL_law 797 = .ok (.goto 225, 3) := by decide +kernel
theorem dL_law_800 : decode cL_law 800 = .ok (.aload_n 1, 1) := by decide +kernel
theorem dL_law_801 : decode cL_law 801 = .ok (.aload_n 0, 1) := by decide +kernel
theorem dL_law_802 : decode cL_law 802 = .ok (.iload 5, 2) := by decide +kernel
theorem dL_law_804 : decode cL_law 804 = .ok (.iconst 1, 1) := by decide +kernel
theorem dL_law_805 : decode cL_law 805 = .ok (.iadd, 1) := by decide +kernel
theorem dL_law_806 : decode cL_law 806 = .ok (.iaload, 1) := by decide +kernel
theorem dL_law_807 : decode cL_law 807 = .ok (.aload_n 0, 1) := by decide +kernel
theorem dL_law_808 : decode cL_law 808 = .ok (.iload 5, 2) := by decide +kernel
theorem dL_law_810 : decode cL_law 810 = .ok (.iconst 2, 1) := by decide +kernel
theorem dL_law_811 : decode cL_law 811 = .ok (.iadd, 1) := by decide +kernel
theorem dL_law_812 : decode cL_law 812 = .ok (.iaload, 1) := by decide +kernel
theorem dL_law_813 : decode cL_law 813 = .ok (.i2d, 1) := by decide +kernel
theorem dL_law_814 : decode cL_law 814 = .ok (.ldc2_w 71, 3) := by decide +kernel
theorem dL_law_817 : decode cL_law 817 = .ok (.dmul, 1) := by decide +kernel
theorem dL_law_818 : decode cL_law 818 = .ok (.aload 4, 2) := by decide +kernel
theorem dL_law_820 : decode cL_law 820 = .ok (.invokestatic 109, 3) := by decide +kernel
theorem dL_law_823 : decode cL_law 823 = .ok (.istore 6, 2) := by decide +kernel
theorem dL_law_825 : decode cL_law 825 = .ok (.aload_n 2, 1) := by decide +kernel
theorem dL_law_826 : decode cL_law 826 = .ok (.aload_n 0, 1) := by decide +kernel
theorem dL_law_827 : decode cL_law 827 = .ok (.iload 5, 2) := by decide +kernel
theorem dL_law_829 : decode cL_law 829 = .ok (.iconst 1, 1) := by decide +kernel
theorem dL_law_830 : decode cL_law 830 = .ok (.iadd, 1) := by decide +kernel
theorem dL_law_831 : decode cL_law 831 = .ok (.iaload, 1) := by decide +kernel
theorem dL_law_832 : decode cL_law 832 = .ok (.aload_n 0, 1) := by decide +kernel
theorem dL_law_833 : decode cL_law 833 = .ok (.iload 5, 2) := by decide +kernel
theorem dL_law_835 : decode cL_law 835 = .ok (.iconst 2, 1) := by decide +kernel
theorem dL_law_836 : decode cL_law 836 = .ok (.iadd, 1) := by decide +kernel
theorem dL_law_837 : decode cL_law 837 = .ok (.iaload, 1) := by decide +kernel
theorem dL_law_838 : decode cL_law 838 = .ok (.i2d, 1) := by decide +kernel
theorem dL_law_839 : decode cL_law 839 = .ok (.ldc2_w 71, 3) := by decide +kernel
theorem dL_law_842 : decode cL_law 842 = .ok (.dmul, 1) := by decide +kernel
theorem dL_law_843 : decode cL_law 843 = .ok (.invokevirtual 112, 3) := by decide +kernel
theorem dL_law_846 : decode cL_law 846 = .ok (.dstore 7, 2) := by decide +kernel
theorem dL_law_848 : decode cL_law 848 = .ok (.aload_n 2, 1) := by decide +kernel
theorem dL_law_849 : decode cL_law 849 = .ok (.invokevirtual 67, 3) := by decide +kernel
theorem dL_law_852 : decode cL_law 852 = .ok (.iload 6, 2) := by decide +kernel
theorem dL_law_854 : decode cL_law 854 = .ok (.if_icmp .eq 5, 3) := by decide +kernel
theorem dL_law_857 : decode cL_law 857 = .ok (.iconst 0, 1) := by decide +kernel
theorem dL_law_858 : decode cL_law 858 = .ok (.ireturn, 1) := by decide +kernel
theorem dL_law_859 : decode cL_law 859 = .ok (.iload 6, 2) := by decide +kernel
theorem dL_law_861 : decode cL_law 861 = .ok (.ifCond .ne 35, 3) := by decide +kernel
theorem dL_law_864 : decode cL_law 864 = .ok (.aload 4, 2) := by decide +kernel
theorem dL_law_866 : decode cL_law 866 = .ok (.iconst 0, 1) := by decide +kernel
theorem dL_law_867 : decode cL_law 867 = .ok (.daload, 1) := by decide +kernel
theorem dL_law_868 : decode cL_law 868 = .ok (.dload 7, 2) := by decide +kernel
theorem dL_law_870 : decode cL_law 870 = .ok (.dcmp .l, 1) := by decide +kernel
theorem dL_law_871 : decode cL_law 871 = .ok (.ifCond .eq 25, 3) := by decide +kernel
theorem dL_law_874 : decode cL_law 874 = .ok (.aload 4, 2) := by decide +kernel
theorem dL_law_876 : decode cL_law 876 = .ok (.iconst 0, 1) := by decide +kernel
theorem dL_law_877 : decode cL_law 877 = .ok (.daload, 1) := by decide +kernel
theorem dL_law_878 : decode cL_law 878 = .ok (.aload 4, 2) := by decide +kernel
theorem dL_law_880 : decode cL_law 880 = .ok (.iconst 0, 1) := by decide +kernel
theorem dL_law_881 : decode cL_law 881 = .ok (.daload, 1) := by decide +kernel
theorem dL_law_882 : decode cL_law 882 = .ok (.dcmp .l, 1) := by decide +kernel
theorem dL_law_883 : decode cL_law 883 = .ok (.ifCond .eq 11, 3) := by decide +kernel
theorem dL_law_886 : decode cL_law 886 = .ok (.dload 7, 2) := by decide +kernel
theorem dL_law_888 : decode cL_law 888 = .ok (.dload 7, 2) := by decide +kernel
theorem dL_law_890 : decode cL_law 890 = .ok (.dcmp .l, 1) := by decide +kernel
theorem dL_law_891 : decode cL_law 891 = .ok (.ifCond .ne 5, 3) := by decide +kernel
theorem dL_law_894 : decode cL_law 894 = .ok (.iconst 0, 1) := by decide +kernel
theorem dL_law_895 : decode cL_law 895 = .ok (.ireturn, 1) := by decide +kernel
theorem dL_law_896 : decode cL_law 896 = .ok (.goto 126, 3) := by decide +kernel
theorem dL_law_899 : decode cL_law 899 = .ok (.aload_n 1, 1) := by decide +kernel
theorem dL_law_900 : decode cL_law 900 = .ok (.invokevirtual 113, 3) := by decide +kernel
theorem dL_law_903 : decode cL_law 903 = .ok (.dstore 6, 2) := by decide +kernel
theorem dL_law_905 : decode cL_law 905 = .ok (.aload_n 2, 1) := by decide +kernel
theorem dL_law_906 : decode cL_law 906 = .ok (.invokevirtual 117, 3) := by decide +kernel
theorem dL_law_909 : decode cL_law 909 = .ok (.dstore 8, 2) := by decide +kernel
theorem dL_law_911 : decode cL_law 911 = .ok (.dload 6, 2) := by decide +kernel
theorem dL_law_913 : decode cL_law 913 = .ok (.dload 8, 2) := by decide +kernel
theorem dL_law_915 : decode cL_law 915 = .ok (.dcmp .l, 1) := by decide +kernel
theorem dL_law_916 : decode cL_law 916 = .ok (.ifCond .eq 21, 3) := by decide +kernel
theorem dL_law_919 : decode cL_law 919 = .ok (.dload 6, 2) := by decide +kernel
theorem dL_law_921 : decode cL_law 921 = .ok (.dload 6, 2) := by decide +kernel
theorem dL_law_923 : decode cL_law 923 = .ok (.dcmp .l, 1) := by decide +kernel
theorem dL_law_924 : decode cL_law 924 = .ok (.ifCond .eq 11, 3) := by decide +kernel
theorem dL_law_927 : decode cL_law 927 = .ok (.dload 8, 2) := by decide +kernel
theorem dL_law_929 : decode cL_law 929 = .ok (.dload 8, 2) := by decide +kernel
theorem dL_law_931 : decode cL_law 931 = .ok (.dcmp .l, 1) := by decide +kernel
theorem dL_law_932 : decode cL_law 932 = .ok (.ifCond .ne 5, 3) := by decide +kernel
theorem dL_law_935 : decode cL_law 935 = .ok (.iconst 0, 1) := by decide +kernel
theorem dL_law_936 : decode cL_law 936 = .ok (.ireturn, 1) := by decide +kernel
theorem dL_law_937 : decode cL_law 937 = .ok (.goto 85, 3) := by decide +kernel
theorem dL_law_940 : decode cL_law 940 = .ok (.aload_n 1, 1) := by decide +kernel
theorem dL_law_941 : decode cL_law 941 = .ok (.invokevirtual 118, 3) := by decide +kernel
theorem dL_law_944 : decode cL_law 944 = .ok (.dstore 6, 2) := by decide +kernel
theorem dL_law_946 : decode cL_law 946 = .ok (.aload_n 2, 1) := by decide +kernel
theorem dL_law_947 : decode cL_law 947 = .ok (.invokevirtual 121, 3) := by decide +kernel
theorem dL_law_950 : decode cL_law 950 = .ok (.dstore 8, 2) := by decide +kernel
theorem dL_law_952 : decode cL_law 952 = .ok (.dload 6, 2) := by decide +kernel
theorem dL_law_954 : decode cL_law 954 = .ok (.dload 8, 2) := by decide +kernel
theorem dL_law_956 : decode cL_law 956 = .ok (.dcmp .l, 1) := by decide +kernel
theorem dL_law_957 : decode cL_law 957 = .ok (.ifCond .eq 21, 3) := by decide +kernel
theorem dL_law_960 : decode cL_law 960 = .ok (.dload 6, 2) := by decide +kernel
theorem dL_law_962 : decode cL_law 962 = .ok (.dload 6, 2) := by decide +kernel
theorem dL_law_964 : decode cL_law 964 = .ok (.dcmp .l, 1) := by decide +kernel
theorem dL_law_965 : decode cL_law 965 = .ok (.ifCond .eq 11, 3) := by decide +kernel
theorem dL_law_968 : decode cL_law 968 = .ok (.dload 8, 2) := by decide +kernel
theorem dL_law_970 : decode cL_law 970 = .ok (.dload 8, 2) := by decide +kernel
theorem dL_law_972 : decode cL_law 972 = .ok (.dcmp .l, 1) := by decide +kernel
theorem dL_law_973 : decode cL_law 973 = .ok (.ifCond .ne 5, 3) := by decide +kernel
theorem dL_law_976 : decode cL_law 976 = .ok (.iconst 0, 1) := by decide +kernel
theorem dL_law_977 : decode cL_law 977 = .ok (.ireturn, 1) := by decide +kernel
theorem dL_law_978 : decode cL_law 978 = .ok (.goto 44, 3) := by decide +kernel
theorem dL_law_981 : decode cL_law 981 = .ok (.aload_n 1, 1) := by decide +kernel
theorem dL_law_982 : decode cL_law 982 = .ok (.aload_n 0, 1) := by decide +kernel
theorem dL_law_983 : decode cL_law 983 = .ok (.iload 5, 2) := by decide +kernel
theorem dL_law_985 : decode cL_law 985 = .ok (.iconst 1, 1) := by decide +kernel
theorem dL_law_986 : decode cL_law 986 = .ok (.iadd, 1) := by decide +kernel
theorem dL_law_987 : decode cL_law 987 = .ok (.iaload, 1) := by decide +kernel
theorem dL_law_988 : decode cL_law 988 = .ok (.ifCond .eq 7, 3) := by decide +kernel
theorem dL_law_991 : decode cL_law 991 = .ok (.iconst 1, 1) := by decide +kernel
theorem dL_law_992 : decode cL_law 992 = .ok (.goto 4, 3) := by decide +kernel
theorem dL_law_995 : decode cL_law 995 = .ok (.iconst 0, 1) := by decide +kernel
theorem dL_law_996 : decode cL_law 996 = .ok (.invokevirtual 122, 3) := by decide +kernel
theorem dL_law_999 : decode cL_law 999 = .ok (.aload_n 2, 1) := by decide +kernel
theorem dL_law_1000 : decode cL_law 1000 = .ok (.aload_n 0, 1) := by decide +kernel
theorem dL_law_1001 : decode cL_law 1001 = .ok (.iload 5, 2) := by decide +kernel
theorem dL_law_1003 : decode cL_law 1003 = .ok (.iconst 1, 1) := by decide +kernel
theorem dL_law_1004 : decode cL_law 1004 = .ok (.iadd, 1) := by decide +kernel
theorem dL_law_1005 : decode cL_law 1005 = .ok (.iaload, 1) := by decide +kernel
theorem dL_law_1006 : decode cL_law 1006 = .ok (.ifCond .eq 7, 3) := by decide +kernel
theorem dL_law_1009 : decode cL_law 1009 = .ok (.iconst 1, 1) := by decide +kernel
theorem dL_law_1010 : decode cL_law 1010 = .ok (.goto 4, 3) := by decide +kernel
theorem dL_law_1013 : decode cL_law 1013 = .ok (.iconst 0, 1) := by decide +kernel
theorem dL_law_1014 : decode cL_law 1014 = .ok (.invokevirtual 126, 3) := by decide +kernel
theorem dL_law_1017 : decode cL_law 1017 = .ok (.if_icmp .eq 5, 3) := by decide +kernel
theorem dL_law_1020 : decode cL_law 1020 = .ok (.iconst 0, 1) := by decide +kernel
theorem dL_law_1021 : decode cL_law 1021 = .ok (.ireturn, 1) := by decide +kernel
theorem dL_law_1022 : decode cL_law 1022 = .ok (.iinc 5 5, 3) := by decide +kernel
theorem dL_law_1025 : decode cL_law 1025 = .ok (.goto (-997), 3) := by decide +kernel
theorem dL_law_1028 : decode cL_law 1028 = .ok (.iconst 1, 1) := by decide +kernel
theorem dL_law_1029 : decode cL_law 1029 = .ok (.ireturn, 1) := by decide +kernel
