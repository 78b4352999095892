theorem dX7_run_85 : decode cX7_run 85 = .ok (.bipush 41, 2) := by decide +kernel
theorem dX7_run_87 : decode cX7_run 87 = .ok (.if_icmp .ne 8, 3) := by decide +kernel
theorem dX7_run_90 : decode cX7_run 90 = .ok (.iload 6, 2) := by decide +kernel
theorem dX7_run_92 : decode cX7_run 92 = .ok (.ifCond .eq 7, 3) := by decide +kernel
theorem dX7_run_95 : decode cX7_run 95 = .ok (.iconst 1, 1) := by decide +kernel
theorem dX7_run_96 : decode cX7_run 96 = .ok (.goto 4, 3) := by decide +kernel
theorem dX7_run_99 : decode cX7_run 99 = .ok (.iconst 0, 1) := by decide +kernel
theorem dX7_run_100 : decode cX7_run 100 = .ok (.istore 7, 2) := by decide +kernel
theorem dX7_run_102 : decode cX7_run 102 = .ok (.iload 7, 2) := by decide +kernel
theorem dX7_run_104 : decode cX7_run 104 = .ok (.ifCond .eq 19, 3) := by decide +kernel
theorem dX7_run_107 : decode cX7_run 107 = .ok (.iload_n 1, 1) := by decide +kernel
theorem dX7_run_108 : decode cX7_run 108 = .ok (.sipush 200, 3) := by decide +kernel
theorem dX7_run_111 : decode cX7_run 111 = .ok (.if_icmp .ne 12, 3) := by decide +kernel
theorem dX7_run_114 : decode cX7_run 114 = .ok (.aload_n 0, 1) := by decide +kernel
theorem dX7_run_115 : decode cX7_run 115 = .ok (.getfield 128, 3) := by decide +kernel
theorem dX7_run_118 : decode cX7_run 118 = .ok (.istore 4, 2) := by decide +kernel
theorem dX7_run_120 : decode cX7_run 120 = .ok (.goto 116, 3) := by decide +kernel
theorem dX7_run_123 : decode cX7_run 123 = .ok (.iload 5, 2) := by decide +kernel
theorem dX7_run_125 : decode cX7_run 125 = .ok (.bipush 40, 2) := by decide +kernel
theorem dX7_run_127 : decode cX7_run 127 = .ok (.if_icmp .ne 32, 3) := by decide +kernel
theorem dX7_run_130 : decode cX7_run 130 = .ok (.aload_n 0, 1) := by decide +kernel
theorem dX7_run_131 : decode cX7_run 131 = .ok (.getfield 32, 3) := by decide +kernel
theorem dX7_run_134 : decode cX7_run 134 = .ok (.iload_n 3, 1) := by decide +kernel
theorem dX7_run_135 : decode cX7_run 135 = .ok (.aload_n 0, 1) := by decide +kernel
theorem dX7_run_136 : decode cX7_run 136 = .ok (.getfield 26, 3) := by decide +kernel
theorem dX7_run_139 : decode cX7_run 139 = .ok (.iconst 4, 1) := by decide +kernel
theorem dX7_run_140 : decode cX7_run 140 = .ok (.iload 4, 2) := by decide +kernel
theorem dX7_run_142 : decode cX7_run 142 = .ok (.imul, 1) := by decide +kernel
theorem dX7_run_143 : decode cX7_run 143 = .ok (.iconst 1, 1) := by decide +kernel
theorem dX7_run_144 : decode cX7_run 144 = .ok (.iadd, 1) := by decide +kernel
theorem dX7_run_145 : decode cX7_run 145 = .ok (.iaload, 1) := by decide +kernel
theorem dX7_run_146 : decode cX7_run 146 = .ok (.iastore, 1) := by decide +kernel
theorem dX7_run_147 : decode cX7_run 147 = .ok (.iinc 3 1, 3) := by decide +kernel
theorem dX7_run_150 : decode cX7_run 150 = .ok (.iinc 1 1, 3) := by decide +kernel
theorem dX7_run_153 : decode cX7_run 153 = .ok (.iinc 4 1, 3) := by decide +kernel
theorem dX7_run_156 : decode cX7_run 156 = .ok (.goto 80, 3) := by decide +kernel
theorem dX7_run_159 : decode cX7_run 159 = .ok (.iload 6, 2) := by decide +kernel
theorem dX7_run_161 : decode cX7_run 161 = .ok (.ifCond .eq 36, 3) := by decide +kernel
theorem dX7_run_164 : decode cX7_run 164 = .ok (.aload_n 0, 1) := by decide +kernel
theorem dX7_run_165 : decode cX7_run 165 = .ok (.getfield 32, 3) := by decide +kernel
theorem dX7_run_168 : decode cX7_run 168 = .ok (.iload_n 3, 1) := by decide +kernel
theorem dX7_run_169 : decode cX7_run 169 = .ok (.iconst 1, 1) := by decide +kernel
theorem dX7_run_170 : decode cX7_run 170 = .ok (.isub, 1) := by decide +kernel
theorem dX7_run_171 : decode cX7_run 171 = .ok (.dup2, 1) := by decide +kernel
theorem dX7_run_172 : decode cX7_run 172 = .ok (.iaload, 1) := by decide +kernel
theorem dX7_run_173 : decode cX7_run 173 = .ok (.iconst 1, 1) := by decide +kernel
theorem dX7_run_174 : decode cX7_run 174 = .ok (.isub, 1) := by decide +kernel
theorem dX7_run_175 : decode cX7_run 175 = .ok (.iastore, 1) := by decide +kernel
theorem dX7_run_176 : decode cX7_run 176 = .ok (.iinc 1 1, 3) := by decide +kernel
theorem dX7_run_179 : decode cX7_run 179 = .ok (.aload_n 0, 1) := by decide +kernel
theorem dX7_run_180 : decode cX7_run 180 = .ok (.getfield 26, 3) := by decide +kernel
theorem dX7_run_183 : decode cX7_run 183 = .ok (.iconst 4, 1) := by decide +kernel
theorem dX7_run_184 : decode cX7_run 184 = .ok (.iload 4, 2) := by decide +kernel
theorem dX7_run_186 : decode cX7_run 186 = .ok (.imul, 1) := by decide +kernel
theorem dX7_run_187 : decode cX7_run 187 = .ok (.iconst 1, 1) := by decide +kernel
theorem dX7_run_188 : decode cX7_run 188 = .ok (.iadd, 1) := by decide +kernel
theorem dX7_run_189 : decode cX7_run 189 = .ok (.iaload, 1) := by decide +kernel
theorem dX7_run_190 : decode cX7_run 190 = .ok (.iconst 1, 1) := by decide +kernel
theorem dX7_run_191 : decode cX7_run 191 = .ok (.iadd, 1) := by decide +kernel
theorem dX7_run_192 : decode cX7_run 192 = .ok (.istore 4, 2) := by decide +kernel
theorem dX7_run_194 : decode cX7_run 194 = .ok (.goto 42, 3) := by decide +kernel
theorem dX7_run_197 : decode cX7_run 197 = .ok (.iload 5, 2) := by decide +kernel
theorem dX7_run_199 : decode cX7_run 199 = .ok (.bipush 41, 2) := by decide +kernel
theorem dX7_run_201 : decode cX7_run 201 = .ok (.if_icmp .ne 12, 3) := by decide +kernel
theorem dX7_run_204 : decode cX7_run 204 = .ok (.iinc 3 (-1), 3) := by decide +kernel
theorem dX7_run_207 : decode cX7_run 207 = .ok (.iinc 4 1, 3) := by decide +kernel
theorem dX7_run_210 : decode cX7_run 210 = .ok (.goto 26, 3) := by decide +kernel
theorem dX7_run_213 : decode cX7_run 213 = .ok (.iload_n 2, 1) := by decide +kernel
theorem dX7_run_214 : decode cX7_run 214 = .ok (.aload_n 0, 1) := by decide +kernel
theorem dX7_run_215 : decode cX7_run 215 = .ok (.iload 4, 2) := by decide +kernel
theorem dX7_run_217 : decode cX7_run 217 = .ok (.invokevirtual 168, 3) := by decide +kernel
theorem dX7_run_220 : decode cX7_run 220 = .ok (.ifCond .lt 7, 3) := by decide +kernel
theorem dX7_run_223 : decode cX7_run 223 = .ok (.iconst 1, 1) := by decide +kernel
theorem dX7_run_224 : decode cX7_run 224 = .ok (.goto 4, 3) := by decide +kernel
theorem dX7_run_227 : decode cX7_run 227 = .ok (.iconst 0, 1) := by decide +kernel
theorem dX7_run_228 : decode cX7_run 228 = .ok (.iadd, 1) := by decide +kernel
theorem dX7_run_229 : decode cX7_run 229 = .ok (.istore_n 2, 1) := by decide +kernel
theorem dX7_run_230 : decode cX7_run 230 = .ok (.iinc 1 1, 3) := by decide +kernel
theorem dX7_run_233 : decode cX7_run 233 = .ok (.iinc 4 1, 3) := by decide +kernel
theorem dX7_run_236 : decode cX7_run 236 = .ok (.goto (-206), 3) := by decide +kernel
theorem dX7_run_239 : decode cX7_run 239 = .ok (.aload_n 0, 1) := by decide +kernel
theorem dX7_run_240 : decode cX7_run 240 = .ok (.getfield 7, 3) := by decide +kernel
theorem dX7_run_243 : decode cX7_run 243 = .ok (.bipush 110, 2) := by decide +kernel
theorem dX7_run_245 : decode cX7_run 245 = .ok (.iload_n 1, 1) := by decide +kernel
theorem dX7_run_246 : decode cX7_run 246 = .ok (.iastore, 1) := by decide +kernel
theorem dX7_run_247 : decode cX7_run 247 = .ok (.iload_n 2, 1) := by decide +kernel
theorem dX7_run_248 : decode cX7_run 248 = .ok (.ireturn, 1) := by decide +kernel
theorem dX7_save_0 : decode cX7_save 0 = .ok (.iload_n 1, 1) := by decide +kernel
theorem dX7_save_1 : decode cX7_save 1 = .ok (.iconst 0, 1) := by decide +kernel
theorem dX7_save_2 : decode cX7_save 2 = .ok (.iconst 1, 1) := by decide +kernel
theorem dX7_save_3 : decode cX7_save 3 = .ok (.invokestatic 39, 3) := by decide +kernel
theorem dX7_save_6 : decode cX7_save 6 = .ok (.ifCond .ne 6, 3) := by decide +kernel
theorem dX7_save_9 : decode cX7_save 9 = .ok (.bipush (-2), 2) := by decide +kernel
theorem dX7_save_11 : decode cX7_save 11 = .ok (.ireturn, 1) := by decide +kernel
theorem dX7_save_12 : decode cX7_save 12 = .ok (.iconst 0, 1) := by decide +kernel
theorem dX7_save_13 : decode cX7_save 13 = .ok (.istore_n 2, 1) := by decide +kernel
theorem dX7_save_14 : decode cX7_save 14 = .ok (.iload_n 2, 1) := by decide +kernel
theorem dX7_save_15 : decode cX7_save 15 = .ok (.sipush 271, 3) := by decide +kernel
theorem dX7_save_18 : decode cX7_save 18 = .ok (.if_icmp .ge 27, 3) := by decide +kernel
theorem dX7_save_21 : decode cX7_save 21 = .ok (.aload_n 0, 1) := by decide +kernel
theorem dX7_save_22 : decode cX7_save 22 = .ok (.getfield 16, 3) := by decide +kernel
theorem dX7_save_25 : decode cX7_save 25 = .ok (.sipush 271, 3) := by decide +kernel
theorem dX7_save_28 : decode cX7_save 28 = .ok (.iload_n 1, 1) := by decide +kernel
theorem dX7_save_29 : decode cX7_save 29 = .ok (.imul, 1) := by decide +kernel
theorem dX7_save_30 : decode cX7_save 30 = .ok (.iload_n 2, 1) := by decide +kernel
theorem dX7_save_31 : decode cX7_save 31 = .ok (.iadd, 1) := by decide +kernel
theorem dX7_save_32 : decode cX7_save 32 = .ok (.aload_n 0, 1) := by decide +kernel
theorem dX7_save_33 : decode cX7_save 33 = .ok (.getfield 7, 3) := by decide +kernel
theorem dX7_save_36 : decode cX7_save 36 = .ok (.iload_n 2, 1) := by decide +kernel
theorem dX7_save_37 : decode cX7_save 37 = .ok (.iaload, 1) := by decide +kernel
theorem dX7_save_38 : decode cX7_save 38 = .ok (.iastore, 1) := by decide +kernel
theorem dX7_save_39 : decode cX7_save 39 = .ok (.iinc 2 1, 3) := by decide +kernel
theorem dX7_save_42 : decode cX7_save 42 = .ok (.goto (-28), 3) := by decide +kernel
theorem dX7_save_45 : decode cX7_save 45 = .ok (.aload_n 0, 1) := by decide +kernel
theorem dX7_save_46 : decode cX7_save 46 = .ok (.getfield 19, 3) := by decide +kernel
theorem dX7_save_49 : decode cX7_save 49 = .ok (.iload_n 1, 1) := by decide +kernel
theorem dX7_save_50 : decode cX7_save 50 = .ok (.iconst 1, 1) := by decide +kernel
theorem dX7_save_51 : decode cX7_save 51 = .ok (.bastore, 1) := by decide +kernel
theorem dX7_save_52 : decode cX7_save 52 = .ok (.aload_n 0, 1) := by decide +kernel
theorem dX7_save_53 : decode cX7_save 53 = .ok (.getfield 7, 3) := by decide +kernel
theorem dX7_save_56 : decode cX7_save 56 = .ok (.bipush 103, 2) := by decide +kernel
theorem dX7_save_58 : decode cX7_save 58 = .ok (.iaload, 1) := by decide +kernel
theorem dX7_save_59 : decode cX7_save 59 = .ok (.ireturn, 1) := by decide +kernel
theorem dX7_restore_0 : decode cX7_restore 0 = .ok (.iload_n 1, 1) := by decide +kernel
theorem dX7_restore_1 : decode cX7_restore 1 = .ok (.iconst 0, 1) := by decide +kernel
theorem dX7_restore_2 : decode cX7_restore 2 = .ok (.iconst 1, 1) := by decide +kernel
theorem dX7_restore_3 : decode cX7_restore 3 = .ok (.invokestatic 39, 3) := by decide +kernel
theorem dX7_restore_6 : decode cX7_restore 6 = .ok (.ifCond .ne 6, 3) := by decide +kernel
theorem dX7_restore_9 : decode cX7_restore 9 = .ok (.bipush (-2), 2) := by decide +kernel
theorem dX7_restore_11 : decode cX7_restore 11 = .ok (.ireturn, 1) := by decide +kernel
theorem dX7_restore_12 : decode cX7_restore 12 = .ok (.aload_n 0, 1) := by decide +kernel
theorem dX7_restore_13 : decode cX7_restore 13 = .ok (.getfield 19, 3) := by decide +kernel
theorem dX7_restore_16 : decode cX7_restore 16 = .ok (.iload_n 1, 1) := by decide +kernel
theorem dX7_restore_17 : decode cX7_restore 17 = .ok (.baload, 1) := by decide +kernel
theorem dX7_restore_18 : decode cX7_restore 18 = .ok (.ifCond .ne 6, 3) := by decide +kernel
theorem dX7_restore_21 : decode cX7_restore 21 = .ok (.bipush (-3), 2) := by decide +kernel
theorem dX7_restore_23 : decode cX7_restore 23 = .ok (.ireturn, 1) := by decide +kernel
theorem dX7_restore_24 : decode cX7_restore 24 = .ok (.iconst 0, 1) := by decide +kernel
theorem dX7_restore_25 : decode cX7_restore 25 = .ok (.istore_n 2, 1) := by decide +kernel
theorem dX7_restore_26 : decode cX7_restore 26 = .ok (.iload_n 2, 1) := by decide +kernel
theorem dX7_restore_27 : decode cX7_restore 27 = .ok (.sipush 271, 3) := by decide +kernel
theorem dX7_restore_30 : decode cX7_restore 30 = .ok (.if_icmp .ge 27, 3) := by decide +kernel
theorem dX7_restore_33 : decode cX7_restore 33 = .ok (.aload_n 0, 1) := by decide +kernel
theorem dX7_restore_34 : decode cX7_restore 34 = .ok (.getfield 7, 3) := by decide +kernel
theorem dX7_restore_37 : decode cX7_restore 37 = .ok (.iload_n 2, 1) := by decide +kernel
theorem dX7_restore_38 : decode cX7_restore 38 = .ok (.aload_n 0, 1) := by decide +kernel
theorem dX7_restore_39 : decode cX7_restore 39 = .ok (.getfield 16, 3) := by decide +kernel
theorem dX7_restore_42 : decode cX7_restore 42 = .ok (.sipush 271, 3) := by decide +kernel
theorem dX7_restore_45 : decode cX7_restore 45 = .ok (.iload_n 1, 1) := by decide +kernel
theorem dX7_restore_46 : decode cX7_restore 46 = .ok (.imul, 1) := by decide +kernel
theorem dX7_restore_47 : decode cX7_restore 47 = .ok (.iload_n 2, 1) := by decide +kernel
theorem dX7_restore_48 : decode cX7_restore 48 = .ok (.iadd, 1) := by decide +kernel
theorem dX7_restore_49 : decode cX7_restore 49 = .ok (.iaload, 1) := by decide +kernel
theorem dX7_restore_50 : decode cX7_restore 50 = .ok (.iastore, 1) := by decide +kernel
theorem dX7_restore_51 : decode cX7_restore 51 = .ok (.iinc 2 1, 3) := by decide +kernel
theorem dX7_restore_54 : decode cX7_restore 54 = .ok (.goto (-28), 3) := by decide +kernel
theorem dX7_restore_57 : decode cX7_restore 57 = .ok (.aload_n 0, 1) := by decide +kernel
theorem dX7_restore_58 : decode cX7_restore 58 = .ok (.getfield 7, 3) := by decide +kernel
theorem dX7_restore_61 : decode cX7_restore 61 = .ok (.bipush 103, 2) := by decide +kernel
theorem dX7_restore_63 : decode cX7_restore 63 = .ok (.iaload, 1) := by decide +kernel
theorem dX7_restore_64 : decode cX7_restore 64 = .ok (.ireturn, 1) := by decide +kernel
theorem dX7_impatient_0 : decode cX7_impatient 0 = .ok (.iconst 0, 1) := by decide +kernel
theorem dX7_impatient_1 : decode cX7_impatient 1 = .ok (.istore_n 1, 1) := by decide +kernel
theorem dX7_impatient_2 : decode cX7_impatient 2 = .ok (.iconst 0, 1) := by decide +kernel
theorem dX7_impatient_3 : decode cX7_impatient 3 = .ok (.istore_n 2, 1) := by decide +kernel
theorem dX7_impatient_4 : decode cX7_impatient 4 = .ok (.iload_n 2, 1) := by decide +kernel
theorem dX7_impatient_5 : decode cX7_impatient 5 = .ok (.bipush 12, 2) := by decide +kernel
theorem dX7_impatient_7 : decode cX7_impatient 7 = .ok (.if_icmp .ge 25, 3) := by decide +kernel
theorem dX7_impatient_10 : decode cX7_impatient 10 = .ok (.iload_n 1, 1) := by decide +kernel
theorem dX7_impatient_11 : decode cX7_impatient 11 = .ok (.aload_n 0, 1) := by decide +kernel
theorem dX7_impatient_12 : decode cX7_impatient 12 = .ok (.iload_n 2, 1) := by decide +kernel
theorem dX7_impatient_13 : decode cX7_impatient 13 = .ok (.invokevirtual 47, 3) := by decide +kernel
theorem dX7_impatient_16 : decode cX7_impatient 16 = .ok (.ifCond .eq 7, 3) := by decide +kernel
theorem dX7_impatient_19 : decode cX7_impatient 19 = .ok (.iconst 1, 1) := by decide +kernel
theorem dX7_impatient_20 : decode cX7_impatient 20 = .ok (.goto 4, 3) := by decide +kernel
theorem dX7_impatient_23 : decode cX7_impatient 23 = .ok (.iconst 0, 1) := by decide +kernel
theorem dX7_impatient_24 : decode cX7_impatient 24 = .ok (.iadd, 1) := by decide +kernel
theorem dX7_impatient_25 : decode cX7_impatient 25 = .ok (.istore_n 1, 1) := by decide +kernel
theorem dX7_impatient_26 : decode cX7_impatient 26 = .ok (.iinc 2 1, 3) := by decide +kernel
theorem dX7_impatient_29 : decode cX7_impatient 29 = .ok (.goto (-25), 3) := by decide +kernel
theorem dX7_impatient_32 : decode cX7_impatient 32 = .ok (.iload_n 1, 1) := by decide +kernel
theorem dX7_impatient_33 : decode cX7_impatient 33 = .ok (.ireturn, 1) := by decide +kernel
theorem dX7_inState_0 : decode cX7_inState 0 = .ok (.iconst 0, 1) := by decide +kernel
theorem dX7_inState_1 : decode cX7_inState 1 = .ok (.istore_n 2, 1) := by decide +kernel
theorem dX7_inState_2 : decode cX7_inState 2 = .ok (.iconst 0, 1) := by decide +kernel
theorem dX7_inState_3 : decode cX7_inState 3 = .ok (.istore_n 3, 1) := by decide +kernel
theorem dX7_inState_4 : decode cX7_inState 4 = .ok (.iload_n 3, 1) := by decide +kernel
theorem dX7_inState_5 : decode cX7_inState 5 = .ok (.bipush 12, 2) := by decide +kernel
theorem dX7_inState_7 : decode cX7_inState 7 = .ok (.if_icmp .ge 29, 3) := by decide +kernel
theorem dX7_inState_10 : decode cX7_inState 10 = .ok (.iload_n 2, 1) := by decide +kernel
theorem dX7_inState_11 : decode cX7_inState 11 = .ok (.aload_n 0, 1) := by decide +kernel
theorem dX7_inState_12 : decode cX7_inState 12 = .ok (.getfield 7, 3) := by decide +kernel
theorem dX7_inState_15 : decode cX7_inState 15 = .ok (.iconst 0, 1) := by decide +kernel
theorem dX7_inState_16 : decode cX7_inState 16 = .ok (.iload_n 3, 1) := by decide +kernel
theorem dX7_inState_17 : decode cX7_inState 17 = .ok (.iadd, 1) := by decide +kernel
theorem dX7_inState_18 : decode cX7_inState 18 = .ok (.iaload, 1) := by decide +kernel
theorem dX7_inState_19 : decode cX7_inState 19 = .ok (.iload_n 1, 1) := by decide +kernel
theorem dX7_inState_20 : decode cX7_inState 20 = .ok (.if_icmp .ne 7, 3) := by decide +kernel
theorem dX7_inState_23 : decode cX7_inState 23 = .ok (.iconst 1, 1) := by decide +kernel
theorem dX7_inState_24 : decode cX7_inState 24 = .ok (.goto 4, 3) := by decide +kernel
theorem dX7_inState_27 : decode cX7_inState 27 = .ok (.iconst 0, 1) := by decide +kernel
theorem dX7_inState_28 : decode cX7_inState 28 = .ok (.iadd, 1) := by decide +kernel
theorem dX7_inState_29 : decode cX7_inState 29 = .ok (.istore_n 2, 1) := by decide +kernel
theorem dX7_inState_30 : decode cX7_inState 30 = .ok (.iinc 3 1, 3) := by decide +kernel
theorem dX7_inState_33 : decode cX7_inState 33 = .ok (.goto (-29), 3) := by decide +kernel
theorem dX7_inState_36 : decode cX7_inState 36 = .ok (.iload_n 2, 1) := by decide +kernel
theorem dX7_inState_37 : decode cX7_inState 37 = .ok (.ireturn, 1) := by decide +kernel
theorem dX7_number_0 : decode cX7_number 0 = .ok (.aload_n 0, 1) := by decide +kernel
theorem dX7_number_1 : decode cX7_number 1 = .ok (.invokevirtual 65, 3) := by decide +kernel
theorem dX7_number_4 : decode cX7_number 4 = .ok (.iconst (-1), 1) := by decide +kernel
theorem dX7_number_5 : decode cX7_number 5 = .ok (.if_icmp .eq 7, 3) := by decide +kernel
theorem dX7_number_8 : decode cX7_number 8 = .ok (.iconst 1, 1) := by decide +kernel
theorem dX7_number_9 : decode cX7_number 9 = .ok (.goto 4, 3) := by decide +kernel
theorem dX7_number_12 : decode cX7_number 12 = .ok (.iconst 0, 1) := by decide +kernel
theorem dX7_number_13 : decode cX7_number 13 = .ok (.istore_n 2, 1) := by decide +kernel
theorem dX7_number_14 : decode cX7_number 14 = .ok (.iload_n 1, 1) := by decide +kernel
theorem dX7_number_15 : decode cX7_number 15 = .ok (.tableswitch 172 0 14 #[73, 172, 172, 172, 81, 86, 102, 118, 126, 132, 137, 143, 151, 159, 164], 73) := by decide +kernel
theorem dX7_number_88 : decode cX7_number 88 = .ok (.aload_n 0, 1) := by decide +kernel
theorem dX7_number_89 : decode cX7_number 89 = .ok (.getfield 7, 3) := by decide +kernel
theorem dX7_number_92 : decode cX7_number 92 = .ok (.bipush 103, 2) := by decide +kernel
theorem dX7_number_94 : decode cX7_number 94 = .ok (.iaload, 1) := by decide +kernel
theorem dX7_number_95 : decode cX7_number 95 = .ok (.ireturn, 1) := by decide +kernel
theorem dX7_number_96 : decode cX7_number 96 = .ok (.aload_n 0, 1) := by decide +kernel
theorem dX7_number_97 : decode cX7_number 97 = .ok (.invokevirtual 65, 3) := by decide +kernel
theorem dX7_number_100 : decode cX7_number 100 = .ok (.ireturn, 1) := by decide +kernel
theorem dX7_number_101 : decode cX7_number 101 = .ok (.iload_n 2, 1) := by decide +kernel
theorem dX7_number_102 : decode cX7_number 102 = .ok (.ifCond .eq 13, 3) := by decide +kernel
theorem dX7_number_105 : decode cX7_number 105 = .ok (.aload_n 0, 1) := by decide +kernel
theorem dX7_number_106 : decode cX7_number 106 = .ok (.getfield 7, 3) := by decide +kernel
theorem dX7_number_109 : decode cX7_number 109 = .ok (.bipush 104, 2) := by decide +kernel
theorem dX7_number_111 : decode cX7_number 111 = .ok (.iaload, 1) := by decide +kernel
theorem dX7_number_112 : decode cX7_number 112 = .ok (.goto 4, 3) := by decide +kernel
theorem dX7_number_115 : decode cX7_number 115 = .ok (.iconst 0, 1) := by decide +kernel
theorem dX7_number_116 : decode cX7_number 116 = .ok (.ireturn, 1) := by decide +kernel
theorem dX7_number_117 : decode cX7_number 117 = .ok (.iload_n 2, 1) := by decide +kernel
theorem dX7_number_118 : decode cX7_number 118 = .ok (.ifCond .eq 13, 3) := by decide +kernel
theorem dX7_number_121 : decode cX7_number 121 = .ok (.aload_n 0, 1) := by decide +kernel
theorem dX7_number_122 : decode cX7_number 122 = .ok (.getfield 7, 3) := by decide +kernel
theorem dX7_number_125 : decode cX7_number 125 = .ok (.bipush 105, 2) := by decide +kernel
theorem dX7_number_127 : decode cX7_number 127 = .ok (.iaload, 1) := by decide +kernel
theorem dX7_number_128 : decode cX7_number 128 = .ok (.goto 4, 3) := by decide +kernel
theorem dX7_number_131 : decode cX7_number 131 = .ok (.iconst 0, 1) := by decide +kernel
theorem dX7_number_132 : decode cX7_number 132 = .ok (.ireturn, 1) := by decide +kernel
theorem dX7_number_133 : decode cX7_number 133 = .ok (.aload_n 0, 1) := by decide +kernel
theorem dX7_number_134 : decode cX7_number 134 = .ok (.getfield 7, 3) := by decide +kernel
theorem dX7_number_137 : decode cX7_number 137 = .ok (.bipush 106, 2) := by decide +kernel
theorem dX7_number_139 : decode cX7_number 139 = .ok (.iaload, 1) := by decide +kernel
theorem dX7_number_140 : decode cX7_number 140 = .ok (.ireturn, 1) := by decide +kernel
theorem dX7_number_141 : decode cX7_number 141 = .ok (.aload_n 0, 1) := by decide +kernel
theorem dX7_number_142 : decode cX7_number 142 = .ok (.iconst 1, 1) := by decide +kernel
theorem dX7_number_143 : decode cX7_number 143 = .ok (.invokevirtual 171, 3) := by decide +kernel
theorem dX7_number_146 : decode cX7_number 146 = .ok (.ireturn, 1) := by decide +kernel
theorem dX7_number_147 : decode cX7_number 147 = .ok (.aload_n 0, 1) := by decide +kernel
theorem dX7_number_148 : decode cX7_number 148 = .ok (.invokevirtual 174, 3) := by decide +kernel
theorem dX7_number_151 : decode cX7_number 151 = .ok (.ireturn, 1) := by decide +kernel
theorem dX7_number_152 : decode cX7_number 152 = .ok (.aload_n 0, 1) := by decide +kernel
theorem dX7_number_153 : decode cX7_number 153 = .ok (.iconst 3, 1) := by decide +kernel
theorem dX7_number_154 : decode cX7_number 154 = .ok (.invokevirtual 171, 3) := by decide +kernel
theorem dX7_number_157 : decode cX7_number 157 = .ok (.ireturn, 1) := by decide +kernel
theorem dX7_number_158 : decode cX7_number 158 = .ok (.aload_n 0, 1) := by decide +kernel
theorem dX7_number_159 : decode cX7_number 159 = .ok (.getfield 7, 3) := by decide +kernel
theorem dX7_number_162 : decode cX7_number 162 = .ok (.bipush 108, 2) := by decide +kernel
theorem dX7_number_164 : decode cX7_number 164 = .ok (.iaload, 1) := by decide +kernel
theorem dX7_number_165 : decode cX7_number 165 = .ok (.ireturn, 1) := by decide +kernel
theorem dX7_number_166 : decode cX7_number 166 = .ok (.aload_n 0, 1) := by decide +kernel
theorem dX7_number_167 : decode cX7_number 167 = .ok (.getfield 7, 3) := by decide +kernel
theorem dX7_number_170 : decode cX7_number 170 = .ok (.bipush 109, 2) := by decide +kernel
theorem dX7_number_172 : decode cX7_number 172 = .ok (.iaload, 1) := by decide +kernel
theorem dX7_number_173 : decode cX7_number 173 = .ok (.ireturn, 1) := by decide +kernel
theorem dX7_number_174 : decode cX7_number 174 = .ok (.aload_n 0, 1) := by decide +kernel
theorem dX7_number_175 : decode cX7_number 175 = .ok (.getfield 109, 3) := by decide +kernel
theorem dX7_number_178 : decode cX7_number 178 = .ok (.ireturn, 1) := by decide +kernel
theorem dX7_number_179 : decode cX7_number 179 = .ok (.aload_n 0, 1) := by decide +kernel
theorem dX7_number_180 : decode cX7_number 180 = .ok (.getfield 7, 3) := by decide +kernel
theorem dX7_number_183 : decode cX7_number 183 = .ok (.bipush 110, 2) := by decide +kernel
theorem dX7_number_185 : decode cX7_number 185 = .ok (.iaload, 1) := by decide +kernel
theorem dX7_number_186 : decode cX7_number 186 = .ok (.ireturn, 1) := by decide +kernel
theorem dX7_number_187 : decode cX7_number 187 = .ok (.aload_n 0, 1) := by decide +kernel
theorem dX7_number_188 : decode cX7_number 188 = .ok (.getfield 7, 3) := by decide +kernel
theorem dX7_number_191 : decode cX7_number 191 = .ok (.bipush 100, 2) := by decide +kernel
theorem dX7_number_193 : decode cX7_number 193 = .ok (.iload_n 1, 1) := by decide +kernel
theorem dX7_number_194 : decode cX7_number 194 = .ok (.iadd, 1) := by decide +kernel
theorem dX7_number_195 : decode cX7_number 195 = .ok (.iconst 1, 1) := by decide +kernel
theorem dX7_number_196 : decode cX7_number 196 = .ok (.isub, 1) := by decide +kernel
theorem dX7_number_197 : decode cX7_number 197 = .ok (.iaload, 1) := by decide +kernel
theorem dX7_number_198 : decode cX7_number 198 = .ok (.ireturn, 1) := by decide +kernel
theorem dX7_count_0 : decode cX7_count 0 = .ok (.iload_n 1, 1) := by decide +kernel
theorem dX7_count_1 : decode cX7_count 1 = .ok (.iconst 0, 1) := by decide +kernel
theorem dX7_count_2 : decode cX7_count 2 = .ok (.bipush 14, 2) := by decide +kernel
theorem dX7_count_4 : decode cX7_count 4 = .ok (.invokestatic 39, 3) := by decide +kernel
theorem dX7_count_7 : decode cX7_count 7 = .ok (.ifCond .eq 11, 3) := by decide +kernel
theorem dX7_count_10 : decode cX7_count 10 = .ok (.aload_n 0, 1) := by decide +kernel
theorem dX7_count_11 : decode cX7_count 11 = .ok (.iload_n 1, 1) := by decide +kernel
theorem dX7_count_12 : decode cX7_count 12 = .ok (.invokevirtual 177, 3) := by decide +kernel
theorem dX7_count_15 : decode cX7_count 15 = .ok (.goto 5, 3) := by decide +kernel
theorem dX7_count_18 : decode cX7_count 18 = .ok (.bipush (-2), 2) := by decide +kernel
theorem dX7_count_20 : decode cX7_count 20 = .ok (.ireturn, 1) := by decide +kernel
theorem dX7_mixes_0 : decode cX7_mixes 0 = .ok (.aload_n 0, 1) := by decide +kernel
theorem dX7_mixes_1 : decode cX7_mixes 1 = .ok (.ldc2_w 180, 3) := by decide +kernel
theorem dX7_mixes_4 : decode cX7_mixes 4 = .ok (.aload_n 0, 1) := by decide +kernel
theorem dX7_mixes_5 : decode cX7_mixes 5 = .ok (.getfield 182, 3) := by decide +kernel
theorem dX7_mixes_8 : decode cX7_mixes 8 = .ok (.lmul, 1) := by decide +kernel
theorem dX7_mixes_9 : decode cX7_mixes 9 = .ok (.lload_n 1, 1) := by decide +kernel
theorem dX7_mixes_10 : decode cX7_mixes 10 = .ok (.ladd, 1) := by decide +kernel
theorem dX7_mixes_11 : decode cX7_mixes 11 = .ok (.putfield 182, 3) := by decide +kernel
theorem dX7_mixes_14 : decode cX7_mixes 14 = .ok (.return_, 1) := by decide +kernel
theorem dX7_digest_0 : decode cX7_digest 0 = .ok (.aload_n 0, 1) := by decide +kernel
theorem dX7_digest_1 : decode cX7_digest 1 = .ok (.ldc2_w 186, 3) := by decide +kernel
theorem dX7_digest_4 : decode cX7_digest 4 = .ok (.putfield 182, 3) := by decide +kernel
theorem dX7_digest_7 : decode cX7_digest 7 = .ok (.iconst 0, 1) := by decide +kernel
theorem dX7_digest_8 : decode cX7_digest 8 = .ok (.istore_n 1, 1) := by decide +kernel
theorem dX7_digest_9 : decode cX7_digest 9 = .ok (.iload_n 1, 1) := by decide +kernel
theorem dX7_digest_10 : decode cX7_digest 10 = .ok (.bipush 15, 2) := by decide +kernel
theorem dX7_digest_12 : decode cX7_digest 12 = .ok (.if_icmp .ge 19, 3) := by decide +kernel
theorem dX7_digest_15 : decode cX7_digest 15 = .ok (.aload_n 0, 1) := by decide +kernel
theorem dX7_digest_16 : decode cX7_digest 16 = .ok (.aload_n 0, 1) := by decide +kernel
theorem dX7_digest_17 : decode cX7_digest 17 = .ok (.iload_n 1, 1) := by decide +kernel
theorem dX7_digest_18 : decode cX7_digest 18 = .ok (.invokevirtual 177, 3) := by decide +kernel
theorem dX7_digest_21 : decode cX7_digest 21 = .ok (.i2l, 1) := by decide +kernel
theorem dX7_digest_22 : decode cX7_digest 22 = .ok (.invokevirtual 188, 3) := by decide +kernel
theorem dX7_digest_25 : decode cX7_digest 25 = .ok (.iinc 1 1, 3) := by decide +kernel
theorem dX7_digest_28 : decode cX7_digest 28 = .ok (.goto (-19), 3) := by decide +kernel
theorem dX7_digest_31 : decode cX7_digest 31 = .ok (.iconst 0, 1) := by decide +kernel
theorem dX7_digest_32 : decode cX7_digest 32 = .ok (.istore_n 1, 1) := by decide +kernel
theorem dX7_digest_33 : decode cX7_digest 33 = .ok (.iload_n 1, 1) := by decide +kernel
theorem dX7_digest_34 : decode cX7_digest 34 = .ok (.bipush 60, 2) := by decide +kernel
theorem dX7_digest_36 : decode cX7_digest 36 = .ok (.if_icmp .ge 24, 3) := by decide +kernel
theorem dX7_digest_39 : decode cX7_digest 39 = .ok (.aload_n 0, 1) := by decide +kernel
theorem dX7_digest_40 : decode cX7_digest 40 = .ok (.aload_n 0, 1) := by decide +kernel
theorem dX7_digest_41 : decode cX7_digest 41 = .ok (.iload_n 1, 1) := by decide +kernel
theorem dX7_digest_42 : decode cX7_digest 42 = .ok (.iconst 5, 1) := by decide +kernel
theorem dX7_digest_43 : decode cX7_digest 43 = .ok (.idiv, 1) := by decide +kernel
theorem dX7_digest_44 : decode cX7_digest 44 = .ok (.iload_n 1, 1) := by decide +kernel
theorem dX7_digest_45 : decode cX7_digest 45 = .ok (.iconst 5, 1) := by decide +kernel
theorem dX7_digest_46 : decode cX7_digest 46 = .ok (.irem, 1) := by decide +kernel
theorem dX7_digest_47 : decode cX7_digest 47 = .ok (.invokevirtual 192, 3) := by decide +kernel
theorem dX7_digest_50 : decode cX7_digest 50 = .ok (.i2l, 1) := by decide +kernel
theorem dX7_digest_51 : decode cX7_digest 51 = .ok (.invokevirtual 188, 3) := by decide +kernel
theorem dX7_digest_54 : decode cX7_digest 54 = .ok (.iinc 1 1, 3) := by decide +kernel
theorem dX7_digest_57 : decode cX7_digest 57 = .ok (.goto (-24), 3) := by decide +kernel
theorem dX7_digest_60 : decode cX7_digest 60 = .ok (.iconst 0, 1) := by decide +kernel
theorem dX7_digest_61 : decode cX7_digest 61 = .ok (.istore_n 1, 1) := by decide +kernel
theorem dX7_digest_62 : decode cX7_digest 62 = .ok (.iload_n 1, 1) := by decide +kernel
theorem dX7_digest_63 : decode cX7_digest 63 = .ok (.bipush 50, 2) := by decide +kernel
theorem dX7_digest_65 : decode cX7_digest 65 = .ok (.if_icmp .ge 26, 3) := by decide +kernel
theorem dX7_digest_68 : decode cX7_digest 68 = .ok (.aload_n 0, 1) := by decide +kernel
theorem dX7_digest_69 : decode cX7_digest 69 = .ok (.aload_n 0, 1) := by decide +kernel
theorem dX7_digest_70 : decode cX7_digest 70 = .ok (.iload_n 1, 1) := by decide +kernel
theorem dX7_digest_71 : decode cX7_digest 71 = .ok (.bipush 10, 2) := by decide +kernel
theorem dX7_digest_73 : decode cX7_digest 73 = .ok (.idiv, 1) := by decide +kernel
theorem dX7_digest_74 : decode cX7_digest 74 = .ok (.iload_n 1, 1) := by decide +kernel
theorem dX7_digest_75 : decode cX7_digest 75 = .ok (.bipush 10, 2) := by decide +kernel
theorem dX7_digest_77 : decode cX7_digest 77 = .ok (.irem, 1) := by decide +kernel
theorem dX7_digest_78 : decode cX7_digest 78 = .ok (.invokevirtual 195, 3) := by decide +kernel
theorem dX7_digest_81 : decode cX7_digest 81 = .ok (.i2l, 1) := by decide +kernel
theorem dX7_digest_82 : decode cX7_digest 82 = .ok (.invokevirtual 188, 3) := by decide +kernel
theorem dX7_digest_85 : decode cX7_digest 85 = .ok (.iinc 1 1, 3) := by decide +kernel
theorem dX7_digest_88 : decode cX7_digest 88 = .ok (.goto (-26), 3) := by decide +kernel
theorem dX7_digest_91 : decode cX7_digest 91 = .ok (.iconst 0, 1) := by decide +kernel
theorem dX7_digest_92 : decode cX7_digest 92 = .ok (.istore_n 1, 1) := by decide +kernel
theorem dX7_digest_93 : decode cX7_digest 93 = .ok (.iload_n 1, 1) := by decide +kernel
theorem dX7_digest_94 : decode cX7_digest 94 = .ok (.iconst 4, 1) := by decide +kernel
theorem dX7_digest_95 : decode cX7_digest 95 = .ok (.aload_n 0, 1) := by decide +kernel
theorem dX7_digest_96 : decode cX7_digest 96 = .ok (.getfield 7, 3) := by decide +kernel
theorem dX7_digest_99 : decode cX7_digest 99 = .ok (.bipush 108, 2) := by decide +kernel
theorem dX7_digest_101 : decode cX7_digest 101 = .ok (.iaload, 1) := by decide +kernel
theorem dX7_digest_102 : decode cX7_digest 102 = .ok (.imul, 1) := by decide +kernel
theorem dX7_digest_103 : decode cX7_digest 103 = .ok (.if_icmp .ge 23, 3) := by decide +kernel
theorem dX7_digest_106 : decode cX7_digest 106 = .ok (.aload_n 0, 1) := by decide +kernel
theorem dX7_digest_107 : decode cX7_digest 107 = .ok (.aload_n 0, 1) := by decide +kernel
theorem dX7_digest_108 : decode cX7_digest 108 = .ok (.getfield 7, 3) := by decide +kernel
theorem dX7_digest_111 : decode cX7_digest 111 = .ok (.bipush 111, 2) := by decide +kernel
theorem dX7_digest_113 : decode cX7_digest 113 = .ok (.iload_n 1, 1) := by decide +kernel
theorem dX7_digest_114 : decode cX7_digest 114 = .ok (.iadd, 1) := by decide +kernel
theorem dX7_digest_115 : decode cX7_digest 115 = .ok (.iaload, 1) := by decide +kernel
theorem dX7_digest_116 : decode cX7_digest 116 = .ok (.i2l, 1) := by decide +kernel
theorem dX7_digest_117 : decode cX7_digest 117 = .ok (.invokevirtual 188, 3) := by decide +kernel
theorem dX7_digest_120 : decode cX7_digest 120 = .ok (.iinc 1 1, 3) := by decide +kernel
theorem dX7_digest_123 : decode cX7_digest 123 = .ok (.goto (-30), 3) := by decide +kernel
theorem dX7_digest_126 : decode cX7_digest 126 = .ok (.aload_n 0, 1) := by decide +kernel
theorem dX7_digest_127 : decode cX7_digest 127 = .ok (.aload_n 0, 1) := by decide +kernel
theorem dX7_digest_128 : decode cX7_digest 128 = .ok (.invokevirtual 198, 3) := by decide +kernel
theorem dX7_digest_131 : decode cX7_digest 131 = .ok (.i2l, 1) := by decide +kernel
theorem dX7_digest_132 : decode cX7_digest 132 = .ok (.invokevirtual 188, 3) := by decide +kernel
theorem dX7_digest_135 : decode cX7_digest 135 = .ok (.aload_n 0, 1) := by decide +kernel
theorem dX7_digest_136 : decode cX7_digest 136 = .ok (.aload_n 0, 1) := by decide +kernel
theorem dX7_digest_137 : decode cX7_digest 137 = .ok (.invokevirtual 201, 3) := by decide +kernel
theorem dX7_digest_140 : decode cX7_digest 140 = .ok (.i2l, 1) := by decide +kernel
theorem dX7_digest_141 : decode cX7_digest 141 = .ok (.invokevirtual 188, 3) := by decide +kernel
theorem dX7_digest_144 : decode cX7_digest 144 = .ok (.iconst 0, 1) := by decide +kernel
theorem dX7_digest_145 : decode cX7_digest 145 = .ok (.istore_n 1, 1) := by decide +kernel
theorem dX7_digest_146 : decode cX7_digest 146 = .ok (.iload_n 1, 1) := by decide +kernel
theorem dX7_digest_147 : decode cX7_digest 147 = .ok (.aload_n 0, 1) := by decide +kernel
theorem dX7_digest_148 : decode cX7_digest 148 = .ok (.getfield 109, 3) := by decide +kernel
theorem dX7_digest_151 : decode cX7_digest 151 = .ok (.if_icmp .ge 20, 3) := by decide +kernel
theorem dX7_digest_154 : decode cX7_digest 154 = .ok (.aload_n 0, 1) := by decide +kernel
theorem dX7_digest_155 : decode cX7_digest 155 = .ok (.aload_n 0, 1) := by decide +kernel
theorem dX7_digest_156 : decode cX7_digest 156 = .ok (.getfield 23, 3) := by decide +kernel
theorem dX7_digest_159 : decode cX7_digest 159 = .ok (.iload_n 1, 1) := by decide +kernel
theorem dX7_digest_160 : decode cX7_digest 160 = .ok (.iaload, 1) := by decide +kernel
theorem dX7_digest_161 : decode cX7_digest 161 = .ok (.i2l, 1) := by decide +kernel
theorem dX7_digest_162 : decode cX7_digest 162 = .ok (.invokevirtual 188, 3) := by decide +kernel
theorem dX7_digest_165 : decode cX7_digest 165 = .ok (.iinc 1 1, 3) := by decide +kernel
theorem dX7_digest_168 : decode cX7_digest 168 = .ok (.goto (-22), 3) := by decide +kernel
theorem dX7_digest_171 : decode cX7_digest 171 = .ok (.aload_n 0, 1) := by decide +kernel
theorem dX7_digest_172 : decode cX7_digest 172 = .ok (.getfield 182, 3) := by decide +kernel
theorem dX7_digest_175 : decode cX7_digest 175 = .ok (.lreturn, 1) := by decide +kernel
theorem dL_law_0 : decode cL_law 0 = .ok (.new 7, 3) := by decide +kernel
theorem dL_law_3 : decode cL_law 3 = .ok (.dup, 1) := by decide +kernel
theorem dL_law_4 : decode cL_law 4 = .ok (.invokespecial 9, 3) := by decide +kernel
theorem dL_law_7 : decode cL_law 7 = .ok (.astore_n 1, 1) := by decide +kernel
theorem dL_law_8 : decode cL_law 8 = .ok (.new 10, 3) := by decide +kernel
theorem dL_law_11 : decode cL_law 11 = .ok (.dup, 1) := by decide +kernel
theorem dL_law_12 : decode cL_law 12 = .ok (.invokespecial 12, 3) := by decide +kernel
theorem dL_law_15 : decode cL_law 15 = .ok (.astore_n 2, 1) := by decide +kernel
theorem dL_law_16 : decode cL_law 16 = .ok (.iconst 0, 1) := by decide +kernel
theorem dL_law_17 : decode cL_law 17 = .ok (.istore_n 3, 1) := by decide +kernel
theorem dL_law_18 : decode cL_law 18 = .ok (.iload_n 3, 1) := by decide +kernel
theorem dL_law_19 : decode cL_law 19 = .ok (.aload_n 0, 1) := by decide +kernel
theorem dL_law_20 : decode cL_law 20 = .ok (.arraylength, 1) := by decide +kernel
theorem dL_law_21 : decode cL_law 21 = .ok (.iconst 4, 1) := by decide +kernel
theorem dL_law_22 : decode cL_law 22 = .ok (.isub, 1) := by decide +kernel
theorem dL_law_23 : decode cL_law 23 = .ok (.if_icmp .gt 703, 3) := by decide +kernel
theorem dL_law_26 : decode cL_law 26 = .ok (.aload_n 0, 1) := by decide +kernel
theorem dL_law_27 : decode cL_law 27 = .ok (.iload_n 3, 1) := by decide +kernel
theorem dL_law_28 : decode cL_law 28 = .ok (.iaload, 1) := by decide +kernel
theorem dL_law_29 : decode cL_law 29 = .ok (.bipush 31, 2) := by decide +kernel
theorem dL_law_31 : decode cL_law 31 = .ok (.iand, 1) := by decide +kernel
theorem dL_law_32 : decode cL_law 32 = .ok (.tableswitch 688 0 22 #[108, 141, 174, 207, 250, 273, 296, 319, 342, 375, 408, 441, 474, 487, 510, 523, 556, 579, 592, 605, 628, 651, 674], 108) := by decide +kernel
theorem dL_law_140 : decode cL_law 140 = .ok (.aload_n 1, 1) := by decide +kernel
theorem dL_law_141 : decode cL_law 141 = .ok (.aload_n 0, 1) := by decide +kernel
theorem dL_law_142 : decode cL_law 142 = .ok (.iload_n 3, 1) := by decide +kernel
theorem dL_law_143 : decode cL_law 143 = .ok (.iconst 1, 1) := by decide +kernel
theorem dL_law_144 : decode cL_law 144 = .ok (.iadd, 1) := by decide +kernel
theorem dL_law_145 : decode cL_law 145 = .ok (.iaload, 1) := by decide +kernel
theorem dL_law_146 : decode cL_law 146 = .ok (.aload_n 0, 1) := by decide +kernel
theorem dL_law_147 : decode cL_law 147 = .ok (.iload_n 3, 1) := by decide +kernel
theorem dL_law_148 : decode cL_law 148 = .ok (.iconst 2, 1) := by decide +kernel
theorem dL_law_149 : decode cL_law 149 = .ok (.iadd, 1) := by decide +kernel
theorem dL_law_150 : decode cL_law 150 = .ok (.iaload, 1) := by decide +kernel
theorem dL_law_151 : decode cL_law 151 = .ok (.invokevirtual 13, 3) := by decide +kernel
theorem dL_law_154 : decode cL_law 154 = .ok (.aload_n 2, 1) := by decide +kernel
theorem dL_law_155 : decode cL_law 155 = .ok (.aload_n 0, 1) := by decide +kernel
theorem dL_law_156 : decode cL_law 156 = .ok (.iload_n 3, 1) := by decide +kernel
theorem dL_law_157 : decode cL_law 157 = .ok (.iconst 1, 1) := by decide +kernel
theorem dL_law_158 : decode cL_law 158 = .ok (.iadd, 1) := by decide +kernel
theorem dL_law_159 : decode cL_law 159 = .ok (.iaload, 1) := by decide +kernel
theorem dL_law_160 : decode cL_law 160 = .ok (.aload_n 0, 1) := by decide +kernel
theorem dL_law_161 : decode cL_law 161 = .ok (.iload_n 3, 1) := by decide +kernel
theorem dL_law_162 : decode cL_law 162 = .ok (.iconst 2, 1) := by decide +kernel
theorem dL_law_163 : decode cL_law 163 = .ok (.iadd, 1) := by decide +kernel
theorem dL_law_164 : decode cL_law 164 = .ok (.iaload, 1) := by decide +kernel
theorem dL_law_165 : decode cL_law 165 = .ok (.invokevirtual 17, 3) := by decide +kernel
theorem dL_law_168 : decode cL_law 168 = .ok (.if_icmp .eq 552, 3) := by decide +kernel
theorem dL_law_171 : decode cL_law 171 = .ok (.iconst 0, 1) := by decide +kernel
theorem dL_law_172 : decode cL_law 172 = .ok (.ireturn, 1) := by decide +kernel
theorem dL_law_173 : decode cL_law 173 = .ok (.aload_n 1, 1) := by decide +kernel
theorem dL_law_174 : decode cL_law 174 = .ok (.aload_n 0, 1) := by decide +kernel
theorem dL_law_175 : decode cL_law 175 = .ok (.iload_n 3, 1) := by decide +kernel
theorem dL_law_176 : decode cL_law 176 = .ok (.iconst 1, 1) := by decide +kernel
theorem dL_law_177 : decode cL_law 177 = .ok (.iadd, 1) := by decide +kernel
theorem dL_law_178 : decode cL_law 178 = .ok (.iaload, 1) := by decide +kernel
theorem dL_law_179 : decode cL_law 179 = .ok (.aload_n 0, 1) := by decide +kernel
theorem dL_law_180 : decode cL_law 180 = .ok (.iload_n 3, 1) := by decide +kernel
theorem dL_law_181 : decode cL_law 181 = .ok (.iconst 2, 1) := by decide +kernel
theorem dL_law_182 : decode cL_law 182 = .ok (.iadd, 1) := by decide +kernel
theorem dL_law_183 : decode cL_law 183 = .ok (.iaload, 1) := by decide +kernel
theorem dL_law_184 : decode cL_law 184 = .ok (.invokevirtual 18, 3) := by decide +kernel
theorem dL_law_187 : decode cL_law 187 = .ok (.aload_n 2, 1) := by decide +kernel
theorem dL_law_188 : decode cL_law 188 = .ok (.aload_n 0, 1) := by decide +kernel
theorem dL_law_189 : decode cL_law 189 = .ok (.iload_n 3, 1) := by decide +kernel
theorem dL_law_190 : decode cL_law 190 = .ok (.iconst 1, 1) := by decide +kernel
theorem dL_law_191 : decode cL_law 191 = .ok (.iadd, 1) := by decide +kernel
theorem dL_law_192 : decode cL_law 192 = .ok (.iaload, 1) := by decide +kernel
theorem dL_law_193 : decode cL_law 193 = .ok (.aload_n 0, 1) := by decide +kernel
theorem dL_law_194 : decode cL_law 194 = .ok (.iload_n 3, 1) := by decide +kernel
theorem dL_law_195 : decode cL_law 195 = .ok (.iconst 2, 1) := by decide +kernel
theorem dL_law_196 : decode cL_law 196 = .ok (.iadd, 1) := by decide +kernel
theorem dL_law_197 : decode cL_law 197 = .ok (.iaload, 1) := by decide +kernel
theorem dL_law_198 : decode cL_law 198 = .ok (.invokevirtual 21, 3) := by decide +kernel
theorem dL_law_201 : decode cL_law 201 = .ok (.if_icmp .eq 519, 3) := by decide +kernel
theorem dL_law_204 : decode cL_law 204 = .ok (.iconst 0, 1) := by decide +kernel
theorem dL_law_205 : decode cL_law 205 = .ok (.ireturn, 1) := by decide +kernel
theorem dL_law_206 : decode cL_law 206 = .ok (.aload_n 1, 1) := by decide +kernel
theorem dL_law_207 : decode cL_law 207 = .ok (.aload_n 0, 1) := by decide +kernel
theorem dL_law_208 : decode cL_law 208 = .ok (.iload_n 3, 1) := by decide +kernel
theorem dL_law_209 : decode cL_law 209 = .ok (.iconst 1, 1) := by decide +kernel
theorem dL_law_210 : decode cL_law 210 = .ok (.iadd, 1) := by decide +kernel
theorem dL_law_211 : decode cL_law 211 = .ok (.iaload, 1) := by decide +kernel
theorem dL_law_212 : decode cL_law 212 = .ok (.aload_n 0, 1) := by decide +kernel
theorem dL_law_213 : decode cL_law 213 = .ok (.iload_n 3, 1) := by decide +kernel
theorem dL_law_214 : decode cL_law 214 = .ok (.iconst 2, 1) := by decide +kernel
theorem dL_law_215 : decode cL_law 215 = .ok (.iadd, 1) := by decide +kernel
theorem dL_law_216 : decode cL_law 216 = .ok (.iaload, 1) := by decide +kernel
theorem dL_law_217 : decode cL_law 217 = .ok (.invokevirtual 22, 3) := by decide +kernel
theorem dL_law_220 : decode cL_law 220 = .ok (.aload_n 2, 1) := by decide +kernel
theorem dL_law_221 : decode cL_law 221 = .ok (.aload_n 0, 1) := by decide +kernel
theorem dL_law_222 : decode cL_law 222 = .ok (.iload_n 3, 1) := by decide +kernel
theorem dL_law_223 : decode cL_law 223 = .ok (.iconst 1, 1) := by decide +kernel
theorem dL_law_224 : decode cL_law 224 = .ok (.iadd, 1) := by decide +kernel
theorem dL_law_225 : decode cL_law 225 = .ok (.iaload, 1) := by decide +kernel
theorem dL_law_226 : decode cL_law 226 = .ok (.aload_n 0, 1) := by decide +kernel
theorem dL_law_227 : decode cL_law 227 = .ok (.iload_n 3, 1) := by decide +kernel
theorem dL_law_228 : decode cL_law 228 = .ok (.iconst 2, 1) := by decide +kernel
theorem dL_law_229 : decode cL_law 229 = .ok (.iadd, 1) := by decide +kernel
theorem dL_law_230 : decode cL_law 230 = .ok (.iaload, 1) := by decide +kernel
theorem dL_law_231 : decode cL_law 231 = .ok (.invokevirtual 25, 3) := by decide +kernel
theorem dL_law_234 : decode cL_law 234 = .ok (.if_icmp .eq 486, 3) := by decide +kernel
theorem dL_law_237 : decode cL_law 237 = .ok (.iconst 0, 1) := by decide +kernel
theorem dL_law_238 : decode cL_law 238 = .ok (.ireturn, 1) := by decide +kernel
theorem dL_law_239 : decode cL_law 239 = .ok (.aload_n 1, 1) := by decide +kernel
theorem dL_law_240 : decode cL_law 240 = .ok (.aload_n 0, 1) := by decide +kernel
theorem dL_law_241 : decode cL_law 241 = .ok (.iload_n 3, 1) := by decide +kernel
theorem dL_law_242 : decode cL_law 242 = .ok (.iconst 1, 1) := by decide +kernel
theorem dL_law_243 : decode cL_law 243 = .ok (.iadd, 1) := by decide +kernel
theorem dL_law_244 : decode cL_law 244 = .ok (.iaload, 1) := by decide +kernel
theorem dL_law_245 : decode cL_law 245 = .ok (.aload_n 0, 1) := by decide +kernel
theorem dL_law_246 : decode cL_law 246 = .ok (.iload_n 3, 1) := by decide +kernel
theorem dL_law_247 : decode cL_law 247 = .ok (.iconst 2, 1) := by decide +kernel
theorem dL_law_248 : decode cL_law 248 = .ok (.iadd, 1) := by decide +kernel
theorem dL_law_249 : decode cL_law 249 = .ok (.iaload, 1) := by decide +kernel
theorem dL_law_250 : decode cL_law 250 = .ok (.aload_n 0, 1) := by decide +kernel
theorem dL_law_251 : decode cL_law 251 = .ok (.iload_n 3, 1) := by decide +kernel
theorem dL_law_252 : decode cL_law 252 = .ok (.iconst 3, 1) := by decide +kernel
theorem dL_law_253 : decode cL_law 253 = .ok (.iadd, 1) := by decide +kernel
theorem dL_law_254 : decode cL_law 254 = .ok (.iaload, 1) := by decide +kernel
theorem dL_law_255 : decode cL_law 255 = .ok (.invokevirtual 26, 3) := by decide +kernel
theorem dL_law_258 : decode cL_law 258 = .ok (.aload_n 2, 1) := by decide +kernel
theorem dL_law_259 : decode cL_law 259 = .ok (.aload_n 0, 1) := by decide +kernel
theorem dL_law_260 : decode cL_law 260 = .ok (.iload_n 3, 1) := by decide +kernel
theorem dL_law_261 : decode cL_law 261 = .ok (.iconst 1, 1) := by decide +kernel
theorem dL_law_262 : decode cL_law 262 = .ok (.iadd, 1) := by decide +kernel
theorem dL_law_263 : decode cL_law 263 = .ok (.iaload, 1) := by decide +kernel
theorem dL_law_264 : decode cL_law 264 = .ok (.aload_n 0, 1) := by decide +kernel
theorem dL_law_265 : decode cL_law 265 = .ok (.iload_n 3, 1) := by decide +kernel
theorem dL_law_266 : decode cL_law 266 = .ok (.iconst 2, 1) := by decide +kernel
theorem dL_law_267 : decode cL_law 267 = .ok (.iadd, 1) := by decide +kernel
theorem dL_law_268 : decode cL_law 268 = .ok (.iaload, 1) := by decide +kernel
theorem dL_law_269 : decode cL_law 269 = .ok (.aload_n 0, 1) := by decide +kernel
theorem dL_law_270 : decode cL_law 270 = .ok (.iload_n 3, 1) := by decide +kernel
theorem dL_law_271 : decode cL_law 271 = .ok (.iconst 3, 1) := by decide +kernel
theorem dL_law_272 : decode cL_law 272 = .ok (.iadd, 1) := by decide +kernel
theorem dL_law_273 : decode cL_law 273 = .ok (.iaload, 1) := by decide +kernel
theorem dL_law_274 : decode cL_law 274 = .ok (.invokevirtual 30, 3) := by decide +kernel
theorem dL_law_277 : decode cL_law 277 = .ok (.if_icmp .eq 443, 3) := by decide +kernel
theorem dL_law_280 : decode cL_law 280 = .ok (.iconst 0, 1) := by decide +kernel
theorem dL_law_281 : decode cL_law 281 = .ok (.ireturn, 1) := by decide +kernel
theorem dL_law_282 : decode cL_law 282 = .ok (.aload_n 1, 1) := by decide +kernel
theorem dL_law_283 : decode cL_law 283 = .ok (.aload_n 0, 1) := by decide +kernel
theorem dL_law_284 : decode cL_law 284 = .ok (.iload_n 3, 1) := by decide +kernel
theorem dL_law_285 : decode cL_law 285 = .ok (.iconst 1, 1) := by decide +kernel
theorem dL_law_286 : decode cL_law 286 = .ok (.iadd, 1) := by decide +kernel
theorem dL_law_287 : decode cL_law 287 = .ok (.iaload, 1) := by decide +kernel
theorem dL_law_288 : decode cL_law 288 = .ok (.invokevirtual 31, 3) := by decide +kernel
theorem dL_law_291 : decode cL_law 291 = .ok (.aload_n 2, 1) := by decide +kernel
theorem dL_law_292 : decode cL_law 292 = .ok (.aload_n 0, 1) := by decide +kernel
theorem dL_law_293 : decode cL_law 293 = .ok (.iload_n 3, 1) := by decide +kernel
theorem dL_law_294 : decode cL_law 294 = .ok (.iconst 1, 1) := by decide +kernel
theorem dL_law_295 : decode cL_law 295 = .ok (.iadd, 1) := by decide +kernel
theorem dL_law_296 : decode cL_law 296 = .ok (.iaload, 1) := by decide +kernel
theorem dL_law_297 : decode cL_law 297 = .ok (.invokevirtual 35, 3) := by decide +kernel
theorem dL_law_300 : decode cL_law 300 = .ok (.if_icmp .eq 420, 3) := by decide +kernel
theorem dL_law_303 : decode cL_law 303 = .ok (.iconst 0, 1) := by decide +kernel
theorem dL_law_304 : decode cL_law 304 = .ok (.ireturn, 1) := by decide +kernel
theorem dL_law_305 : decode cL_law 305 = .ok (.aload_n 1, 1) := by decide +kernel
theorem dL_law_306 : decode cL_law 306 = .ok (.aload_n 0, 1) := by decide +kernel
theorem dL_law_307 : decode cL_law 307 = .ok (.iload_n 3, 1) := by decide +kernel
theorem dL_law_308 : decode cL_law 308 = .ok (.iconst 1, 1) := by decide +kernel
theorem dL_law_309 : decode cL_law 309 = .ok (.iadd, 1) := by decide +kernel
theorem dL_law_310 : decode cL_law 310 = .ok (.iaload, 1) := by decide +kernel
theorem dL_law_311 : decode cL_law 311 = .ok (.invokevirtual 36, 3) := by decide +kernel
theorem dL_law_314 : decode cL_law 314 = .ok (.aload_n 2, 1) := by decide +kernel
theorem dL_law_315 : decode cL_law 315 = .ok (.aload_n 0, 1) := by decide +kernel
theorem dL_law_316 : decode cL_law 316 = .ok (.iload_n 3, 1) := by decide +kernel
theorem dL_law_317 : decode cL_law 317 = .ok (.iconst 1, 1) := by decide +kernel
theorem dL_law_318 : decode cL_law 318 = .ok (.iadd, 1) := by decide +kernel
theorem dL_law_319 : decode cL_law 319 = .ok (.iaload, 1) := by decide +kernel
theorem dL_law_320 : decode cL_law 320 = .ok (.invokevirtual 39, 3) := by decide +kernel
theorem dL_law_323 : decode cL_law 323 = .ok (.if_icmp .eq 397, 3) := by decide +kernel
theorem dL_law_326 : decode cL_law 326 = .ok (.iconst 0, 1) := by decide +kernel
theorem dL_law_327 : decode cL_law 327 = .ok (.ireturn, 1) := by decide +kernel
theorem dL_law_328 : decode cL_law 328 = .ok (.aload_n 1, 1) := by decide +kernel
theorem dL_law_329 : decode cL_law 329 = .ok (.aload_n 0, 1) := by decide +kernel
theorem dL_law_330 : decode cL_law 330 = .ok (.iload_n 3, 1) := by decide +kernel
theorem dL_law_331 : decode cL_law 331 = .ok (.iconst 1, 1) := by decide +kernel
theorem dL_law_332 : decode cL_law 332 = .ok (.iadd, 1) := by decide +kernel
theorem dL_law_333 : decode cL_law 333 = .ok (.iaload, 1) := by decide +kernel
theorem dL_law_334 : decode cL_law 334 = .ok (.invokevirtual 40, 3) := by decide +kernel
theorem dL_law_337 : decode cL_law 337 = .ok (.aload_n 2, 1) := by decide +kernel
theorem dL_law_338 : decode cL_law 338 = .ok (.aload_n 0, 1) := by decide +kernel
theorem dL_law_339 : decode cL_law 339 = .ok (.iload_n 3, 1) := by decide +kernel
theorem dL_law_340 : decode cL_law 340 = .ok (.iconst 1, 1) := by decide +kernel
theorem dL_law_341 : decode cL_law 341 = .ok (.iadd, 1) := by decide +kernel
theorem dL_law_342 : decode cL_law 342 = .ok (.iaload, 1) := by decide +kernel
theorem dL_law_343 : decode cL_law 343 = .ok (.invokevirtual 43, 3) := by decide +kernel
theorem dL_law_346 : decode cL_law 346 = .ok (.if_icmp .eq 374, 3) := by decide +kernel
theorem dL_law_349 : decode cL_law 349 = .ok (.iconst 0, 1) := by decide +kernel
theorem dL_law_350 : decode cL_law 350 = .ok (.ireturn, 1) := by decide +kernel
theorem dL_law_351 : decode cL_law 351 = .ok (.aload_n 1, 1) := by decide +kernel
theorem dL_law_352 : decode cL_law 352 = .ok (.aload_n 0, 1) := by decide +kernel
theorem dL_law_353 : decode cL_law 353 = .ok (.iload_n 3, 1) := by decide +kernel
theorem dL_law_354 : decode cL_law 354 = .ok (.iconst 1, 1) := by decide +kernel
theorem dL_law_355 : decode cL_law 355 = .ok (.iadd, 1) := by decide +kernel
theorem dL_law_356 : decode cL_law 356 = .ok (.iaload, 1) := by decide +kernel
theorem dL_law_357 : decode cL_law 357 = .ok (.invokevirtual 44, 3) := by decide +kernel
theorem dL_law_360 : decode cL_law 360 = .ok (.aload_n 2, 1) := by decide +kernel
theorem dL_law_361 : decode cL_law 361 = .ok (.aload_n 0, 1) := by decide +kernel
theorem dL_law_362 : decode cL_law 362 = .ok (.iload_n 3, 1) := by decide +kernel
theorem dL_law_363 : decode cL_law 363 = .ok (.iconst 1, 1) := by decide +kernel
theorem dL_law_364 : decode cL_law 364 = .ok (.iadd, 1) := by decide +kernel
theorem dL_law_365 : decode cL_law 365 = .ok (.iaload, 1) := by decide +kernel
theorem dL_law_366 : decode cL_law 366 = .ok (.invokevirtual 47, 3) := by decide +kernel
theorem dL_law_369 : decode cL_law 369 = .ok (.if_icmp .eq 351, 3) := by decide +kernel
theorem dL_law_372 : decode cL_law 372 = .ok (.iconst 0, 1) := by decide +kernel
theorem dL_law_373 : decode cL_law 373 = .ok (.ireturn, 1) := by decide +kernel
theorem dL_law_374 : decode cL_law 374 = .ok (.aload_n 1, 1) := by decide +kernel
theorem dL_law_375 : decode cL_law 375 = .ok (.aload_n 0, 1) := by decide +kernel
theorem dL_law_376 : decode cL_law 376 = .ok (.iload_n 3, 1) := by decide +kernel
theorem dL_law_377 : decode cL_law 377 = .ok (.iconst 1, 1) := by decide +kernel
theorem dL_law_378 : decode cL_law 378 = .ok (.iadd, 1) := by decide +kernel
theorem dL_law_379 : decode cL_law 379 = .ok (.iaload, 1) := by decide +kernel
theorem dL_law_380 : decode cL_law 380 = .ok (.aload_n 0, 1) := by decide +kernel
theorem dL_law_381 : decode cL_law 381 = .ok (.iload_n 3, 1) := by decide +kernel
theorem dL_law_382 : decode cL_law 382 = .ok (.iconst 2, 1) := by decide +kernel
theorem dL_law_383 : decode cL_law 383 = .ok (.iadd, 1) := by decide +kernel
theorem dL_law_384 : decode cL_law 384 = .ok (.iaload, 1) := by decide +kernel
theorem dL_law_385 : decode cL_law 385 = .ok (.invokevirtual 48, 3) := by decide +kernel
theorem dL_law_388 : decode cL_law 388 = .ok (.aload_n 2, 1) := by decide +kernel
theorem dL_law_389 : decode cL_law 389 = .ok (.aload_n 0, 1) := by decide +kernel
theorem dL_law_390 : decode cL_law 390 = .ok (.iload_n 3, 1) := by decide +kernel
theorem dL_law_391 : decode cL_law 391 = .ok (.iconst 1, 1) := by decide +kernel
theorem dL_law_392 : decode cL_law 392 = .ok (.iadd, 1) := by decide +kernel
theorem dL_law_393 : decode cL_law 393 = .ok (.iaload, 1) := by decide +kernel
theorem dL_law_394 : decode cL_law 394 = .ok (.aload_n 0, 1) := by decide +kernel
theorem dL_law_395 : decode cL_law 395 = .ok (.iload_n 3, 1) := by decide +kernel
theorem dL_law_396 : decode cL_law 396 = .ok (.iconst 2, 1) := by decide +kernel
theorem dL_law_397 : decode cL_law 397 = .ok (.iadd, 1) := by decide +kernel
theorem dL_law_398 : decode cL_law 398 = .ok (.iaload, 1) := by decide +kernel
theorem dL_law_399 : decode cL_law 399 = .ok (.invokevirtual 51, 3) := by decide +kernel
theorem dL_law_402 : decode cL_law 402 = .ok (.if_icmp .eq 318, 3) := by decide +kernel
theorem dL_law_405 : decode cL_law 405 = .ok (.iconst 0, 1) := by decide +kernel
theorem dL_law_406 : decode cL_law 406 = .ok (.ireturn, 1) := by decide +kernel
theorem dL_law_407 : decode cL_law 407 = .ok (.aload_n 1, 1) := by decide +kernel
theorem dL_law_408 : decode cL_law 408 = .ok (.aload_n 0, 1) := by decide +kernel
theorem dL_law_409 : decode cL_law 409 = .ok (.iload_n 3, 1) := by decide +kernel
theorem dL_law_410 : decode cL_law 410 = .ok (.iconst 1, 1) := by decide +kernel
theorem dL_law_411 : decode cL_law 411 = .ok (.iadd, 1) := by decide +kernel
theorem dL_law_412 : decode cL_law 412 = .ok (.iaload, 1) := by decide +kernel
theorem dL_law_413 : decode cL_law 413 = .ok (.aload_n 0, 1) := by decide +kernel
theorem dL_law_414 : decode cL_law 414 = .ok (.iload_n 3, 1) := by decide +kernel
theorem dL_law_415 : decode cL_law 415 = .ok (.iconst 2, 1) := by decide +kernel
theorem dL_law_416 : decode cL_law 416 = .ok (.iadd, 1) := by decide +kernel
theorem dL_law_417 : decode cL_law 417 = .ok (.iaload, 1) := by decide +kernel
theorem dL_law_418 : decode cL_law 418 = .ok (.invokevirtual 52, 3) := by decide +kernel
theorem dL_law_421 : decode cL_law 421 = .ok (.aload_n 2, 1) := by decide +kernel
theorem dL_law_422 : decode cL_law 422 = .ok (.aload_n 0, 1) := by decide +kernel
theorem dL_law_423 : decode cL_law 423 = .ok (.iload_n 3, 1) := by decide +kernel
theorem dL_law_424 : decode cL_law 424 = .ok (.iconst 1, 1) := by decide +kernel
theorem dL_law_425 : decode cL_law 425 = .ok (.iadd, 1) := by decide +kernel
theorem dL_law_426 : decode cL_law 426 = .ok (.iaload, 1) := by decide +kernel
theorem dL_law_427 : decode cL_law 427 = .ok (.aload_n 0, 1) := by decide +kernel
theorem dL_law_428 : decode cL_law 428 = .ok (.iload_n 3, 1) := by decide +kernel
theorem dL_law_429 : decode cL_law 429 = .ok (.iconst 2, 1) := by decide +kernel
theorem dL_law_430 : decode cL_law 430 = .ok (.iadd, 1) := by decide +kernel
theorem dL_law_431 : decode cL_law 431 = .ok (.iaload, 1) := by decide +kernel
theorem dL_law_432 : decode cL_law 432 = .ok (.invokevirtual 55, 3) := by decide +kernel
theorem dL_law_435 : decode cL_law 435 = .ok (.if_icmp .eq 285, 3) := by decide +kernel
theorem dL_law_438 : decode cL_law 438 = .ok (.iconst 0, 1) := by decide +kernel
theorem dL_law_439 : decode cL_law 439 = .ok (.ireturn, 1) := by decide +kernel
theorem dL_law_440 : decode cL_law 440 = .ok (.aload_n 1, 1) := by decide +kernel
theorem dL_law_441 : decode cL_law 441 = .ok (.aload_n 0, 1) := by decide +kernel
theorem dL_law_442 : decode cL_law 442 = .ok (.iload_n 3, 1) := by decide +kernel
theorem dL_law_443 : decode cL_law 443 = .ok (.iconst 1, 1) := by decide +kernel
theorem dL_law_444 : decode cL_law 444 = .ok (.iadd, 1) := by decide +kernel
theorem dL_law_445 : decode cL_law 445 = .ok (.iaload, 1) := by decide +kernel
theorem dL_law_446 : decode cL_law 446 = .ok (.aload_n 0, 1) := by decide +kernel
theorem dL_law_447 : decode cL_law 447 = .ok (.iload_n 3, 1) := by decide +kernel
theorem dL_law_448 : decode cL_law 448 = .ok (.iconst 2, 1) := by decide +kernel
theorem dL_law_449 : decode cL_law 449 = .ok (.iadd, 1) := by decide +kernel
theorem dL_law_450 : decode cL_law 450 = .ok (.iaload, 1) := by decide +kernel
theorem dL_law_451 : decode cL_law 451 = .ok (.invokevirtual 56, 3) := by decide +kernel
theorem dL_law_454 : decode cL_law 454 = .ok (.aload_n 2, 1) := by decide +kernel
theorem dL_law_455 : decode cL_law 455 = .ok (.aload_n 0, 1) := by decide +kernel
theorem dL_law_456 : decode cL_law 456 = .ok (.iload_n 3, 1) := by decide +kernel
theorem dL_law_457 : decode cL_law 457 = .ok (.iconst 1, 1) := by decide +kernel
theorem dL_law_458 : decode cL_law 458 = .ok (.iadd, 1) := by decide +kernel
theorem dL_law_459 : decode cL_law 459 = .ok (.iaload, 1) := by decide +kernel
theorem dL_law_460 : decode cL_law 460 = .ok (.aload_n 0, 1) := by decide +kernel
theorem dL_law_461 : decode cL_law 461 = .ok (.iload_n 3, 1) := by decide +kernel
theorem dL_law_462 : decode cL_law 462 = .ok (.iconst 2, 1) := by decide +kernel
theorem dL_law_463 : decode cL_law 463 = .ok (.iadd, 1) := by decide +kernel
theorem dL_law_464 : decode cL_law 464 = .ok (.iaload, 1) := by decide +kernel
theorem dL_law_465 : decode cL_law 465 = .ok (.invokevirtual 59, 3) := by decide +kernel
theorem dL_law_468 : decode cL_law 468 = .ok (.if_icmp .eq 252, 3) := by decide +kernel
theorem dL_law_471 : decode cL_law 471 = .ok (.iconst 0, 1) := by decide +kernel
theorem dL_law_472 : decode cL_law 472 = .ok (.ireturn, 1) := by decide +kernel
theorem dL_law_473 : decode cL_law 473 = .ok (.aload_n 1, 1) := by decide +kernel
theorem dL_law_474 : decode cL_law 474 = .ok (.aload_n 0, 1) := by decide +kernel
theorem dL_law_475 : decode cL_law 475 = .ok (.iload_n 3, 1) := by decide +kernel
theorem dL_law_476 : decode cL_law 476 = .ok (.iconst 1, 1) := by decide +kernel
theorem dL_law_477 : decode cL_law 477 = .ok (.iadd, 1) := by decide +kernel
theorem dL_law_478 : decode cL_law 478 = .ok (.iaload, 1) := by decide +kernel
theorem dL_law_479 : decode cL_law 479 = .ok (.aload_n 0, 1) := by decide +kernel
theorem dL_law_480 : decode cL_law 480 = .ok (.iload_n 3, 1) := by decide +kernel
theorem dL_law_481 : decode cL_law 481 = .ok (.iconst 2, 1) := by decide +kernel
theorem dL_law_482 : decode cL_law 482 = .ok (.iadd, 1) := by decide +kernel
theorem dL_law_483 : decode cL_law 483 = .ok (.iaload, 1) := by decide +kernel
theorem dL_law_484 : decode cL_law 484 = .ok (.invokevirtual 60, 3) := by decide +kernel
theorem dL_law_487 : decode cL_law 487 = .ok (.aload_n 2, 1) := by decide +kernel
theorem dL_law_488 : decode cL_law 488 = .ok (.aload_n 0, 1) := by decide +kernel
theorem dL_law_489 : decode cL_law 489 = .ok (.iload_n 3, 1) := by decide +kernel
theorem dL_law_490 : decode cL_law 490 = .ok (.iconst 1, 1) := by decide +kernel
theorem dL_law_491 : decode cL_law 491 = .ok (.iadd, 1) := by decide +kernel
theorem dL_law_492 : decode cL_law 492 = .ok (.iaload, 1) := by decide +kernel
theorem dL_law_493 : decode cL_law 493 = .ok (.aload_n 0, 1) := by decide +kernel
theorem dL_law_494 : decode cL_law 494 = .ok (.iload_n 3, 1) := by decide +kernel
theorem dL_law_495 : decode cL_law 495 = .ok (.iconst 2, 1) := by decide +kernel
theorem dL_law_496 : decode cL_law 496 = .ok (.iadd, 1) := by decide +kernel
theorem dL_law_497 : decode cL_law 497 = .ok (.iaload, 1) := by decide +kernel
theorem dL_law_498 : decode cL_law 498 = .ok (.invokevirtual 63, 3) := by decide +kernel
theorem dL_law_501 : decode cL_law 501 = .ok (.if_icmp .eq 219, 3) := by decide +kernel
theorem dL_law_504 : decode cL_law 504 = .ok (.iconst 0, 1) := by decide +kernel
theorem dL_law_505 : decode cL_law 505 = .ok (.ireturn, 1) := by decide +kernel
theorem dL_law_506 : decode cL_law 506 = .ok (.aload_n 1, 1) := by decide +kernel
theorem dL_law_507 : decode cL_law 507 = .ok (.invokevirtual 64, 3) := by decide +kernel
theorem dL_law_510 : decode cL_law 510 = .ok (.aload_n 2, 1) := by decide +kernel
theorem dL_law_511 : decode cL_law 511 = .ok (.invokevirtual 68, 3) := by decide +kernel
theorem dL_law_514 : decode cL_law 514 = .ok (.if_icmp .eq 206, 3) := by decide +kernel
theorem dL_law_517 : decode cL_law 517 = .ok (.iconst 0, 1) := by decide +kernel
theorem dL_law_518 : decode cL_law 518 = .ok (.ireturn, 1) := by decide +kernel
theorem dL_law_519 : decode cL_law 519 = .ok (.aload_n 1, 1) := by decide +kernel
theorem dL_law_520 : decode cL_law 520 = .ok (.aload_n 0, 1) := by decide +kernel
theorem dL_law_521 : decode cL_law 521 = .ok (.iload_n 3, 1) := by decide +kernel
theorem dL_law_522 : decode cL_law 522 = .ok (.iconst 1, 1) := by decide +kernel
theorem dL_law_523 : decode cL_law 523 = .ok (.iadd, 1) := by decide +kernel
theorem dL_law_524 : decode cL_law 524 = .ok (.iaload, 1) := by decide +kernel
theorem dL_law_525 : decode cL_law 525 = .ok (.invokevirtual 69, 3) := by decide +kernel
theorem dL_law_528 : decode cL_law 528 = .ok (.aload_n 2, 1) := by decide +kernel
theorem dL_law_529 : decode cL_law 529 = .ok (.aload_n 0, 1) := by decide +kernel
theorem dL_law_530 : decode cL_law 530 = .ok (.iload_n 3, 1) := by decide +kernel
theorem dL_law_531 : decode cL_law 531 = .ok (.iconst 1, 1) := by decide +kernel
theorem dL_law_532 : decode cL_law 532 = .ok (.iadd, 1) := by decide +kernel
theorem dL_law_533 : decode cL_law 533 = .ok (.iaload, 1) := by decide +kernel
theorem dL_law_534 : decode cL_law 534 = .ok (.invokevirtual 72, 3) := by decide +kernel
theorem dL_law_537 : decode cL_law 537 = .ok (.if_icmp .eq 183, 3) := by decide +kernel
theorem dL_law_540 : decode cL_law 540 = .ok (.iconst 0, 1) := by decide +kernel
theorem dL_law_541 : decode cL_law 541 = .ok (.ireturn, 1) := by decide +kernel
theorem dL_law_542 : decode cL_law 542 = .ok (.aload_n 1, 1) := by decide +kernel
theorem dL_law_543 : decode cL_law 543 = .ok (.invokevirtual 73, 3) := by decide +kernel
theorem dL_law_546 : decode cL_law 546 = .ok (.aload_n 2, 1) := by decide +kernel
theorem dL_law_547 : decode cL_law 547 = .ok (.invokevirtual 76, 3) := by decide +kernel
theorem dL_law_550 : decode cL_law 550 = .ok (.if_icmp .eq 170, 3) := by decide +kernel
theorem dL_law_553 : decode cL_law 553 = .ok (.iconst 0, 1) := by decide +kernel
theorem dL_law_554 : decode cL_law 554 = .ok (.ireturn, 1) := by decide +kernel
theorem dL_law_555 : decode cL_law 555 = .ok (.aload_n 1, 1) := by decide +kernel
theorem dL_law_556 : decode cL_law 556 = .ok (.aload_n 0, 1) := by decide +kernel
theorem dL_law_557 : decode cL_law 557 = .ok (.iload_n 3, 1) := by decide +kernel
theorem dL_law_558 : decode cL_law 558 = .ok (.iconst 1, 1) := by decide +kernel
theorem dL_law_559 : decode cL_law 559 = .ok (.iadd, 1) := by decide +kernel
theorem dL_law_560 : decode cL_law 560 = .ok (.iaload, 1) := by decide +kernel
theorem dL_law_561 : decode cL_law 561 = .ok (.aload_n 0, 1) := by decide +kernel
theorem dL_law_562 : decode cL_law 562 = .ok (.iload_n 3, 1) := by decide +kernel
theorem dL_law_563 : decode cL_law 563 = .ok (.iconst 2, 1) := by decide +kernel
theorem dL_law_564 : decode cL_law 564 = .ok (.iadd, 1) := by decide +kernel
theorem dL_law_565 : decode cL_law 565 = .ok (.iaload, 1) := by decide +kernel
theorem dL_law_566 : decode cL_law 566 = .ok (.invokevirtual 77, 3) := by decide +kernel
theorem dL_law_569 : decode cL_law 569 = .ok (.aload_n 2, 1) := by decide +kernel
theorem dL_law_570 : decode cL_law 570 = .ok (.aload_n 0, 1) := by decide +kernel
theorem dL_law_571 : decode cL_law 571 = .ok (.iload_n 3, 1) := by decide +kernel
theorem dL_law_572 : decode cL_law 572 = .ok (.iconst 1, 1) := by decide +kernel
theorem dL_law_573 : decode cL_law 573 = .ok (.iadd, 1) := by decide +kernel
theorem dL_law_574 : decode cL_law 574 = .ok (.iaload, 1) := by decide +kernel
theorem dL_law_575 : decode cL_law 575 = .ok (.aload_n 0, 1) := by decide +kernel
theorem dL_law_576 : decode cL_law 576 = .ok (.iload_n 3, 1) := by decide +kernel
theorem dL_law_577 : decode cL_law 577 = .ok (.iconst 2, 1) := by decide +kernel
theorem dL_law_578 : decode cL_law 578 = .ok (.iadd, 1) := by decide +kernel
theorem dL_law_579 : decode cL_law 579 = .ok (.iaload, 1) := by decide +kernel
theorem dL_law_580 : decode cL_law 580 = .ok (.invokevirtual 80, 3) := by decide +kernel
theorem dL_law_583 : decode cL_law 583 = .ok (.if_icmp .eq 137, 3) := by decide +kernel
theorem dL_law_586 : decode cL_law 586 = .ok (.iconst 0, 1) := by decide +kernel
theorem dL_law_587 : decode cL_law 587 = .ok (.ireturn, 1) := by decide +kernel
theorem dL_law_588 : decode cL_law 588 = .ok (.aload_n 1, 1) := by decide +kernel
theorem dL_law_589 : decode cL_law 589 = .ok (.aload_n 0, 1) := by decide +kernel
theorem dL_law_590 : decode cL_law 590 = .ok (.iload_n 3, 1) := by decide +kernel
theorem dL_law_591 : decode cL_law 591 = .ok (.iconst 1, 1) := by decide +kernel
theorem dL_law_592 : decode cL_law 592 = .ok (.iadd, 1) := by decide +kernel
theorem dL_law_593 : decode cL_law 593 = .ok (.iaload, 1) := by decide +kernel
theorem dL_law_594 : decode cL_law 594 = .ok (.invokevirtual 81, 3) := by decide +kernel
theorem dL_law_597 : decode cL_law 597 = .ok (.aload_n 2, 1) := by decide +kernel
theorem dL_law_598 : decode cL_law 598 = .ok (.aload_n 0, 1) := by decide +kernel
theorem dL_law_599 : decode cL_law 599 = .ok (.iload_n 3, 1) := by decide +kernel
theorem dL_law_600 : decode cL_law 600 = .ok (.iconst 1, 1) := by decide +kernel
theorem dL_law_601 : decode cL_law 601 = .ok (.iadd, 1) := by decide +kernel
theorem dL_law_602 : decode cL_law 602 = .ok (.iaload, 1) := by decide +kernel
theorem dL_law_603 : decode cL_law 603 = .ok (.invokevirtual 84, 3) := by decide +kernel
theorem dL_law_606 : decode cL_law 606 = .ok (.if_icmp .eq 114, 3) := by decide +kernel
theorem dL_law_609 : decode cL_law 609 = .ok (.iconst 0, 1) := by decide +kernel
theorem dL_law_610 : decode cL_law 610 = .ok (.ireturn, 1) := by decide +kernel
theorem dL_law_611 : decode cL_law 611 = .ok (.aload_n 1, 1) := by decide +kernel
theorem dL_law_612 : decode cL_law 612 = .ok (.invokevirtual 85, 3) := by decide +kernel
theorem dL_law_615 : decode cL_law 615 = .ok (.aload_n 2, 1) := by decide +kernel
theorem dL_law_616 : decode cL_law 616 = .ok (.invokevirtual 88, 3) := by decide +kernel
theorem dL_law_619 : decode cL_law 619 = .ok (.if_icmp .eq 101, 3) := by decide +kernel
theorem dL_law_622 : decode cL_law 622 = .ok (.iconst 0, 1) := by decide +kernel
theorem dL_law_623 : decode cL_law 623 = .ok (.ireturn, 1) := by decide +kernel
theorem dL_law_624 : decode cL_law 624 = .ok (.aload_n 1, 1) := by decide +kernel
theorem dL_law_625 : decode cL_law 625 = .ok (.invokevirtual 89, 3) := by decide +kernel
theorem dL_law_628 : decode cL_law 628 = .ok (.aload_n 2, 1) := by decide +kernel
theorem dL_law_629 : decode cL_law 629 = .ok (.invokevirtual 92, 3) := by decide +kernel
theorem dL_law_632 : decode cL_law 632 = .ok (.if_icmp .eq 88, 3) := by decide +kernel
theorem dL_law_635 : decode cL_law 635 = .ok (.iconst 0, 1) := by decide +kernel
theorem dL_law_636 : decode cL_law 636 = .ok (.ireturn, 1) := by decide +kernel
theorem dL_law_637 : decode cL_law 637 = .ok (.aload_n 1, 1) := by decide +kernel
theorem dL_law_638 : decode cL_law 638 = .ok (.aload_n 0, 1) := by decide +kernel
theorem dL_law_639 : decode cL_law 639 = .ok (.iload_n 3, 1) := by decide +kernel
theorem dL_law_640 : decode cL_law 640 = .ok (.iconst 1, 1) := by decide +kernel
theorem dL_law_641 : decode cL_law 641 = .ok (.iadd, 1) := by decide +kernel
theorem dL_law_642 : decode cL_law 642 = .ok (.iaload, 1) := by decide +kernel
theorem dL_law_643 : decode cL_law 643 = .ok (.invokevirtual 93, 3) := by decide +kernel
theorem dL_law_646 : decode cL_law 646 = .ok (.aload_n 2, 1) := by decide +kernel
theorem dL_law_647 : decode cL_law 647 = .ok (.aload_n 0, 1) := by decide +kernel
theorem dL_law_648 : decode cL_law 648 = .ok (.iload_n 3, 1) := by decide +kernel
theorem dL_law_649 : decode cL_law 649 = .ok (.iconst 1, 1) := by decide +kernel
theorem dL_law_650 : decode cL_law 650 = .ok (.iadd, 1) := by decide +kernel
theorem dL_law_651 : decode cL_law 651 = .ok (.iaload, 1) := by decide +kernel
theorem dL_law_652 : decode cL_law 652 = .ok (.invokevirtual 96, 3) := by decide +kernel
theorem dL_law_655 : decode cL_law 655 = .ok (.if_icmp .eq 65, 3) := by decide +kernel
theorem dL_law_658 : decode cL_law 658 = .ok (.iconst 0, 1) := by decide +kernel
theorem dL_law_659 : decode cL_law 659 = .ok (.ireturn, 1) := by decide +kernel
theorem dL_law_660 : decode cL_law 660 = .ok (.aload_n 1, 1) := by decide +kernel
theorem dL_law_661 : decode cL_law 661 = .ok (.aload_n 0, 1) := by decide +kernel
theorem dL_law_662 : decode cL_law 662 = .ok (.iload_n 3, 1) := by decide +kernel
theorem dL_law_663 : decode cL_law 663 = .ok (.iconst 1, 1) := by decide +kernel
theorem dL_law_664 : decode cL_law 664 = .ok (.iadd, 1) := by decide +kernel
theorem dL_law_665 : decode cL_law 665 = .ok (.iaload, 1) := by decide +kernel
theorem dL_law_666 : decode cL_law 666 = .ok (.invokevirtual 97, 3) := by decide +kernel
theorem dL_law_669 : decode cL_law 669 = .ok (.aload_n 2, 1) := by decide +kernel
theorem dL_law_670 : decode cL_law 670 = .ok (.aload_n 0, 1) := by decide +kernel
theorem dL_law_671 : decode cL_law 671 = .ok (.iload_n 3, 1) := by decide +kernel
theorem dL_law_672 : decode cL_law 672 = .ok (.iconst 1, 1) := by decide +kernel
theorem dL_law_673 : decode cL_law 673 = .ok (.iadd, 1) := by decide +kernel
theorem dL_law_674 : decode cL_law 674 = .ok (.iaload, 1) := by decide +kernel
theorem dL_law_675 : decode cL_law 675 = .ok (.invokevirtual 100, 3) := by decide +kernel
theorem dL_law_678 : decode cL_law 678 = .ok (.if_icmp .eq 42, 3) := by decide +kernel
theorem dL_law_681 : decode cL_law 681 = .ok (.iconst 0, 1) := by decide +kernel
theorem dL_law_682 : decode cL_law 682 = .ok (.ireturn, 1) := by decide +kernel
theorem dL_law_683 : decode cL_law 683 = .ok (.aload_n 1, 1) := by decide +kernel
theorem dL_law_684 : decode cL_law 684 = .ok (.aload_n 0, 1) := by decide +kernel
theorem dL_law_685 : decode cL_law 685 = .ok (.iload_n 3, 1) := by decide +kernel
theorem dL_law_686 : decode cL_law 686 = .ok (.iconst 1, 1) := by decide +kernel
theorem dL_law_687 : decode cL_law 687 = .ok (.iadd, 1) := by decide +kernel
theorem dL_law_688 : decode cL_law 688 = .ok (.iaload, 1) := by decide +kernel
theorem dL_law_689 : decode cL_law 689 = .ok (.invokevirtual 101, 3) := by decide +kernel
theorem dL_law_692 : decode cL_law 692 = .ok (.aload_n 2, 1) := by decide +kernel
theorem dL_law_693 : decode cL_law 693 = .ok (.aload_n 0, 1) := by decide +kernel
theorem dL_law_694 : decode cL_law 694 = .ok (.iload_n 3, 1) := by decide +kernel
theorem dL_law_695 : decode cL_law 695 = .ok (.iconst 1, 1) := by decide +kernel
theorem dL_law_696 : decode cL_law 696 = .ok (.iadd, 1) := by decide +kernel
theorem dL_law_697 : decode cL_law 697 = .ok (.iaload, 1) := by decide +kernel
theorem dL_law_698 : decode cL_law 698 = .ok (.invokevirtual 104, 3) := by decide +kernel
theorem dL_law_701 : decode cL_law 701 = .ok (.if_icmp .eq 19, 3) := by decide +kernel
theorem dL_law_704 : decode cL_law 704 = .ok (.iconst 0, 1) := by decide +kernel
theorem dL_law_705 : decode cL_law 705 = .ok (.ireturn, 1) := by decide +kernel
theorem dL_law_706 : decode cL_law 706 = .ok (.aload_n 1, 1) := by decide +kernel
theorem dL_law_707 : decode cL_law 707 = .ok (.invokevirtual 105, 3) := by decide +kernel
theorem dL_law_710 : decode cL_law 710 = .ok (.aload_n 2, 1) := by decide +kernel
theorem dL_law_711 : decode cL_law 711 = .ok (.invokevirtual 109, 3) := by decide +kernel
theorem dL_law_714 : decode cL_law 714 = .ok (.lcmp, 1) := by decide +kernel
theorem dL_law_715 : decode cL_law 715 = .ok (.ifCond .eq 5, 3) := by decide +kernel
theorem dL_law_718 : decode cL_law 718 = .ok (.iconst 0, 1) := by decide +kernel
theorem dL_law_719 : decode cL_law 719 = .ok (.ireturn, 1) := by decide +kernel
theorem dL_law_720 : decode cL_law 720 = .ok (.iinc 3 4, 3) := by decide +kernel
theorem dL_law_723 : decode cL_law 723 = .ok (.goto (-705), 3) := by decide +kernel
theorem dL_law_726 : decode cL_law 726 = .ok (.iconst 1, 1) := by decide +kernel
theorem dL_law_727 : decode cL_law 727 = .ok (.ireturn, 1) := by decide +kernel
