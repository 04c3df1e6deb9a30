theorem dd_L_atom_0 : decode bb_L_atom 0 = .ok (.aload 6, 2) := by decide +kernel
theorem dd_L_atom_2 : decode bb_L_atom 2 = .ok (.iconst 0, 1) := by decide +kernel
theorem dd_L_atom_3 : decode bb_L_atom 3 = .ok (.aload_n 0, 1) := by decide +kernel
theorem dd_L_atom_4 : decode bb_L_atom 4 = .ok (.iload_n 1, 1) := by decide +kernel
theorem dd_L_atom_5 : decode bb_L_atom 5 = .ok (.iload_n 2, 1) := by decide +kernel
theorem dd_L_atom_6 : decode bb_L_atom 6 = .ok (.iload_n 3, 1) := by decide +kernel
theorem dd_L_atom_7 : decode bb_L_atom 7 = .ok (.iload 4, 2) := by decide +kernel
theorem dd_L_atom_9 : decode bb_L_atom 9 = .ok (.iload 5, 2) := by decide +kernel
theorem dd_L_atom_11 : decode bb_L_atom 11 = .ok (.invokevirtual 23, 3) := by decide +kernel
theorem dd_L_atom_14 : decode bb_L_atom 14 = .ok (.i2l, 1) := by decide +kernel
theorem dd_L_atom_15 : decode bb_L_atom 15 = .ok (.lastore, 1) := by decide +kernel
theorem dd_L_atom_16 : decode bb_L_atom 16 = .ok (.goto 11, 3) := by decide +kernel
theorem dd_L_atom_19 : decode bb_L_atom 19 = .ok (.astore 7, 2) := by decide +kernel
theorem dd_L_atom_21 : decode bb_L_atom 21 = .ok (.iconst 1, 1) := by decide +kernel
theorem dd_L_atom_22 : decode bb_L_atom 22 = .ok (.ireturn, 1) := by decide +kernel
theorem dd_L_atom_23 : decode bb_L_atom 23 = .ok (.astore 7, 2) := by decide +kernel
theorem dd_L_atom_25 : decode bb_L_atom 25 = .ok (.iconst 2, 1) := by decide +kernel
theorem dd_L_atom_26 : decode bb_L_atom 26 = .ok (.ireturn, 1) := by decide +kernel
theorem dd_L_atom_27 : decode bb_L_atom 27 = .ok (.iconst 0, 1) := by decide +kernel
theorem dd_L_atom_28 : decode bb_L_atom 28 = .ok (.ireturn, 1) := by decide +kernel
theorem dd_L_best_0 : decode bb_L_best 0 = .ok (.aload 4, 2) := by decide +kernel
theorem dd_L_best_2 : decode bb_L_best 2 = .ok (.iconst 0, 1) := by decide +kernel
theorem dd_L_best_3 : decode bb_L_best 3 = .ok (.aload_n 0, 1) := by decide +kernel
theorem dd_L_best_4 : decode bb_L_best 4 = .ok (.iload_n 1, 1) := by decide +kernel
theorem dd_L_best_5 : decode bb_L_best 5 = .ok (.iload_n 2, 1) := by decide +kernel
theorem dd_L_best_6 : decode bb_L_best 6 = .ok (.iload_n 3, 1) := by decide +kernel
theorem dd_L_best_7 : decode bb_L_best 7 = .ok (.invokevirtual 35, 3) := by decide +kernel
theorem dd_L_best_10 : decode bb_L_best 10 = .ok (.i2l, 1) := by decide +kernel
theorem dd_L_best_11 : decode bb_L_best 11 = .ok (.lastore, 1) := by decide +kernel
theorem dd_L_best_12 : decode bb_L_best 12 = .ok (.goto 7, 3) := by decide +kernel
theorem dd_L_best_15 : decode bb_L_best 15 = .ok (.astore 5, 2) := by decide +kernel
theorem dd_L_best_17 : decode bb_L_best 17 = .ok (.iconst 1, 1) := by decide +kernel
theorem dd_L_best_18 : decode bb_L_best 18 = .ok (.ireturn, 1) := by decide +kernel
theorem dd_L_best_19 : decode bb_L_best 19 = .ok (.iconst 0, 1) := by decide +kernel
theorem dd_L_best_20 : decode bb_L_best 20 = .ok (.ireturn, 1) := by decide +kernel
theorem dd_L_beyond_0 : decode bb_L_beyond 0 = .ok (.aload_n 3, 1) := by decide +kernel
theorem dd_L_beyond_1 : decode bb_L_beyond 1 = .ok (.iconst 0, 1) := by decide +kernel
theorem dd_L_beyond_2 : decode bb_L_beyond 2 = .ok (.aload_n 0, 1) := by decide +kernel
theorem dd_L_beyond_3 : decode bb_L_beyond 3 = .ok (.iload_n 1, 1) := by decide +kernel
theorem dd_L_beyond_4 : decode bb_L_beyond 4 = .ok (.iload_n 2, 1) := by decide +kernel
theorem dd_L_beyond_5 : decode bb_L_beyond 5 = .ok (.invokevirtual 31, 3) := by decide +kernel
theorem dd_L_beyond_8 : decode bb_L_beyond 8 = .ok (.ifCond .eq 7, 3) := by decide +kernel
theorem dd_L_beyond_11 : decode bb_L_beyond 11 = .ok (.lconst 1, 1) := by decide +kernel
theorem dd_L_beyond_12 : decode bb_L_beyond 12 = .ok (.goto 4, 3) := by decide +kernel
theorem dd_L_beyond_15 : decode bb_L_beyond 15 = .ok (.lconst 0, 1) := by decide +kernel
theorem dd_L_beyond_16 : decode bb_L_beyond 16 = .ok (.lastore, 1) := by decide +kernel
theorem dd_L_beyond_17 : decode bb_L_beyond 17 = .ok (.goto 7, 3) := by decide +kernel
theorem dd_L_beyond_20 : decode bb_L_beyond 20 = .ok (.astore 4, 2) := by decide +kernel
theorem dd_L_beyond_22 : decode bb_L_beyond 22 = .ok (.iconst 1, 1) := by decide +kernel
theorem dd_L_beyond_23 : decode bb_L_beyond 23 = .ok (.ireturn, 1) := by decide +kernel
theorem dd_L_beyond_24 : decode bb_L_beyond 24 = .ok (.iconst 0, 1) := by decide +kernel
theorem dd_L_beyond_25 : decode bb_L_beyond 25 = .ok (.ireturn, 1) := by decide +kernel
theorem dd_L_check_0 : decode bb_L_check 0 = .ok (.aload_n 2, 1) := by decide +kernel
theorem dd_L_check_1 : decode bb_L_check 1 = .ok (.iconst 0, 1) := by decide +kernel
theorem dd_L_check_2 : decode bb_L_check 2 = .ok (.aload_n 0, 1) := by decide +kernel
theorem dd_L_check_3 : decode bb_L_check 3 = .ok (.iload_n 1, 1) := by decide +kernel
theorem dd_L_check_4 : decode bb_L_check 4 = .ok (.invokevirtual 38, 3) := by decide +kernel
theorem dd_L_check_7 : decode bb_L_check 7 = .ok (.i2l, 1) := by decide +kernel
theorem dd_L_check_8 : decode bb_L_check 8 = .ok (.lastore, 1) := by decide +kernel
theorem dd_L_check_9 : decode bb_L_check 9 = .ok (.goto 6, 3) := by decide +kernel
theorem dd_L_check_12 : decode bb_L_check 12 = .ok (.astore_n 3, 1) := by decide +kernel
theorem dd_L_check_13 : decode bb_L_check 13 = .ok (.iconst 1, 1) := by decide +kernel
theorem dd_L_check_14 : decode bb_L_check 14 = .ok (.ireturn, 1) := by decide +kernel
theorem dd_L_check_15 : decode bb_L_check 15 = .ok (.iconst 0, 1) := by decide +kernel
theorem dd_L_check_16 : decode bb_L_check 16 = .ok (.ireturn, 1) := by decide +kernel
theorem dd_L_compile_0 : decode bb_L_compile 0 = .ok (.aload_n 2, 1) := by decide +kernel
theorem dd_L_compile_1 : decode bb_L_compile 1 = .ok (.iconst 0, 1) := by decide +kernel
theorem dd_L_compile_2 : decode bb_L_compile 2 = .ok (.aload_n 0, 1) := by decide +kernel
theorem dd_L_compile_3 : decode bb_L_compile 3 = .ok (.iload_n 1, 1) := by decide +kernel
theorem dd_L_compile_4 : decode bb_L_compile 4 = .ok (.invokevirtual 46, 3) := by decide +kernel
theorem dd_L_compile_7 : decode bb_L_compile 7 = .ok (.i2l, 1) := by decide +kernel
theorem dd_L_compile_8 : decode bb_L_compile 8 = .ok (.lastore, 1) := by decide +kernel
theorem dd_L_compile_9 : decode bb_L_compile 9 = .ok (.goto 9, 3) := by decide +kernel
theorem dd_L_compile_12 : decode bb_L_compile 12 = .ok (.astore_n 3, 1) := by decide +kernel
theorem dd_L_compile_13 : decode bb_L_compile 13 = .ok (.iconst 1, 1) := by decide +kernel
theorem dd_L_compile_14 : decode bb_L_compile 14 = .ok (.ireturn, 1) := by decide +kernel
theorem dd_L_compile_15 : decode bb_L_compile 15 = .ok (.astore_n 3, 1) := by decide +kernel
theorem dd_L_compile_16 : decode bb_L_compile 16 = .ok (.iconst 2, 1) := by decide +kernel
theorem dd_L_compile_17 : decode bb_L_compile 17 = .ok (.ireturn, 1) := by decide +kernel
theorem dd_L_compile_18 : decode bb_L_compile 18 = .ok (.iconst 0, 1) := by decide +kernel
theorem dd_L_compile_19 : decode bb_L_compile 19 = .ok (.ireturn, 1) := by decide +kernel
theorem dd_L_generic_0 : decode bb_L_generic 0 = .ok (.aload_n 2, 1) := by decide +kernel
theorem dd_L_generic_1 : decode bb_L_generic 1 = .ok (.iconst 0, 1) := by decide +kernel
theorem dd_L_generic_2 : decode bb_L_generic 2 = .ok (.aload_n 0, 1) := by decide +kernel
theorem dd_L_generic_3 : decode bb_L_generic 3 = .ok (.iload_n 1, 1) := by decide +kernel
theorem dd_L_generic_4 : decode bb_L_generic 4 = .ok (.invokevirtual 17, 3) := by decide +kernel
theorem dd_L_generic_7 : decode bb_L_generic 7 = .ok (.i2l, 1) := by decide +kernel
theorem dd_L_generic_8 : decode bb_L_generic 8 = .ok (.lastore, 1) := by decide +kernel
theorem dd_L_generic_9 : decode bb_L_generic 9 = .ok (.goto 9, 3) := by decide +kernel
theorem dd_L_generic_12 : decode bb_L_generic 12 = .ok (.astore_n 3, 1) := by decide +kernel
theorem dd_L_generic_13 : decode bb_L_generic 13 = .ok (.iconst 1, 1) := by decide +kernel
theorem dd_L_generic_14 : decode bb_L_generic 14 = .ok (.ireturn, 1) := by decide +kernel
theorem dd_L_generic_15 : decode bb_L_generic 15 = .ok (.astore_n 3, 1) := by decide +kernel
theorem dd_L_generic_16 : decode bb_L_generic 16 = .ok (.iconst 2, 1) := by decide +kernel
theorem dd_L_generic_17 : decode bb_L_generic 17 = .ok (.ireturn, 1) := by decide +kernel
theorem dd_L_generic_18 : decode bb_L_generic 18 = .ok (.iconst 0, 1) := by decide +kernel
theorem dd_L_generic_19 : decode bb_L_generic 19 = .ok (.ireturn, 1) := by decide +kernel
theorem dd_L_klass_0 : decode bb_L_klass 0 = .ok (.aload_n 2, 1) := by decide +kernel
theorem dd_L_klass_1 : decode bb_L_klass 1 = .ok (.iconst 0, 1) := by decide +kernel
theorem dd_L_klass_2 : decode bb_L_klass 2 = .ok (.aload_n 0, 1) := by decide +kernel
theorem dd_L_klass_3 : decode bb_L_klass 3 = .ok (.iload_n 1, 1) := by decide +kernel
theorem dd_L_klass_4 : decode bb_L_klass 4 = .ok (.invokevirtual 7, 3) := by decide +kernel
theorem dd_L_klass_7 : decode bb_L_klass 7 = .ok (.i2l, 1) := by decide +kernel
theorem dd_L_klass_8 : decode bb_L_klass 8 = .ok (.lastore, 1) := by decide +kernel
theorem dd_L_klass_9 : decode bb_L_klass 9 = .ok (.goto 9, 3) := by decide +kernel
theorem dd_L_klass_12 : decode bb_L_klass 12 = .ok (.astore_n 3, 1) := by decide +kernel
theorem dd_L_klass_13 : decode bb_L_klass 13 = .ok (.iconst 1, 1) := by decide +kernel
theorem dd_L_klass_14 : decode bb_L_klass 14 = .ok (.ireturn, 1) := by decide +kernel
theorem dd_L_klass_15 : decode bb_L_klass 15 = .ok (.astore_n 3, 1) := by decide +kernel
theorem dd_L_klass_16 : decode bb_L_klass 16 = .ok (.iconst 2, 1) := by decide +kernel
theorem dd_L_klass_17 : decode bb_L_klass 17 = .ok (.ireturn, 1) := by decide +kernel
theorem dd_L_klass_18 : decode bb_L_klass 18 = .ok (.iconst 0, 1) := by decide +kernel
theorem dd_L_klass_19 : decode bb_L_klass 19 = .ok (.ireturn, 1) := by decide +kernel
theorem dd_L_law_0 : decode bb_L_law 0 = .ok (.new 8, 3) := by decide +kernel
theorem dd_L_law_3 : decode bb_L_law 3 = .ok (.dup, 1) := by decide +kernel
theorem dd_L_law_4 : decode bb_L_law 4 = .ok (.invokespecial 59, 3) := by decide +kernel
theorem dd_L_law_7 : decode bb_L_law 7 = .ok (.astore_n 1, 1) := by decide +kernel
theorem dd_L_law_8 : decode bb_L_law 8 = .ok (.new 60, 3) := by decide +kernel
theorem dd_L_law_11 : decode bb_L_law 11 = .ok (.dup, 1) := by decide +kernel
theorem dd_L_law_12 : decode bb_L_law 12 = .ok (.invokespecial 62, 3) := by decide +kernel
theorem dd_L_law_15 : decode bb_L_law 15 = .ok (.astore_n 2, 1) := by decide +kernel
theorem dd_L_law_16 : decode bb_L_law 16 = .ok (.iconst 1, 1) := by decide +kernel
theorem dd_L_law_17 : decode bb_L_law 17 = .ok (.newarray .long, 2) := by decide +kernel
theorem dd_L_law_19 : decode bb_L_law 19 = .ok (.astore_n 3, 1) := by decide +kernel
theorem dd_L_law_20 : decode bb_L_law 20 = .ok (.iconst 0, 1) := by decide +kernel
theorem dd_L_law_21 : decode bb_L_law 21 = .ok (.istore 4, 2) := by decide +kernel
theorem dd_L_law_23 : decode bb_L_law 23 = .ok (.iload 4, 2) := by decide +kernel
theorem dd_L_law_25 : decode bb_L_law 25 = .ok (.aload_n 0, 1) := by decide +kernel
theorem dd_L_law_26 : decode bb_L_law 26 = .ok (.arraylength, 1) := by decide +kernel
theorem dd_L_law_27 : decode bb_L_law 27 = .ok (.bipush 6, 2) := by decide +kernel
theorem dd_L_law_29 : decode bb_L_law 29 = .ok (.isub, 1) := by decide +kernel
theorem dd_L_law_30 : decode bb_L_law 30 = .ok (.if_icmp .gt 1061, 3) := by decide +kernel
theorem dd_L_law_33 : decode bb_L_law 33 = .ok (.aload_n 0, 1) := by decide +kernel
theorem dd_L_law_34 : decode bb_L_law 34 = .ok (.iload 4, 2) := by decide +kernel
theorem dd_L_law_36 : decode bb_L_law 36 = .ok (.iaload, 1) := by decide +kernel
theorem dd_L_law_37 : decode bb_L_law 37 = .ok (.bipush 15, 2) := by decide +kernel
theorem dd_L_law_39 : decode bb_L_law 39 = .ok (.iand, 1) := by decide +kernel
theorem dd_L_law_40 : decode bb_L_law 40 = .ok (.tableswitch 1045 0 14 #[76, 132, 188, 244, 364, 444, 519, 599, 655, 711, 767, 847, 927, 1019, 1032], 76) := by decide +kernel
theorem dd_L_law_116 : decode bb_L_law 116 = .ok (.aload_n 1, 1) := by decide +kernel
theorem dd_L_law_117 : decode bb_L_law 117 = .ok (.aload_n 0, 1) := by decide +kernel
theorem dd_L_law_118 : decode bb_L_law 118 = .ok (.iload 4, 2) := by decide +kernel
theorem dd_L_law_120 : decode bb_L_law 120 = .ok (.iconst 1, 1) := by decide +kernel
theorem dd_L_law_121 : decode bb_L_law 121 = .ok (.iadd, 1) := by decide +kernel
theorem dd_L_law_122 : decode bb_L_law 122 = .ok (.iaload, 1) := by decide +kernel
theorem dd_L_law_123 : decode bb_L_law 123 = .ok (.aload_n 3, 1) := by decide +kernel
theorem dd_L_law_124 : decode bb_L_law 124 = .ok (.invokestatic 63, 3) := by decide +kernel
theorem dd_L_law_127 : decode bb_L_law 127 = .ok (.istore 5, 2) := by decide +kernel
theorem dd_L_law_129 : decode bb_L_law 129 = .ok (.aload_n 2, 1) := by decide +kernel
theorem dd_L_law_130 : decode bb_L_law 130 = .ok (.aload_n 0, 1) := by decide +kernel
theorem dd_L_law_131 : decode bb_L_law 131 = .ok (.iload 4, 2) := by decide +kernel
theorem dd_L_law_133 : decode bb_L_law 133 = .ok (.iconst 1, 1) := by decide +kernel
theorem dd_L_law_134 : decode bb_L_law 134 = .ok (.iadd, 1) := by decide +kernel
theorem dd_L_law_135 : decode bb_L_law 135 = .ok (.iaload, 1) := by decide +kernel
theorem dd_L_law_136 : decode bb_L_law 136 = .ok (.invokevirtual 68, 3) := by decide +kernel
theorem dd_L_law_139 : decode bb_L_law 139 = .ok (.istore 6, 2) := by decide +kernel
theorem dd_L_law_141 : decode bb_L_law 141 = .ok (.aload_n 2, 1) := by decide +kernel
theorem dd_L_law_142 : decode bb_L_law 142 = .ok (.invokevirtual 69, 3) := by decide +kernel
theorem dd_L_law_145 : decode bb_L_law 145 = .ok (.iload 5, 2) := by decide +kernel
theorem dd_L_law_147 : decode bb_L_law 147 = .ok (.if_icmp .eq 5, 3) := by decide +kernel
theorem dd_L_law_150 : decode bb_L_law 150 = .ok (.iconst 0, 1) := by decide +kernel
theorem dd_L_law_151 : decode bb_L_law 151 = .ok (.ireturn, 1) := by decide +kernel
theorem dd_L_law_152 : decode bb_L_law 152 = .ok (.iload 5, 2) := by decide +kernel
theorem dd_L_law_154 : decode bb_L_law 154 = .ok (.ifCond .ne 15, 3) := by decide +kernel
theorem dd_L_law_157 : decode bb_L_law 157 = .ok (.aload_n 3, 1) := by decide +kernel
theorem dd_L_law_158 : decode bb_L_law 158 = .ok (.iconst 0, 1) := by decide +kernel
theorem dd_L_law_159 : decode bb_L_law 159 = .ok (.laload, 1) := by decide +kernel
theorem dd_L_law_160 : decode bb_L_law 160 = .ok (.iload 6, 2) := by decide +kernel
theorem dd_L_law_162 : decode bb_L_law 162 = .ok (.i2l, 1) := by decide +kernel
theorem dd_L_law_163 : decode bb_L_law 163 = .ok (.lcmp, 1) := by decide +kernel
theorem dd_L_law_164 : decode bb_L_law 164 = .ok (.ifCond .eq 5, 3) := by decide +kernel
theorem dd_L_law_167 : decode bb_L_law 167 = .ok (.iconst 0, 1) := by decide +kernel
theorem dd_L_law_168 : decode bb_L_law 168 = .ok (.ireturn, 1) := by decide +kernel
theorem dd_L_law_169 : decode bb_L_law 169 = .ok (.goto 916, 3) := by decide +kernel
theorem dd_L_law_172 : decode bb_L_law 172 = .ok (.aload_n 1, 1) := by decide +kernel
theorem dd_L_law_173 : decode bb_L_law 173 = .ok (.aload_n 0, 1) := by decide +kernel
theorem dd_L_law_174 : decode bb_L_law 174 = .ok (.iload 4, 2) := by decide +kernel
theorem dd_L_law_176 : decode bb_L_law 176 = .ok (.iconst 1, 1) := by decide +kernel
theorem dd_L_law_177 : decode bb_L_law 177 = .ok (.iadd, 1) := by decide +kernel
theorem dd_L_law_178 : decode bb_L_law 178 = .ok (.iaload, 1) := by decide +kernel
theorem dd_L_law_179 : decode bb_L_law 179 = .ok (.aload_n 3, 1) := by decide +kernel
theorem dd_L_law_180 : decode bb_L_law 180 = .ok (.invokestatic 73, 3) := by decide +kernel
theorem dd_L_law_183 : decode bb_L_law 183 = .ok (.istore 5, 2) := by decide +kernel
theorem dd_L_law_185 : decode bb_L_law 185 = .ok (.aload_n 2, 1) := by decide +kernel
theorem dd_L_law_186 : decode bb_L_law 186 = .ok (.aload_n 0, 1) := by decide +kernel
theorem dd_L_law_187 : decode bb_L_law 187 = .ok (.iload 4, 2) := by decide +kernel
theorem dd_L_law_189 : decode bb_L_law 189 = .ok (.iconst 1, 1) := by decide +kernel
theorem dd_L_law_190 : decode bb_L_law 190 = .ok (.iadd, 1) := by decide +kernel
theorem dd_L_law_191 : decode bb_L_law 191 = .ok (.iaload, 1) := by decide +kernel
theorem dd_L_law_192 : decode bb_L_law 192 = .ok (.invokevirtual 75, 3) := by decide +kernel
theorem dd_L_law_195 : decode bb_L_law 195 = .ok (.istore 6, 2) := by decide +kernel
theorem dd_L_law_197 : decode bb_L_law 197 = .ok (.aload_n 2, 1) := by decide +kernel
theorem dd_L_law_198 : decode bb_L_law 198 = .ok (.invokevirtual 69, 3) := by decide +kernel
theorem dd_L_law_201 : decode bb_L_law 201 = .ok (.iload 5, 2) := by decide +kernel
theorem dd_L_law_203 : decode bb_L_law 203 = .ok (.if_icmp .eq 5, 3) := by decide +kernel
theorem dd_L_law_206 : decode bb_L_law 206 = .ok (.iconst 0, 1) := by decide +kernel
theorem dd_L_law_207 : decode bb_L_law 207 = .ok (.ireturn, 1) := by decide +kernel
theorem dd_L_law_208 : decode bb_L_law 208 = .ok (.iload 5, 2) := by decide +kernel
theorem dd_L_law_210 : decode bb_L_law 210 = .ok (.ifCond .ne 15, 3) := by decide +kernel
theorem dd_L_law_213 : decode bb_L_law 213 = .ok (.aload_n 3, 1) := by decide +kernel
theorem dd_L_law_214 : decode bb_L_law 214 = .ok (.iconst 0, 1) := by decide +kernel
theorem dd_L_law_215 : decode bb_L_law 215 = .ok (.laload, 1) := by decide +kernel
theorem dd_L_law_216 : decode bb_L_law 216 = .ok (.iload 6, 2) := by decide +kernel
theorem dd_L_law_218 : decode bb_L_law 218 = .ok (.i2l, 1) := by decide +kernel
theorem dd_L_law_219 : decode bb_L_law 219 = .ok (.lcmp, 1) := by decide +kernel
theorem dd_L_law_220 : decode bb_L_law 220 = .ok (.ifCond .eq 5, 3) := by decide +kernel
theorem dd_L_law_223 : decode bb_L_law 223 = .ok (.iconst 0, 1) := by decide +kernel
theorem dd_L_law_224 : decode bb_L_law 224 = .ok (.ireturn, 1) := by decide +kernel
theorem dd_L_law_225 : decode bb_L_law 225 = .ok (.goto 860, 3) := by decide +kernel
theorem dd_L_law_228 : decode bb_L_law 228 = .ok (.aload_n 1, 1) := by decide +kernel
theorem dd_L_law_229 : decode bb_L_law 229 = .ok (.aload_n 0, 1) := by decide +kernel
theorem dd_L_law_230 : decode bb_L_law 230 = .ok (.iload 4, 2) := by decide +kernel
theorem dd_L_law_232 : decode bb_L_law 232 = .ok (.iconst 1, 1) := by decide +kernel
theorem dd_L_law_233 : decode bb_L_law 233 = .ok (.iadd, 1) := by decide +kernel
theorem dd_L_law_234 : decode bb_L_law 234 = .ok (.iaload, 1) := by decide +kernel
theorem dd_L_law_235 : decode bb_L_law 235 = .ok (.aload_n 3, 1) := by decide +kernel
theorem dd_L_law_236 : decode bb_L_law 236 = .ok (.invokestatic 76, 3) := by decide +kernel
theorem dd_L_law_239 : decode bb_L_law 239 = .ok (.istore 5, 2) := by decide +kernel
theorem dd_L_law_241 : decode bb_L_law 241 = .ok (.aload_n 2, 1) := by decide +kernel
theorem dd_L_law_242 : decode bb_L_law 242 = .ok (.aload_n 0, 1) := by decide +kernel
theorem dd_L_law_243 : decode bb_L_law 243 = .ok (.iload 4, 2) := by decide +kernel
theorem dd_L_law_245 : decode bb_L_law 245 = .ok (.iconst 1, 1) := by decide +kernel
theorem dd_L_law_246 : decode bb_L_law 246 = .ok (.iadd, 1) := by decide +kernel
theorem dd_L_law_247 : decode bb_L_law 247 = .ok (.iaload, 1) := by decide +kernel
theorem dd_L_law_248 : decode bb_L_law 248 = .ok (.invokevirtual 78, 3) := by decide +kernel
theorem dd_L_law_251 : decode bb_L_law 251 = .ok (.istore 6, 2) := by decide +kernel
theorem dd_L_law_253 : decode bb_L_law 253 = .ok (.aload_n 2, 1) := by decide +kernel
theorem dd_L_law_254 : decode bb_L_law 254 = .ok (.invokevirtual 69, 3) := by decide +kernel
theorem dd_L_law_257 : decode bb_L_law 257 = .ok (.iload 5, 2) := by decide +kernel
theorem dd_L_law_259 : decode bb_L_law 259 = .ok (.if_icmp .eq 5, 3) := by decide +kernel
theorem dd_L_law_262 : decode bb_L_law 262 = .ok (.iconst 0, 1) := by decide +kernel
theorem dd_L_law_263 : decode bb_L_law 263 = .ok (.ireturn, 1) := by decide +kernel
theorem dd_L_law_264 : decode bb_L_law 264 = .ok (.iload 5, 2) := by decide +kernel
theorem dd_L_law_266 : decode bb_L_law 266 = .ok (.ifCond .ne 15, 3) := by decide +kernel
theorem dd_L_law_269 : decode bb_L_law 269 = .ok (.aload_n 3, 1) := by decide +kernel
theorem dd_L_law_270 : decode bb_L_law 270 = .ok (.iconst 0, 1) := by decide +kernel
theorem dd_L_law_271 : decode bb_L_law 271 = .ok (.laload, 1) := by decide +kernel
theorem dd_L_law_272 : decode bb_L_law 272 = .ok (.iload 6, 2) := by decide +kernel
theorem dd_L_law_274 : decode bb_L_law 274 = .ok (.i2l, 1) := by decide +kernel
theorem dd_L_law_275 : decode bb_L_law 275 = .ok (.lcmp, 1) := by decide +kernel
theorem dd_L_law_276 : decode bb_L_law 276 = .ok (.ifCond .eq 5, 3) := by decide +kernel
theorem dd_L_law_279 : decode bb_L_law 279 = .ok (.iconst 0, 1) := by decide +kernel
theorem dd_L_law_280 : decode bb_L_law 280 = .ok (.ireturn, 1) := by decide +kernel
theorem dd_L_law_281 : decode bb_L_law 281 = .ok (.goto 804, 3) := by decide +kernel
theorem dd_L_law_284 : decode bb_L_law 284 = .ok (.aload_n 1, 1) := by decide +kernel
theorem dd_L_law_285 : decode bb_L_law 285 = .ok (.aload_n 0, 1) := by decide +kernel
theorem dd_L_law_286 : decode bb_L_law 286 = .ok (.iload 4, 2) := by decide +kernel
theorem dd_L_law_288 : decode bb_L_law 288 = .ok (.iconst 1, 1) := by decide +kernel
theorem dd_L_law_289 : decode bb_L_law 289 = .ok (.iadd, 1) := by decide +kernel
theorem dd_L_law_290 : decode bb_L_law 290 = .ok (.iaload, 1) := by decide +kernel
theorem dd_L_law_291 : decode bb_L_law 291 = .ok (.aload_n 0, 1) := by decide +kernel
theorem dd_L_law_292 : decode bb_L_law 292 = .ok (.iload 4, 2) := by decide +kernel
theorem dd_L_law_294 : decode bb_L_law 294 = .ok (.iconst 2, 1) := by decide +kernel
theorem dd_L_law_295 : decode bb_L_law 295 = .ok (.iadd, 1) := by decide +kernel
theorem dd_L_law_296 : decode bb_L_law 296 = .ok (.iaload, 1) := by decide +kernel
theorem dd_L_law_297 : decode bb_L_law 297 = .ok (.aload_n 0, 1) := by decide +kernel
theorem dd_L_law_298 : decode bb_L_law 298 = .ok (.iload 4, 2) := by decide +kernel
theorem dd_L_law_300 : decode bb_L_law 300 = .ok (.iconst 3, 1) := by decide +kernel
theorem dd_L_law_301 : decode bb_L_law 301 = .ok (.iadd, 1) := by decide +kernel
theorem dd_L_law_302 : decode bb_L_law 302 = .ok (.iaload, 1) := by decide +kernel
theorem dd_L_law_303 : decode bb_L_law 303 = .ok (.aload_n 0, 1) := by decide +kernel
theorem dd_L_law_304 : decode bb_L_law 304 = .ok (.iload 4, 2) := by decide +kernel
theorem dd_L_law_306 : decode bb_L_law 306 = .ok (.iconst 4, 1) := by decide +kernel
theorem dd_L_law_307 : decode bb_L_law 307 = .ok (.iadd, 1) := by decide +kernel
theorem dd_L_law_308 : decode bb_L_law 308 = .ok (.iaload, 1) := by decide +kernel
theorem dd_L_law_309 : decode bb_L_law 309 = .ok (.aload_n 0, 1) := by decide +kernel
theorem dd_L_law_310 : decode bb_L_law 310 = .ok (.iload 4, 2) := by decide +kernel
theorem dd_L_law_312 : decode bb_L_law 312 = .ok (.iconst 5, 1) := by decide +kernel
theorem dd_L_law_313 : decode bb_L_law 313 = .ok (.iadd, 1) := by decide +kernel
theorem dd_L_law_314 : decode bb_L_law 314 = .ok (.iaload, 1) := by decide +kernel
theorem dd_L_law_315 : decode bb_L_law 315 = .ok (.ifCond .eq 7, 3) := by decide +kernel
theorem dd_L_law_318 : decode bb_L_law 318 = .ok (.iconst 1, 1) := by decide +kernel
theorem dd_L_law_319 : decode bb_L_law 319 = .ok (.goto 4, 3) := by decide +kernel
theorem dd_L_law_322 : decode bb_L_law 322 = .ok (.iconst 0, 1) := by decide +kernel
theorem dd_L_law_323 : decode bb_L_law 323 = .ok (.aload_n 3, 1) := by decide +kernel
theorem dd_L_law_324 : decode bb_L_law 324 = .ok (.invokestatic 79, 3) := by decide +kernel
theorem dd_L_law_327 : decode bb_L_law 327 = .ok (.istore 5, 2) := by decide +kernel
theorem dd_L_law_329 : decode bb_L_law 329 = .ok (.aload_n 2, 1) := by decide +kernel
theorem dd_L_law_330 : decode bb_L_law 330 = .ok (.aload_n 0, 1) := by decide +kernel
theorem dd_L_law_331 : decode bb_L_law 331 = .ok (.iload 4, 2) := by decide +kernel
theorem dd_L_law_333 : decode bb_L_law 333 = .ok (.iconst 1, 1) := by decide +kernel
theorem dd_L_law_334 : decode bb_L_law 334 = .ok (.iadd, 1) := by decide +kernel
theorem dd_L_law_335 : decode bb_L_law 335 = .ok (.iaload, 1) := by decide +kernel
theorem dd_L_law_336 : decode bb_L_law 336 = .ok (.aload_n 0, 1) := by decide +kernel
theorem dd_L_law_337 : decode bb_L_law 337 = .ok (.iload 4, 2) := by decide +kernel
theorem dd_L_law_339 : decode bb_L_law 339 = .ok (.iconst 2, 1) := by decide +kernel
theorem dd_L_law_340 : decode bb_L_law 340 = .ok (.iadd, 1) := by decide +kernel
theorem dd_L_law_341 : decode bb_L_law 341 = .ok (.iaload, 1) := by decide +kernel
theorem dd_L_law_342 : decode bb_L_law 342 = .ok (.aload_n 0, 1) := by decide +kernel
theorem dd_L_law_343 : decode bb_L_law 343 = .ok (.iload 4, 2) := by decide +kernel
theorem dd_L_law_345 : decode bb_L_law 345 = .ok (.iconst 3, 1) := by decide +kernel
theorem dd_L_law_346 : decode bb_L_law 346 = .ok (.iadd, 1) := by decide +kernel
theorem dd_L_law_347 : decode bb_L_law 347 = .ok (.iaload, 1) := by decide +kernel
theorem dd_L_law_348 : decode bb_L_law 348 = .ok (.aload_n 0, 1) := by decide +kernel
theorem dd_L_law_349 : decode bb_L_law 349 = .ok (.iload 4, 2) := by decide +kernel
theorem dd_L_law_351 : decode bb_L_law 351 = .ok (.iconst 4, 1) := by decide +kernel
theorem dd_L_law_352 : decode bb_L_law 352 = .ok (.iadd, 1) := by decide +kernel
theorem dd_L_law_353 : decode bb_L_law 353 = .ok (.iaload, 1) := by decide +kernel
theorem dd_L_law_354 : decode bb_L_law 354 = .ok (.aload_n 0, 1) := by decide +kernel
theorem dd_L_law_355 : decode bb_L_law 355 = .ok (.iload 4, 2) := by decide +kernel
theorem dd_L_law_357 : decode bb_L_law 357 = .ok (.iconst 5, 1) := by decide +kernel
theorem dd_L_law_358 : decode bb_L_law 358 = .ok (.iadd, 1) := by decide +kernel
theorem dd_L_law_359 : decode bb_L_law 359 = .ok (.iaload, 1) := by decide +kernel
theorem dd_L_law_360 : decode bb_L_law 360 = .ok (.ifCond .eq 7, 3) := by decide +kernel
theorem dd_L_law_363 : decode bb_L_law 363 = .ok (.iconst 1, 1) := by decide +kernel
theorem dd_L_law_364 : decode bb_L_law 364 = .ok (.goto 4, 3) := by decide +kernel
theorem dd_L_law_367 : decode bb_L_law 367 = .ok (.iconst 0, 1) := by decide +kernel
theorem dd_L_law_368 : decode bb_L_law 368 = .ok (.invokevirtual 82, 3) := by decide +kernel
theorem dd_L_law_371 : decode bb_L_law 371 = .ok (.istore 6, 2) := by decide +kernel
theorem dd_L_law_373 : decode bb_L_law 373 = .ok (.aload_n 2, 1) := by decide +kernel
theorem dd_L_law_374 : decode bb_L_law 374 = .ok (.invokevirtual 69, 3) := by decide +kernel
theorem dd_L_law_377 : decode bb_L_law 377 = .ok (.iload 5, 2) := by decide +kernel
theorem dd_L_law_379 : decode bb_L_law 379 = .ok (.if_icmp .eq 5, 3) := by decide +kernel
theorem dd_L_law_382 : decode bb_L_law 382 = .ok (.iconst 0, 1) := by decide +kernel
theorem dd_L_law_383 : decode bb_L_law 383 = .ok (.ireturn, 1) := by decide +kernel
theorem dd_L_law_384 : decode bb_L_law 384 = .ok (.iload 5, 2) := by decide +kernel
theorem dd_L_law_386 : decode bb_L_law 386 = .ok (.ifCond .ne 15, 3) := by decide +kernel
theorem dd_L_law_389 : decode bb_L_law 389 = .ok (.aload_n 3, 1) := by decide +kernel
theorem dd_L_law_390 : decode bb_L_law 390 = .ok (.iconst 0, 1) := by decide +kernel
theorem dd_L_law_391 : decode bb_L_law 391 = .ok (.laload, 1) := by decide +kernel
theorem dd_L_law_392 : decode bb_L_law 392 = .ok (.iload 6, 2) := by decide +kernel
theorem dd_L_law_394 : decode bb_L_law 394 = .ok (.i2l, 1) := by decide +kernel
theorem dd_L_law_395 : decode bb_L_law 395 = .ok (.lcmp, 1) := by decide +kernel
theorem dd_L_law_396 : decode bb_L_law 396 = .ok (.ifCond .eq 5, 3) := by decide +kernel
theorem dd_L_law_399 : decode bb_L_law 399 = .ok (.iconst 0, 1) := by decide +kernel
theorem dd_L_law_400 : decode bb_L_law 400 = .ok (.ireturn, 1) := by decide +kernel
theorem dd_L_law_401 : decode bb_L_law 401 = .ok (.goto 684, 3) := by decide +kernel
theorem dd_L_law_404 : decode bb_L_law 404 = .ok (.aload_n 1, 1) := by decide +kernel
theorem dd_L_law_405 : decode bb_L_law 405 = .ok (.aload_n 0, 1) := by decide +kernel
theorem dd_L_law_406 : decode bb_L_law 406 = .ok (.iload 4, 2) := by decide +kernel
theorem dd_L_law_408 : decode bb_L_law 408 = .ok (.iconst 1, 1) := by decide +kernel
theorem dd_L_law_409 : decode bb_L_law 409 = .ok (.iadd, 1) := by decide +kernel
theorem dd_L_law_410 : decode bb_L_law 410 = .ok (.iaload, 1) := by decide +kernel
theorem dd_L_law_411 : decode bb_L_law 411 = .ok (.aload_n 0, 1) := by decide +kernel
theorem dd_L_law_412 : decode bb_L_law 412 = .ok (.iload 4, 2) := by decide +kernel
theorem dd_L_law_414 : decode bb_L_law 414 = .ok (.iconst 2, 1) := by decide +kernel
theorem dd_L_law_415 : decode bb_L_law 415 = .ok (.iadd, 1) := by decide +kernel
theorem dd_L_law_416 : decode bb_L_law 416 = .ok (.iaload, 1) := by decide +kernel
theorem dd_L_law_417 : decode bb_L_law 417 = .ok (.aload_n 0, 1) := by decide +kernel
theorem dd_L_law_418 : decode bb_L_law 418 = .ok (.iload 4, 2) := by decide +kernel
theorem dd_L_law_420 : decode bb_L_law 420 = .ok (.iconst 3, 1) := by decide +kernel
theorem dd_L_law_421 : decode bb_L_law 421 = .ok (.iadd, 1) := by decide +kernel
theorem dd_L_law_422 : decode bb_L_law 422 = .ok (.iaload, 1) := by decide +kernel
theorem dd_L_law_423 : decode bb_L_law 423 = .ok (.aload_n 3, 1) := by decide +kernel
theorem dd_L_law_424 : decode bb_L_law 424 = .ok (.invokestatic 83, 3) := by decide +kernel
theorem dd_L_law_427 : decode bb_L_law 427 = .ok (.istore 5, 2) := by decide +kernel
theorem dd_L_law_429 : decode bb_L_law 429 = .ok (.aload_n 2, 1) := by decide +kernel
theorem dd_L_law_430 : decode bb_L_law 430 = .ok (.aload_n 0, 1) := by decide +kernel
theorem dd_L_law_431 : decode bb_L_law 431 = .ok (.iload 4, 2) := by decide +kernel
theorem dd_L_law_433 : decode bb_L_law 433 = .ok (.iconst 1, 1) := by decide +kernel
theorem dd_L_law_434 : decode bb_L_law 434 = .ok (.iadd, 1) := by decide +kernel
theorem dd_L_law_435 : decode bb_L_law 435 = .ok (.iaload, 1) := by decide +kernel
theorem dd_L_law_436 : decode bb_L_law 436 = .ok (.aload_n 0, 1) := by decide +kernel
theorem dd_L_law_437 : decode bb_L_law 437 = .ok (.iload 4, 2) := by decide +kernel
theorem dd_L_law_439 : decode bb_L_law 439 = .ok (.iconst 2, 1) := by decide +kernel
theorem dd_L_law_440 : decode bb_L_law 440 = .ok (.iadd, 1) := by decide +kernel
theorem dd_L_law_441 : decode bb_L_law 441 = .ok (.iaload, 1) := by decide +kernel
theorem dd_L_law_442 : decode bb_L_law 442 = .ok (.aload_n 0, 1) := by decide +kernel
theorem dd_L_law_443 : decode bb_L_law 443 = .ok (.iload 4, 2) := by decide +kernel
theorem dd_L_law_445 : decode bb_L_law 445 = .ok (.iconst 3, 1) := by decide +kernel
theorem dd_L_law_446 : decode bb_L_law 446 = .ok (.iadd, 1) := by decide +kernel
theorem dd_L_law_447 : decode bb_L_law 447 = .ok (.iaload, 1) := by decide +kernel
theorem dd_L_law_448 : decode bb_L_law 448 = .ok (.invokevirtual 86, 3) := by decide +kernel
theorem dd_L_law_451 : decode bb_L_law 451 = .ok (.istore 6, 2) := by decide +kernel
theorem dd_L_law_453 : decode bb_L_law 453 = .ok (.aload_n 2, 1) := by decide +kernel
theorem dd_L_law_454 : decode bb_L_law 454 = .ok (.invokevirtual 69, 3) := by decide +kernel
theorem dd_L_law_457 : decode bb_L_law 457 = .ok (.iload 5, 2) := by decide +kernel
theorem dd_L_law_459 : decode bb_L_law 459 = .ok (.if_icmp .eq 5, 3) := by decide +kernel
theorem dd_L_law_462 : decode bb_L_law 462 = .ok (.iconst 0, 1) := by decide +kernel
theorem dd_L_law_463 : decode bb_L_law 463 = .ok (.ireturn, 1) := by decide +kernel
theorem dd_L_law_464 : decode bb_L_law 464 = .ok (.iload 5, 2) := by decide +kernel
theorem dd_L_law_466 : decode bb_L_law 466 = .ok (.ifCond .ne 15, 3) := by decide +kernel
theorem dd_L_law_469 : decode bb_L_law 469 = .ok (.aload_n 3, 1) := by decide +kernel
theorem dd_L_law_470 : decode bb_L_law 470 = .ok (.iconst 0, 1) := by decide +kernel
theorem dd_L_law_471 : decode bb_L_law 471 = .ok (.laload, 1) := by decide +kernel
theorem dd_L_law_472 : decode bb_L_law 472 = .ok (.iload 6, 2) := by decide +kernel
theorem dd_L_law_474 : decode bb_L_law 474 = .ok (.i2l, 1) := by decide +kernel
theorem dd_L_law_475 : decode bb_L_law 475 = .ok (.lcmp, 1) := by decide +kernel
theorem dd_L_law_476 : decode bb_L_law 476 = .ok (.ifCond .eq 5, 3) := by decide +kernel
theorem dd_L_law_479 : decode bb_L_law 479 = .ok (.iconst 0, 1) := by decide +kernel
theorem dd_L_law_480 : decode bb_L_law 480 = .ok (.ireturn, 1) := by decide +kernel
theorem dd_L_law_481 : decode bb_L_law 481 = .ok (.goto 604, 3) := by decide +kernel
theorem dd_L_law_484 : decode bb_L_law 484 = .ok (.aload_n 1, 1) := by decide +kernel
theorem dd_L_law_485 : decode bb_L_law 485 = .ok (.aload_n 0, 1) := by decide +kernel
theorem dd_L_law_486 : decode bb_L_law 486 = .ok (.iload 4, 2) := by decide +kernel
theorem dd_L_law_488 : decode bb_L_law 488 = .ok (.iconst 1, 1) := by decide +kernel
theorem dd_L_law_489 : decode bb_L_law 489 = .ok (.iadd, 1) := by decide +kernel
theorem dd_L_law_490 : decode bb_L_law 490 = .ok (.iaload, 1) := by decide +kernel
theorem dd_L_law_491 : decode bb_L_law 491 = .ok (.aload_n 0, 1) := by decide +kernel
theorem dd_L_law_492 : decode bb_L_law 492 = .ok (.iload 4, 2) := by decide +kernel
theorem dd_L_law_494 : decode bb_L_law 494 = .ok (.iconst 2, 1) := by decide +kernel
theorem dd_L_law_495 : decode bb_L_law 495 = .ok (.iadd, 1) := by decide +kernel
theorem dd_L_law_496 : decode bb_L_law 496 = .ok (.iaload, 1) := by decide +kernel
theorem dd_L_law_497 : decode bb_L_law 497 = .ok (.aload_n 3, 1) := by decide +kernel
theorem dd_L_law_498 : decode bb_L_law 498 = .ok (.invokestatic 87, 3) := by decide +kernel
theorem dd_L_law_501 : decode bb_L_law 501 = .ok (.istore 5, 2) := by decide +kernel
theorem dd_L_law_503 : decode bb_L_law 503 = .ok (.aload_n 2, 1) := by decide +kernel
theorem dd_L_law_504 : decode bb_L_law 504 = .ok (.aload_n 0, 1) := by decide +kernel
theorem dd_L_law_505 : decode bb_L_law 505 = .ok (.iload 4, 2) := by decide +kernel
theorem dd_L_law_507 : decode bb_L_law 507 = .ok (.iconst 1, 1) := by decide +kernel
theorem dd_L_law_508 : decode bb_L_law 508 = .ok (.iadd, 1) := by decide +kernel
theorem dd_L_law_509 : decode bb_L_law 509 = .ok (.iaload, 1) := by decide +kernel
theorem dd_L_law_510 : decode bb_L_law 510 = .ok (.aload_n 0, 1) := by decide +kernel
theorem dd_L_law_511 : decode bb_L_law 511 = .ok (.iload 4, 2) := by decide +kernel
theorem dd_L_law_513 : decode bb_L_law 513 = .ok (.iconst 2, 1) := by decide +kernel
theorem dd_L_law_514 : decode bb_L_law 514 = .ok (.iadd, 1) := by decide +kernel
theorem dd_L_law_515 : decode bb_L_law 515 = .ok (.iaload, 1) := by decide +kernel
theorem dd_L_law_516 : decode bb_L_law 516 = .ok (.invokevirtual 90, 3) := by decide +kernel
theorem dd_L_law_519 : decode bb_L_law 519 = .ok (.istore 6, 2) := by decide +kernel
theorem dd_L_law_521 : decode bb_L_law 521 = .ok (.aload_n 2, 1) := by decide +kernel
theorem dd_L_law_522 : decode bb_L_law 522 = .ok (.invokevirtual 69, 3) := by decide +kernel
theorem dd_L_law_525 : decode bb_L_law 525 = .ok (.iload 5, 2) := by decide +kernel
theorem dd_L_law_527 : decode bb_L_law 527 = .ok (.if_icmp .eq 5, 3) := by decide +kernel
theorem dd_L_law_530 : decode bb_L_law 530 = .ok (.iconst 0, 1) := by decide +kernel
theorem dd_L_law_531 : decode bb_L_law 531 = .ok (.ireturn, 1) := by decide +kernel
theorem dd_L_law_532 : decode bb_L_law 532 = .ok (.iload 5, 2) := by decide +kernel
theorem dd_L_law_534 : decode bb_L_law 534 = .ok (.ifCond .ne 22, 3) := by decide +kernel
theorem dd_L_law_537 : decode bb_L_law 537 = .ok (.aload_n 3, 1) := by decide +kernel
theorem dd_L_law_538 : decode bb_L_law 538 = .ok (.iconst 0, 1) := by decide +kernel
theorem dd_L_law_539 : decode bb_L_law 539 = .ok (.laload, 1) := by decide +kernel
theorem dd_L_law_540 : decode bb_L_law 540 = .ok (.iload 6, 2) := by decide +kernel
theorem dd_L_law_542 : decode bb_L_law 542 = .ok (.ifCond .eq 7, 3) := by decide +kernel
theorem dd_L_law_545 : decode bb_L_law 545 = .ok (.lconst 1, 1) := by decide +kernel
theorem dd_L_law_546 : decode bb_L_law 546 = .ok (.goto 4, 3) := by decide +kernel
theorem dd_L_law_549 : decode bb_L_law 549 = .ok (.lconst 0, 1) := by decide +kernel
theorem dd_L_law_550 : decode bb_L_law 550 = .ok (.lcmp, 1) := by decide +kernel
theorem dd_L_law_551 : decode bb_L_law 551 = .ok (.ifCond .eq 5, 3) := by decide +kernel
theorem dd_L_law_554 : decode bb_L_law 554 = .ok (.iconst 0, 1) := by decide +kernel
theorem dd_L_law_555 : decode bb_L_law 555 = .ok (.ireturn, 1) := by decide +kernel
theorem dd_L_law_556 : decode bb_L_law 556 = .ok (.goto 529, 3) := by decide +kernel
theorem dd_L_law_559 : decode bb_L_law 559 = .ok (.aload_n 1, 1) := by decide +kernel
theorem dd_L_law_560 : decode bb_L_law 560 = .ok (.aload_n 0, 1) := by decide +kernel
theorem dd_L_law_561 : decode bb_L_law 561 = .ok (.iload 4, 2) := by decide +kernel
theorem dd_L_law_563 : decode bb_L_law 563 = .ok (.iconst 1, 1) := by decide +kernel
theorem dd_L_law_564 : decode bb_L_law 564 = .ok (.iadd, 1) := by decide +kernel
theorem dd_L_law_565 : decode bb_L_law 565 = .ok (.iaload, 1) := by decide +kernel
theorem dd_L_law_566 : decode bb_L_law 566 = .ok (.aload_n 0, 1) := by decide +kernel
theorem dd_L_law_567 : decode bb_L_law 567 = .ok (.iload 4, 2) := by decide +kernel
theorem dd_L_law_569 : decode bb_L_law 569 = .ok (.iconst 2, 1) := by decide +kernel
theorem dd_L_law_570 : decode bb_L_law 570 = .ok (.iadd, 1) := by decide +kernel
theorem dd_L_law_571 : decode bb_L_law 571 = .ok (.iaload, 1) := by decide +kernel
theorem dd_L_law_572 : decode bb_L_law 572 = .ok (.aload_n 0, 1) := by decide +kernel
theorem dd_L_law_573 : decode bb_L_law 573 = .ok (.iload 4, 2) := by decide +kernel
theorem dd_L_law_575 : decode bb_L_law 575 = .ok (.iconst 3, 1) := by decide +kernel
theorem dd_L_law_576 : decode bb_L_law 576 = .ok (.iadd, 1) := by decide +kernel
theorem dd_L_law_577 : decode bb_L_law 577 = .ok (.iaload, 1) := by decide +kernel
theorem dd_L_law_578 : decode bb_L_law 578 = .ok (.aload_n 3, 1) := by decide +kernel
theorem dd_L_law_579 : decode bb_L_law 579 = .ok (.invokestatic 91, 3) := by decide +kernel
theorem dd_L_law_582 : decode bb_L_law 582 = .ok (.istore 5, 2) := by decide +kernel
theorem dd_L_law_584 : decode bb_L_law 584 = .ok (.aload_n 2, 1) := by decide +kernel
theorem dd_L_law_585 : decode bb_L_law 585 = .ok (.aload_n 0, 1) := by decide +kernel
theorem dd_L_law_586 : decode bb_L_law 586 = .ok (.iload 4, 2) := by decide +kernel
theorem dd_L_law_588 : decode bb_L_law 588 = .ok (.iconst 1, 1) := by decide +kernel
theorem dd_L_law_589 : decode bb_L_law 589 = .ok (.iadd, 1) := by decide +kernel
theorem dd_L_law_590 : decode bb_L_law 590 = .ok (.iaload, 1) := by decide +kernel
theorem dd_L_law_591 : decode bb_L_law 591 = .ok (.aload_n 0, 1) := by decide +kernel
theorem dd_L_law_592 : decode bb_L_law 592 = .ok (.iload 4, 2) := by decide +kernel
theorem dd_L_law_594 : decode bb_L_law 594 = .ok (.iconst 2, 1) := by decide +kernel
theorem dd_L_law_595 : decode bb_L_law 595 = .ok (.iadd, 1) := by decide +kernel
theorem dd_L_law_596 : decode bb_L_law 596 = .ok (.iaload, 1) := by decide +kernel
theorem dd_L_law_597 : decode bb_L_law 597 = .ok (.aload_n 0, 1) := by decide +kernel
theorem dd_L_law_598 : decode bb_L_law 598 = .ok (.iload 4, 2) := by decide +kernel
theorem dd_L_law_600 : decode bb_L_law 600 = .ok (.iconst 3, 1) := by decide +kernel
theorem dd_L_law_601 : decode bb_L_law 601 = .ok (.iadd, 1) := by decide +kernel
theorem dd_L_law_602 : decode bb_L_law 602 = .ok (.iaload, 1) := by decide +kernel
theorem dd_L_law_603 : decode bb_L_law 603 = .ok (.invokevirtual 93, 3) := by decide +kernel
theorem dd_L_law_606 : decode bb_L_law 606 = .ok (.istore 6, 2) := by decide +kernel
theorem dd_L_law_608 : decode bb_L_law 608 = .ok (.aload_n 2, 1) := by decide +kernel
theorem dd_L_law_609 : decode bb_L_law 609 = .ok (.invokevirtual 69, 3) := by decide +kernel
theorem dd_L_law_612 : decode bb_L_law 612 = .ok (.iload 5, 2) := by decide +kernel
theorem dd_L_law_614 : decode bb_L_law 614 = .ok (.if_icmp .eq 5, 3) := by decide +kernel
theorem dd_L_law_617 : decode bb_L_law 617 = .ok (.iconst 0, 1) := by decide +kernel
theorem dd_L_law_618 : decode bb_L_law 618 = .ok (.ireturn, 1) := by decide +kernel
theorem dd_L_law_619 : decode bb_L_law 619 = .ok (.iload 5, 2) := by decide +kernel
theorem dd_L_law_621 : decode bb_L_law 621 = .ok (.ifCond .ne 15, 3) := by decide +kernel
theorem dd_L_law_624 : decode bb_L_law 624 = .ok (.aload_n 3, 1) := by decide +kernel
theorem dd_L_law_625 : decode bb_L_law 625 = .ok (.iconst 0, 1) := by decide +kernel
theorem dd_L_law_626 : decode bb_L_law 626 = .ok (.laload, 1) := by decide +kernel
theorem dd_L_law_627 : decode bb_L_law 627 = .ok (.iload 6, 2) := by decide +kernel
theorem dd_L_law_629 : decode bb_L_law 629 = .ok (.i2l, 1) := by decide +kernel
theorem dd_L_law_630 : decode bb_L_law 630 = .ok (.lcmp, 1) := by decide +kernel
theorem dd_L_law_631 : decode bb_L_law 631 = .ok (.ifCond .eq 5, 3) := by decide +kernel
theorem dd_L_law_634 : decode bb_L_law 634 = .ok (.iconst 0, 1) := by decide +kernel
theorem dd_L_law_635 : decode bb_L_law 635 = .ok (.ireturn, 1) := by decide +kernel
theorem dd_L_law_636 : decode bb_L_law 636 = .ok (.goto 449, 3) := by decide +kernel
theorem dd_L_law_639 : decode bb_L_law 639 = .ok (.aload_n 1, 1) := by decide +kernel
theorem dd_L_law_640 : decode bb_L_law 640 = .ok (.aload_n 0, 1) := by decide +kernel
theorem dd_L_law_641 : decode bb_L_law 641 = .ok (.iload 4, 2) := by decide +kernel
theorem dd_L_law_643 : decode bb_L_law 643 = .ok (.iconst 1, 1) := by decide +kernel
theorem dd_L_law_644 : decode bb_L_law 644 = .ok (.iadd, 1) := by decide +kernel
theorem dd_L_law_645 : decode bb_L_law 645 = .ok (.iaload, 1) := by decide +kernel
theorem dd_L_law_646 : decode bb_L_law 646 = .ok (.aload_n 3, 1) := by decide +kernel
theorem dd_L_law_647 : decode bb_L_law 647 = .ok (.invokestatic 94, 3) := by decide +kernel
theorem dd_L_law_650 : decode bb_L_law 650 = .ok (.istore 5, 2) := by decide +kernel
theorem dd_L_law_652 : decode bb_L_law 652 = .ok (.aload_n 2, 1) := by decide +kernel
theorem dd_L_law_653 : decode bb_L_law 653 = .ok (.aload_n 0, 1) := by decide +kernel
theorem dd_L_law_654 : decode bb_L_law 654 = .ok (.iload 4, 2) := by decide +kernel
theorem dd_L_law_656 : decode bb_L_law 656 = .ok (.iconst 1, 1) := by decide +kernel
theorem dd_L_law_657 : decode bb_L_law 657 = .ok (.iadd, 1) := by decide +kernel
theorem dd_L_law_658 : decode bb_L_law 658 = .ok (.iaload, 1) := by decide +kernel
theorem dd_L_law_659 : decode bb_L_law 659 = .ok (.invokevirtual 96, 3) := by decide +kernel
theorem dd_L_law_662 : decode bb_L_law 662 = .ok (.istore 6, 2) := by decide +kernel
theorem dd_L_law_664 : decode bb_L_law 664 = .ok (.aload_n 2, 1) := by decide +kernel
theorem dd_L_law_665 : decode bb_L_law 665 = .ok (.invokevirtual 69, 3) := by decide +kernel
theorem dd_L_law_668 : decode bb_L_law 668 = .ok (.iload 5, 2) := by decide +kernel
theorem dd_L_law_670 : decode bb_L_law 670 = .ok (.if_icmp .eq 5, 3) := by decide +kernel
theorem dd_L_law_673 : decode bb_L_law 673 = .ok (.iconst 0, 1) := by decide +kernel
theorem dd_L_law_674 : decode bb_L_law 674 = .ok (.ireturn, 1) := by decide +kernel
theorem dd_L_law_675 : decode bb_L_law 675 = .ok (.iload 5, 2) := by decide +kernel
theorem dd_L_law_677 : decode bb_L_law 677 = .ok (.ifCond .ne 15, 3) := by decide +kernel
theorem dd_L_law_680 : decode bb_L_law 680 = .ok (.aload_n 3, 1) := by decide +kernel
theorem dd_L_law_681 : decode bb_L_law 681 = .ok (.iconst 0, 1) := by decide +kernel
theorem dd_L_law_682 : decode bb_L_law 682 = .ok (.laload, 1) := by decide +kernel
theorem dd_L_law_683 : decode bb_L_law 683 = .ok (.iload 6, 2) := by decide +kernel
theorem dd_L_law_685 : decode bb_L_law 685 = .ok (.i2l, 1) := by decide +kernel
theorem dd_L_law_686 : decode bb_L_law 686 = .ok (.lcmp, 1) := by decide +kernel
theorem dd_L_law_687 : decode bb_L_law 687 = .ok (.ifCond .eq 5, 3) := by decide +kernel
theorem dd_L_law_690 : decode bb_L_law 690 = .ok (.iconst 0, 1) := by decide +kernel
theorem dd_L_law_691 : decode bb_L_law 691 = .ok (.ireturn, 1) := by decide +kernel
theorem dd_L_law_692 : decode bb_L_law 692 = .ok (.goto 393, 3) := by decide +kernel
theorem dd_L_law_695 : decode bb_L_law 695 = .ok (.aload_n 1, 1) := by decide +kernel
theorem dd_L_law_696 : decode bb_L_law 696 = .ok (.aload_n 0, 1) := by decide +kernel
theorem dd_L_law_697 : decode bb_L_law 697 = .ok (.iload 4, 2) := by decide +kernel
theorem dd_L_law_699 : decode bb_L_law 699 = .ok (.iconst 1, 1) := by decide +kernel
theorem dd_L_law_700 : decode bb_L_law 700 = .ok (.iadd, 1) := by decide +kernel
theorem dd_L_law_701 : decode bb_L_law 701 = .ok (.iaload, 1) := by decide +kernel
theorem dd_L_law_702 : decode bb_L_law 702 = .ok (.aload_n 3, 1) := by decide +kernel
theorem dd_L_law_703 : decode bb_L_law 703 = .ok (.invokestatic 97, 3) := by decide +kernel
theorem dd_L_law_706 : decode bb_L_law 706 = .ok (.istore 5, 2) := by decide +kernel
theorem dd_L_law_708 : decode bb_L_law 708 = .ok (.aload_n 2, 1) := by decide +kernel
theorem dd_L_law_709 : decode bb_L_law 709 = .ok (.aload_n 0, 1) := by decide +kernel
theorem dd_L_law_710 : decode bb_L_law 710 = .ok (.iload 4, 2) := by decide +kernel
theorem dd_L_law_712 : decode bb_L_law 712 = .ok (.iconst 1, 1) := by decide +kernel
theorem dd_L_law_713 : decode bb_L_law 713 = .ok (.iadd, 1) := by decide +kernel
theorem dd_L_law_714 : decode bb_L_law 714 = .ok (.iaload, 1) := by decide +kernel
theorem dd_L_law_715 : decode bb_L_law 715 = .ok (.invokevirtual 99, 3) := by decide +kernel
theorem dd_L_law_718 : decode bb_L_law 718 = .ok (.istore 6, 2) := by decide +kernel
theorem dd_L_law_720 : decode bb_L_law 720 = .ok (.aload_n 2, 1) := by decide +kernel
theorem dd_L_law_721 : decode bb_L_law 721 = .ok (.invokevirtual 69, 3) := by decide +kernel
theorem dd_L_law_724 : decode bb_L_law 724 = .ok (.iload 5, 2) := by decide +kernel
theorem dd_L_law_726 : decode bb_L_law 726 = .ok (.if_icmp .eq 5, 3) := by decide +kernel
theorem dd_L_law_729 : decode bb_L_law 729 = .ok (.iconst 0, 1) := by decide +kernel
theorem dd_L_law_730 : decode bb_L_law 730 = .ok (.ireturn, 1) := by decide +kernel
theorem dd_L_law_731 : decode bb_L_law 731 = .ok (.iload 5, 2) := by decide +kernel
theorem dd_L_law_733 : decode bb_L_law 733 = .ok (.ifCond .ne 15, 3) := by decide +kernel
theorem dd_L_law_736 : decode bb_L_law 736 = .ok (.aload_n 3, 1) := by decide +kernel
theorem dd_L_law_737 : decode bb_L_law 737 = .ok (.iconst 0, 1) := by decide +kernel
theorem dd_L_law_738 : decode bb_L_law 738 = .ok (.laload, 1) := by decide +kernel
theorem dd_L_law_739 : decode bb_L_law 739 = .ok (.iload 6, 2) := by decide +kernel
theorem dd_L_law_741 : decode bb_L_law 741 = .ok (.i2l, 1) := by decide +kernel
theorem dd_L_law_742 : decode bb_L_law 742 = .ok (.lcmp, 1) := by decide +kernel
theorem dd_L_law_743 : decode bb_L_law 743 = .ok (.ifCond .eq 5, 3) := by decide +kernel
theorem dd_L_law_746 : decode bb_L_law 746 = .ok (.iconst 0, 1) := by decide +kernel
theorem dd_L_law_747 : decode bb_L_law 747 = .ok (.ireturn, 1) := by decide +kernel
theorem dd_L_law_748 : decode bb_L_law 748 = .ok (.goto 337, 3) := by decide +kernel
theorem dd_L_law_751 : decode bb_L_law 751 = .ok (.aload_n 1, 1) := by decide +kernel
theorem dd_L_law_752 : decode bb_L_law 752 = .ok (.aload_n 0, 1) := by decide +kernel
theorem dd_L_law_753 : decode bb_L_law 753 = .ok (.iload 4, 2) := by decide +kernel
theorem dd_L_law_755 : decode bb_L_law 755 = .ok (.iconst 1, 1) := by decide +kernel
theorem dd_L_law_756 : decode bb_L_law 756 = .ok (.iadd, 1) := by decide +kernel
theorem dd_L_law_757 : decode bb_L_law 757 = .ok (.iaload, 1) := by decide +kernel
theorem dd_L_law_758 : decode bb_L_law 758 = .ok (.aload_n 3, 1) := by decide +kernel
theorem dd_L_law_759 : decode bb_L_law 759 = .ok (.invokestatic 100, 3) := by decide +kernel
theorem dd_L_law_762 : decode bb_L_law 762 = .ok (.istore 5, 2) := by decide +kernel
theorem dd_L_law_764 : decode bb_L_law 764 = .ok (.aload_n 2, 1) := by decide +kernel
theorem dd_L_law_765 : decode bb_L_law 765 = .ok (.aload_n 0, 1) := by decide +kernel
theorem dd_L_law_766 : decode bb_L_law 766 = .ok (.iload 4, 2) := by decide +kernel
theorem dd_L_law_768 : decode bb_L_law 768 = .ok (.iconst 1, 1) := by decide +kernel
theorem dd_L_law_769 : decode bb_L_law 769 = .ok (.iadd, 1) := by decide +kernel
theorem dd_L_law_770 : decode bb_L_law 770 = .ok (.iaload, 1) := by decide +kernel
theorem dd_L_law_771 : decode bb_L_law 771 = .ok (.invokevirtual 102, 3) := by decide +kernel
theorem dd_L_law_774 : decode bb_L_law 774 = .ok (.istore 6, 2) := by decide +kernel
theorem dd_L_law_776 : decode bb_L_law 776 = .ok (.aload_n 2, 1) := by decide +kernel
theorem dd_L_law_777 : decode bb_L_law 777 = .ok (.invokevirtual 69, 3) := by decide +kernel
theorem dd_L_law_780 : decode bb_L_law 780 = .ok (.iload 5, 2) := by decide +kernel
theorem dd_L_law_782 : decode bb_L_law 782 = .ok (.if_icmp .eq 5, 3) := by decide +kernel
theorem dd_L_law_785 : decode bb_L_law 785 = .ok (.iconst 0, 1) := by decide +kernel
theorem dd_L_law_786 : decode bb_L_law 786 = .ok (.ireturn, 1) := by decide +kernel
theorem dd_L_law_787 : decode bb_L_law 787 = .ok (.iload 5, 2) := by decide +kernel
theorem dd_L_law_789 : decode bb_L_law 789 = .ok (.ifCond .ne 15, 3) := by decide +kernel
theorem dd_L_law_792 : decode bb_L_law 792 = .ok (.aload_n 3, 1) := by decide +kernel
theorem dd_L_law_793 : decode bb_L_law 793 = .ok (.iconst 0, 1) := by decide +kernel
theorem dd_L_law_794 : decode bb_L_law 794 = .ok (.laload, 1) := by decide +kernel
theorem dd_L_law_795 : decode bb_L_law 795 = .ok (.iload 6, 2) := by decide +kernel
theorem dd_L_law_797 : decode bb_L_law 797 = .ok (.i2l, 1) := by decide +kernel
theorem dd_L_law_798 : decode bb_L_law 798 = .ok (.lcmp, 1) := by decide +kernel
theorem dd_L_law_799 : decode bb_L_law 799 = .ok (.ifCond .eq 5, 3) := by decide +kernel
theorem dd_L_law_802 : decode bb_L_law 802 = .ok (.iconst 0, 1) := by decide +kernel
theorem dd_L_law_803 : decode bb_L_law 803 = .ok (.ireturn, 1) := by decide +kernel
theorem dd_L_law_804 : decode bb_L_law 804 = .ok (.goto 281, 3) := by decide +kernel
theorem dd_L_law_807 : decode bb_L_law 807 = .ok (.aload_n 1, 1) := by decide +kernel
theorem dd_L_law_808 : decode bb_L_law 808 = .ok (.aload_n 0, 1) := by decide +kernel
theorem dd_L_law_809 : decode bb_L_law 809 = .ok (.iload 4, 2) := by decide +kernel
theorem dd_L_law_811 : decode bb_L_law 811 = .ok (.iconst 1, 1) := by decide +kernel
theorem dd_L_law_812 : decode bb_L_law 812 = .ok (.iadd, 1) := by decide +kernel
theorem dd_L_law_813 : decode bb_L_law 813 = .ok (.iaload, 1) := by decide +kernel
theorem dd_L_law_814 : decode bb_L_law 814 = .ok (.aload_n 0, 1) := by decide +kernel
theorem dd_L_law_815 : decode bb_L_law 815 = .ok (.iload 4, 2) := by decide +kernel
theorem dd_L_law_817 : decode bb_L_law 817 = .ok (.iconst 2, 1) := by decide +kernel
theorem dd_L_law_818 : decode bb_L_law 818 = .ok (.iadd, 1) := by decide +kernel
theorem dd_L_law_819 : decode bb_L_law 819 = .ok (.iaload, 1) := by decide +kernel
theorem dd_L_law_820 : decode bb_L_law 820 = .ok (.aload_n 0, 1) := by decide +kernel
theorem dd_L_law_821 : decode bb_L_law 821 = .ok (.iload 4, 2) := by decide +kernel
theorem dd_L_law_823 : decode bb_L_law 823 = .ok (.iconst 3, 1) := by decide +kernel
theorem dd_L_law_824 : decode bb_L_law 824 = .ok (.iadd, 1) := by decide +kernel
theorem dd_L_law_825 : decode bb_L_law 825 = .ok (.iaload, 1) := by decide +kernel
theorem dd_L_law_826 : decode bb_L_law 826 = .ok (.aload_n 3, 1) := by decide +kernel
theorem dd_L_law_827 : decode bb_L_law 827 = .ok (.invokestatic 103, 3) := by decide +kernel
theorem dd_L_law_830 : decode bb_L_law 830 = .ok (.istore 5, 2) := by decide +kernel
theorem dd_L_law_832 : decode bb_L_law 832 = .ok (.aload_n 2, 1) := by decide +kernel
theorem dd_L_law_833 : decode bb_L_law 833 = .ok (.aload_n 0, 1) := by decide +kernel
theorem dd_L_law_834 : decode bb_L_law 834 = .ok (.iload 4, 2) := by decide +kernel
theorem dd_L_law_836 : decode bb_L_law 836 = .ok (.iconst 1, 1) := by decide +kernel
theorem dd_L_law_837 : decode bb_L_law 837 = .ok (.iadd, 1) := by decide +kernel
theorem dd_L_law_838 : decode bb_L_law 838 = .ok (.iaload, 1) := by decide +kernel
theorem dd_L_law_839 : decode bb_L_law 839 = .ok (.aload_n 0, 1) := by decide +kernel
theorem dd_L_law_840 : decode bb_L_law 840 = .ok (.iload 4, 2) := by decide +kernel
theorem dd_L_law_842 : decode bb_L_law 842 = .ok (.iconst 2, 1) := by decide +kernel
theorem dd_L_law_843 : decode bb_L_law 843 = .ok (.iadd, 1) := by decide +kernel
theorem dd_L_law_844 : decode bb_L_law 844 = .ok (.iaload, 1) := by decide +kernel
theorem dd_L_law_845 : decode bb_L_law 845 = .ok (.aload_n 0, 1) := by decide +kernel
theorem dd_L_law_846 : decode bb_L_law 846 = .ok (.iload 4, 2) := by decide +kernel
theorem dd_L_law_848 : decode bb_L_law 848 = .ok (.iconst 3, 1) := by decide +kernel
theorem dd_L_law_849 : decode bb_L_law 849 = .ok (.iadd, 1) := by decide +kernel
theorem dd_L_law_850 : decode bb_L_law 850 = .ok (.iaload, 1) := by decide +kernel
theorem dd_L_law_851 : decode bb_L_law 851 = .ok (.invokevirtual 105, 3) := by decide +kernel
theorem dd_L_law_854 : decode bb_L_law 854 = .ok (.istore 6, 2) := by decide +kernel
theorem dd_L_law_856 : decode bb_L_law 856 = .ok (.aload_n 2, 1) := by decide +kernel
theorem dd_L_law_857 : decode bb_L_law 857 = .ok (.invokevirtual 69, 3) := by decide +kernel
theorem dd_L_law_860 : decode bb_L_law 860 = .ok (.iload 5, 2) := by decide +kernel
theorem dd_L_law_862 : decode bb_L_law 862 = .ok (.if_icmp .eq 5, 3) := by decide +kernel
theorem dd_L_law_865 : decode bb_L_law 865 = .ok (.iconst 0, 1) := by decide +kernel
theorem dd_L_law_866 : decode bb_L_law 866 = .ok (.ireturn, 1) := by decide +kernel
theorem dd_L_law_867 : decode bb_L_law 867 = .ok (.iload 5, 2) := by decide +kernel
theorem dd_L_law_869 : decode bb_L_law 869 = .ok (.ifCond .ne 15, 3) := by decide +kernel
theorem dd_L_law_872 : decode bb_L_law 872 = .ok (.aload_n 3, 1) := by decide +kernel
theorem dd_L_law_873 : decode bb_L_law 873 = .ok (.iconst 0, 1) := by decide +kernel
theorem dd_L_law_874 : decode bb_L_law 874 = .ok (.laload, 1) := by decide +kernel
theorem dd_L_law_875 : decode bb_L_law 875 = .ok (.iload 6, 2) := by decide +kernel
theorem dd_L_law_877 : decode bb_L_law 877 = .ok (.i2l, 1) := by decide +kernel
theorem dd_L_law_878 : decode bb_L_law 878 = .ok (.lcmp, 1) := by decide +kernel
theorem dd_L_law_879 : decode bb_L_law 879 = .ok (.ifCond .eq 5, 3) := by decide +kernel
theorem dd_L_law_882 : decode bb_L_law 882 = .ok (.iconst 0, 1) := by decide +kernel
theorem dd_L_law_883 : decode bb_L_law 883 = .ok (.ireturn, 1) := by decide +kernel
theorem dd_L_law_884 : decode bb_L_law 884 = .ok (.goto 201, 3) := by decide +kernel
theorem dd_L_law_887 : decode bb_L_law 887 = .ok (.aload_n 1, 1) := by decide +kernel
theorem dd_L_law_888 : decode bb_L_law 888 = .ok (.aload_n 0, 1) := by decide +kernel
theorem dd_L_law_889 : decode bb_L_law 889 = .ok (.iload 4, 2) := by decide +kernel
theorem dd_L_law_891 : decode bb_L_law 891 = .ok (.iconst 1, 1) := by decide +kernel
theorem dd_L_law_892 : decode bb_L_law 892 = .ok (.iadd, 1) := by decide +kernel
theorem dd_L_law_893 : decode bb_L_law 893 = .ok (.iaload, 1) := by decide +kernel
theorem dd_L_law_894 : decode bb_L_law 894 = .ok (.aload_n 0, 1) := by decide +kernel
theorem dd_L_law_895 : decode bb_L_law 895 = .ok (.iload 4, 2) := by decide +kernel
theorem dd_L_law_897 : decode bb_L_law 897 = .ok (.iconst 2, 1) := by decide +kernel
theorem dd_L_law_898 : decode bb_L_law 898 = .ok (.iadd, 1) := by decide +kernel
theorem dd_L_law_899 : decode bb_L_law 899 = .ok (.iaload, 1) := by decide +kernel
theorem dd_L_law_900 : decode bb_L_law 900 = .ok (.aload_n 0, 1) := by decide +kernel
theorem dd_L_law_901 : decode bb_L_law 901 = .ok (.iload 4, 2) := by decide +kernel
theorem dd_L_law_903 : decode bb_L_law 903 = .ok (.iconst 3, 1) := by decide +kernel
theorem dd_L_law_904 : decode bb_L_law 904 = .ok (.iadd, 1) := by decide +kernel
theorem dd_L_law_905 : decode bb_L_law 905 = .ok (.iaload, 1) := by decide +kernel
theorem dd_L_law_906 : decode bb_L_law 906 = .ok (.aload_n 3, 1) := by decide +kernel
theorem dd_L_law_907 : decode bb_L_law 907 = .ok (.invokestatic 106, 3) := by decide +kernel
theorem dd_L_law_910 : decode bb_L_law 910 = .ok (.istore 5, 2) := by decide +kernel
theorem dd_L_law_912 : decode bb_L_law 912 = .ok (.aload_n 2, 1) := by decide +kernel
theorem dd_L_law_913 : decode bb_L_law 913 = .ok (.aload_n 0, 1) := by decide +kernel
theorem dd_L_law_914 : decode bb_L_law 914 = .ok (.iload 4, 2) := by decide +kernel
theorem dd_L_law_916 : decode bb_L_law 916 = .ok (.iconst 1, 1) := by decide +kernel
theorem dd_L_law_917 : decode bb_L_law 917 = .ok (.iadd, 1) := by decide +kernel
theorem dd_L_law_918 : decode bb_L_law 918 = .ok (.iaload, 1) := by decide +kernel
theorem dd_L_law_919 : decode bb_L_law 919 = .ok (.aload_n 0, 1) := by decide +kernel
theorem dd_L_law_920 : decode bb_L_law 920 = .ok (.iload 4, 2) := by decide +kernel
theorem dd_L_law_922 : decode bb_L_law 922 = .ok (.iconst 2, 1) := by decide +kernel
theorem dd_L_law_923 : decode bb_L_law 923 = .ok (.iadd, 1) := by decide +kernel
theorem dd_L_law_924 : decode bb_L_law 924 = .ok (.iaload, 1) := by decide +kernel
theorem dd_L_law_925 : decode bb_L_law 925 = .ok (.aload_n 0, 1) := by decide +kernel
theorem dd_L_law_926 : decode bb_L_law 926 = .ok (.iload 4, 2) := by decide +kernel
theorem dd_L_law_928 : decode bb_L_law 928 = .ok (.iconst 3, 1) := by decide +kernel
theorem dd_L_law_929 : decode bb_L_law 929 = .ok (.iadd, 1) := by decide +kernel
theorem dd_L_law_930 : decode bb_L_law 930 = .ok (.iaload, 1) := by decide +kernel
theorem dd_L_law_931 : decode bb_L_law 931 = .ok (.invokevirtual 108, 3) := by decide +kernel
theorem dd_L_law_934 : decode bb_L_law 934 = .ok (.istore 6, 2) := by decide +kernel
theorem dd_L_law_936 : decode bb_L_law 936 = .ok (.aload_n 2, 1) := by decide +kernel
theorem dd_L_law_937 : decode bb_L_law 937 = .ok (.invokevirtual 69, 3) := by decide +kernel
theorem dd_L_law_940 : decode bb_L_law 940 = .ok (.iload 5, 2) := by decide +kernel
theorem dd_L_law_942 : decode bb_L_law 942 = .ok (.if_icmp .eq 5, 3) := by decide +kernel
theorem dd_L_law_945 : decode bb_L_law 945 = .ok (.iconst 0, 1) := by decide +kernel
theorem dd_L_law_946 : decode bb_L_law 946 = .ok (.ireturn, 1) := by decide +kernel
theorem dd_L_law_947 : decode bb_L_law 947 = .ok (.iload 5, 2) := by decide +kernel
theorem dd_L_law_949 : decode bb_L_law 949 = .ok (.ifCond .ne 15, 3) := by decide +kernel
theorem dd_L_law_952 : decode bb_L_law 952 = .ok (.aload_n 3, 1) := by decide +kernel
theorem dd_L_law_953 : decode bb_L_law 953 = .ok (.iconst 0, 1) := by decide +kernel
theorem dd_L_law_954 : decode bb_L_law 954 = .ok (.laload, 1) := by decide +kernel
theorem dd_L_law_955 : decode bb_L_law 955 = .ok (.iload 6, 2) := by decide +kernel
theorem dd_L_law_957 : decode bb_L_law 957 = .ok (.i2l, 1) := by decide +kernel
theorem dd_L_law_958 : decode bb_L_law 958 = .ok (.lcmp, 1) := by decide +kernel
theorem dd_L_law_959 : decode bb_L_law 959 = .ok (.ifCond .eq 5, 3) := by decide +kernel
theorem dd_L_law_962 : decode bb_L_law 962 = .ok (.iconst 0, 1) := by decide +kernel
theorem dd_L_law_963 : decode bb_L_law 963 = .ok (.ireturn, 1) := by decide +kernel
theorem dd_L_law_964 : decode bb_L_law 964 = .ok (.goto 121, 3) := by decide +kernel
theorem dd_L_law_967 : decode bb_L_law 967 = .ok (.aload_n 1, 1) := by decide +kernel
theorem dd_L_law_968 : decode bb_L_law 968 = .ok (.aload_n 0, 1) := by decide +kernel
theorem dd_L_law_969 : decode bb_L_law 969 = .ok (.iload 4, 2) := by decide +kernel
theorem dd_L_law_971 : decode bb_L_law 971 = .ok (.iconst 1, 1) := by decide +kernel
theorem dd_L_law_972 : decode bb_L_law 972 = .ok (.iadd, 1) := by decide +kernel
theorem dd_L_law_973 : decode bb_L_law 973 = .ok (.iaload, 1) := by decide +kernel
theorem dd_L_law_974 : decode bb_L_law 974 = .ok (.aload_n 0, 1) := by decide +kernel
theorem dd_L_law_975 : decode bb_L_law 975 = .ok (.iload 4, 2) := by decide +kernel
theorem dd_L_law_977 : decode bb_L_law 977 = .ok (.iconst 2, 1) := by decide +kernel
theorem dd_L_law_978 : decode bb_L_law 978 = .ok (.iadd, 1) := by decide +kernel
theorem dd_L_law_979 : decode bb_L_law 979 = .ok (.iaload, 1) := by decide +kernel
theorem dd_L_law_980 : decode bb_L_law 980 = .ok (.aload_n 0, 1) := by decide +kernel
theorem dd_L_law_981 : decode bb_L_law 981 = .ok (.iload 4, 2) := by decide +kernel
theorem dd_L_law_983 : decode bb_L_law 983 = .ok (.iconst 3, 1) := by decide +kernel
theorem dd_L_law_984 : decode bb_L_law 984 = .ok (.iadd, 1) := by decide +kernel
theorem dd_L_law_985 : decode bb_L_law 985 = .ok (.iaload, 1) := by decide +kernel
theorem dd_L_law_986 : decode bb_L_law 986 = .ok (.aload_n 0, 1) := by decide +kernel
theorem dd_L_law_987 : decode bb_L_law 987 = .ok (.iload 4, 2) := by decide +kernel
theorem dd_L_law_989 : decode bb_L_law 989 = .ok (.iconst 4, 1) := by decide +kernel
theorem dd_L_law_990 : decode bb_L_law 990 = .ok (.iadd, 1) := by decide +kernel
theorem dd_L_law_991 : decode bb_L_law 991 = .ok (.iaload, 1) := by decide +kernel
theorem dd_L_law_992 : decode bb_L_law 992 = .ok (.aload_n 3, 1) := by decide +kernel
theorem dd_L_law_993 : decode bb_L_law 993 = .ok (.invokestatic 109, 3) := by decide +kernel
theorem dd_L_law_996 : decode bb_L_law 996 = .ok (.istore 5, 2) := by decide +kernel
theorem dd_L_law_998 : decode bb_L_law 998 = .ok (.aload_n 2, 1) := by decide +kernel
theorem dd_L_law_999 : decode bb_L_law 999 = .ok (.aload_n 0, 1) := by decide +kernel
theorem dd_L_law_1000 : decode bb_L_law 1000 = .ok (.iload 4, 2) := by decide +kernel
theorem dd_L_law_1002 : decode bb_L_law 1002 = .ok (.iconst 1, 1) := by decide +kernel
theorem dd_L_law_1003 : decode bb_L_law 1003 = .ok (.iadd, 1) := by decide +kernel
theorem dd_L_law_1004 : decode bb_L_law 1004 = .ok (.iaload, 1) := by decide +kernel
theorem dd_L_law_1005 : decode bb_L_law 1005 = .ok (.aload_n 0, 1) := by decide +kernel
theorem dd_L_law_1006 : decode bb_L_law 1006 = .ok (.iload 4, 2) := by decide +kernel
theorem dd_L_law_1008 : decode bb_L_law 1008 = .ok (.iconst 2, 1) := by decide +kernel
theorem dd_L_law_1009 : decode bb_L_law 1009 = .ok (.iadd, 1) := by decide +kernel
theorem dd_L_law_1010 : decode bb_L_law 1010 = .ok (.iaload, 1) := by decide +kernel
theorem dd_L_law_1011 : decode bb_L_law 1011 = .ok (.aload_n 0, 1) := by decide +kernel
theorem dd_L_law_1012 : decode bb_L_law 1012 = .ok (.iload 4, 2) := by decide +kernel
theorem dd_L_law_1014 : decode bb_L_law 1014 = .ok (.iconst 3, 1) := by decide +kernel
theorem dd_L_law_1015 : decode bb_L_law 1015 = .ok (.iadd, 1) := by decide +kernel
theorem dd_L_law_1016 : decode bb_L_law 1016 = .ok (.iaload, 1) := by decide +kernel
theorem dd_L_law_1017 : decode bb_L_law 1017 = .ok (.aload_n 0, 1) := by decide +kernel
theorem dd_L_law_1018 : decode bb_L_law 1018 = .ok (.iload 4, 2) := by decide +kernel
theorem dd_L_law_1020 : decode bb_L_law 1020 = .ok (.iconst 4, 1) := by decide +kernel
theorem dd_L_law_1021 : decode bb_L_law 1021 = .ok (.iadd, 1) := by decide +kernel
theorem dd_L_law_1022 : decode bb_L_law 1022 = .ok (.iaload, 1) := by decide +kernel
theorem dd_L_law_1023 : decode bb_L_law 1023 = .ok (.invokevirtual 112, 3) := by decide +kernel
theorem dd_L_law_1026 : decode bb_L_law 1026 = .ok (.istore 6, 2) := by decide +kernel
theorem dd_L_law_1028 : decode bb_L_law 1028 = .ok (.aload_n 2, 1) := by decide +kernel
theorem dd_L_law_1029 : decode bb_L_law 1029 = .ok (.invokevirtual 69, 3) := by decide +kernel
theorem dd_L_law_1032 : decode bb_L_law 1032 = .ok (.iload 5, 2) := by decide +kernel
theorem dd_L_law_1034 : decode bb_L_law 1034 = .ok (.if_icmp .eq 5, 3) := by decide +kernel
theorem dd_L_law_1037 : decode bb_L_law 1037 = .ok (.iconst 0, 1) := by decide +kernel
theorem dd_L_law_1038 : decode bb_L_law 1038 = .ok (.ireturn, 1) := by decide +kernel
theorem dd_L_law_1039 : decode bb_L_law 1039 = .ok (.iload 5, 2) := by decide +kernel
theorem dd_L_law_1041 : decode bb_L_law 1041 = .ok (.ifCond .ne 15, 3) := by decide +kernel
theorem dd_L_law_1044 : decode bb_L_law 1044 = .ok (.aload_n 3, 1) := by decide +kernel
theorem dd_L_law_1045 : decode bb_L_law 1045 = .ok (.iconst 0, 1) := by decide +kernel
theorem dd_L_law_1046 : decode bb_L_law 1046 = .ok (.laload, 1) := by decide +kernel
theorem dd_L_law_1047 : decode bb_L_law 1047 = .ok (.iload 6, 2) := by decide +kernel
theorem dd_L_law_1049 : decode bb_L_law 1049 = .ok (.i2l, 1) := by decide +kernel
theorem dd_L_law_1050 : decode bb_L_law 1050 = .ok (.lcmp, 1) := by decide +kernel
theorem dd_L_law_1051 : decode bb_L_law 1051 = .ok (.ifCond .eq 5, 3) := by decide +kernel
theorem dd_L_law_1054 : decode bb_L_law 1054 = .ok (.iconst 0, 1) := by decide +kernel
theorem dd_L_law_1055 : decode bb_L_law 1055 = .ok (.ireturn, 1) := by decide +kernel
theorem dd_L_law_1056 : decode bb_L_law 1056 = .ok (.goto 29, 3) := by decide +kernel
theorem dd_L_law_1059 : decode bb_L_law 1059 = .ok (.aload_n 1, 1) := by decide +kernel
theorem dd_L_law_1060 : decode bb_L_law 1060 = .ok (.invokevirtual 113, 3) := by decide +kernel
theorem dd_L_law_1063 : decode bb_L_law 1063 = .ok (.aload_n 2, 1) := by decide +kernel
theorem dd_L_law_1064 : decode bb_L_law 1064 = .ok (.invokevirtual 116, 3) := by decide +kernel
theorem dd_L_law_1067 : decode bb_L_law 1067 = .ok (.if_icmp .eq 18, 3) := by decide +kernel
theorem dd_L_law_1070 : decode bb_L_law 1070 = .ok (.iconst 0, 1) := by decide +kernel
theorem dd_L_law_1071 : decode bb_L_law 1071 = .ok (.ireturn, 1) := by decide +kernel
theorem dd_L_law_1072 : decode bb_L_law 1072 = .ok (.aload_n 1, 1) := by decide +kernel
theorem dd_L_law_1073 : decode bb_L_law 1073 = .ok (.invokevirtual 117, 3) := by decide +kernel
theorem dd_L_law_1076 : decode bb_L_law 1076 = .ok (.aload_n 2, 1) := by decide +kernel
theorem dd_L_law_1077 : decode bb_L_law 1077 = .ok (.invokevirtual 120, 3) := by decide +kernel
theorem dd_L_law_1080 : decode bb_L_law 1080 = .ok (.if_icmp .eq 5, 3) := by decide +kernel
theorem dd_L_law_1083 : decode bb_L_law 1083 = .ok (.iconst 0, 1) := by decide +kernel
theorem dd_L_law_1084 : decode bb_L_law 1084 = .ok (.ireturn, 1) := by decide +kernel
theorem dd_L_law_1085 : decode bb_L_law 1085 = .ok (.iinc 4 6, 3) := by decide +kernel
theorem dd_L_law_1088 : decode bb_L_law 1088 = .ok (.goto (-1065), 3) := by decide +kernel
theorem dd_L_law_1091 : decode bb_L_law 1091 = .ok (.iconst 1, 1) := by decide +kernel
theorem dd_L_law_1092 : decode bb_L_law 1092 = .ok (.ireturn, 1) := by decide +kernel
theorem dd_L_method_0 : decode bb_L_method 0 = .ok (.aload_n 2, 1) := by decide +kernel
theorem dd_L_method_1 : decode bb_L_method 1 = .ok (.iconst 0, 1) := by decide +kernel
theorem dd_L_method_2 : decode bb_L_method 2 = .ok (.aload_n 0, 1) := by decide +kernel
theorem dd_L_method_3 : decode bb_L_method 3 = .ok (.iload_n 1, 1) := by decide +kernel
theorem dd_L_method_4 : decode bb_L_method 4 = .ok (.invokevirtual 20, 3) := by decide +kernel
theorem dd_L_method_7 : decode bb_L_method 7 = .ok (.i2l, 1) := by decide +kernel
theorem dd_L_method_8 : decode bb_L_method 8 = .ok (.lastore, 1) := by decide +kernel
theorem dd_L_method_9 : decode bb_L_method 9 = .ok (.goto 9, 3) := by decide +kernel
theorem dd_L_method_12 : decode bb_L_method 12 = .ok (.astore_n 3, 1) := by decide +kernel
theorem dd_L_method_13 : decode bb_L_method 13 = .ok (.iconst 1, 1) := by decide +kernel
theorem dd_L_method_14 : decode bb_L_method 14 = .ok (.ireturn, 1) := by decide +kernel
theorem dd_L_method_15 : decode bb_L_method 15 = .ok (.astore_n 3, 1) := by decide +kernel
theorem dd_L_method_16 : decode bb_L_method 16 = .ok (.iconst 2, 1) := by decide +kernel
theorem dd_L_method_17 : decode bb_L_method 17 = .ok (.ireturn, 1) := by decide +kernel
theorem dd_L_method_18 : decode bb_L_method 18 = .ok (.iconst 0, 1) := by decide +kernel
theorem dd_L_method_19 : decode bb_L_method 19 = .ok (.ireturn, 1) := by decide +kernel
theorem dd_L_node_0 : decode bb_L_node 0 = .ok (.aload 4, 2) := by decide +kernel
theorem dd_L_node_2 : decode bb_L_node 2 = .ok (.iconst 0, 1) := by decide +kernel
theorem dd_L_node_3 : decode bb_L_node 3 = .ok (.aload_n 0, 1) := by decide +kernel
theorem dd_L_node_4 : decode bb_L_node 4 = .ok (.iload_n 1, 1) := by decide +kernel
theorem dd_L_node_5 : decode bb_L_node 5 = .ok (.iload_n 2, 1) := by decide +kernel
theorem dd_L_node_6 : decode bb_L_node 6 = .ok (.iload_n 3, 1) := by decide +kernel
theorem dd_L_node_7 : decode bb_L_node 7 = .ok (.invokevirtual 49, 3) := by decide +kernel
theorem dd_L_node_10 : decode bb_L_node 10 = .ok (.i2l, 1) := by decide +kernel
theorem dd_L_node_11 : decode bb_L_node 11 = .ok (.lastore, 1) := by decide +kernel
theorem dd_L_node_12 : decode bb_L_node 12 = .ok (.goto 15, 3) := by decide +kernel
theorem dd_L_node_15 : decode bb_L_node 15 = .ok (.astore 5, 2) := by decide +kernel
theorem dd_L_node_17 : decode bb_L_node 17 = .ok (.iconst 1, 1) := by decide +kernel
theorem dd_L_node_18 : decode bb_L_node 18 = .ok (.ireturn, 1) := by decide +kernel
theorem dd_L_node_19 : decode bb_L_node 19 = .ok (.astore 5, 2) := by decide +kernel
theorem dd_L_node_21 : decode bb_L_node 21 = .ok (.iconst 2, 1) := by decide +kernel
theorem dd_L_node_22 : decode bb_L_node 22 = .ok (.ireturn, 1) := by decide +kernel
theorem dd_L_node_23 : decode bb_L_node 23 = .ok (.astore 5, 2) := by decide +kernel
theorem dd_L_node_25 : decode bb_L_node 25 = .ok (.iconst 3, 1) := by decide +kernel
theorem dd_L_node_26 : decode bb_L_node 26 = .ok (.ireturn, 1) := by decide +kernel
theorem dd_L_node_27 : decode bb_L_node 27 = .ok (.iconst 0, 1) := by decide +kernel
theorem dd_L_node_28 : decode bb_L_node 28 = .ok (.ireturn, 1) := by decide +kernel
theorem dd_L_operation_0 : decode bb_L_operation 0 = .ok (.aload 4, 2) := by decide +kernel
theorem dd_L_operation_2 : decode bb_L_operation 2 = .ok (.iconst 0, 1) := by decide +kernel
theorem dd_L_operation_3 : decode bb_L_operation 3 = .ok (.aload_n 0, 1) := by decide +kernel
theorem dd_L_operation_4 : decode bb_L_operation 4 = .ok (.iload_n 1, 1) := by decide +kernel
theorem dd_L_operation_5 : decode bb_L_operation 5 = .ok (.iload_n 2, 1) := by decide +kernel
theorem dd_L_operation_6 : decode bb_L_operation 6 = .ok (.iload_n 3, 1) := by decide +kernel
theorem dd_L_operation_7 : decode bb_L_operation 7 = .ok (.invokevirtual 27, 3) := by decide +kernel
theorem dd_L_operation_10 : decode bb_L_operation 10 = .ok (.i2l, 1) := by decide +kernel
theorem dd_L_operation_11 : decode bb_L_operation 11 = .ok (.lastore, 1) := by decide +kernel
theorem dd_L_operation_12 : decode bb_L_operation 12 = .ok (.goto 11, 3) := by decide +kernel
theorem dd_L_operation_15 : decode bb_L_operation 15 = .ok (.astore 5, 2) := by decide +kernel
theorem dd_L_operation_17 : decode bb_L_operation 17 = .ok (.iconst 1, 1) := by decide +kernel
theorem dd_L_operation_18 : decode bb_L_operation 18 = .ok (.ireturn, 1) := by decide +kernel
theorem dd_L_operation_19 : decode bb_L_operation 19 = .ok (.astore 5, 2) := by decide +kernel
theorem dd_L_operation_21 : decode bb_L_operation 21 = .ok (.iconst 2, 1) := by decide +kernel
theorem dd_L_operation_22 : decode bb_L_operation 22 = .ok (.ireturn, 1) := by decide +kernel
theorem dd_L_operation_23 : decode bb_L_operation 23 = .ok (.iconst 0, 1) := by decide +kernel
theorem dd_L_operation_24 : decode bb_L_operation 24 = .ok (.ireturn, 1) := by decide +kernel
theorem dd_L_run_0 : decode bb_L_run 0 = .ok (.aload 5, 2) := by decide +kernel
theorem dd_L_run_2 : decode bb_L_run 2 = .ok (.iconst 0, 1) := by decide +kernel
theorem dd_L_run_3 : decode bb_L_run 3 = .ok (.aload_n 0, 1) := by decide +kernel
theorem dd_L_run_4 : decode bb_L_run 4 = .ok (.iload_n 1, 1) := by decide +kernel
theorem dd_L_run_5 : decode bb_L_run 5 = .ok (.iload_n 2, 1) := by decide +kernel
theorem dd_L_run_6 : decode bb_L_run 6 = .ok (.iload_n 3, 1) := by decide +kernel
theorem dd_L_run_7 : decode bb_L_run 7 = .ok (.iload 4, 2) := by decide +kernel
theorem dd_L_run_9 : decode bb_L_run 9 = .ok (.invokevirtual 55, 3) := by decide +kernel
theorem dd_L_run_12 : decode bb_L_run 12 = .ok (.i2l, 1) := by decide +kernel
theorem dd_L_run_13 : decode bb_L_run 13 = .ok (.lastore, 1) := by decide +kernel
theorem dd_L_run_14 : decode bb_L_run 14 = .ok (.goto 7, 3) := by decide +kernel
theorem dd_L_run_17 : decode bb_L_run 17 = .ok (.astore 6, 2) := by decide +kernel
theorem dd_L_run_19 : decode bb_L_run 19 = .ok (.iconst 1, 1) := by decide +kernel
theorem dd_L_run_20 : decode bb_L_run 20 = .ok (.ireturn, 1) := by decide +kernel
theorem dd_L_run_21 : decode bb_L_run 21 = .ok (.iconst 0, 1) := by decide +kernel
theorem dd_L_run_22 : decode bb_L_run 22 = .ok (.ireturn, 1) := by decide +kernel
theorem dd_L_test_0 : decode bb_L_test 0 = .ok (.aload 4, 2) := by decide +kernel
theorem dd_L_test_2 : decode bb_L_test 2 = .ok (.iconst 0, 1) := by decide +kernel
theorem dd_L_test_3 : decode bb_L_test 3 = .ok (.aload_n 0, 1) := by decide +kernel
theorem dd_L_test_4 : decode bb_L_test 4 = .ok (.iload_n 1, 1) := by decide +kernel
theorem dd_L_test_5 : decode bb_L_test 5 = .ok (.iload_n 2, 1) := by decide +kernel
theorem dd_L_test_6 : decode bb_L_test 6 = .ok (.iload_n 3, 1) := by decide +kernel
theorem dd_L_test_7 : decode bb_L_test 7 = .ok (.invokevirtual 52, 3) := by decide +kernel
theorem dd_L_test_10 : decode bb_L_test 10 = .ok (.i2l, 1) := by decide +kernel
theorem dd_L_test_11 : decode bb_L_test 11 = .ok (.lastore, 1) := by decide +kernel
theorem dd_L_test_12 : decode bb_L_test 12 = .ok (.goto 15, 3) := by decide +kernel
theorem dd_L_test_15 : decode bb_L_test 15 = .ok (.astore 5, 2) := by decide +kernel
theorem dd_L_test_17 : decode bb_L_test 17 = .ok (.iconst 1, 1) := by decide +kernel
theorem dd_L_test_18 : decode bb_L_test 18 = .ok (.ireturn, 1) := by decide +kernel
theorem dd_L_test_19 : decode bb_L_test 19 = .ok (.astore 5, 2) := by decide +kernel
theorem dd_L_test_21 : decode bb_L_test 21 = .ok (.iconst 2, 1) := by decide +kernel
theorem dd_L_test_22 : decode bb_L_test 22 = .ok (.ireturn, 1) := by decide +kernel
theorem dd_L_test_23 : decode bb_L_test 23 = .ok (.astore 5, 2) := by decide +kernel
theorem dd_L_test_25 : decode bb_L_test 25 = .ok (.iconst 3, 1) := by decide +kernel
theorem dd_L_test_26 : decode bb_L_test 26 = .ok (.ireturn, 1) := by decide +kernel
theorem dd_L_test_27 : decode bb_L_test 27 = .ok (.iconst 0, 1) := by decide +kernel
theorem dd_L_test_28 : decode bb_L_test 28 = .ok (.ireturn, 1) := by decide +kernel
theorem dd_L_witness_0 : decode bb_L_witness 0 = .ok (.aload_n 2, 1) := by decide +kernel
theorem dd_L_witness_1 : decode bb_L_witness 1 = .ok (.iconst 0, 1) := by decide +kernel
theorem dd_L_witness_2 : decode bb_L_witness 2 = .ok (.aload_n 0, 1) := by decide +kernel
theorem dd_L_witness_3 : decode bb_L_witness 3 = .ok (.iload_n 1, 1) := by decide +kernel
theorem dd_L_witness_4 : decode bb_L_witness 4 = .ok (.invokevirtual 41, 3) := by decide +kernel
theorem dd_L_witness_7 : decode bb_L_witness 7 = .ok (.i2l, 1) := by decide +kernel
theorem dd_L_witness_8 : decode bb_L_witness 8 = .ok (.lastore, 1) := by decide +kernel
theorem dd_L_witness_9 : decode bb_L_witness 9 = .ok (.goto 6, 3) := by decide +kernel
theorem dd_L_witness_12 : decode bb_L_witness 12 = .ok (.astore_n 3, 1) := by decide +kernel
theorem dd_L_witness_13 : decode bb_L_witness 13 = .ok (.iconst 1, 1) := by decide +kernel
theorem dd_L_witness_14 : decode bb_L_witness 14 = .ok (.ireturn, 1) := by decide +kernel
theorem dd_L_witness_15 : decode bb_L_witness 15 = .ok (.iconst 0, 1) := by decide +kernel
theorem dd_L_witness_16 : decode bb_L_witness 16 = .ok (.ireturn, 1) := by decide +kernel
