theorem dd_Q_applies_0 : decode bb_Q_applies 0 = .ok (.iconst 1, 1) := by decide +kernel
theorem dd_Q_applies_1 : decode bb_Q_applies 1 = .ok (.istore 4, 2) := by decide +kernel
theorem dd_Q_applies_3 : decode bb_Q_applies 3 = .ok (.iconst 4, 1) := by decide +kernel
theorem dd_Q_applies_4 : decode bb_Q_applies 4 = .ok (.iload_n 1, 1) := by decide +kernel
theorem dd_Q_applies_5 : decode bb_Q_applies 5 = .ok (.imul, 1) := by decide +kernel
theorem dd_Q_applies_6 : decode bb_Q_applies 6 = .ok (.istore 5, 2) := by decide +kernel
theorem dd_Q_applies_8 : decode bb_Q_applies 8 = .ok (.iload 5, 2) := by decide +kernel
theorem dd_Q_applies_10 : decode bb_Q_applies 10 = .ok (.iconst 4, 1) := by decide +kernel
theorem dd_Q_applies_11 : decode bb_Q_applies 11 = .ok (.iload_n 1, 1) := by decide +kernel
theorem dd_Q_applies_12 : decode bb_Q_applies 12 = .ok (.imul, 1) := by decide +kernel
theorem dd_Q_applies_13 : decode bb_Q_applies 13 = .ok (.aload_n 0, 1) := by decide +kernel
theorem dd_Q_applies_14 : decode bb_Q_applies 14 = .ok (.getfield 23, 3) := by decide +kernel
theorem dd_Q_applies_17 : decode bb_Q_applies 17 = .ok (.iload_n 1, 1) := by decide +kernel
theorem dd_Q_applies_18 : decode bb_Q_applies 18 = .ok (.iaload, 1) := by decide +kernel
theorem dd_Q_applies_19 : decode bb_Q_applies 19 = .ok (.iadd, 1) := by decide +kernel
theorem dd_Q_applies_20 : decode bb_Q_applies 20 = .ok (.if_icmp .ge 58, 3) := by decide +kernel
theorem dd_Q_applies_23 : decode bb_Q_applies 23 = .ok (.iload 4, 2) := by decide +kernel
theorem dd_Q_applies_25 : decode bb_Q_applies 25 = .ok (.ifCond .eq 44, 3) := by decide +kernel
theorem dd_Q_applies_28 : decode bb_Q_applies 28 = .ok (.aload_n 0, 1) := by decide +kernel
theorem dd_Q_applies_29 : decode bb_Q_applies 29 = .ok (.aload_n 0, 1) := by decide +kernel
theorem dd_Q_applies_30 : decode bb_Q_applies 30 = .ok (.getfield 26, 3) := by decide +kernel
theorem dd_Q_applies_33 : decode bb_Q_applies 33 = .ok (.iload 5, 2) := by decide +kernel
theorem dd_Q_applies_35 : decode bb_Q_applies 35 = .ok (.iaload, 1) := by decide +kernel
theorem dd_Q_applies_36 : decode bb_Q_applies 36 = .ok (.aload_n 0, 1) := by decide +kernel
theorem dd_Q_applies_37 : decode bb_Q_applies 37 = .ok (.getfield 29, 3) := by decide +kernel
theorem dd_Q_applies_40 : decode bb_Q_applies 40 = .ok (.iload 5, 2) := by decide +kernel
theorem dd_Q_applies_42 : decode bb_Q_applies 42 = .ok (.iaload, 1) := by decide +kernel
theorem dd_Q_applies_43 : decode bb_Q_applies 43 = .ok (.aload_n 0, 1) := by decide +kernel
theorem dd_Q_applies_44 : decode bb_Q_applies 44 = .ok (.getfield 32, 3) := by decide +kernel
theorem dd_Q_applies_47 : decode bb_Q_applies 47 = .ok (.iload 5, 2) := by decide +kernel
theorem dd_Q_applies_49 : decode bb_Q_applies 49 = .ok (.iaload, 1) := by decide +kernel
theorem dd_Q_applies_50 : decode bb_Q_applies 50 = .ok (.iload_n 2, 1) := by decide +kernel
theorem dd_Q_applies_51 : decode bb_Q_applies 51 = .ok (.iload_n 3, 1) := by decide +kernel
theorem dd_Q_applies_52 : decode bb_Q_applies 52 = .ok (.invokevirtual 149, 3) := by decide +kernel
theorem dd_Q_applies_55 : decode bb_Q_applies 55 = .ok (.aload_n 0, 1) := by decide +kernel
theorem dd_Q_applies_56 : decode bb_Q_applies 56 = .ok (.getfield 35, 3) := by decide +kernel
theorem dd_Q_applies_59 : decode bb_Q_applies 59 = .ok (.iload 5, 2) := by decide +kernel
theorem dd_Q_applies_61 : decode bb_Q_applies 61 = .ok (.baload, 1) := by decide +kernel
theorem dd_Q_applies_62 : decode bb_Q_applies 62 = .ok (.if_icmp .eq 7, 3) := by decide +kernel
theorem dd_Q_applies_65 : decode bb_Q_applies 65 = .ok (.iconst 1, 1) := by decide +kernel
theorem dd_Q_applies_66 : decode bb_Q_applies 66 = .ok (.goto 4, 3) := by decide +kernel
theorem dd_Q_applies_69 : decode bb_Q_applies 69 = .ok (.iconst 0, 1) := by decide +kernel
theorem dd_Q_applies_70 : decode bb_Q_applies 70 = .ok (.istore 4, 2) := by decide +kernel
theorem dd_Q_applies_72 : decode bb_Q_applies 72 = .ok (.iinc 5 1, 3) := by decide +kernel
theorem dd_Q_applies_75 : decode bb_Q_applies 75 = .ok (.goto (-67), 3) := by decide +kernel
theorem dd_Q_applies_78 : decode bb_Q_applies 78 = .ok (.iload 4, 2) := by decide +kernel
theorem dd_Q_applies_80 : decode bb_Q_applies 80 = .ok (.ireturn, 1) := by decide +kernel
theorem dd_Q_atom_0 : decode bb_Q_atom 0 = .ok (.iload_n 1, 1) := by decide +kernel
theorem dd_Q_atom_1 : decode bb_Q_atom 1 = .ok (.iconst 0, 1) := by decide +kernel
theorem dd_Q_atom_2 : decode bb_Q_atom 2 = .ok (.aload_n 0, 1) := by decide +kernel
theorem dd_Q_atom_3 : decode bb_Q_atom 3 = .ok (.getfield 138, 3) := by decide +kernel
theorem dd_Q_atom_6 : decode bb_Q_atom 6 = .ok (.iconst 1, 1) := by decide +kernel
theorem dd_Q_atom_7 : decode bb_Q_atom 7 = .ok (.isub, 1) := by decide +kernel
theorem dd_Q_atom_8 : decode bb_Q_atom 8 = .ok (.invokestatic 127, 3) := by decide +kernel
theorem dd_Q_atom_11 : decode bb_Q_atom 11 = .ok (.ifCond .eq 16, 3) := by decide +kernel
theorem dd_Q_atom_14 : decode bb_Q_atom 14 = .ok (.iload_n 2, 1) := by decide +kernel
theorem dd_Q_atom_15 : decode bb_Q_atom 15 = .ok (.iconst 0, 1) := by decide +kernel
theorem dd_Q_atom_16 : decode bb_Q_atom 16 = .ok (.iconst 5, 1) := by decide +kernel
theorem dd_Q_atom_17 : decode bb_Q_atom 17 = .ok (.invokestatic 127, 3) := by decide +kernel
theorem dd_Q_atom_20 : decode bb_Q_atom 20 = .ok (.ifCond .eq 7, 3) := by decide +kernel
theorem dd_Q_atom_23 : decode bb_Q_atom 23 = .ok (.iconst 1, 1) := by decide +kernel
theorem dd_Q_atom_24 : decode bb_Q_atom 24 = .ok (.goto 4, 3) := by decide +kernel
theorem dd_Q_atom_27 : decode bb_Q_atom 27 = .ok (.iconst 0, 1) := by decide +kernel
theorem dd_Q_atom_28 : decode bb_Q_atom 28 = .ok (.istore 6, 2) := by decide +kernel
theorem dd_Q_atom_30 : decode bb_Q_atom 30 = .ok (.iload 6, 2) := by decide +kernel
theorem dd_Q_atom_32 : decode bb_Q_atom 32 = .ok (.ifCond .eq 17, 3) := by decide +kernel
theorem dd_Q_atom_35 : decode bb_Q_atom 35 = .ok (.aload_n 0, 1) := by decide +kernel
theorem dd_Q_atom_36 : decode bb_Q_atom 36 = .ok (.getfield 17, 3) := by decide +kernel
theorem dd_Q_atom_39 : decode bb_Q_atom 39 = .ok (.aload_n 0, 1) := by decide +kernel
theorem dd_Q_atom_40 : decode bb_Q_atom 40 = .ok (.getfield 20, 3) := by decide +kernel
theorem dd_Q_atom_43 : decode bb_Q_atom 43 = .ok (.iload_n 1, 1) := by decide +kernel
theorem dd_Q_atom_44 : decode bb_Q_atom 44 = .ok (.iaload, 1) := by decide +kernel
theorem dd_Q_atom_45 : decode bb_Q_atom 45 = .ok (.iaload, 1) := by decide +kernel
theorem dd_Q_atom_46 : decode bb_Q_atom 46 = .ok (.goto 4, 3) := by decide +kernel
theorem dd_Q_atom_49 : decode bb_Q_atom 49 = .ok (.iconst 0, 1) := by decide +kernel
theorem dd_Q_atom_50 : decode bb_Q_atom 50 = .ok (.istore 7, 2) := by decide +kernel
theorem dd_Q_atom_52 : decode bb_Q_atom 52 = .ok (.iload 6, 2) := by decide +kernel
theorem dd_Q_atom_54 : decode bb_Q_atom 54 = .ok (.ifCond .eq 33, 3) := by decide +kernel
theorem dd_Q_atom_57 : decode bb_Q_atom 57 = .ok (.iload_n 2, 1) := by decide +kernel
theorem dd_Q_atom_58 : decode bb_Q_atom 58 = .ok (.iconst 3, 1) := by decide +kernel
theorem dd_Q_atom_59 : decode bb_Q_atom 59 = .ok (.if_icmp .le 12, 3) := by decide +kernel
theorem dd_Q_atom_62 : decode bb_Q_atom 62 = .ok (.iload 7, 2) := by decide +kernel
theorem dd_Q_atom_64 : decode bb_Q_atom 64 = .ok (.iconst 2, 1) := by decide +kernel
theorem dd_Q_atom_65 : decode bb_Q_atom 65 = .ok (.if_icmp .ne 22, 3) := by decide +kernel
theorem dd_Q_atom_68 : decode bb_Q_atom 68 = .ok (.goto 15, 3) := by decide +kernel
theorem dd_Q_atom_71 : decode bb_Q_atom 71 = .ok (.iload_n 3, 1) := by decide +kernel
theorem dd_Q_atom_72 : decode bb_Q_atom 72 = .ok (.iconst 0, 1) := by decide +kernel
theorem dd_Q_atom_73 : decode bb_Q_atom 73 = .ok (.iload 7, 2) := by decide +kernel
theorem dd_Q_atom_75 : decode bb_Q_atom 75 = .ok (.iconst 1, 1) := by decide +kernel
theorem dd_Q_atom_76 : decode bb_Q_atom 76 = .ok (.isub, 1) := by decide +kernel
theorem dd_Q_atom_77 : decode bb_Q_atom 77 = .ok (.invokestatic 127, 3) := by decide +kernel
theorem dd_Q_atom_80 : decode bb_Q_atom 80 = .ok (.ifCond .eq 7, 3) := by decide +kernel
theorem dd_Q_atom_83 : decode bb_Q_atom 83 = .ok (.iconst 1, 1) := by decide +kernel
theorem dd_Q_atom_84 : decode bb_Q_atom 84 = .ok (.goto 4, 3) := by decide +kernel
theorem dd_Q_atom_87 : decode bb_Q_atom 87 = .ok (.iconst 0, 1) := by decide +kernel
theorem dd_Q_atom_88 : decode bb_Q_atom 88 = .ok (.istore 6, 2) := by decide +kernel
theorem dd_Q_atom_90 : decode bb_Q_atom 90 = .ok (.iload 6, 2) := by decide +kernel
theorem dd_Q_atom_92 : decode bb_Q_atom 92 = .ok (.ifCond .eq 53, 3) := by decide +kernel
theorem dd_Q_atom_95 : decode bb_Q_atom 95 = .ok (.iload_n 2, 1) := by decide +kernel
theorem dd_Q_atom_96 : decode bb_Q_atom 96 = .ok (.iconst 2, 1) := by decide +kernel
theorem dd_Q_atom_97 : decode bb_Q_atom 97 = .ok (.if_icmp .gt 44, 3) := by decide +kernel
theorem dd_Q_atom_100 : decode bb_Q_atom 100 = .ok (.iload 4, 2) := by decide +kernel
theorem dd_Q_atom_102 : decode bb_Q_atom 102 = .ok (.iload_n 2, 1) := by decide +kernel
theorem dd_Q_atom_103 : decode bb_Q_atom 103 = .ok (.ifCond .ne 7, 3) := by decide +kernel
theorem dd_Q_atom_106 : decode bb_Q_atom 106 = .ok (.iconst 0, 1) := by decide +kernel
theorem dd_Q_atom_107 : decode bb_Q_atom 107 = .ok (.goto 5, 3) := by decide +kernel
theorem dd_Q_atom_110 : decode bb_Q_atom 110 = .ok (.bipush (-4), 2) := by decide +kernel
theorem dd_Q_atom_112 : decode bb_Q_atom 112 = .ok (.iload_n 2, 1) := by decide +kernel
theorem dd_Q_atom_113 : decode bb_Q_atom 113 = .ok (.ifCond .ne 12, 3) := by decide +kernel
theorem dd_Q_atom_116 : decode bb_Q_atom 116 = .ok (.aload_n 0, 1) := by decide +kernel
theorem dd_Q_atom_117 : decode bb_Q_atom 117 = .ok (.getfield 7, 3) := by decide +kernel
theorem dd_Q_atom_120 : decode bb_Q_atom 120 = .ok (.iconst 1, 1) := by decide +kernel
theorem dd_Q_atom_121 : decode bb_Q_atom 121 = .ok (.isub, 1) := by decide +kernel
theorem dd_Q_atom_122 : decode bb_Q_atom 122 = .ok (.goto 13, 3) := by decide +kernel
theorem dd_Q_atom_125 : decode bb_Q_atom 125 = .ok (.iload_n 2, 1) := by decide +kernel
theorem dd_Q_atom_126 : decode bb_Q_atom 126 = .ok (.iconst 1, 1) := by decide +kernel
theorem dd_Q_atom_127 : decode bb_Q_atom 127 = .ok (.if_icmp .ne 7, 3) := by decide +kernel
theorem dd_Q_atom_130 : decode bb_Q_atom 130 = .ok (.iconst 4, 1) := by decide +kernel
theorem dd_Q_atom_131 : decode bb_Q_atom 131 = .ok (.goto 4, 3) := by decide +kernel
theorem dd_Q_atom_134 : decode bb_Q_atom 134 = .ok (.iconst 3, 1) := by decide +kernel
theorem dd_Q_atom_135 : decode bb_Q_atom 135 = .ok (.invokestatic 127, 3) := by decide +kernel
theorem dd_Q_atom_138 : decode bb_Q_atom 138 = .ok (.ifCond .eq 7, 3) := by decide +kernel
theorem dd_Q_atom_141 : decode bb_Q_atom 141 = .ok (.iconst 1, 1) := by decide +kernel
theorem dd_Q_atom_142 : decode bb_Q_atom 142 = .ok (.goto 4, 3) := by decide +kernel
theorem dd_Q_atom_145 : decode bb_Q_atom 145 = .ok (.iconst 0, 1) := by decide +kernel
theorem dd_Q_atom_146 : decode bb_Q_atom 146 = .ok (.istore 6, 2) := by decide +kernel
theorem dd_Q_atom_148 : decode bb_Q_atom 148 = .ok (.aload_n 0, 1) := by decide +kernel
theorem dd_Q_atom_149 : decode bb_Q_atom 149 = .ok (.iload 6, 2) := by decide +kernel
theorem dd_Q_atom_151 : decode bb_Q_atom 151 = .ok (.ifCond .ne 7, 3) := by decide +kernel
theorem dd_Q_atom_154 : decode bb_Q_atom 154 = .ok (.iconst 1, 1) := by decide +kernel
theorem dd_Q_atom_155 : decode bb_Q_atom 155 = .ok (.goto 18, 3) := by decide +kernel
theorem dd_Q_atom_158 : decode bb_Q_atom 158 = .ok (.aload_n 0, 1) := by decide +kernel
theorem dd_Q_atom_159 : decode bb_Q_atom 159 = .ok (.getfield 23, 3) := by decide +kernel
theorem dd_Q_atom_162 : decode bb_Q_atom 162 = .ok (.iload_n 1, 1) := by decide +kernel
theorem dd_Q_atom_163 : decode bb_Q_atom 163 = .ok (.iaload, 1) := by decide +kernel
theorem dd_Q_atom_164 : decode bb_Q_atom 164 = .ok (.iconst 4, 1) := by decide +kernel
theorem dd_Q_atom_165 : decode bb_Q_atom 165 = .ok (.if_icmp .ne 7, 3) := by decide +kernel
theorem dd_Q_atom_168 : decode bb_Q_atom 168 = .ok (.iconst 2, 1) := by decide +kernel
theorem dd_Q_atom_169 : decode bb_Q_atom 169 = .ok (.goto 4, 3) := by decide +kernel
theorem dd_Q_atom_172 : decode bb_Q_atom 172 = .ok (.iconst 0, 1) := by decide +kernel
theorem dd_Q_atom_173 : decode bb_Q_atom 173 = .ok (.putfield 121, 3) := by decide +kernel
theorem dd_Q_atom_176 : decode bb_Q_atom 176 = .ok (.aload_n 0, 1) := by decide +kernel
theorem dd_Q_atom_177 : decode bb_Q_atom 177 = .ok (.getfield 121, 3) := by decide +kernel
theorem dd_Q_atom_180 : decode bb_Q_atom 180 = .ok (.ifCond .le 5, 3) := by decide +kernel
theorem dd_Q_atom_183 : decode bb_Q_atom 183 = .ok (.iconst 0, 1) := by decide +kernel
theorem dd_Q_atom_184 : decode bb_Q_atom 184 = .ok (.ireturn, 1) := by decide +kernel
theorem dd_Q_atom_185 : decode bb_Q_atom 185 = .ok (.iconst 4, 1) := by decide +kernel
theorem dd_Q_atom_186 : decode bb_Q_atom 186 = .ok (.iload_n 1, 1) := by decide +kernel
theorem dd_Q_atom_187 : decode bb_Q_atom 187 = .ok (.imul, 1) := by decide +kernel
theorem dd_Q_atom_188 : decode bb_Q_atom 188 = .ok (.aload_n 0, 1) := by decide +kernel
theorem dd_Q_atom_189 : decode bb_Q_atom 189 = .ok (.getfield 23, 3) := by decide +kernel
theorem dd_Q_atom_192 : decode bb_Q_atom 192 = .ok (.iload_n 1, 1) := by decide +kernel
theorem dd_Q_atom_193 : decode bb_Q_atom 193 = .ok (.iaload, 1) := by decide +kernel
theorem dd_Q_atom_194 : decode bb_Q_atom 194 = .ok (.iadd, 1) := by decide +kernel
theorem dd_Q_atom_195 : decode bb_Q_atom 195 = .ok (.istore 8, 2) := by decide +kernel
theorem dd_Q_atom_197 : decode bb_Q_atom 197 = .ok (.aload_n 0, 1) := by decide +kernel
theorem dd_Q_atom_198 : decode bb_Q_atom 198 = .ok (.getfield 26, 3) := by decide +kernel
theorem dd_Q_atom_201 : decode bb_Q_atom 201 = .ok (.iload 8, 2) := by decide +kernel
theorem dd_Q_atom_203 : decode bb_Q_atom 203 = .ok (.iload_n 2, 1) := by decide +kernel
theorem dd_Q_atom_204 : decode bb_Q_atom 204 = .ok (.iastore, 1) := by decide +kernel
theorem dd_Q_atom_205 : decode bb_Q_atom 205 = .ok (.aload_n 0, 1) := by decide +kernel
theorem dd_Q_atom_206 : decode bb_Q_atom 206 = .ok (.getfield 29, 3) := by decide +kernel
theorem dd_Q_atom_209 : decode bb_Q_atom 209 = .ok (.iload 8, 2) := by decide +kernel
theorem dd_Q_atom_211 : decode bb_Q_atom 211 = .ok (.iload_n 2, 1) := by decide +kernel
theorem dd_Q_atom_212 : decode bb_Q_atom 212 = .ok (.iconst 3, 1) := by decide +kernel
theorem dd_Q_atom_213 : decode bb_Q_atom 213 = .ok (.if_icmp .le 7, 3) := by decide +kernel
theorem dd_Q_atom_216 : decode bb_Q_atom 216 = .ok (.iconst 0, 1) := by decide +kernel
theorem dd_Q_atom_217 : decode bb_Q_atom 217 = .ok (.goto 4, 3) := by decide +kernel
theorem dd_Q_atom_220 : decode bb_Q_atom 220 = .ok (.iload_n 3, 1) := by decide +kernel
theorem dd_Q_atom_221 : decode bb_Q_atom 221 = .ok (.iastore, 1) := by decide +kernel
theorem dd_Q_atom_222 : decode bb_Q_atom 222 = .ok (.aload_n 0, 1) := by decide +kernel
theorem dd_Q_atom_223 : decode bb_Q_atom 223 = .ok (.getfield 32, 3) := by decide +kernel
theorem dd_Q_atom_226 : decode bb_Q_atom 226 = .ok (.iload 8, 2) := by decide +kernel
theorem dd_Q_atom_228 : decode bb_Q_atom 228 = .ok (.iload_n 2, 1) := by decide +kernel
theorem dd_Q_atom_229 : decode bb_Q_atom 229 = .ok (.iconst 2, 1) := by decide +kernel
theorem dd_Q_atom_230 : decode bb_Q_atom 230 = .ok (.if_icmp .le 7, 3) := by decide +kernel
theorem dd_Q_atom_233 : decode bb_Q_atom 233 = .ok (.iconst 0, 1) := by decide +kernel
theorem dd_Q_atom_234 : decode bb_Q_atom 234 = .ok (.goto 5, 3) := by decide +kernel
theorem dd_Q_atom_237 : decode bb_Q_atom 237 = .ok (.iload 4, 2) := by decide +kernel
theorem dd_Q_atom_239 : decode bb_Q_atom 239 = .ok (.iastore, 1) := by decide +kernel
theorem dd_Q_atom_240 : decode bb_Q_atom 240 = .ok (.aload_n 0, 1) := by decide +kernel
theorem dd_Q_atom_241 : decode bb_Q_atom 241 = .ok (.getfield 35, 3) := by decide +kernel
theorem dd_Q_atom_244 : decode bb_Q_atom 244 = .ok (.iload 8, 2) := by decide +kernel
theorem dd_Q_atom_246 : decode bb_Q_atom 246 = .ok (.iload 5, 2) := by decide +kernel
theorem dd_Q_atom_248 : decode bb_Q_atom 248 = .ok (.bastore, 1) := by decide +kernel
theorem dd_Q_atom_249 : decode bb_Q_atom 249 = .ok (.aload_n 0, 1) := by decide +kernel
theorem dd_Q_atom_250 : decode bb_Q_atom 250 = .ok (.getfield 23, 3) := by decide +kernel
theorem dd_Q_atom_253 : decode bb_Q_atom 253 = .ok (.iload_n 1, 1) := by decide +kernel
theorem dd_Q_atom_254 : decode bb_Q_atom 254 = .ok (.dup2, 1) := by decide +kernel
theorem dd_Q_atom_255 : decode bb_Q_atom 255 = .ok (.iaload, 1) := by decide +kernel
theorem dd_Q_atom_256 : decode bb_Q_atom 256 = .ok (.iconst 1, 1) := by decide +kernel
theorem dd_Q_atom_257 : decode bb_Q_atom 257 = .ok (.iadd, 1) := by decide +kernel
theorem dd_Q_atom_258 : decode bb_Q_atom 258 = .ok (.iastore, 1) := by decide +kernel
theorem dd_Q_atom_259 : decode bb_Q_atom 259 = .ok (.aload_n 0, 1) := by decide +kernel
theorem dd_Q_atom_260 : decode bb_Q_atom 260 = .ok (.aload_n 0, 1) := by decide +kernel
theorem dd_Q_atom_261 : decode bb_Q_atom 261 = .ok (.getfield 20, 3) := by decide +kernel
theorem dd_Q_atom_264 : decode bb_Q_atom 264 = .ok (.iload_n 1, 1) := by decide +kernel
theorem dd_Q_atom_265 : decode bb_Q_atom 265 = .ok (.iaload, 1) := by decide +kernel
theorem dd_Q_atom_266 : decode bb_Q_atom 266 = .ok (.invokevirtual 131, 3) := by decide +kernel
theorem dd_Q_atom_269 : decode bb_Q_atom 269 = .ok (.aload_n 0, 1) := by decide +kernel
theorem dd_Q_atom_270 : decode bb_Q_atom 270 = .ok (.getfield 23, 3) := by decide +kernel
theorem dd_Q_atom_273 : decode bb_Q_atom 273 = .ok (.iload_n 1, 1) := by decide +kernel
theorem dd_Q_atom_274 : decode bb_Q_atom 274 = .ok (.iaload, 1) := by decide +kernel
theorem dd_Q_atom_275 : decode bb_Q_atom 275 = .ok (.ireturn, 1) := by decide +kernel
theorem dd_Q_begin_0 : decode bb_Q_begin 0 = .ok (.aload_n 0, 1) := by decide +kernel
theorem dd_Q_begin_1 : decode bb_Q_begin 1 = .ok (.getfield 85, 3) := by decide +kernel
theorem dd_Q_begin_4 : decode bb_Q_begin 4 = .ok (.iload_n 1, 1) := by decide +kernel
theorem dd_Q_begin_5 : decode bb_Q_begin 5 = .ok (.lload_n 2, 1) := by decide +kernel
theorem dd_Q_begin_6 : decode bb_Q_begin 6 = .ok (.lastore, 1) := by decide +kernel
theorem dd_Q_begin_7 : decode bb_Q_begin 7 = .ok (.aload_n 0, 1) := by decide +kernel
theorem dd_Q_begin_8 : decode bb_Q_begin 8 = .ok (.getfield 88, 3) := by decide +kernel
theorem dd_Q_begin_11 : decode bb_Q_begin 11 = .ok (.iload_n 1, 1) := by decide +kernel
theorem dd_Q_begin_12 : decode bb_Q_begin 12 = .ok (.lload 4, 2) := by decide +kernel
theorem dd_Q_begin_14 : decode bb_Q_begin 14 = .ok (.lastore, 1) := by decide +kernel
theorem dd_Q_begin_15 : decode bb_Q_begin 15 = .ok (.aload_n 0, 1) := by decide +kernel
theorem dd_Q_begin_16 : decode bb_Q_begin 16 = .ok (.getfield 91, 3) := by decide +kernel
theorem dd_Q_begin_19 : decode bb_Q_begin 19 = .ok (.iload_n 1, 1) := by decide +kernel
theorem dd_Q_begin_20 : decode bb_Q_begin 20 = .ok (.iload 6, 2) := by decide +kernel
theorem dd_Q_begin_22 : decode bb_Q_begin 22 = .ok (.iastore, 1) := by decide +kernel
theorem dd_Q_begin_23 : decode bb_Q_begin 23 = .ok (.aload_n 0, 1) := by decide +kernel
theorem dd_Q_begin_24 : decode bb_Q_begin 24 = .ok (.getfield 94, 3) := by decide +kernel
theorem dd_Q_begin_27 : decode bb_Q_begin 27 = .ok (.iload_n 1, 1) := by decide +kernel
theorem dd_Q_begin_28 : decode bb_Q_begin 28 = .ok (.iconst 0, 1) := by decide +kernel
theorem dd_Q_begin_29 : decode bb_Q_begin 29 = .ok (.iastore, 1) := by decide +kernel
theorem dd_Q_begin_30 : decode bb_Q_begin 30 = .ok (.return_, 1) := by decide +kernel
theorem dd_Q_best_0 : decode bb_Q_best 0 = .ok (.aload_n 0, 1) := by decide +kernel
theorem dd_Q_best_1 : decode bb_Q_best 1 = .ok (.iload_n 1, 1) := by decide +kernel
theorem dd_Q_best_2 : decode bb_Q_best 2 = .ok (.iconst 0, 1) := by decide +kernel
theorem dd_Q_best_3 : decode bb_Q_best 3 = .ok (.aload_n 0, 1) := by decide +kernel
theorem dd_Q_best_4 : decode bb_Q_best 4 = .ok (.getfield 135, 3) := by decide +kernel
theorem dd_Q_best_7 : decode bb_Q_best 7 = .ok (.iconst 1, 1) := by decide +kernel
theorem dd_Q_best_8 : decode bb_Q_best 8 = .ok (.isub, 1) := by decide +kernel
theorem dd_Q_best_9 : decode bb_Q_best 9 = .ok (.invokestatic 127, 3) := by decide +kernel
theorem dd_Q_best_12 : decode bb_Q_best 12 = .ok (.ifCond .eq 17, 3) := by decide +kernel
theorem dd_Q_best_15 : decode bb_Q_best 15 = .ok (.aload_n 0, 1) := by decide +kernel
theorem dd_Q_best_16 : decode bb_Q_best 16 = .ok (.iload_n 1, 1) := by decide +kernel
theorem dd_Q_best_17 : decode bb_Q_best 17 = .ok (.iload_n 2, 1) := by decide +kernel
theorem dd_Q_best_18 : decode bb_Q_best 18 = .ok (.iload_n 3, 1) := by decide +kernel
theorem dd_Q_best_19 : decode bb_Q_best 19 = .ok (.invokevirtual 176, 3) := by decide +kernel
theorem dd_Q_best_22 : decode bb_Q_best 22 = .ok (.ifCond .eq 7, 3) := by decide +kernel
theorem dd_Q_best_25 : decode bb_Q_best 25 = .ok (.iconst 0, 1) := by decide +kernel
theorem dd_Q_best_26 : decode bb_Q_best 26 = .ok (.goto 4, 3) := by decide +kernel
theorem dd_Q_best_29 : decode bb_Q_best 29 = .ok (.iconst 1, 1) := by decide +kernel
theorem dd_Q_best_30 : decode bb_Q_best 30 = .ok (.putfield 121, 3) := by decide +kernel
theorem dd_Q_best_33 : decode bb_Q_best 33 = .ok (.aload_n 0, 1) := by decide +kernel
theorem dd_Q_best_34 : decode bb_Q_best 34 = .ok (.getfield 121, 3) := by decide +kernel
theorem dd_Q_best_37 : decode bb_Q_best 37 = .ok (.ifCond .le 5, 3) := by decide +kernel
theorem dd_Q_best_40 : decode bb_Q_best 40 = .ok (.iconst 0, 1) := by decide +kernel
theorem dd_Q_best_41 : decode bb_Q_best 41 = .ok (.ireturn, 1) := by decide +kernel
theorem dd_Q_best_42 : decode bb_Q_best 42 = .ok (.aload_n 0, 1) := by decide +kernel
theorem dd_Q_best_43 : decode bb_Q_best 43 = .ok (.iload_n 1, 1) := by decide +kernel
theorem dd_Q_best_44 : decode bb_Q_best 44 = .ok (.invokevirtual 173, 3) := by decide +kernel
theorem dd_Q_best_47 : decode bb_Q_best 47 = .ok (.aload_n 0, 1) := by decide +kernel
theorem dd_Q_best_48 : decode bb_Q_best 48 = .ok (.iload_n 1, 1) := by decide +kernel
theorem dd_Q_best_49 : decode bb_Q_best 49 = .ok (.aload_n 0, 1) := by decide +kernel
theorem dd_Q_best_50 : decode bb_Q_best 50 = .ok (.iload_n 1, 1) := by decide +kernel
theorem dd_Q_best_51 : decode bb_Q_best 51 = .ok (.iload_n 2, 1) := by decide +kernel
theorem dd_Q_best_52 : decode bb_Q_best 52 = .ok (.iload_n 3, 1) := by decide +kernel
theorem dd_Q_best_53 : decode bb_Q_best 53 = .ok (.invokevirtual 179, 3) := by decide +kernel
theorem dd_Q_best_56 : decode bb_Q_best 56 = .ok (.invokevirtual 183, 3) := by decide +kernel
theorem dd_Q_best_59 : decode bb_Q_best 59 = .ok (.ireturn, 1) := by decide +kernel
theorem dd_Q_bestAt_0 : decode bb_Q_bestAt 0 = .ok (.aload_n 0, 1) := by decide +kernel
theorem dd_Q_bestAt_1 : decode bb_Q_bestAt 1 = .ok (.aload_n 0, 1) := by decide +kernel
theorem dd_Q_bestAt_2 : decode bb_Q_bestAt 2 = .ok (.getfield 51, 3) := by decide +kernel
theorem dd_Q_bestAt_5 : decode bb_Q_bestAt 5 = .ok (.sipush 4096, 3) := by decide +kernel
theorem dd_Q_bestAt_8 : decode bb_Q_bestAt 8 = .ok (.iload_n 1, 1) := by decide +kernel
theorem dd_Q_bestAt_9 : decode bb_Q_bestAt 9 = .ok (.imul, 1) := by decide +kernel
theorem dd_Q_bestAt_10 : decode bb_Q_bestAt 10 = .ok (.iload_n 2, 1) := by decide +kernel
theorem dd_Q_bestAt_11 : decode bb_Q_bestAt 11 = .ok (.iadd, 1) := by decide +kernel
theorem dd_Q_bestAt_12 : decode bb_Q_bestAt 12 = .ok (.iaload, 1) := by decide +kernel
theorem dd_Q_bestAt_13 : decode bb_Q_bestAt 13 = .ok (.invokevirtual 170, 3) := by decide +kernel
theorem dd_Q_bestAt_16 : decode bb_Q_bestAt 16 = .ok (.ireturn, 1) := by decide +kernel
theorem dd_Q_beyond_0 : decode bb_Q_beyond 0 = .ok (.iload_n 1, 1) := by decide +kernel
theorem dd_Q_beyond_1 : decode bb_Q_beyond 1 = .ok (.iconst 0, 1) := by decide +kernel
theorem dd_Q_beyond_2 : decode bb_Q_beyond 2 = .ok (.aload_n 0, 1) := by decide +kernel
theorem dd_Q_beyond_3 : decode bb_Q_beyond 3 = .ok (.getfield 138, 3) := by decide +kernel
theorem dd_Q_beyond_6 : decode bb_Q_beyond 6 = .ok (.iconst 1, 1) := by decide +kernel
theorem dd_Q_beyond_7 : decode bb_Q_beyond 7 = .ok (.isub, 1) := by decide +kernel
theorem dd_Q_beyond_8 : decode bb_Q_beyond 8 = .ok (.invokestatic 127, 3) := by decide +kernel
theorem dd_Q_beyond_11 : decode bb_Q_beyond 11 = .ok (.ifCond .eq 21, 3) := by decide +kernel
theorem dd_Q_beyond_14 : decode bb_Q_beyond 14 = .ok (.iload_n 2, 1) := by decide +kernel
theorem dd_Q_beyond_15 : decode bb_Q_beyond 15 = .ok (.iconst 0, 1) := by decide +kernel
theorem dd_Q_beyond_16 : decode bb_Q_beyond 16 = .ok (.aload_n 0, 1) := by decide +kernel
theorem dd_Q_beyond_17 : decode bb_Q_beyond 17 = .ok (.getfield 138, 3) := by decide +kernel
theorem dd_Q_beyond_20 : decode bb_Q_beyond 20 = .ok (.iconst 1, 1) := by decide +kernel
theorem dd_Q_beyond_21 : decode bb_Q_beyond 21 = .ok (.isub, 1) := by decide +kernel
theorem dd_Q_beyond_22 : decode bb_Q_beyond 22 = .ok (.invokestatic 127, 3) := by decide +kernel
theorem dd_Q_beyond_25 : decode bb_Q_beyond 25 = .ok (.ifCond .eq 7, 3) := by decide +kernel
theorem dd_Q_beyond_28 : decode bb_Q_beyond 28 = .ok (.iconst 1, 1) := by decide +kernel
theorem dd_Q_beyond_29 : decode bb_Q_beyond 29 = .ok (.goto 4, 3) := by decide +kernel
theorem dd_Q_beyond_32 : decode bb_Q_beyond 32 = .ok (.iconst 0, 1) := by decide +kernel
theorem dd_Q_beyond_33 : decode bb_Q_beyond 33 = .ok (.istore_n 3, 1) := by decide +kernel
theorem dd_Q_beyond_34 : decode bb_Q_beyond 34 = .ok (.aload_n 0, 1) := by decide +kernel
theorem dd_Q_beyond_35 : decode bb_Q_beyond 35 = .ok (.iload_n 3, 1) := by decide +kernel
theorem dd_Q_beyond_36 : decode bb_Q_beyond 36 = .ok (.ifCond .eq 22, 3) := by decide +kernel
theorem dd_Q_beyond_39 : decode bb_Q_beyond 39 = .ok (.aload_n 0, 1) := by decide +kernel
theorem dd_Q_beyond_40 : decode bb_Q_beyond 40 = .ok (.getfield 20, 3) := by decide +kernel
theorem dd_Q_beyond_43 : decode bb_Q_beyond 43 = .ok (.iload_n 1, 1) := by decide +kernel
theorem dd_Q_beyond_44 : decode bb_Q_beyond 44 = .ok (.iaload, 1) := by decide +kernel
theorem dd_Q_beyond_45 : decode bb_Q_beyond 45 = .ok (.aload_n 0, 1) := by decide +kernel
theorem dd_Q_beyond_46 : decode bb_Q_beyond 46 = .ok (.getfield 20, 3) := by decide +kernel
theorem dd_Q_beyond_49 : decode bb_Q_beyond 49 = .ok (.iload_n 2, 1) := by decide +kernel
theorem dd_Q_beyond_50 : decode bb_Q_beyond 50 = .ok (.iaload, 1) := by decide +kernel
theorem dd_Q_beyond_51 : decode bb_Q_beyond 51 = .ok (.if_icmp .ne 7, 3) := by decide +kernel
theorem dd_Q_beyond_54 : decode bb_Q_beyond 54 = .ok (.iconst 0, 1) := by decide +kernel
theorem dd_Q_beyond_55 : decode bb_Q_beyond 55 = .ok (.goto 4, 3) := by decide +kernel
theorem dd_Q_beyond_58 : decode bb_Q_beyond 58 = .ok (.iconst 1, 1) := by decide +kernel
theorem dd_Q_beyond_59 : decode bb_Q_beyond 59 = .ok (.putfield 121, 3) := by decide +kernel
theorem dd_Q_beyond_62 : decode bb_Q_beyond 62 = .ok (.aload_n 0, 1) := by decide +kernel
theorem dd_Q_beyond_63 : decode bb_Q_beyond 63 = .ok (.getfield 121, 3) := by decide +kernel
theorem dd_Q_beyond_66 : decode bb_Q_beyond 66 = .ok (.ifCond .le 5, 3) := by decide +kernel
theorem dd_Q_beyond_69 : decode bb_Q_beyond 69 = .ok (.iconst 0, 1) := by decide +kernel
theorem dd_Q_beyond_70 : decode bb_Q_beyond 70 = .ok (.ireturn, 1) := by decide +kernel
theorem dd_Q_beyond_71 : decode bb_Q_beyond 71 = .ok (.aload_n 0, 1) := by decide +kernel
theorem dd_Q_beyond_72 : decode bb_Q_beyond 72 = .ok (.aload_n 0, 1) := by decide +kernel
theorem dd_Q_beyond_73 : decode bb_Q_beyond 73 = .ok (.getfield 20, 3) := by decide +kernel
theorem dd_Q_beyond_76 : decode bb_Q_beyond 76 = .ok (.iload_n 1, 1) := by decide +kernel
theorem dd_Q_beyond_77 : decode bb_Q_beyond 77 = .ok (.iaload, 1) := by decide +kernel
theorem dd_Q_beyond_78 : decode bb_Q_beyond 78 = .ok (.invokevirtual 173, 3) := by decide +kernel
theorem dd_Q_beyond_81 : decode bb_Q_beyond 81 = .ok (.aload_n 0, 1) := by decide +kernel
theorem dd_Q_beyond_82 : decode bb_Q_beyond 82 = .ok (.getfield 54, 3) := by decide +kernel
theorem dd_Q_beyond_85 : decode bb_Q_beyond 85 = .ok (.iload_n 1, 1) := by decide +kernel
theorem dd_Q_beyond_86 : decode bb_Q_beyond 86 = .ok (.iaload, 1) := by decide +kernel
theorem dd_Q_beyond_87 : decode bb_Q_beyond 87 = .ok (.iload_n 2, 1) := by decide +kernel
theorem dd_Q_beyond_88 : decode bb_Q_beyond 88 = .ok (.ishr, 1) := by decide +kernel
theorem dd_Q_beyond_89 : decode bb_Q_beyond 89 = .ok (.iconst 1, 1) := by decide +kernel
theorem dd_Q_beyond_90 : decode bb_Q_beyond 90 = .ok (.iand, 1) := by decide +kernel
theorem dd_Q_beyond_91 : decode bb_Q_beyond 91 = .ok (.iconst 1, 1) := by decide +kernel
theorem dd_Q_beyond_92 : decode bb_Q_beyond 92 = .ok (.if_icmp .ne 7, 3) := by decide +kernel
theorem dd_Q_beyond_95 : decode bb_Q_beyond 95 = .ok (.iconst 1, 1) := by decide +kernel
theorem dd_Q_beyond_96 : decode bb_Q_beyond 96 = .ok (.goto 4, 3) := by decide +kernel
theorem dd_Q_beyond_99 : decode bb_Q_beyond 99 = .ok (.iconst 0, 1) := by decide +kernel
theorem dd_Q_beyond_100 : decode bb_Q_beyond 100 = .ok (.ireturn, 1) := by decide +kernel
theorem dd_Q_build_0 : decode bb_Q_build 0 = .ok (.aload_n 0, 1) := by decide +kernel
theorem dd_Q_build_1 : decode bb_Q_build 1 = .ok (.getfield 57, 3) := by decide +kernel
theorem dd_Q_build_4 : decode bb_Q_build 4 = .ok (.iload_n 1, 1) := by decide +kernel
theorem dd_Q_build_5 : decode bb_Q_build 5 = .ok (.iconst 0, 1) := by decide +kernel
theorem dd_Q_build_6 : decode bb_Q_build 6 = .ok (.iastore, 1) := by decide +kernel
theorem dd_Q_build_7 : decode bb_Q_build 7 = .ok (.aload_n 0, 1) := by decide +kernel
theorem dd_Q_build_8 : decode bb_Q_build 8 = .ok (.iconst 0, 1) := by decide +kernel
theorem dd_Q_build_9 : decode bb_Q_build 9 = .ok (.lconst 0, 1) := by decide +kernel
theorem dd_Q_build_10 : decode bb_Q_build 10 = .ok (.lconst 0, 1) := by decide +kernel
theorem dd_Q_build_11 : decode bb_Q_build 11 = .ok (.iconst 0, 1) := by decide +kernel
theorem dd_Q_build_12 : decode bb_Q_build 12 = .ok (.invokevirtual 198, 3) := by decide +kernel
theorem dd_Q_build_15 : decode bb_Q_build 15 = .ok (.iconst 0, 1) := by decide +kernel
theorem dd_Q_build_16 : decode bb_Q_build 16 = .ok (.istore_n 2, 1) := by decide +kernel
theorem dd_Q_build_17 : decode bb_Q_build 17 = .ok (.iconst 0, 1) := by decide +kernel
theorem dd_Q_build_18 : decode bb_Q_build 18 = .ok (.istore_n 3, 1) := by decide +kernel
theorem dd_Q_build_19 : decode bb_Q_build 19 = .ok (.iload_n 2, 1) := by decide +kernel
theorem dd_Q_build_20 : decode bb_Q_build 20 = .ok (.ifCond .lt 220, 3) := by decide +kernel
theorem dd_Q_build_23 : decode bb_Q_build 23 = .ok (.iload_n 3, 1) := by decide +kernel
theorem dd_Q_build_24 : decode bb_Q_build 24 = .ok (.ifCond .lt 216, 3) := by decide +kernel
theorem dd_Q_build_27 : decode bb_Q_build 27 = .ok (.aload_n 0, 1) := by decide +kernel
theorem dd_Q_build_28 : decode bb_Q_build 28 = .ok (.getfield 94, 3) := by decide +kernel
theorem dd_Q_build_31 : decode bb_Q_build 31 = .ok (.iload_n 2, 1) := by decide +kernel
theorem dd_Q_build_32 : decode bb_Q_build 32 = .ok (.iaload, 1) := by decide +kernel
theorem dd_Q_build_33 : decode bb_Q_build 33 = .ok (.ifCond .ne 12, 3) := by decide +kernel
theorem dd_Q_build_36 : decode bb_Q_build 36 = .ok (.aload_n 0, 1) := by decide +kernel
theorem dd_Q_build_37 : decode bb_Q_build 37 = .ok (.iload_n 1, 1) := by decide +kernel
theorem dd_Q_build_38 : decode bb_Q_build 38 = .ok (.iload_n 2, 1) := by decide +kernel
theorem dd_Q_build_39 : decode bb_Q_build 39 = .ok (.invokevirtual 202, 3) := by decide +kernel
theorem dd_Q_build_42 : decode bb_Q_build 42 = .ok (.goto 5, 3) := by decide +kernel
theorem dd_Q_build_45 : decode bb_Q_build 45 = .ok (.bipush (-3), 2) := by decide +kernel
theorem dd_Q_build_47 : decode bb_Q_build 47 = .ok (.istore 4, 2) := by decide +kernel
theorem dd_Q_build_49 : decode bb_Q_build 49 = .ok (.iload 4, 2) := by decide +kernel
theorem dd_Q_build_51 : decode bb_Q_build 51 = .ok (.bipush (-3), 2) := by decide +kernel
theorem dd_Q_build_53 : decode bb_Q_build 53 = .ok (.if_icmp .le 19, 3) := by decide +kernel
theorem dd_Q_build_56 : decode bb_Q_build 56 = .ok (.aload_n 0, 1) := by decide +kernel
theorem dd_Q_build_57 : decode bb_Q_build 57 = .ok (.iload_n 1, 1) := by decide +kernel
theorem dd_Q_build_58 : decode bb_Q_build 58 = .ok (.iconst (-1), 1) := by decide +kernel
theorem dd_Q_build_59 : decode bb_Q_build 59 = .ok (.iload 4, 2) := by decide +kernel
theorem dd_Q_build_61 : decode bb_Q_build 61 = .ok (.iconst (-1), 1) := by decide +kernel
theorem dd_Q_build_62 : decode bb_Q_build 62 = .ok (.invokevirtual 205, 3) := by decide +kernel
theorem dd_Q_build_65 : decode bb_Q_build 65 = .ok (.istore_n 3, 1) := by decide +kernel
theorem dd_Q_build_66 : decode bb_Q_build 66 = .ok (.iinc 2 (-1), 3) := by decide +kernel
theorem dd_Q_build_69 : decode bb_Q_build 69 = .ok (.goto 168, 3) := by decide +kernel
theorem dd_Q_build_72 : decode bb_Q_build 72 = .ok (.aload_n 0, 1) := by decide +kernel
theorem dd_Q_build_73 : decode bb_Q_build 73 = .ok (.getfield 94, 3) := by decide +kernel
theorem dd_Q_build_76 : decode bb_Q_build 76 = .ok (.iload_n 2, 1) := by decide +kernel
theorem dd_Q_build_77 : decode bb_Q_build 77 = .ok (.iaload, 1) := by decide +kernel
theorem dd_Q_build_78 : decode bb_Q_build 78 = .ok (.ifCond .ne 71, 3) := by decide +kernel
theorem dd_Q_build_81 : decode bb_Q_build 81 = .ok (.aload_n 0, 1) := by decide +kernel
theorem dd_Q_build_82 : decode bb_Q_build 82 = .ok (.getfield 97, 3) := by decide +kernel
theorem dd_Q_build_85 : decode bb_Q_build 85 = .ok (.iload_n 2, 1) := by decide +kernel
theorem dd_Q_build_86 : decode bb_Q_build 86 = .ok (.aload_n 0, 1) := by decide +kernel
theorem dd_Q_build_87 : decode bb_Q_build 87 = .ok (.iload_n 1, 1) := by decide +kernel
theorem dd_Q_build_88 : decode bb_Q_build 88 = .ok (.iload_n 2, 1) := by decide +kernel
theorem dd_Q_build_89 : decode bb_Q_build 89 = .ok (.invokevirtual 209, 3) := by decide +kernel
theorem dd_Q_build_92 : decode bb_Q_build 92 = .ok (.iastore, 1) := by decide +kernel
theorem dd_Q_build_93 : decode bb_Q_build 93 = .ok (.aload_n 0, 1) := by decide +kernel
theorem dd_Q_build_94 : decode bb_Q_build 94 = .ok (.getfield 94, 3) := by decide +kernel
theorem dd_Q_build_97 : decode bb_Q_build 97 = .ok (.iload_n 2, 1) := by decide +kernel
theorem dd_Q_build_98 : decode bb_Q_build 98 = .ok (.iconst 1, 1) := by decide +kernel
theorem dd_Q_build_99 : decode bb_Q_build 99 = .ok (.iastore, 1) := by decide +kernel
theorem dd_Q_build_100 : decode bb_Q_build 100 = .ok (.lconst 1, 1) := by decide +kernel
theorem dd_Q_build_101 : decode bb_Q_build 101 = .ok (.aload_n 0, 1) := by decide +kernel
theorem dd_Q_build_102 : decode bb_Q_build 102 = .ok (.getfield 97, 3) := by decide +kernel
theorem dd_Q_build_105 : decode bb_Q_build 105 = .ok (.iload_n 2, 1) := by decide +kernel
theorem dd_Q_build_106 : decode bb_Q_build 106 = .ok (.iaload, 1) := by decide +kernel
theorem dd_Q_build_107 : decode bb_Q_build 107 = .ok (.lshl, 1) := by decide +kernel
theorem dd_Q_build_108 : decode bb_Q_build 108 = .ok (.lstore 5, 2) := by decide +kernel
theorem dd_Q_build_110 : decode bb_Q_build 110 = .ok (.aload_n 0, 1) := by decide +kernel
theorem dd_Q_build_111 : decode bb_Q_build 111 = .ok (.iload_n 2, 1) := by decide +kernel
theorem dd_Q_build_112 : decode bb_Q_build 112 = .ok (.iconst 1, 1) := by decide +kernel
theorem dd_Q_build_113 : decode bb_Q_build 113 = .ok (.iadd, 1) := by decide +kernel
theorem dd_Q_build_114 : decode bb_Q_build 114 = .ok (.aload_n 0, 1) := by decide +kernel
theorem dd_Q_build_115 : decode bb_Q_build 115 = .ok (.getfield 85, 3) := by decide +kernel
theorem dd_Q_build_118 : decode bb_Q_build 118 = .ok (.iload_n 2, 1) := by decide +kernel
theorem dd_Q_build_119 : decode bb_Q_build 119 = .ok (.laload, 1) := by decide +kernel
theorem dd_Q_build_120 : decode bb_Q_build 120 = .ok (.lload 5, 2) := by decide +kernel
theorem dd_Q_build_122 : decode bb_Q_build 122 = .ok (.lor, 1) := by decide +kernel
theorem dd_Q_build_123 : decode bb_Q_build 123 = .ok (.aload_n 0, 1) := by decide +kernel
theorem dd_Q_build_124 : decode bb_Q_build 124 = .ok (.getfield 88, 3) := by decide +kernel
theorem dd_Q_build_127 : decode bb_Q_build 127 = .ok (.iload_n 2, 1) := by decide +kernel
theorem dd_Q_build_128 : decode bb_Q_build 128 = .ok (.laload, 1) := by decide +kernel
theorem dd_Q_build_129 : decode bb_Q_build 129 = .ok (.lload 5, 2) := by decide +kernel
theorem dd_Q_build_131 : decode bb_Q_build 131 = .ok (.lor, 1) := by decide +kernel
theorem dd_Q_build_132 : decode bb_Q_build 132 = .ok (.aload_n 0, 1) := by decide +kernel
theorem dd_Q_build_133 : decode bb_Q_build 133 = .ok (.getfield 97, 3) := by decide +kernel
theorem dd_Q_build_136 : decode bb_Q_build 136 = .ok (.iload_n 2, 1) := by decide +kernel
theorem dd_Q_build_137 : decode bb_Q_build 137 = .ok (.iaload, 1) := by decide +kernel
theorem dd_Q_build_138 : decode bb_Q_build 138 = .ok (.iconst 1, 1) := by decide +kernel
theorem dd_Q_build_139 : decode bb_Q_build 139 = .ok (.iadd, 1) := by decide +kernel
theorem dd_Q_build_140 : decode bb_Q_build 140 = .ok (.invokevirtual 198, 3) := by decide +kernel
theorem dd_Q_build_143 : decode bb_Q_build 143 = .ok (.iinc 2 1, 3) := by decide +kernel
theorem dd_Q_build_146 : decode bb_Q_build 146 = .ok (.goto 91, 3) := by decide +kernel
theorem dd_Q_build_149 : decode bb_Q_build 149 = .ok (.aload_n 0, 1) := by decide +kernel
theorem dd_Q_build_150 : decode bb_Q_build 150 = .ok (.getfield 94, 3) := by decide +kernel
theorem dd_Q_build_153 : decode bb_Q_build 153 = .ok (.iload_n 2, 1) := by decide +kernel
theorem dd_Q_build_154 : decode bb_Q_build 154 = .ok (.iaload, 1) := by decide +kernel
theorem dd_Q_build_155 : decode bb_Q_build 155 = .ok (.iconst 1, 1) := by decide +kernel
theorem dd_Q_build_156 : decode bb_Q_build 156 = .ok (.if_icmp .ne 59, 3) := by decide +kernel
theorem dd_Q_build_159 : decode bb_Q_build 159 = .ok (.aload_n 0, 1) := by decide +kernel
theorem dd_Q_build_160 : decode bb_Q_build 160 = .ok (.getfield 100, 3) := by decide +kernel
theorem dd_Q_build_163 : decode bb_Q_build 163 = .ok (.iload_n 2, 1) := by decide +kernel
theorem dd_Q_build_164 : decode bb_Q_build 164 = .ok (.iload_n 3, 1) := by decide +kernel
theorem dd_Q_build_165 : decode bb_Q_build 165 = .ok (.iastore, 1) := by decide +kernel
theorem dd_Q_build_166 : decode bb_Q_build 166 = .ok (.aload_n 0, 1) := by decide +kernel
theorem dd_Q_build_167 : decode bb_Q_build 167 = .ok (.getfield 94, 3) := by decide +kernel
theorem dd_Q_build_170 : decode bb_Q_build 170 = .ok (.iload_n 2, 1) := by decide +kernel
theorem dd_Q_build_171 : decode bb_Q_build 171 = .ok (.iconst 2, 1) := by decide +kernel
theorem dd_Q_build_172 : decode bb_Q_build 172 = .ok (.iastore, 1) := by decide +kernel
theorem dd_Q_build_173 : decode bb_Q_build 173 = .ok (.aload_n 0, 1) := by decide +kernel
theorem dd_Q_build_174 : decode bb_Q_build 174 = .ok (.iload_n 2, 1) := by decide +kernel
theorem dd_Q_build_175 : decode bb_Q_build 175 = .ok (.iconst 1, 1) := by decide +kernel
theorem dd_Q_build_176 : decode bb_Q_build 176 = .ok (.iadd, 1) := by decide +kernel
theorem dd_Q_build_177 : decode bb_Q_build 177 = .ok (.aload_n 0, 1) := by decide +kernel
theorem dd_Q_build_178 : decode bb_Q_build 178 = .ok (.getfield 85, 3) := by decide +kernel
theorem dd_Q_build_181 : decode bb_Q_build 181 = .ok (.iload_n 2, 1) := by decide +kernel
theorem dd_Q_build_182 : decode bb_Q_build 182 = .ok (.laload, 1) := by decide +kernel
theorem dd_Q_build_183 : decode bb_Q_build 183 = .ok (.lconst 1, 1) := by decide +kernel
theorem dd_Q_build_184 : decode bb_Q_build 184 = .ok (.aload_n 0, 1) := by decide +kernel
theorem dd_Q_build_185 : decode bb_Q_build 185 = .ok (.getfield 97, 3) := by decide +kernel
theorem dd_Q_build_188 : decode bb_Q_build 188 = .ok (.iload_n 2, 1) := by decide +kernel
theorem dd_Q_build_189 : decode bb_Q_build 189 = .ok (.iaload, 1) := by decide +kernel
theorem dd_Q_build_190 : decode bb_Q_build 190 = .ok (.lshl, 1) := by decide +kernel
theorem dd_Q_build_191 : decode bb_Q_build 191 = .ok (.lor, 1) := by decide +kernel
theorem dd_Q_build_192 : decode bb_Q_build 192 = .ok (.aload_n 0, 1) := by decide +kernel
theorem dd_Q_build_193 : decode bb_Q_build 193 = .ok (.getfield 88, 3) := by decide +kernel
theorem dd_Q_build_196 : decode bb_Q_build 196 = .ok (.iload_n 2, 1) := by decide +kernel
theorem dd_Q_build_197 : decode bb_Q_build 197 = .ok (.laload, 1) := by decide +kernel
theorem dd_Q_build_198 : decode bb_Q_build 198 = .ok (.aload_n 0, 1) := by decide +kernel
theorem dd_Q_build_199 : decode bb_Q_build 199 = .ok (.getfield 97, 3) := by decide +kernel
theorem dd_Q_build_202 : decode bb_Q_build 202 = .ok (.iload_n 2, 1) := by decide +kernel
theorem dd_Q_build_203 : decode bb_Q_build 203 = .ok (.iaload, 1) := by decide +kernel
theorem dd_Q_build_204 : decode bb_Q_build 204 = .ok (.iconst 1, 1) := by decide +kernel
theorem dd_Q_build_205 : decode bb_Q_build 205 = .ok (.iadd, 1) := by decide +kernel
theorem dd_Q_build_206 : decode bb_Q_build 206 = .ok (.invokevirtual 198, 3) := by decide +kernel
theorem dd_Q_build_209 : decode bb_Q_build 209 = .ok (.iinc 2 1, 3) := by decide +kernel
theorem dd_Q_build_212 : decode bb_Q_build 212 = .ok (.goto 25, 3) := by decide +kernel
theorem dd_Q_build_215 : decode bb_Q_build 215 = .ok (.aload_n 0, 1) := by decide +kernel
theorem dd_Q_build_216 : decode bb_Q_build 216 = .ok (.iload_n 1, 1) := by decide +kernel
theorem dd_Q_build_217 : decode bb_Q_build 217 = .ok (.aload_n 0, 1) := by decide +kernel
theorem dd_Q_build_218 : decode bb_Q_build 218 = .ok (.getfield 97, 3) := by decide +kernel
theorem dd_Q_build_221 : decode bb_Q_build 221 = .ok (.iload_n 2, 1) := by decide +kernel
theorem dd_Q_build_222 : decode bb_Q_build 222 = .ok (.iaload, 1) := by decide +kernel
theorem dd_Q_build_223 : decode bb_Q_build 223 = .ok (.aload_n 0, 1) := by decide +kernel
theorem dd_Q_build_224 : decode bb_Q_build 224 = .ok (.getfield 100, 3) := by decide +kernel
theorem dd_Q_build_227 : decode bb_Q_build 227 = .ok (.iload_n 2, 1) := by decide +kernel
theorem dd_Q_build_228 : decode bb_Q_build 228 = .ok (.iaload, 1) := by decide +kernel
theorem dd_Q_build_229 : decode bb_Q_build 229 = .ok (.iload_n 3, 1) := by decide +kernel
theorem dd_Q_build_230 : decode bb_Q_build 230 = .ok (.invokevirtual 205, 3) := by decide +kernel
theorem dd_Q_build_233 : decode bb_Q_build 233 = .ok (.istore_n 3, 1) := by decide +kernel
theorem dd_Q_build_234 : decode bb_Q_build 234 = .ok (.iinc 2 (-1), 3) := by decide +kernel
theorem dd_Q_build_237 : decode bb_Q_build 237 = .ok (.goto (-218), 3) := by decide +kernel
theorem dd_Q_build_240 : decode bb_Q_build 240 = .ok (.iload_n 3, 1) := by decide +kernel
theorem dd_Q_build_241 : decode bb_Q_build 241 = .ok (.ifCond .lt 7, 3) := by decide +kernel
theorem dd_Q_build_244 : decode bb_Q_build 244 = .ok (.iconst 1, 1) := by decide +kernel
theorem dd_Q_build_245 : decode bb_Q_build 245 = .ok (.goto 4, 3) := by decide +kernel
theorem dd_Q_build_248 : decode bb_Q_build 248 = .ok (.iconst 0, 1) := by decide +kernel
theorem dd_Q_build_249 : decode bb_Q_build 249 = .ok (.ireturn, 1) := by decide +kernel
theorem dd_Q_call_0 : decode bb_Q_call 0 = .ok (.aload_n 0, 1) := by decide +kernel
theorem dd_Q_call_1 : decode bb_Q_call 1 = .ok (.getfield 231, 3) := by decide +kernel
theorem dd_Q_call_4 : decode bb_Q_call 4 = .ok (.bipush 8, 2) := by decide +kernel
theorem dd_Q_call_6 : decode bb_Q_call 6 = .ok (.if_icmp .ne 10, 3) := by decide +kernel
theorem dd_Q_call_9 : decode bb_Q_call 9 = .ok (.aload_n 0, 1) := by decide +kernel
theorem dd_Q_call_10 : decode bb_Q_call 10 = .ok (.bipush (-5), 2) := by decide +kernel
theorem dd_Q_call_12 : decode bb_Q_call 12 = .ok (.putfield 228, 3) := by decide +kernel
theorem dd_Q_call_15 : decode bb_Q_call 15 = .ok (.return_, 1) := by decide +kernel
theorem dd_Q_call_16 : decode bb_Q_call 16 = .ok (.aload_n 0, 1) := by decide +kernel
theorem dd_Q_call_17 : decode bb_Q_call 17 = .ok (.invokevirtual 234, 3) := by decide +kernel
theorem dd_Q_call_20 : decode bb_Q_call 20 = .ok (.ifCond .ne 4, 3) := by decide +kernel
theorem dd_Q_call_23 : decode bb_Q_call 23 = .ok (.return_, 1) := by decide +kernel
theorem dd_Q_call_24 : decode bb_Q_call 24 = .ok (.iload_n 2, 1) := by decide +kernel
theorem dd_Q_call_25 : decode bb_Q_call 25 = .ok (.ifCond .lt 8, 3) := by decide +kernel
theorem dd_Q_call_28 : decode bb_Q_call 28 = .ok (.aload_n 0, 1) := by decide +kernel
theorem dd_Q_call_29 : decode bb_Q_call 29 = .ok (.iload_n 1, 1) := by decide +kernel
theorem dd_Q_call_30 : decode bb_Q_call 30 = .ok (.invokevirtual 173, 3) := by decide +kernel
theorem dd_Q_call_33 : decode bb_Q_call 33 = .ok (.iload_n 2, 1) := by decide +kernel
theorem dd_Q_call_34 : decode bb_Q_call 34 = .ok (.ifCond .ge 14, 3) := by decide +kernel
theorem dd_Q_call_37 : decode bb_Q_call 37 = .ok (.aload_n 0, 1) := by decide +kernel
theorem dd_Q_call_38 : decode bb_Q_call 38 = .ok (.iload_n 1, 1) := by decide +kernel
theorem dd_Q_call_39 : decode bb_Q_call 39 = .ok (.iload_n 3, 1) := by decide +kernel
theorem dd_Q_call_40 : decode bb_Q_call 40 = .ok (.iload 4, 2) := by decide +kernel
theorem dd_Q_call_42 : decode bb_Q_call 42 = .ok (.invokevirtual 238, 3) := by decide +kernel
theorem dd_Q_call_45 : decode bb_Q_call 45 = .ok (.goto 33, 3) := by decide +kernel
theorem dd_Q_call_48 : decode bb_Q_call 48 = .ok (.aload_n 0, 1) := by decide +kernel
theorem dd_Q_call_49 : decode bb_Q_call 49 = .ok (.aload_n 0, 1) := by decide +kernel
theorem dd_Q_call_50 : decode bb_Q_call 50 = .ok (.getfield 51, 3) := by decide +kernel
theorem dd_Q_call_53 : decode bb_Q_call 53 = .ok (.sipush 4096, 3) := by decide +kernel
theorem dd_Q_call_56 : decode bb_Q_call 56 = .ok (.iload_n 1, 1) := by decide +kernel
theorem dd_Q_call_57 : decode bb_Q_call 57 = .ok (.imul, 1) := by decide +kernel
theorem dd_Q_call_58 : decode bb_Q_call 58 = .ok (.aload_n 0, 1) := by decide +kernel
theorem dd_Q_call_59 : decode bb_Q_call 59 = .ok (.iload_n 1, 1) := by decide +kernel
theorem dd_Q_call_60 : decode bb_Q_call 60 = .ok (.iload_n 3, 1) := by decide +kernel
theorem dd_Q_call_61 : decode bb_Q_call 61 = .ok (.iload 4, 2) := by decide +kernel
theorem dd_Q_call_63 : decode bb_Q_call 63 = .ok (.invokevirtual 179, 3) := by decide +kernel
theorem dd_Q_call_66 : decode bb_Q_call 66 = .ok (.iadd, 1) := by decide +kernel
theorem dd_Q_call_67 : decode bb_Q_call 67 = .ok (.iaload, 1) := by decide +kernel
theorem dd_Q_call_68 : decode bb_Q_call 68 = .ok (.aload_n 0, 1) := by decide +kernel
theorem dd_Q_call_69 : decode bb_Q_call 69 = .ok (.getfield 54, 3) := by decide +kernel
theorem dd_Q_call_72 : decode bb_Q_call 72 = .ok (.iload_n 2, 1) := by decide +kernel
theorem dd_Q_call_73 : decode bb_Q_call 73 = .ok (.iaload, 1) := by decide +kernel
theorem dd_Q_call_74 : decode bb_Q_call 74 = .ok (.iand, 1) := by decide +kernel
theorem dd_Q_call_75 : decode bb_Q_call 75 = .ok (.invokevirtual 170, 3) := by decide +kernel
theorem dd_Q_call_78 : decode bb_Q_call 78 = .ok (.istore 5, 2) := by decide +kernel
theorem dd_Q_call_80 : decode bb_Q_call 80 = .ok (.iload 5, 2) := by decide +kernel
theorem dd_Q_call_82 : decode bb_Q_call 82 = .ok (.ifCond .ge 10, 3) := by decide +kernel
theorem dd_Q_call_85 : decode bb_Q_call 85 = .ok (.aload_n 0, 1) := by decide +kernel
theorem dd_Q_call_86 : decode bb_Q_call 86 = .ok (.iload 5, 2) := by decide +kernel
theorem dd_Q_call_88 : decode bb_Q_call 88 = .ok (.putfield 228, 3) := by decide +kernel
theorem dd_Q_call_91 : decode bb_Q_call 91 = .ok (.return_, 1) := by decide +kernel
theorem dd_Q_call_92 : decode bb_Q_call 92 = .ok (.aload_n 0, 1) := by decide +kernel
theorem dd_Q_call_93 : decode bb_Q_call 93 = .ok (.getfield 103, 3) := by decide +kernel
theorem dd_Q_call_96 : decode bb_Q_call 96 = .ok (.aload_n 0, 1) := by decide +kernel
theorem dd_Q_call_97 : decode bb_Q_call 97 = .ok (.getfield 231, 3) := by decide +kernel
theorem dd_Q_call_100 : decode bb_Q_call 100 = .ok (.iload 5, 2) := by decide +kernel
theorem dd_Q_call_102 : decode bb_Q_call 102 = .ok (.iastore, 1) := by decide +kernel
theorem dd_Q_call_103 : decode bb_Q_call 103 = .ok (.aload_n 0, 1) := by decide +kernel
theorem dd_Q_call_104 : decode bb_Q_call 104 = .ok (.getfield 106, 3) := by decide +kernel
theorem dd_Q_call_107 : decode bb_Q_call 107 = .ok (.aload_n 0, 1) := by decide +kernel
theorem dd_Q_call_108 : decode bb_Q_call 108 = .ok (.getfield 231, 3) := by decide +kernel
theorem dd_Q_call_111 : decode bb_Q_call 111 = .ok (.iload_n 3, 1) := by decide +kernel
theorem dd_Q_call_112 : decode bb_Q_call 112 = .ok (.iastore, 1) := by decide +kernel
theorem dd_Q_call_113 : decode bb_Q_call 113 = .ok (.aload_n 0, 1) := by decide +kernel
theorem dd_Q_call_114 : decode bb_Q_call 114 = .ok (.getfield 109, 3) := by decide +kernel
theorem dd_Q_call_117 : decode bb_Q_call 117 = .ok (.aload_n 0, 1) := by decide +kernel
theorem dd_Q_call_118 : decode bb_Q_call 118 = .ok (.getfield 231, 3) := by decide +kernel
theorem dd_Q_call_121 : decode bb_Q_call 121 = .ok (.iload 4, 2) := by decide +kernel
theorem dd_Q_call_123 : decode bb_Q_call 123 = .ok (.iastore, 1) := by decide +kernel
theorem dd_Q_call_124 : decode bb_Q_call 124 = .ok (.aload_n 0, 1) := by decide +kernel
theorem dd_Q_call_125 : decode bb_Q_call 125 = .ok (.getfield 112, 3) := by decide +kernel
theorem dd_Q_call_128 : decode bb_Q_call 128 = .ok (.aload_n 0, 1) := by decide +kernel
theorem dd_Q_call_129 : decode bb_Q_call 129 = .ok (.getfield 231, 3) := by decide +kernel
theorem dd_Q_call_132 : decode bb_Q_call 132 = .ok (.iconst 0, 1) := by decide +kernel
theorem dd_Q_call_133 : decode bb_Q_call 133 = .ok (.iastore, 1) := by decide +kernel
theorem dd_Q_call_134 : decode bb_Q_call 134 = .ok (.aload_n 0, 1) := by decide +kernel
theorem dd_Q_call_135 : decode bb_Q_call 135 = .ok (.getfield 115, 3) := by decide +kernel
theorem dd_Q_call_138 : decode bb_Q_call 138 = .ok (.aload_n 0, 1) := by decide +kernel
theorem dd_Q_call_139 : decode bb_Q_call 139 = .ok (.getfield 231, 3) := by decide +kernel
theorem dd_Q_call_142 : decode bb_Q_call 142 = .ok (.iconst 0, 1) := by decide +kernel
theorem dd_Q_call_143 : decode bb_Q_call 143 = .ok (.iastore, 1) := by decide +kernel
theorem dd_Q_call_144 : decode bb_Q_call 144 = .ok (.aload_n 0, 1) := by decide +kernel
theorem dd_Q_call_145 : decode bb_Q_call 145 = .ok (.dup, 1) := by decide +kernel
theorem dd_Q_call_146 : decode bb_Q_call 146 = .ok (.getfield 231, 3) := by decide +kernel
theorem dd_Q_call_149 : decode bb_Q_call 149 = .ok (.iconst 1, 1) := by decide +kernel
theorem dd_Q_call_150 : decode bb_Q_call 150 = .ok (.iadd, 1) := by decide +kernel
theorem dd_Q_call_151 : decode bb_Q_call 151 = .ok (.putfield 231, 3) := by decide +kernel
theorem dd_Q_call_154 : decode bb_Q_call 154 = .ok (.return_, 1) := by decide +kernel
theorem dd_Q_check_0 : decode bb_Q_check 0 = .ok (.aload_n 0, 1) := by decide +kernel
theorem dd_Q_check_1 : decode bb_Q_check 1 = .ok (.iload_n 1, 1) := by decide +kernel
theorem dd_Q_check_2 : decode bb_Q_check 2 = .ok (.iconst 0, 1) := by decide +kernel
theorem dd_Q_check_3 : decode bb_Q_check 3 = .ok (.aload_n 0, 1) := by decide +kernel
theorem dd_Q_check_4 : decode bb_Q_check 4 = .ok (.getfield 135, 3) := by decide +kernel
theorem dd_Q_check_7 : decode bb_Q_check 7 = .ok (.iconst 1, 1) := by decide +kernel
theorem dd_Q_check_8 : decode bb_Q_check 8 = .ok (.isub, 1) := by decide +kernel
theorem dd_Q_check_9 : decode bb_Q_check 9 = .ok (.invokestatic 127, 3) := by decide +kernel
theorem dd_Q_check_12 : decode bb_Q_check 12 = .ok (.ifCond .eq 7, 3) := by decide +kernel
theorem dd_Q_check_15 : decode bb_Q_check 15 = .ok (.iconst 0, 1) := by decide +kernel
theorem dd_Q_check_16 : decode bb_Q_check 16 = .ok (.goto 4, 3) := by decide +kernel
theorem dd_Q_check_19 : decode bb_Q_check 19 = .ok (.iconst 1, 1) := by decide +kernel
theorem dd_Q_check_20 : decode bb_Q_check 20 = .ok (.putfield 121, 3) := by decide +kernel
theorem dd_Q_check_23 : decode bb_Q_check 23 = .ok (.aload_n 0, 1) := by decide +kernel
theorem dd_Q_check_24 : decode bb_Q_check 24 = .ok (.getfield 121, 3) := by decide +kernel
theorem dd_Q_check_27 : decode bb_Q_check 27 = .ok (.ifCond .le 5, 3) := by decide +kernel
theorem dd_Q_check_30 : decode bb_Q_check 30 = .ok (.iconst 0, 1) := by decide +kernel
theorem dd_Q_check_31 : decode bb_Q_check 31 = .ok (.ireturn, 1) := by decide +kernel
theorem dd_Q_check_32 : decode bb_Q_check 32 = .ok (.aload_n 0, 1) := by decide +kernel
theorem dd_Q_check_33 : decode bb_Q_check 33 = .ok (.iload_n 1, 1) := by decide +kernel
theorem dd_Q_check_34 : decode bb_Q_check 34 = .ok (.invokevirtual 173, 3) := by decide +kernel
theorem dd_Q_check_37 : decode bb_Q_check 37 = .ok (.aload_n 0, 1) := by decide +kernel
theorem dd_Q_check_38 : decode bb_Q_check 38 = .ok (.iconst 0, 1) := by decide +kernel
theorem dd_Q_check_39 : decode bb_Q_check 39 = .ok (.putfield 124, 3) := by decide +kernel
theorem dd_Q_check_42 : decode bb_Q_check 42 = .ok (.iconst 0, 1) := by decide +kernel
theorem dd_Q_check_43 : decode bb_Q_check 43 = .ok (.istore_n 2, 1) := by decide +kernel
theorem dd_Q_check_44 : decode bb_Q_check 44 = .ok (.iload_n 2, 1) := by decide +kernel
theorem dd_Q_check_45 : decode bb_Q_check 45 = .ok (.aload_n 0, 1) := by decide +kernel
theorem dd_Q_check_46 : decode bb_Q_check 46 = .ok (.iload_n 1, 1) := by decide +kernel
theorem dd_Q_check_47 : decode bb_Q_check 47 = .ok (.invokevirtual 153, 3) := by decide +kernel
theorem dd_Q_check_50 : decode bb_Q_check 50 = .ok (.if_icmp .ge 53, 3) := by decide +kernel
theorem dd_Q_check_53 : decode bb_Q_check 53 = .ok (.aload_n 0, 1) := by decide +kernel
theorem dd_Q_check_54 : decode bb_Q_check 54 = .ok (.iload_n 1, 1) := by decide +kernel
theorem dd_Q_check_55 : decode bb_Q_check 55 = .ok (.iload_n 2, 1) := by decide +kernel
theorem dd_Q_check_56 : decode bb_Q_check 56 = .ok (.invokevirtual 183, 3) := by decide +kernel
theorem dd_Q_check_59 : decode bb_Q_check 59 = .ok (.istore_n 3, 1) := by decide +kernel
theorem dd_Q_check_60 : decode bb_Q_check 60 = .ok (.iload_n 3, 1) := by decide +kernel
theorem dd_Q_check_61 : decode bb_Q_check 61 = .ok (.ifCond .ge 36, 3) := by decide +kernel
theorem dd_Q_check_64 : decode bb_Q_check 64 = .ok (.aload_n 0, 1) := by decide +kernel
theorem dd_Q_check_65 : decode bb_Q_check 65 = .ok (.aload_n 0, 1) := by decide +kernel
theorem dd_Q_check_66 : decode bb_Q_check 66 = .ok (.getfield 17, 3) := by decide +kernel
theorem dd_Q_check_69 : decode bb_Q_check 69 = .ok (.iload_n 1, 1) := by decide +kernel
theorem dd_Q_check_70 : decode bb_Q_check 70 = .ok (.iaload, 1) := by decide +kernel
theorem dd_Q_check_71 : decode bb_Q_check 71 = .ok (.putfield 124, 3) := by decide +kernel
theorem dd_Q_check_74 : decode bb_Q_check 74 = .ok (.aload_n 0, 1) := by decide +kernel
theorem dd_Q_check_75 : decode bb_Q_check 75 = .ok (.aload_n 0, 1) := by decide +kernel
theorem dd_Q_check_76 : decode bb_Q_check 76 = .ok (.iload_n 1, 1) := by decide +kernel
theorem dd_Q_check_77 : decode bb_Q_check 77 = .ok (.iload_n 2, 1) := by decide +kernel
theorem dd_Q_check_78 : decode bb_Q_check 78 = .ok (.invokevirtual 157, 3) := by decide +kernel
theorem dd_Q_check_81 : decode bb_Q_check 81 = .ok (.putfield 186, 3) := by decide +kernel
theorem dd_Q_check_84 : decode bb_Q_check 84 = .ok (.aload_n 0, 1) := by decide +kernel
theorem dd_Q_check_85 : decode bb_Q_check 85 = .ok (.aload_n 0, 1) := by decide +kernel
theorem dd_Q_check_86 : decode bb_Q_check 86 = .ok (.iload_n 1, 1) := by decide +kernel
theorem dd_Q_check_87 : decode bb_Q_check 87 = .ok (.iload_n 2, 1) := by decide +kernel
theorem dd_Q_check_88 : decode bb_Q_check 88 = .ok (.invokevirtual 161, 3) := by decide +kernel
theorem dd_Q_check_91 : decode bb_Q_check 91 = .ok (.putfield 189, 3) := by decide +kernel
theorem dd_Q_check_94 : decode bb_Q_check 94 = .ok (.iload_n 3, 1) := by decide +kernel
theorem dd_Q_check_95 : decode bb_Q_check 95 = .ok (.ineg, 1) := by decide +kernel
theorem dd_Q_check_96 : decode bb_Q_check 96 = .ok (.ireturn, 1) := by decide +kernel
theorem dd_Q_check_97 : decode bb_Q_check 97 = .ok (.iinc 2 1, 3) := by decide +kernel
theorem dd_Q_check_100 : decode bb_Q_check 100 = .ok (.goto (-56), 3) := by decide +kernel
theorem dd_Q_check_103 : decode bb_Q_check 103 = .ok (.iconst 0, 1) := by decide +kernel
theorem dd_Q_check_104 : decode bb_Q_check 104 = .ok (.ireturn, 1) := by decide +kernel
theorem dd_Q_choose_0 : decode bb_Q_choose 0 = .ok (.aload_n 0, 1) := by decide +kernel
theorem dd_Q_choose_1 : decode bb_Q_choose 1 = .ok (.getfield 57, 3) := by decide +kernel
theorem dd_Q_choose_4 : decode bb_Q_choose 4 = .ok (.iload_n 1, 1) := by decide +kernel
theorem dd_Q_choose_5 : decode bb_Q_choose 5 = .ok (.iaload, 1) := by decide +kernel
theorem dd_Q_choose_6 : decode bb_Q_choose 6 = .ok (.ifCond .ne 21, 3) := by decide +kernel
theorem dd_Q_choose_9 : decode bb_Q_choose 9 = .ok (.aload_n 0, 1) := by decide +kernel
theorem dd_Q_choose_10 : decode bb_Q_choose 10 = .ok (.iload_n 1, 1) := by decide +kernel
theorem dd_Q_choose_11 : decode bb_Q_choose 11 = .ok (.invokevirtual 173, 3) := by decide +kernel
theorem dd_Q_choose_14 : decode bb_Q_choose 14 = .ok (.aload_n 0, 1) := by decide +kernel
theorem dd_Q_choose_15 : decode bb_Q_choose 15 = .ok (.iload_n 1, 1) := by decide +kernel
theorem dd_Q_choose_16 : decode bb_Q_choose 16 = .ok (.aload_n 0, 1) := by decide +kernel
theorem dd_Q_choose_17 : decode bb_Q_choose 17 = .ok (.iload_n 1, 1) := by decide +kernel
theorem dd_Q_choose_18 : decode bb_Q_choose 18 = .ok (.iload_n 2, 1) := by decide +kernel
theorem dd_Q_choose_19 : decode bb_Q_choose 19 = .ok (.iload_n 3, 1) := by decide +kernel
theorem dd_Q_choose_20 : decode bb_Q_choose 20 = .ok (.invokevirtual 179, 3) := by decide +kernel
theorem dd_Q_choose_23 : decode bb_Q_choose 23 = .ok (.invokevirtual 183, 3) := by decide +kernel
theorem dd_Q_choose_26 : decode bb_Q_choose 26 = .ok (.ireturn, 1) := by decide +kernel
theorem dd_Q_choose_27 : decode bb_Q_choose 27 = .ok (.bipush 80, 2) := by decide +kernel
theorem dd_Q_choose_29 : decode bb_Q_choose 29 = .ok (.iload_n 1, 1) := by decide +kernel
theorem dd_Q_choose_30 : decode bb_Q_choose 30 = .ok (.imul, 1) := by decide +kernel
theorem dd_Q_choose_31 : decode bb_Q_choose 31 = .ok (.aload_n 0, 1) := by decide +kernel
theorem dd_Q_choose_32 : decode bb_Q_choose 32 = .ok (.getfield 57, 3) := by decide +kernel
theorem dd_Q_choose_35 : decode bb_Q_choose 35 = .ok (.iload_n 1, 1) := by decide +kernel
theorem dd_Q_choose_36 : decode bb_Q_choose 36 = .ok (.iaload, 1) := by decide +kernel
theorem dd_Q_choose_37 : decode bb_Q_choose 37 = .ok (.iadd, 1) := by decide +kernel
theorem dd_Q_choose_38 : decode bb_Q_choose 38 = .ok (.iconst 1, 1) := by decide +kernel
theorem dd_Q_choose_39 : decode bb_Q_choose 39 = .ok (.isub, 1) := by decide +kernel
theorem dd_Q_choose_40 : decode bb_Q_choose 40 = .ok (.istore 4, 2) := by decide +kernel
theorem dd_Q_choose_42 : decode bb_Q_choose 42 = .ok (.aload_n 0, 1) := by decide +kernel
theorem dd_Q_choose_43 : decode bb_Q_choose 43 = .ok (.getfield 60, 3) := by decide +kernel
theorem dd_Q_choose_46 : decode bb_Q_choose 46 = .ok (.iload 4, 2) := by decide +kernel
theorem dd_Q_choose_48 : decode bb_Q_choose 48 = .ok (.iaload, 1) := by decide +kernel
theorem dd_Q_choose_49 : decode bb_Q_choose 49 = .ok (.ifCond .lt 84, 3) := by decide +kernel
theorem dd_Q_choose_52 : decode bb_Q_choose 52 = .ok (.bipush 48, 2) := by decide +kernel
theorem dd_Q_choose_54 : decode bb_Q_choose 54 = .ok (.iload_n 1, 1) := by decide +kernel
theorem dd_Q_choose_55 : decode bb_Q_choose 55 = .ok (.imul, 1) := by decide +kernel
theorem dd_Q_choose_56 : decode bb_Q_choose 56 = .ok (.aload_n 0, 1) := by decide +kernel
theorem dd_Q_choose_57 : decode bb_Q_choose 57 = .ok (.getfield 60, 3) := by decide +kernel
theorem dd_Q_choose_60 : decode bb_Q_choose 60 = .ok (.iload 4, 2) := by decide +kernel
theorem dd_Q_choose_62 : decode bb_Q_choose 62 = .ok (.iaload, 1) := by decide +kernel
theorem dd_Q_choose_63 : decode bb_Q_choose 63 = .ok (.iadd, 1) := by decide +kernel
theorem dd_Q_choose_64 : decode bb_Q_choose 64 = .ok (.istore 5, 2) := by decide +kernel
theorem dd_Q_choose_66 : decode bb_Q_choose 66 = .ok (.aload_n 0, 1) := by decide +kernel
theorem dd_Q_choose_67 : decode bb_Q_choose 67 = .ok (.dup, 1) := by decide +kernel
theorem dd_Q_choose_68 : decode bb_Q_choose 68 = .ok (.getfield 222, 3) := by decide +kernel
theorem dd_Q_choose_71 : decode bb_Q_choose 71 = .ok (.iconst 1, 1) := by decide +kernel
theorem dd_Q_choose_72 : decode bb_Q_choose 72 = .ok (.iadd, 1) := by decide +kernel
theorem dd_Q_choose_73 : decode bb_Q_choose 73 = .ok (.putfield 222, 3) := by decide +kernel
theorem dd_Q_choose_76 : decode bb_Q_choose 76 = .ok (.bipush 80, 2) := by decide +kernel
theorem dd_Q_choose_78 : decode bb_Q_choose 78 = .ok (.iload_n 1, 1) := by decide +kernel
theorem dd_Q_choose_79 : decode bb_Q_choose 79 = .ok (.imul, 1) := by decide +kernel
theorem dd_Q_choose_80 : decode bb_Q_choose 80 = .ok (.aload_n 0, 1) := by decide +kernel
theorem dd_Q_choose_81 : decode bb_Q_choose 81 = .ok (.aload_n 0, 1) := by decide +kernel
theorem dd_Q_choose_82 : decode bb_Q_choose 82 = .ok (.getfield 72, 3) := by decide +kernel
theorem dd_Q_choose_85 : decode bb_Q_choose 85 = .ok (.iload 5, 2) := by decide +kernel
theorem dd_Q_choose_87 : decode bb_Q_choose 87 = .ok (.iaload, 1) := by decide +kernel
theorem dd_Q_choose_88 : decode bb_Q_choose 88 = .ok (.aload_n 0, 1) := by decide +kernel
theorem dd_Q_choose_89 : decode bb_Q_choose 89 = .ok (.getfield 75, 3) := by decide +kernel
theorem dd_Q_choose_92 : decode bb_Q_choose 92 = .ok (.iload 5, 2) := by decide +kernel
theorem dd_Q_choose_94 : decode bb_Q_choose 94 = .ok (.iaload, 1) := by decide +kernel
theorem dd_Q_choose_95 : decode bb_Q_choose 95 = .ok (.aload_n 0, 1) := by decide +kernel
theorem dd_Q_choose_96 : decode bb_Q_choose 96 = .ok (.getfield 78, 3) := by decide +kernel
theorem dd_Q_choose_99 : decode bb_Q_choose 99 = .ok (.iload 5, 2) := by decide +kernel
theorem dd_Q_choose_101 : decode bb_Q_choose 101 = .ok (.iaload, 1) := by decide +kernel
theorem dd_Q_choose_102 : decode bb_Q_choose 102 = .ok (.iload_n 2, 1) := by decide +kernel
theorem dd_Q_choose_103 : decode bb_Q_choose 103 = .ok (.iload_n 3, 1) := by decide +kernel
theorem dd_Q_choose_104 : decode bb_Q_choose 104 = .ok (.invokevirtual 149, 3) := by decide +kernel
theorem dd_Q_choose_107 : decode bb_Q_choose 107 = .ok (.ifCond .eq 13, 3) := by decide +kernel
theorem dd_Q_choose_110 : decode bb_Q_choose 110 = .ok (.aload_n 0, 1) := by decide +kernel
theorem dd_Q_choose_111 : decode bb_Q_choose 111 = .ok (.getfield 63, 3) := by decide +kernel
theorem dd_Q_choose_114 : decode bb_Q_choose 114 = .ok (.iload 4, 2) := by decide +kernel
theorem dd_Q_choose_116 : decode bb_Q_choose 116 = .ok (.iaload, 1) := by decide +kernel
theorem dd_Q_choose_117 : decode bb_Q_choose 117 = .ok (.goto 10, 3) := by decide +kernel
theorem dd_Q_choose_120 : decode bb_Q_choose 120 = .ok (.aload_n 0, 1) := by decide +kernel
theorem dd_Q_choose_121 : decode bb_Q_choose 121 = .ok (.getfield 66, 3) := by decide +kernel
theorem dd_Q_choose_124 : decode bb_Q_choose 124 = .ok (.iload 4, 2) := by decide +kernel
theorem dd_Q_choose_126 : decode bb_Q_choose 126 = .ok (.iaload, 1) := by decide +kernel
theorem dd_Q_choose_127 : decode bb_Q_choose 127 = .ok (.iadd, 1) := by decide +kernel
theorem dd_Q_choose_128 : decode bb_Q_choose 128 = .ok (.istore 4, 2) := by decide +kernel
theorem dd_Q_choose_130 : decode bb_Q_choose 130 = .ok (.goto (-88), 3) := by decide +kernel
theorem dd_Q_choose_133 : decode bb_Q_choose 133 = .ok (.aload_n 0, 1) := by decide +kernel
theorem dd_Q_choose_134 : decode bb_Q_choose 134 = .ok (.getfield 63, 3) := by decide +kernel
theorem dd_Q_choose_137 : decode bb_Q_choose 137 = .ok (.iload 4, 2) := by decide +kernel
theorem dd_Q_choose_139 : decode bb_Q_choose 139 = .ok (.iaload, 1) := by decide +kernel
theorem dd_Q_choose_140 : decode bb_Q_choose 140 = .ok (.ireturn, 1) := by decide +kernel
theorem dd_Q_common_0 : decode bb_Q_common 0 = .ok (.bipush (-4), 2) := by decide +kernel
theorem dd_Q_common_2 : decode bb_Q_common 2 = .ok (.istore_n 3, 1) := by decide +kernel
theorem dd_Q_common_3 : decode bb_Q_common 3 = .ok (.iconst 0, 1) := by decide +kernel
theorem dd_Q_common_4 : decode bb_Q_common 4 = .ok (.istore 4, 2) := by decide +kernel
theorem dd_Q_common_6 : decode bb_Q_common 6 = .ok (.iload 4, 2) := by decide +kernel
theorem dd_Q_common_8 : decode bb_Q_common 8 = .ok (.aload_n 0, 1) := by decide +kernel
theorem dd_Q_common_9 : decode bb_Q_common 9 = .ok (.iload_n 1, 1) := by decide +kernel
theorem dd_Q_common_10 : decode bb_Q_common 10 = .ok (.invokevirtual 153, 3) := by decide +kernel
theorem dd_Q_common_13 : decode bb_Q_common 13 = .ok (.if_icmp .ge 48, 3) := by decide +kernel
theorem dd_Q_common_16 : decode bb_Q_common 16 = .ok (.aload_n 0, 1) := by decide +kernel
theorem dd_Q_common_17 : decode bb_Q_common 17 = .ok (.iload_n 2, 1) := by decide +kernel
theorem dd_Q_common_18 : decode bb_Q_common 18 = .ok (.iload 4, 2) := by decide +kernel
theorem dd_Q_common_20 : decode bb_Q_common 20 = .ok (.invokevirtual 195, 3) := by decide +kernel
theorem dd_Q_common_23 : decode bb_Q_common 23 = .ok (.ifCond .eq 32, 3) := by decide +kernel
theorem dd_Q_common_26 : decode bb_Q_common 26 = .ok (.aload_n 0, 1) := by decide +kernel
theorem dd_Q_common_27 : decode bb_Q_common 27 = .ok (.iload_n 1, 1) := by decide +kernel
theorem dd_Q_common_28 : decode bb_Q_common 28 = .ok (.iload 4, 2) := by decide +kernel
theorem dd_Q_common_30 : decode bb_Q_common 30 = .ok (.invokevirtual 183, 3) := by decide +kernel
theorem dd_Q_common_33 : decode bb_Q_common 33 = .ok (.istore 5, 2) := by decide +kernel
theorem dd_Q_common_35 : decode bb_Q_common 35 = .ok (.iload_n 3, 1) := by decide +kernel
theorem dd_Q_common_36 : decode bb_Q_common 36 = .ok (.bipush (-4), 2) := by decide +kernel
theorem dd_Q_common_38 : decode bb_Q_common 38 = .ok (.if_icmp .eq 9, 3) := by decide +kernel
theorem dd_Q_common_41 : decode bb_Q_common 41 = .ok (.iload_n 3, 1) := by decide +kernel
theorem dd_Q_common_42 : decode bb_Q_common 42 = .ok (.iload 5, 2) := by decide +kernel
theorem dd_Q_common_44 : decode bb_Q_common 44 = .ok (.if_icmp .ne 8, 3) := by decide +kernel
theorem dd_Q_common_47 : decode bb_Q_common 47 = .ok (.iload 5, 2) := by decide +kernel
theorem dd_Q_common_49 : decode bb_Q_common 49 = .ok (.goto 5, 3) := by decide +kernel
theorem dd_Q_common_52 : decode bb_Q_common 52 = .ok (.bipush (-3), 2) := by decide +kernel
theorem dd_Q_common_54 : decode bb_Q_common 54 = .ok (.istore_n 3, 1) := by decide +kernel
theorem dd_Q_common_55 : decode bb_Q_common 55 = .ok (.iinc 4 1, 3) := by decide +kernel
theorem dd_Q_common_58 : decode bb_Q_common 58 = .ok (.goto (-52), 3) := by decide +kernel
theorem dd_Q_common_61 : decode bb_Q_common 61 = .ok (.iload_n 3, 1) := by decide +kernel
theorem dd_Q_common_62 : decode bb_Q_common 62 = .ok (.ireturn, 1) := by decide +kernel
theorem dd_Q_compile_0 : decode bb_Q_compile 0 = .ok (.aload_n 0, 1) := by decide +kernel
theorem dd_Q_compile_1 : decode bb_Q_compile 1 = .ok (.iload_n 1, 1) := by decide +kernel
theorem dd_Q_compile_2 : decode bb_Q_compile 2 = .ok (.iconst 0, 1) := by decide +kernel
theorem dd_Q_compile_3 : decode bb_Q_compile 3 = .ok (.aload_n 0, 1) := by decide +kernel
theorem dd_Q_compile_4 : decode bb_Q_compile 4 = .ok (.getfield 135, 3) := by decide +kernel
theorem dd_Q_compile_7 : decode bb_Q_compile 7 = .ok (.iconst 1, 1) := by decide +kernel
theorem dd_Q_compile_8 : decode bb_Q_compile 8 = .ok (.isub, 1) := by decide +kernel
theorem dd_Q_compile_9 : decode bb_Q_compile 9 = .ok (.invokestatic 127, 3) := by decide +kernel
theorem dd_Q_compile_12 : decode bb_Q_compile 12 = .ok (.ifCond .eq 7, 3) := by decide +kernel
theorem dd_Q_compile_15 : decode bb_Q_compile 15 = .ok (.iconst 0, 1) := by decide +kernel
theorem dd_Q_compile_16 : decode bb_Q_compile 16 = .ok (.goto 4, 3) := by decide +kernel
theorem dd_Q_compile_19 : decode bb_Q_compile 19 = .ok (.iconst 1, 1) := by decide +kernel
theorem dd_Q_compile_20 : decode bb_Q_compile 20 = .ok (.putfield 121, 3) := by decide +kernel
theorem dd_Q_compile_23 : decode bb_Q_compile 23 = .ok (.aload_n 0, 1) := by decide +kernel
theorem dd_Q_compile_24 : decode bb_Q_compile 24 = .ok (.getfield 121, 3) := by decide +kernel
theorem dd_Q_compile_27 : decode bb_Q_compile 27 = .ok (.ifCond .le 5, 3) := by decide +kernel
theorem dd_Q_compile_30 : decode bb_Q_compile 30 = .ok (.iconst 0, 1) := by decide +kernel
theorem dd_Q_compile_31 : decode bb_Q_compile 31 = .ok (.ireturn, 1) := by decide +kernel
theorem dd_Q_compile_32 : decode bb_Q_compile 32 = .ok (.aload_n 0, 1) := by decide +kernel
theorem dd_Q_compile_33 : decode bb_Q_compile 33 = .ok (.iload_n 1, 1) := by decide +kernel
theorem dd_Q_compile_34 : decode bb_Q_compile 34 = .ok (.invokevirtual 173, 3) := by decide +kernel
theorem dd_Q_compile_37 : decode bb_Q_compile 37 = .ok (.aload_n 0, 1) := by decide +kernel
theorem dd_Q_compile_38 : decode bb_Q_compile 38 = .ok (.iload_n 1, 1) := by decide +kernel
theorem dd_Q_compile_39 : decode bb_Q_compile 39 = .ok (.invokevirtual 212, 3) := by decide +kernel
theorem dd_Q_compile_42 : decode bb_Q_compile 42 = .ok (.aload_n 0, 1) := by decide +kernel
theorem dd_Q_compile_43 : decode bb_Q_compile 43 = .ok (.iload_n 1, 1) := by decide +kernel
theorem dd_Q_compile_44 : decode bb_Q_compile 44 = .ok (.invokevirtual 215, 3) := by decide +kernel
theorem dd_Q_compile_47 : decode bb_Q_compile 47 = .ok (.ifCond .ne 16, 3) := by decide +kernel
theorem dd_Q_compile_50 : decode bb_Q_compile 50 = .ok (.aload_n 0, 1) := by decide +kernel
theorem dd_Q_compile_51 : decode bb_Q_compile 51 = .ok (.getfield 57, 3) := by decide +kernel
theorem dd_Q_compile_54 : decode bb_Q_compile 54 = .ok (.iload_n 1, 1) := by decide +kernel
theorem dd_Q_compile_55 : decode bb_Q_compile 55 = .ok (.iconst 0, 1) := by decide +kernel
theorem dd_Q_compile_56 : decode bb_Q_compile 56 = .ok (.iastore, 1) := by decide +kernel
theorem dd_Q_compile_57 : decode bb_Q_compile 57 = .ok (.aload_n 0, 1) := by decide +kernel
theorem dd_Q_compile_58 : decode bb_Q_compile 58 = .ok (.iconst 2, 1) := by decide +kernel
theorem dd_Q_compile_59 : decode bb_Q_compile 59 = .ok (.invokevirtual 219, 3) := by decide +kernel
theorem dd_Q_compile_62 : decode bb_Q_compile 62 = .ok (.ireturn, 1) := by decide +kernel
theorem dd_Q_compile_63 : decode bb_Q_compile 63 = .ok (.aload_n 0, 1) := by decide +kernel
theorem dd_Q_compile_64 : decode bb_Q_compile 64 = .ok (.getfield 57, 3) := by decide +kernel
theorem dd_Q_compile_67 : decode bb_Q_compile 67 = .ok (.iload_n 1, 1) := by decide +kernel
theorem dd_Q_compile_68 : decode bb_Q_compile 68 = .ok (.iaload, 1) := by decide +kernel
theorem dd_Q_compile_69 : decode bb_Q_compile 69 = .ok (.ireturn, 1) := by decide +kernel
theorem dd_Q_fail_0 : decode bb_Q_fail 0 = .ok (.aload_n 0, 1) := by decide +kernel
theorem dd_Q_fail_1 : decode bb_Q_fail 1 = .ok (.iload_n 1, 1) := by decide +kernel
theorem dd_Q_fail_2 : decode bb_Q_fail 2 = .ok (.putfield 121, 3) := by decide +kernel
theorem dd_Q_fail_5 : decode bb_Q_fail 5 = .ok (.iconst 0, 1) := by decide +kernel
theorem dd_Q_fail_6 : decode bb_Q_fail 6 = .ok (.ireturn, 1) := by decide +kernel
theorem dd_Q_firstMethod_0 : decode bb_Q_firstMethod 0 = .ok (.iload_n 1, 1) := by decide +kernel
theorem dd_Q_firstMethod_1 : decode bb_Q_firstMethod 1 = .ok (.ifCond .ne 7, 3) := by decide +kernel
theorem dd_Q_firstMethod_4 : decode bb_Q_firstMethod 4 = .ok (.iconst (-1), 1) := by decide +kernel
theorem dd_Q_firstMethod_5 : decode bb_Q_firstMethod 5 = .ok (.goto 5, 3) := by decide +kernel
theorem dd_Q_firstMethod_8 : decode bb_Q_firstMethod 8 = .ok (.bipush (-2), 2) := by decide +kernel
theorem dd_Q_firstMethod_10 : decode bb_Q_firstMethod 10 = .ok (.istore_n 2, 1) := by decide +kernel
theorem dd_Q_firstMethod_11 : decode bb_Q_firstMethod 11 = .ok (.iconst 0, 1) := by decide +kernel
theorem dd_Q_firstMethod_12 : decode bb_Q_firstMethod 12 = .ok (.istore_n 3, 1) := by decide +kernel
theorem dd_Q_firstMethod_13 : decode bb_Q_firstMethod 13 = .ok (.iload_n 3, 1) := by decide +kernel
theorem dd_Q_firstMethod_14 : decode bb_Q_firstMethod 14 = .ok (.aload_n 0, 1) := by decide +kernel
theorem dd_Q_firstMethod_15 : decode bb_Q_firstMethod 15 = .ok (.getfield 138, 3) := by decide +kernel
theorem dd_Q_firstMethod_18 : decode bb_Q_firstMethod 18 = .ok (.if_icmp .ge 43, 3) := by decide +kernel
theorem dd_Q_firstMethod_21 : decode bb_Q_firstMethod 21 = .ok (.iload_n 1, 1) := by decide +kernel
theorem dd_Q_firstMethod_22 : decode bb_Q_firstMethod 22 = .ok (.iconst 1, 1) := by decide +kernel
theorem dd_Q_firstMethod_23 : decode bb_Q_firstMethod 23 = .ok (.iload_n 3, 1) := by decide +kernel
theorem dd_Q_firstMethod_24 : decode bb_Q_firstMethod 24 = .ok (.ishl, 1) := by decide +kernel
theorem dd_Q_firstMethod_25 : decode bb_Q_firstMethod 25 = .ok (.iconst (-1), 1) := by decide +kernel
theorem dd_Q_firstMethod_26 : decode bb_Q_firstMethod 26 = .ok (.ixor, 1) := by decide +kernel
theorem dd_Q_firstMethod_27 : decode bb_Q_firstMethod 27 = .ok (.iand, 1) := by decide +kernel
theorem dd_Q_firstMethod_28 : decode bb_Q_firstMethod 28 = .ok (.istore 4, 2) := by decide +kernel
theorem dd_Q_firstMethod_30 : decode bb_Q_firstMethod 30 = .ok (.iload_n 1, 1) := by decide +kernel
theorem dd_Q_firstMethod_31 : decode bb_Q_firstMethod 31 = .ok (.iload_n 3, 1) := by decide +kernel
theorem dd_Q_firstMethod_32 : decode bb_Q_firstMethod 32 = .ok (.ishr, 1) := by decide +kernel
theorem dd_Q_firstMethod_33 : decode bb_Q_firstMethod 33 = .ok (.iconst 1, 1) := by decide +kernel
theorem dd_Q_firstMethod_34 : decode bb_Q_firstMethod 34 = .ok (.iand, 1) := by decide +kernel
theorem dd_Q_firstMethod_35 : decode bb_Q_firstMethod 35 = .ok (.iconst 1, 1) := by decide +kernel
theorem dd_Q_firstMethod_36 : decode bb_Q_firstMethod 36 = .ok (.if_icmp .ne 19, 3) := by decide +kernel
theorem dd_Q_firstMethod_39 : decode bb_Q_firstMethod 39 = .ok (.iload 4, 2) := by decide +kernel
theorem dd_Q_firstMethod_41 : decode bb_Q_firstMethod 41 = .ok (.aload_n 0, 1) := by decide +kernel
theorem dd_Q_firstMethod_42 : decode bb_Q_firstMethod 42 = .ok (.getfield 54, 3) := by decide +kernel
theorem dd_Q_firstMethod_45 : decode bb_Q_firstMethod 45 = .ok (.iload_n 3, 1) := by decide +kernel
theorem dd_Q_firstMethod_46 : decode bb_Q_firstMethod 46 = .ok (.iaload, 1) := by decide +kernel
theorem dd_Q_firstMethod_47 : decode bb_Q_firstMethod 47 = .ok (.iand, 1) := by decide +kernel
theorem dd_Q_firstMethod_48 : decode bb_Q_firstMethod 48 = .ok (.iload 4, 2) := by decide +kernel
theorem dd_Q_firstMethod_50 : decode bb_Q_firstMethod 50 = .ok (.if_icmp .ne 5, 3) := by decide +kernel
theorem dd_Q_firstMethod_53 : decode bb_Q_firstMethod 53 = .ok (.iload_n 3, 1) := by decide +kernel
theorem dd_Q_firstMethod_54 : decode bb_Q_firstMethod 54 = .ok (.istore_n 2, 1) := by decide +kernel
theorem dd_Q_firstMethod_55 : decode bb_Q_firstMethod 55 = .ok (.iinc 3 1, 3) := by decide +kernel
theorem dd_Q_firstMethod_58 : decode bb_Q_firstMethod 58 = .ok (.goto (-45), 3) := by decide +kernel
theorem dd_Q_firstMethod_61 : decode bb_Q_firstMethod 61 = .ok (.iload_n 2, 1) := by decide +kernel
theorem dd_Q_firstMethod_62 : decode bb_Q_firstMethod 62 = .ok (.ireturn, 1) := by decide +kernel
theorem dd_Q_firstOf_0 : decode bb_Q_firstOf 0 = .ok (.aload_n 0, 1) := by decide +kernel
theorem dd_Q_firstOf_1 : decode bb_Q_firstOf 1 = .ok (.getfield 17, 3) := by decide +kernel
theorem dd_Q_firstOf_4 : decode bb_Q_firstOf 4 = .ok (.iload_n 1, 1) := by decide +kernel
theorem dd_Q_firstOf_5 : decode bb_Q_firstOf 5 = .ok (.iaload, 1) := by decide +kernel
theorem dd_Q_firstOf_6 : decode bb_Q_firstOf 6 = .ok (.iconst 1, 1) := by decide +kernel
theorem dd_Q_firstOf_7 : decode bb_Q_firstOf 7 = .ok (.if_icmp .ne 7, 3) := by decide +kernel
theorem dd_Q_firstOf_10 : decode bb_Q_firstOf 10 = .ok (.iload_n 2, 1) := by decide +kernel
theorem dd_Q_firstOf_11 : decode bb_Q_firstOf 11 = .ok (.goto 9, 3) := by decide +kernel
theorem dd_Q_firstOf_14 : decode bb_Q_firstOf 14 = .ok (.iload_n 2, 1) := by decide +kernel
theorem dd_Q_firstOf_15 : decode bb_Q_firstOf 15 = .ok (.aload_n 0, 1) := by decide +kernel
theorem dd_Q_firstOf_16 : decode bb_Q_firstOf 16 = .ok (.invokevirtual 141, 3) := by decide +kernel
theorem dd_Q_firstOf_19 : decode bb_Q_firstOf 19 = .ok (.idiv, 1) := by decide +kernel
theorem dd_Q_firstOf_20 : decode bb_Q_firstOf 20 = .ok (.ireturn, 1) := by decide +kernel
theorem dd_Q_forget_0 : decode bb_Q_forget 0 = .ok (.aload_n 0, 1) := by decide +kernel
theorem dd_Q_forget_1 : decode bb_Q_forget 1 = .ok (.getfield 48, 3) := by decide +kernel
theorem dd_Q_forget_4 : decode bb_Q_forget 4 = .ok (.iload_n 1, 1) := by decide +kernel
theorem dd_Q_forget_5 : decode bb_Q_forget 5 = .ok (.iconst 0, 1) := by decide +kernel
theorem dd_Q_forget_6 : decode bb_Q_forget 6 = .ok (.bastore, 1) := by decide +kernel
theorem dd_Q_forget_7 : decode bb_Q_forget 7 = .ok (.aload_n 0, 1) := by decide +kernel
theorem dd_Q_forget_8 : decode bb_Q_forget 8 = .ok (.getfield 57, 3) := by decide +kernel
theorem dd_Q_forget_11 : decode bb_Q_forget 11 = .ok (.iload_n 1, 1) := by decide +kernel
theorem dd_Q_forget_12 : decode bb_Q_forget 12 = .ok (.iconst 0, 1) := by decide +kernel
theorem dd_Q_forget_13 : decode bb_Q_forget 13 = .ok (.iastore, 1) := by decide +kernel
theorem dd_Q_forget_14 : decode bb_Q_forget 14 = .ok (.aload_n 0, 1) := by decide +kernel
theorem dd_Q_forget_15 : decode bb_Q_forget 15 = .ok (.iconst 0, 1) := by decide +kernel
theorem dd_Q_forget_16 : decode bb_Q_forget 16 = .ok (.putfield 124, 3) := by decide +kernel
theorem dd_Q_forget_19 : decode bb_Q_forget 19 = .ok (.return_, 1) := by decide +kernel
theorem dd_Q_gather_0 : decode bb_Q_gather 0 = .ok (.aload_n 0, 1) := by decide +kernel
theorem dd_Q_gather_1 : decode bb_Q_gather 1 = .ok (.getfield 69, 3) := by decide +kernel
theorem dd_Q_gather_4 : decode bb_Q_gather 4 = .ok (.iload_n 1, 1) := by decide +kernel
theorem dd_Q_gather_5 : decode bb_Q_gather 5 = .ok (.iconst 0, 1) := by decide +kernel
theorem dd_Q_gather_6 : decode bb_Q_gather 6 = .ok (.iastore, 1) := by decide +kernel
theorem dd_Q_gather_7 : decode bb_Q_gather 7 = .ok (.iconst 0, 1) := by decide +kernel
theorem dd_Q_gather_8 : decode bb_Q_gather 8 = .ok (.istore_n 2, 1) := by decide +kernel
theorem dd_Q_gather_9 : decode bb_Q_gather 9 = .ok (.iload_n 2, 1) := by decide +kernel
theorem dd_Q_gather_10 : decode bb_Q_gather 10 = .ok (.aload_n 0, 1) := by decide +kernel
theorem dd_Q_gather_11 : decode bb_Q_gather 11 = .ok (.getfield 138, 3) := by decide +kernel
theorem dd_Q_gather_14 : decode bb_Q_gather 14 = .ok (.if_icmp .ge 114, 3) := by decide +kernel
theorem dd_Q_gather_17 : decode bb_Q_gather 17 = .ok (.iconst 4, 1) := by decide +kernel
theorem dd_Q_gather_18 : decode bb_Q_gather 18 = .ok (.iload_n 2, 1) := by decide +kernel
theorem dd_Q_gather_19 : decode bb_Q_gather 19 = .ok (.imul, 1) := by decide +kernel
theorem dd_Q_gather_20 : decode bb_Q_gather 20 = .ok (.istore_n 3, 1) := by decide +kernel
theorem dd_Q_gather_21 : decode bb_Q_gather 21 = .ok (.iload_n 3, 1) := by decide +kernel
theorem dd_Q_gather_22 : decode bb_Q_gather 22 = .ok (.iconst 4, 1) := by decide +kernel
theorem dd_Q_gather_23 : decode bb_Q_gather 23 = .ok (.iload_n 2, 1) := by decide +kernel
theorem dd_Q_gather_24 : decode bb_Q_gather 24 = .ok (.imul, 1) := by decide +kernel
theorem dd_Q_gather_25 : decode bb_Q_gather 25 = .ok (.aload_n 0, 1) := by decide +kernel
theorem dd_Q_gather_26 : decode bb_Q_gather 26 = .ok (.getfield 23, 3) := by decide +kernel
theorem dd_Q_gather_29 : decode bb_Q_gather 29 = .ok (.iload_n 2, 1) := by decide +kernel
theorem dd_Q_gather_30 : decode bb_Q_gather 30 = .ok (.iaload, 1) := by decide +kernel
theorem dd_Q_gather_31 : decode bb_Q_gather 31 = .ok (.iadd, 1) := by decide +kernel
theorem dd_Q_gather_32 : decode bb_Q_gather 32 = .ok (.if_icmp .ge 90, 3) := by decide +kernel
theorem dd_Q_gather_35 : decode bb_Q_gather 35 = .ok (.aload_n 0, 1) := by decide +kernel
theorem dd_Q_gather_36 : decode bb_Q_gather 36 = .ok (.getfield 20, 3) := by decide +kernel
theorem dd_Q_gather_39 : decode bb_Q_gather 39 = .ok (.iload_n 2, 1) := by decide +kernel
theorem dd_Q_gather_40 : decode bb_Q_gather 40 = .ok (.iaload, 1) := by decide +kernel
theorem dd_Q_gather_41 : decode bb_Q_gather 41 = .ok (.iload_n 1, 1) := by decide +kernel
theorem dd_Q_gather_42 : decode bb_Q_gather 42 = .ok (.if_icmp .ne 80, 3) := by decide +kernel
theorem dd_Q_gather_45 : decode bb_Q_gather 45 = .ok (.aload_n 0, 1) := by decide +kernel
theorem dd_Q_gather_46 : decode bb_Q_gather 46 = .ok (.iload_n 1, 1) := by decide +kernel
theorem dd_Q_gather_47 : decode bb_Q_gather 47 = .ok (.iload_n 3, 1) := by decide +kernel
theorem dd_Q_gather_48 : decode bb_Q_gather 48 = .ok (.invokevirtual 192, 3) := by decide +kernel
theorem dd_Q_gather_51 : decode bb_Q_gather 51 = .ok (.ifCond .ne 65, 3) := by decide +kernel
theorem dd_Q_gather_54 : decode bb_Q_gather 54 = .ok (.bipush 48, 2) := by decide +kernel
theorem dd_Q_gather_56 : decode bb_Q_gather 56 = .ok (.iload_n 1, 1) := by decide +kernel
theorem dd_Q_gather_57 : decode bb_Q_gather 57 = .ok (.imul, 1) := by decide +kernel
theorem dd_Q_gather_58 : decode bb_Q_gather 58 = .ok (.aload_n 0, 1) := by decide +kernel
theorem dd_Q_gather_59 : decode bb_Q_gather 59 = .ok (.getfield 69, 3) := by decide +kernel
theorem dd_Q_gather_62 : decode bb_Q_gather 62 = .ok (.iload_n 1, 1) := by decide +kernel
theorem dd_Q_gather_63 : decode bb_Q_gather 63 = .ok (.iaload, 1) := by decide +kernel
theorem dd_Q_gather_64 : decode bb_Q_gather 64 = .ok (.iadd, 1) := by decide +kernel
theorem dd_Q_gather_65 : decode bb_Q_gather 65 = .ok (.istore 4, 2) := by decide +kernel
theorem dd_Q_gather_67 : decode bb_Q_gather 67 = .ok (.aload_n 0, 1) := by decide +kernel
theorem dd_Q_gather_68 : decode bb_Q_gather 68 = .ok (.getfield 72, 3) := by decide +kernel
theorem dd_Q_gather_71 : decode bb_Q_gather 71 = .ok (.iload 4, 2) := by decide +kernel
theorem dd_Q_gather_73 : decode bb_Q_gather 73 = .ok (.aload_n 0, 1) := by decide +kernel
theorem dd_Q_gather_74 : decode bb_Q_gather 74 = .ok (.getfield 26, 3) := by decide +kernel
theorem dd_Q_gather_77 : decode bb_Q_gather 77 = .ok (.iload_n 3, 1) := by decide +kernel
theorem dd_Q_gather_78 : decode bb_Q_gather 78 = .ok (.iaload, 1) := by decide +kernel
theorem dd_Q_gather_79 : decode bb_Q_gather 79 = .ok (.iastore, 1) := by decide +kernel
theorem dd_Q_gather_80 : decode bb_Q_gather 80 = .ok (.aload_n 0, 1) := by decide +kernel
theorem dd_Q_gather_81 : decode bb_Q_gather 81 = .ok (.getfield 75, 3) := by decide +kernel
theorem dd_Q_gather_84 : decode bb_Q_gather 84 = .ok (.iload 4, 2) := by decide +kernel
theorem dd_Q_gather_86 : decode bb_Q_gather 86 = .ok (.aload_n 0, 1) := by decide +kernel
theorem dd_Q_gather_87 : decode bb_Q_gather 87 = .ok (.getfield 29, 3) := by decide +kernel
theorem dd_Q_gather_90 : decode bb_Q_gather 90 = .ok (.iload_n 3, 1) := by decide +kernel
theorem dd_Q_gather_91 : decode bb_Q_gather 91 = .ok (.iaload, 1) := by decide +kernel
theorem dd_Q_gather_92 : decode bb_Q_gather 92 = .ok (.iastore, 1) := by decide +kernel
theorem dd_Q_gather_93 : decode bb_Q_gather 93 = .ok (.aload_n 0, 1) := by decide +kernel
theorem dd_Q_gather_94 : decode bb_Q_gather 94 = .ok (.getfield 78, 3) := by decide +kernel
theorem dd_Q_gather_97 : decode bb_Q_gather 97 = .ok (.iload 4, 2) := by decide +kernel
theorem dd_Q_gather_99 : decode bb_Q_gather 99 = .ok (.aload_n 0, 1) := by decide +kernel
theorem dd_Q_gather_100 : decode bb_Q_gather 100 = .ok (.getfield 32, 3) := by decide +kernel
theorem dd_Q_gather_103 : decode bb_Q_gather 103 = .ok (.iload_n 3, 1) := by decide +kernel
theorem dd_Q_gather_104 : decode bb_Q_gather 104 = .ok (.iaload, 1) := by decide +kernel
theorem dd_Q_gather_105 : decode bb_Q_gather 105 = .ok (.iastore, 1) := by decide +kernel
theorem dd_Q_gather_106 : decode bb_Q_gather 106 = .ok (.aload_n 0, 1) := by decide +kernel
theorem dd_Q_gather_107 : decode bb_Q_gather 107 = .ok (.getfield 69, 3) := by decide +kernel
theorem dd_Q_gather_110 : decode bb_Q_gather 110 = .ok (.iload_n 1, 1) := by decide +kernel
theorem dd_Q_gather_111 : decode bb_Q_gather 111 = .ok (.dup2, 1) := by decide +kernel
theorem dd_Q_gather_112 : decode bb_Q_gather 112 = .ok (.iaload, 1) := by decide +kernel
theorem dd_Q_gather_113 : decode bb_Q_gather 113 = .ok (.iconst 1, 1) := by decide +kernel
theorem dd_Q_gather_114 : decode bb_Q_gather 114 = .ok (.iadd, 1) := by decide +kernel
theorem dd_Q_gather_115 : decode bb_Q_gather 115 = .ok (.iastore, 1) := by decide +kernel
theorem dd_Q_gather_116 : decode bb_Q_gather 116 = .ok (.iinc 3 1, 3) := by decide +kernel
theorem dd_Q_gather_119 : decode bb_Q_gather 119 = .ok (.goto (-98), 3) := by decide +kernel
theorem dd_Q_gather_122 : decode bb_Q_gather 122 = .ok (.iinc 2 1, 3) := by decide +kernel
theorem dd_Q_gather_125 : decode bb_Q_gather 125 = .ok (.goto (-116), 3) := by decide +kernel
theorem dd_Q_gather_128 : decode bb_Q_gather 128 = .ok (.iconst 0, 1) := by decide +kernel
theorem dd_Q_gather_129 : decode bb_Q_gather 129 = .ok (.istore_n 2, 1) := by decide +kernel
theorem dd_Q_gather_130 : decode bb_Q_gather 130 = .ok (.iload_n 2, 1) := by decide +kernel
theorem dd_Q_gather_131 : decode bb_Q_gather 131 = .ok (.aload_n 0, 1) := by decide +kernel
theorem dd_Q_gather_132 : decode bb_Q_gather 132 = .ok (.iload_n 1, 1) := by decide +kernel
theorem dd_Q_gather_133 : decode bb_Q_gather 133 = .ok (.invokevirtual 153, 3) := by decide +kernel
theorem dd_Q_gather_136 : decode bb_Q_gather 136 = .ok (.if_icmp .ge 98, 3) := by decide +kernel
theorem dd_Q_gather_139 : decode bb_Q_gather 139 = .ok (.aload_n 0, 1) := by decide +kernel
theorem dd_Q_gather_140 : decode bb_Q_gather 140 = .ok (.getfield 81, 3) := by decide +kernel
theorem dd_Q_gather_143 : decode bb_Q_gather 143 = .ok (.iload_n 2, 1) := by decide +kernel
theorem dd_Q_gather_144 : decode bb_Q_gather 144 = .ok (.lconst 0, 1) := by decide +kernel
theorem dd_Q_gather_145 : decode bb_Q_gather 145 = .ok (.lastore, 1) := by decide +kernel
theorem dd_Q_gather_146 : decode bb_Q_gather 146 = .ok (.iconst 0, 1) := by decide +kernel
theorem dd_Q_gather_147 : decode bb_Q_gather 147 = .ok (.istore_n 3, 1) := by decide +kernel
theorem dd_Q_gather_148 : decode bb_Q_gather 148 = .ok (.iload_n 3, 1) := by decide +kernel
theorem dd_Q_gather_149 : decode bb_Q_gather 149 = .ok (.aload_n 0, 1) := by decide +kernel
theorem dd_Q_gather_150 : decode bb_Q_gather 150 = .ok (.getfield 69, 3) := by decide +kernel
theorem dd_Q_gather_153 : decode bb_Q_gather 153 = .ok (.iload_n 1, 1) := by decide +kernel
theorem dd_Q_gather_154 : decode bb_Q_gather 154 = .ok (.iaload, 1) := by decide +kernel
theorem dd_Q_gather_155 : decode bb_Q_gather 155 = .ok (.if_icmp .ge 73, 3) := by decide +kernel
theorem dd_Q_gather_158 : decode bb_Q_gather 158 = .ok (.bipush 48, 2) := by decide +kernel
theorem dd_Q_gather_160 : decode bb_Q_gather 160 = .ok (.iload_n 1, 1) := by decide +kernel
theorem dd_Q_gather_161 : decode bb_Q_gather 161 = .ok (.imul, 1) := by decide +kernel
theorem dd_Q_gather_162 : decode bb_Q_gather 162 = .ok (.iload_n 3, 1) := by decide +kernel
theorem dd_Q_gather_163 : decode bb_Q_gather 163 = .ok (.iadd, 1) := by decide +kernel
theorem dd_Q_gather_164 : decode bb_Q_gather 164 = .ok (.istore 4, 2) := by decide +kernel
theorem dd_Q_gather_166 : decode bb_Q_gather 166 = .ok (.aload_n 0, 1) := by decide +kernel
theorem dd_Q_gather_167 : decode bb_Q_gather 167 = .ok (.aload_n 0, 1) := by decide +kernel
theorem dd_Q_gather_168 : decode bb_Q_gather 168 = .ok (.getfield 72, 3) := by decide +kernel
theorem dd_Q_gather_171 : decode bb_Q_gather 171 = .ok (.iload 4, 2) := by decide +kernel
theorem dd_Q_gather_173 : decode bb_Q_gather 173 = .ok (.iaload, 1) := by decide +kernel
theorem dd_Q_gather_174 : decode bb_Q_gather 174 = .ok (.aload_n 0, 1) := by decide +kernel
theorem dd_Q_gather_175 : decode bb_Q_gather 175 = .ok (.getfield 75, 3) := by decide +kernel
theorem dd_Q_gather_178 : decode bb_Q_gather 178 = .ok (.iload 4, 2) := by decide +kernel
theorem dd_Q_gather_180 : decode bb_Q_gather 180 = .ok (.iaload, 1) := by decide +kernel
theorem dd_Q_gather_181 : decode bb_Q_gather 181 = .ok (.aload_n 0, 1) := by decide +kernel
theorem dd_Q_gather_182 : decode bb_Q_gather 182 = .ok (.getfield 78, 3) := by decide +kernel
theorem dd_Q_gather_185 : decode bb_Q_gather 185 = .ok (.iload 4, 2) := by decide +kernel
theorem dd_Q_gather_187 : decode bb_Q_gather 187 = .ok (.iaload, 1) := by decide +kernel
theorem dd_Q_gather_188 : decode bb_Q_gather 188 = .ok (.aload_n 0, 1) := by decide +kernel
theorem dd_Q_gather_189 : decode bb_Q_gather 189 = .ok (.iload_n 1, 1) := by decide +kernel
theorem dd_Q_gather_190 : decode bb_Q_gather 190 = .ok (.iload_n 2, 1) := by decide +kernel
theorem dd_Q_gather_191 : decode bb_Q_gather 191 = .ok (.invokevirtual 157, 3) := by decide +kernel
theorem dd_Q_gather_194 : decode bb_Q_gather 194 = .ok (.aload_n 0, 1) := by decide +kernel
theorem dd_Q_gather_195 : decode bb_Q_gather 195 = .ok (.iload_n 1, 1) := by decide +kernel
theorem dd_Q_gather_196 : decode bb_Q_gather 196 = .ok (.iload_n 2, 1) := by decide +kernel
theorem dd_Q_gather_197 : decode bb_Q_gather 197 = .ok (.invokevirtual 161, 3) := by decide +kernel
theorem dd_Q_gather_200 : decode bb_Q_gather 200 = .ok (.invokevirtual 149, 3) := by decide +kernel
theorem dd_Q_gather_203 : decode bb_Q_gather 203 = .ok (.ifCond .eq 19, 3) := by decide +kernel
theorem dd_Q_gather_206 : decode bb_Q_gather 206 = .ok (.aload_n 0, 1) := by decide +kernel
theorem dd_Q_gather_207 : decode bb_Q_gather 207 = .ok (.getfield 81, 3) := by decide +kernel
theorem dd_Q_gather_210 : decode bb_Q_gather 210 = .ok (.iload_n 2, 1) := by decide +kernel
theorem dd_Q_gather_211 : decode bb_Q_gather 211 = .ok (.aload_n 0, 1) := by decide +kernel
theorem dd_Q_gather_212 : decode bb_Q_gather 212 = .ok (.getfield 81, 3) := by decide +kernel
theorem dd_Q_gather_215 : decode bb_Q_gather 215 = .ok (.iload_n 2, 1) := by decide +kernel
theorem dd_Q_gather_216 : decode bb_Q_gather 216 = .ok (.laload, 1) := by decide +kernel
theorem dd_Q_gather_217 : decode bb_Q_gather 217 = .ok (.lconst 1, 1) := by decide +kernel
theorem dd_Q_gather_218 : decode bb_Q_gather 218 = .ok (.iload_n 3, 1) := by decide +kernel
theorem dd_Q_gather_219 : decode bb_Q_gather 219 = .ok (.lshl, 1) := by decide +kernel
theorem dd_Q_gather_220 : decode bb_Q_gather 220 = .ok (.lor, 1) := by decide +kernel
theorem dd_Q_gather_221 : decode bb_Q_gather 221 = .ok (.lastore, 1) := by decide +kernel
theorem dd_Q_gather_222 : decode bb_Q_gather 222 = .ok (.iinc 3 1, 3) := by decide +kernel
theorem dd_Q_gather_225 : decode bb_Q_gather 225 = .ok (.goto (-77), 3) := by decide +kernel
theorem dd_Q_gather_228 : decode bb_Q_gather 228 = .ok (.iinc 2 1, 3) := by decide +kernel
theorem dd_Q_gather_231 : decode bb_Q_gather 231 = .ok (.goto (-101), 3) := by decide +kernel
theorem dd_Q_gather_234 : decode bb_Q_gather 234 = .ok (.return_, 1) := by decide +kernel
theorem dd_Q_generic_0 : decode bb_Q_generic 0 = .ok (.aload_n 0, 1) := by decide +kernel
theorem dd_Q_generic_1 : decode bb_Q_generic 1 = .ok (.iload_n 1, 1) := by decide +kernel
theorem dd_Q_generic_2 : decode bb_Q_generic 2 = .ok (.iconst 1, 1) := by decide +kernel
theorem dd_Q_generic_3 : decode bb_Q_generic 3 = .ok (.iconst 2, 1) := by decide +kernel
theorem dd_Q_generic_4 : decode bb_Q_generic 4 = .ok (.invokestatic 127, 3) := by decide +kernel
theorem dd_Q_generic_7 : decode bb_Q_generic 7 = .ok (.ifCond .ne 7, 3) := by decide +kernel
theorem dd_Q_generic_10 : decode bb_Q_generic 10 = .ok (.iconst 1, 1) := by decide +kernel
theorem dd_Q_generic_11 : decode bb_Q_generic 11 = .ok (.goto 16, 3) := by decide +kernel
theorem dd_Q_generic_14 : decode bb_Q_generic 14 = .ok (.aload_n 0, 1) := by decide +kernel
theorem dd_Q_generic_15 : decode bb_Q_generic 15 = .ok (.getfield 135, 3) := by decide +kernel
theorem dd_Q_generic_18 : decode bb_Q_generic 18 = .ok (.iconst 4, 1) := by decide +kernel
theorem dd_Q_generic_19 : decode bb_Q_generic 19 = .ok (.if_icmp .ne 7, 3) := by decide +kernel
theorem dd_Q_generic_22 : decode bb_Q_generic 22 = .ok (.iconst 2, 1) := by decide +kernel
theorem dd_Q_generic_23 : decode bb_Q_generic 23 = .ok (.goto 4, 3) := by decide +kernel
theorem dd_Q_generic_26 : decode bb_Q_generic 26 = .ok (.iconst 0, 1) := by decide +kernel
theorem dd_Q_generic_27 : decode bb_Q_generic 27 = .ok (.putfield 121, 3) := by decide +kernel
theorem dd_Q_generic_30 : decode bb_Q_generic 30 = .ok (.aload_n 0, 1) := by decide +kernel
theorem dd_Q_generic_31 : decode bb_Q_generic 31 = .ok (.getfield 121, 3) := by decide +kernel
theorem dd_Q_generic_34 : decode bb_Q_generic 34 = .ok (.ifCond .le 5, 3) := by decide +kernel
theorem dd_Q_generic_37 : decode bb_Q_generic 37 = .ok (.iconst 0, 1) := by decide +kernel
theorem dd_Q_generic_38 : decode bb_Q_generic 38 = .ok (.ireturn, 1) := by decide +kernel
theorem dd_Q_generic_39 : decode bb_Q_generic 39 = .ok (.aload_n 0, 1) := by decide +kernel
theorem dd_Q_generic_40 : decode bb_Q_generic 40 = .ok (.getfield 17, 3) := by decide +kernel
theorem dd_Q_generic_43 : decode bb_Q_generic 43 = .ok (.aload_n 0, 1) := by decide +kernel
theorem dd_Q_generic_44 : decode bb_Q_generic 44 = .ok (.getfield 135, 3) := by decide +kernel
theorem dd_Q_generic_47 : decode bb_Q_generic 47 = .ok (.iload_n 1, 1) := by decide +kernel
theorem dd_Q_generic_48 : decode bb_Q_generic 48 = .ok (.iastore, 1) := by decide +kernel
theorem dd_Q_generic_49 : decode bb_Q_generic 49 = .ok (.aload_n 0, 1) := by decide +kernel
theorem dd_Q_generic_50 : decode bb_Q_generic 50 = .ok (.dup, 1) := by decide +kernel
theorem dd_Q_generic_51 : decode bb_Q_generic 51 = .ok (.getfield 135, 3) := by decide +kernel
theorem dd_Q_generic_54 : decode bb_Q_generic 54 = .ok (.iconst 1, 1) := by decide +kernel
theorem dd_Q_generic_55 : decode bb_Q_generic 55 = .ok (.iadd, 1) := by decide +kernel
theorem dd_Q_generic_56 : decode bb_Q_generic 56 = .ok (.putfield 135, 3) := by decide +kernel
theorem dd_Q_generic_59 : decode bb_Q_generic 59 = .ok (.aload_n 0, 1) := by decide +kernel
theorem dd_Q_generic_60 : decode bb_Q_generic 60 = .ok (.getfield 135, 3) := by decide +kernel
theorem dd_Q_generic_63 : decode bb_Q_generic 63 = .ok (.iconst 1, 1) := by decide +kernel
theorem dd_Q_generic_64 : decode bb_Q_generic 64 = .ok (.isub, 1) := by decide +kernel
theorem dd_Q_generic_65 : decode bb_Q_generic 65 = .ok (.ireturn, 1) := by decide +kernel
theorem dd_Q_hasTest_0 : decode bb_Q_hasTest 0 = .ok (.bipush 48, 2) := by decide +kernel
theorem dd_Q_hasTest_2 : decode bb_Q_hasTest 2 = .ok (.iload_n 1, 1) := by decide +kernel
theorem dd_Q_hasTest_3 : decode bb_Q_hasTest 3 = .ok (.imul, 1) := by decide +kernel
theorem dd_Q_hasTest_4 : decode bb_Q_hasTest 4 = .ok (.istore_n 3, 1) := by decide +kernel
theorem dd_Q_hasTest_5 : decode bb_Q_hasTest 5 = .ok (.iload_n 3, 1) := by decide +kernel
theorem dd_Q_hasTest_6 : decode bb_Q_hasTest 6 = .ok (.bipush 48, 2) := by decide +kernel
theorem dd_Q_hasTest_8 : decode bb_Q_hasTest 8 = .ok (.iload_n 1, 1) := by decide +kernel
theorem dd_Q_hasTest_9 : decode bb_Q_hasTest 9 = .ok (.imul, 1) := by decide +kernel
theorem dd_Q_hasTest_10 : decode bb_Q_hasTest 10 = .ok (.aload_n 0, 1) := by decide +kernel
theorem dd_Q_hasTest_11 : decode bb_Q_hasTest 11 = .ok (.getfield 69, 3) := by decide +kernel
theorem dd_Q_hasTest_14 : decode bb_Q_hasTest 14 = .ok (.iload_n 1, 1) := by decide +kernel
theorem dd_Q_hasTest_15 : decode bb_Q_hasTest 15 = .ok (.iaload, 1) := by decide +kernel
theorem dd_Q_hasTest_16 : decode bb_Q_hasTest 16 = .ok (.iadd, 1) := by decide +kernel
theorem dd_Q_hasTest_17 : decode bb_Q_hasTest 17 = .ok (.if_icmp .ge 56, 3) := by decide +kernel
theorem dd_Q_hasTest_20 : decode bb_Q_hasTest 20 = .ok (.aload_n 0, 1) := by decide +kernel
theorem dd_Q_hasTest_21 : decode bb_Q_hasTest 21 = .ok (.getfield 72, 3) := by decide +kernel
theorem dd_Q_hasTest_24 : decode bb_Q_hasTest 24 = .ok (.iload_n 3, 1) := by decide +kernel
theorem dd_Q_hasTest_25 : decode bb_Q_hasTest 25 = .ok (.iaload, 1) := by decide +kernel
theorem dd_Q_hasTest_26 : decode bb_Q_hasTest 26 = .ok (.aload_n 0, 1) := by decide +kernel
theorem dd_Q_hasTest_27 : decode bb_Q_hasTest 27 = .ok (.getfield 26, 3) := by decide +kernel
theorem dd_Q_hasTest_30 : decode bb_Q_hasTest 30 = .ok (.iload_n 2, 1) := by decide +kernel
theorem dd_Q_hasTest_31 : decode bb_Q_hasTest 31 = .ok (.iaload, 1) := by decide +kernel
theorem dd_Q_hasTest_32 : decode bb_Q_hasTest 32 = .ok (.if_icmp .ne 35, 3) := by decide +kernel
theorem dd_Q_hasTest_35 : decode bb_Q_hasTest 35 = .ok (.aload_n 0, 1) := by decide +kernel
theorem dd_Q_hasTest_36 : decode bb_Q_hasTest 36 = .ok (.getfield 75, 3) := by decide +kernel
theorem dd_Q_hasTest_39 : decode bb_Q_hasTest 39 = .ok (.iload_n 3, 1) := by decide +kernel
theorem dd_Q_hasTest_40 : decode bb_Q_hasTest 40 = .ok (.iaload, 1) := by decide +kernel
theorem dd_Q_hasTest_41 : decode bb_Q_hasTest 41 = .ok (.aload_n 0, 1) := by decide +kernel
theorem dd_Q_hasTest_42 : decode bb_Q_hasTest 42 = .ok (.getfield 29, 3) := by decide +kernel
theorem dd_Q_hasTest_45 : decode bb_Q_hasTest 45 = .ok (.iload_n 2, 1) := by decide +kernel
theorem dd_Q_hasTest_46 : decode bb_Q_hasTest 46 = .ok (.iaload, 1) := by decide +kernel
theorem dd_Q_hasTest_47 : decode bb_Q_hasTest 47 = .ok (.if_icmp .ne 20, 3) := by decide +kernel
theorem dd_Q_hasTest_50 : decode bb_Q_hasTest 50 = .ok (.aload_n 0, 1) := by decide +kernel
theorem dd_Q_hasTest_51 : decode bb_Q_hasTest 51 = .ok (.getfield 78, 3) := by decide +kernel
theorem dd_Q_hasTest_54 : decode bb_Q_hasTest 54 = .ok (.iload_n 3, 1) := by decide +kernel
theorem dd_Q_hasTest_55 : decode bb_Q_hasTest 55 = .ok (.iaload, 1) := by decide +kernel
theorem dd_Q_hasTest_56 : decode bb_Q_hasTest 56 = .ok (.aload_n 0, 1) := by decide +kernel
theorem dd_Q_hasTest_57 : decode bb_Q_hasTest 57 = .ok (.getfield 32, 3) := by decide +kernel
theorem dd_Q_hasTest_60 : decode bb_Q_hasTest 60 = .ok (.iload_n 2, 1) := by decide +kernel
theorem dd_Q_hasTest_61 : decode bb_Q_hasTest 61 = .ok (.iaload, 1) := by decide +kernel
theorem dd_Q_hasTest_62 : decode bb_Q_hasTest 62 = .ok (.if_icmp .ne 5, 3) := by decide +kernel
theorem dd_Q_hasTest_65 : decode bb_Q_hasTest 65 = .ok (.iconst 1, 1) := by decide +kernel
theorem dd_Q_hasTest_66 : decode bb_Q_hasTest 66 = .ok (.ireturn, 1) := by decide +kernel
theorem dd_Q_hasTest_67 : decode bb_Q_hasTest 67 = .ok (.iinc 3 1, 3) := by decide +kernel
theorem dd_Q_hasTest_70 : decode bb_Q_hasTest 70 = .ok (.goto (-65), 3) := by decide +kernel
theorem dd_Q_hasTest_73 : decode bb_Q_hasTest 73 = .ok (.iconst 0, 1) := by decide +kernel
theorem dd_Q_hasTest_74 : decode bb_Q_hasTest 74 = .ok (.ireturn, 1) := by decide +kernel
theorem dd_Q_holds_0 : decode bb_Q_holds 0 = .ok (.iload_n 2, 1) := by decide +kernel
theorem dd_Q_holds_1 : decode bb_Q_holds 1 = .ok (.ifCond .ne 8, 3) := by decide +kernel
theorem dd_Q_holds_4 : decode bb_Q_holds 4 = .ok (.iload 4, 2) := by decide +kernel
theorem dd_Q_holds_6 : decode bb_Q_holds 6 = .ok (.goto 5, 3) := by decide +kernel
theorem dd_Q_holds_9 : decode bb_Q_holds 9 = .ok (.iload 5, 2) := by decide +kernel
theorem dd_Q_holds_11 : decode bb_Q_holds 11 = .ok (.istore 6, 2) := by decide +kernel
theorem dd_Q_holds_13 : decode bb_Q_holds 13 = .ok (.iload 6, 2) := by decide +kernel
theorem dd_Q_holds_15 : decode bb_Q_holds 15 = .ok (.bipush 8, 2) := by decide +kernel
theorem dd_Q_holds_17 : decode bb_Q_holds 17 = .ok (.irem, 1) := by decide +kernel
theorem dd_Q_holds_18 : decode bb_Q_holds 18 = .ok (.iconst 4, 1) := by decide +kernel
theorem dd_Q_holds_19 : decode bb_Q_holds 19 = .ok (.isub, 1) := by decide +kernel
theorem dd_Q_holds_20 : decode bb_Q_holds 20 = .ok (.istore 7, 2) := by decide +kernel
theorem dd_Q_holds_22 : decode bb_Q_holds 22 = .ok (.iload_n 1, 1) := by decide +kernel
theorem dd_Q_holds_23 : decode bb_Q_holds 23 = .ok (.ifCond .ne 14, 3) := by decide +kernel
theorem dd_Q_holds_26 : decode bb_Q_holds 26 = .ok (.aload_n 0, 1) := by decide +kernel
theorem dd_Q_holds_27 : decode bb_Q_holds 27 = .ok (.iload 6, 2) := by decide +kernel
theorem dd_Q_holds_29 : decode bb_Q_holds 29 = .ok (.bipush 8, 2) := by decide +kernel
theorem dd_Q_holds_31 : decode bb_Q_holds 31 = .ok (.idiv, 1) := by decide +kernel
theorem dd_Q_holds_32 : decode bb_Q_holds 32 = .ok (.iload_n 3, 1) := by decide +kernel
theorem dd_Q_holds_33 : decode bb_Q_holds 33 = .ok (.invokevirtual 145, 3) := by decide +kernel
theorem dd_Q_holds_36 : decode bb_Q_holds 36 = .ok (.ireturn, 1) := by decide +kernel
theorem dd_Q_holds_37 : decode bb_Q_holds 37 = .ok (.iload_n 1, 1) := by decide +kernel
theorem dd_Q_holds_38 : decode bb_Q_holds 38 = .ok (.iconst 1, 1) := by decide +kernel
theorem dd_Q_holds_39 : decode bb_Q_holds 39 = .ok (.if_icmp .ne 15, 3) := by decide +kernel
theorem dd_Q_holds_42 : decode bb_Q_holds 42 = .ok (.iload 7, 2) := by decide +kernel
theorem dd_Q_holds_44 : decode bb_Q_holds 44 = .ok (.iload_n 3, 1) := by decide +kernel
theorem dd_Q_holds_45 : decode bb_Q_holds 45 = .ok (.if_icmp .ge 7, 3) := by decide +kernel
theorem dd_Q_holds_48 : decode bb_Q_holds 48 = .ok (.iconst 1, 1) := by decide +kernel
theorem dd_Q_holds_49 : decode bb_Q_holds 49 = .ok (.goto 4, 3) := by decide +kernel
theorem dd_Q_holds_52 : decode bb_Q_holds 52 = .ok (.iconst 0, 1) := by decide +kernel
theorem dd_Q_holds_53 : decode bb_Q_holds 53 = .ok (.ireturn, 1) := by decide +kernel
theorem dd_Q_holds_54 : decode bb_Q_holds 54 = .ok (.iload_n 1, 1) := by decide +kernel
theorem dd_Q_holds_55 : decode bb_Q_holds 55 = .ok (.iconst 2, 1) := by decide +kernel
theorem dd_Q_holds_56 : decode bb_Q_holds 56 = .ok (.if_icmp .ne 15, 3) := by decide +kernel
theorem dd_Q_holds_59 : decode bb_Q_holds 59 = .ok (.iload 7, 2) := by decide +kernel
theorem dd_Q_holds_61 : decode bb_Q_holds 61 = .ok (.iload_n 3, 1) := by decide +kernel
theorem dd_Q_holds_62 : decode bb_Q_holds 62 = .ok (.if_icmp .ne 7, 3) := by decide +kernel
theorem dd_Q_holds_65 : decode bb_Q_holds 65 = .ok (.iconst 1, 1) := by decide +kernel
theorem dd_Q_holds_66 : decode bb_Q_holds 66 = .ok (.goto 4, 3) := by decide +kernel
theorem dd_Q_holds_69 : decode bb_Q_holds 69 = .ok (.iconst 0, 1) := by decide +kernel
theorem dd_Q_holds_70 : decode bb_Q_holds 70 = .ok (.ireturn, 1) := by decide +kernel
theorem dd_Q_holds_71 : decode bb_Q_holds 71 = .ok (.iload_n 1, 1) := by decide +kernel
theorem dd_Q_holds_72 : decode bb_Q_holds 72 = .ok (.iconst 3, 1) := by decide +kernel
theorem dd_Q_holds_73 : decode bb_Q_holds 73 = .ok (.if_icmp .ne 16, 3) := by decide +kernel
theorem dd_Q_holds_76 : decode bb_Q_holds 76 = .ok (.iload 7, 2) := by decide +kernel
theorem dd_Q_holds_78 : decode bb_Q_holds 78 = .ok (.iconst 2, 1) := by decide +kernel
theorem dd_Q_holds_79 : decode bb_Q_holds 79 = .ok (.irem, 1) := by decide +kernel
theorem dd_Q_holds_80 : decode bb_Q_holds 80 = .ok (.ifCond .ne 7, 3) := by decide +kernel
theorem dd_Q_holds_83 : decode bb_Q_holds 83 = .ok (.iconst 1, 1) := by decide +kernel
theorem dd_Q_holds_84 : decode bb_Q_holds 84 = .ok (.goto 4, 3) := by decide +kernel
theorem dd_Q_holds_87 : decode bb_Q_holds 87 = .ok (.iconst 0, 1) := by decide +kernel
theorem dd_Q_holds_88 : decode bb_Q_holds 88 = .ok (.ireturn, 1) := by decide +kernel
theorem dd_Q_holds_89 : decode bb_Q_holds 89 = .ok (.iload_n 1, 1) := by decide +kernel
theorem dd_Q_holds_90 : decode bb_Q_holds 90 = .ok (.iconst 4, 1) := by decide +kernel
theorem dd_Q_holds_91 : decode bb_Q_holds 91 = .ok (.if_icmp .ne 24, 3) := by decide +kernel
theorem dd_Q_holds_94 : decode bb_Q_holds 94 = .ok (.iload 4, 2) := by decide +kernel
theorem dd_Q_holds_96 : decode bb_Q_holds 96 = .ok (.bipush 8, 2) := by decide +kernel
theorem dd_Q_holds_98 : decode bb_Q_holds 98 = .ok (.irem, 1) := by decide +kernel
theorem dd_Q_holds_99 : decode bb_Q_holds 99 = .ok (.iload 5, 2) := by decide +kernel
theorem dd_Q_holds_101 : decode bb_Q_holds 101 = .ok (.bipush 8, 2) := by decide +kernel
theorem dd_Q_holds_103 : decode bb_Q_holds 103 = .ok (.irem, 1) := by decide +kernel
theorem dd_Q_holds_104 : decode bb_Q_holds 104 = .ok (.if_icmp .ge 7, 3) := by decide +kernel
theorem dd_Q_holds_107 : decode bb_Q_holds 107 = .ok (.iconst 1, 1) := by decide +kernel
theorem dd_Q_holds_108 : decode bb_Q_holds 108 = .ok (.goto 25, 3) := by decide +kernel
theorem dd_Q_holds_111 : decode bb_Q_holds 111 = .ok (.iconst 0, 1) := by decide +kernel
theorem dd_Q_holds_112 : decode bb_Q_holds 112 = .ok (.goto 21, 3) := by decide +kernel
theorem dd_Q_holds_115 : decode bb_Q_holds 115 = .ok (.iload 4, 2) := by decide +kernel
theorem dd_Q_holds_117 : decode bb_Q_holds 117 = .ok (.bipush 8, 2) := by decide +kernel
theorem dd_Q_holds_119 : decode bb_Q_holds 119 = .ok (.idiv, 1) := by decide +kernel
theorem dd_Q_holds_120 : decode bb_Q_holds 120 = .ok (.iload 5, 2) := by decide +kernel
theorem dd_Q_holds_122 : decode bb_Q_holds 122 = .ok (.bipush 8, 2) := by decide +kernel
theorem dd_Q_holds_124 : decode bb_Q_holds 124 = .ok (.idiv, 1) := by decide +kernel
theorem dd_Q_holds_125 : decode bb_Q_holds 125 = .ok (.if_icmp .ne 7, 3) := by decide +kernel
theorem dd_Q_holds_128 : decode bb_Q_holds 128 = .ok (.iconst 1, 1) := by decide +kernel
theorem dd_Q_holds_129 : decode bb_Q_holds 129 = .ok (.goto 4, 3) := by decide +kernel
theorem dd_Q_holds_132 : decode bb_Q_holds 132 = .ok (.iconst 0, 1) := by decide +kernel
theorem dd_Q_holds_133 : decode bb_Q_holds 133 = .ok (.ireturn, 1) := by decide +kernel
theorem dd_Q_in_0 : decode bb_Q_in 0 = .ok (.iload_n 0, 1) := by decide +kernel
theorem dd_Q_in_1 : decode bb_Q_in 1 = .ok (.iload_n 1, 1) := by decide +kernel
theorem dd_Q_in_2 : decode bb_Q_in 2 = .ok (.if_icmp .lt 12, 3) := by decide +kernel
theorem dd_Q_in_5 : decode bb_Q_in 5 = .ok (.iload_n 0, 1) := by decide +kernel
theorem dd_Q_in_6 : decode bb_Q_in 6 = .ok (.iload_n 2, 1) := by decide +kernel
theorem dd_Q_in_7 : decode bb_Q_in 7 = .ok (.if_icmp .gt 7, 3) := by decide +kernel
theorem dd_Q_in_10 : decode bb_Q_in 10 = .ok (.iconst 1, 1) := by decide +kernel
theorem dd_Q_in_11 : decode bb_Q_in 11 = .ok (.goto 4, 3) := by decide +kernel
theorem dd_Q_in_14 : decode bb_Q_in 14 = .ok (.iconst 0, 1) := by decide +kernel
theorem dd_Q_in_15 : decode bb_Q_in 15 = .ok (.ireturn, 1) := by decide +kernel
theorem dd_Q_inTree_0 : decode bb_Q_inTree 0 = .ok (.aload_n 0, 1) := by decide +kernel
theorem dd_Q_inTree_1 : decode bb_Q_inTree 1 = .ok (.getfield 81, 3) := by decide +kernel
theorem dd_Q_inTree_4 : decode bb_Q_inTree 4 = .ok (.iload_n 2, 1) := by decide +kernel
theorem dd_Q_inTree_5 : decode bb_Q_inTree 5 = .ok (.laload, 1) := by decide +kernel
theorem dd_Q_inTree_6 : decode bb_Q_inTree 6 = .ok (.aload_n 0, 1) := by decide +kernel
theorem dd_Q_inTree_7 : decode bb_Q_inTree 7 = .ok (.getfield 85, 3) := by decide +kernel
theorem dd_Q_inTree_10 : decode bb_Q_inTree 10 = .ok (.iload_n 1, 1) := by decide +kernel
theorem dd_Q_inTree_11 : decode bb_Q_inTree 11 = .ok (.laload, 1) := by decide +kernel
theorem dd_Q_inTree_12 : decode bb_Q_inTree 12 = .ok (.land, 1) := by decide +kernel
theorem dd_Q_inTree_13 : decode bb_Q_inTree 13 = .ok (.aload_n 0, 1) := by decide +kernel
theorem dd_Q_inTree_14 : decode bb_Q_inTree 14 = .ok (.getfield 88, 3) := by decide +kernel
theorem dd_Q_inTree_17 : decode bb_Q_inTree 17 = .ok (.iload_n 1, 1) := by decide +kernel
theorem dd_Q_inTree_18 : decode bb_Q_inTree 18 = .ok (.laload, 1) := by decide +kernel
theorem dd_Q_inTree_19 : decode bb_Q_inTree 19 = .ok (.lcmp, 1) := by decide +kernel
theorem dd_Q_inTree_20 : decode bb_Q_inTree 20 = .ok (.ifCond .ne 7, 3) := by decide +kernel
theorem dd_Q_inTree_23 : decode bb_Q_inTree 23 = .ok (.iconst 1, 1) := by decide +kernel
theorem dd_Q_inTree_24 : decode bb_Q_inTree 24 = .ok (.goto 4, 3) := by decide +kernel
theorem dd_Q_inTree_27 : decode bb_Q_inTree 27 = .ok (.iconst 0, 1) := by decide +kernel
theorem dd_Q_inTree_28 : decode bb_Q_inTree 28 = .ok (.ireturn, 1) := by decide +kernel
theorem dd_Q_init_0 : decode bb_Q_init 0 = .ok (.aload_n 0, 1) := by decide +kernel
theorem dd_Q_init_1 : decode bb_Q_init 1 = .ok (.invokespecial 1, 3) := by decide +kernel
theorem dd_Q_init_4 : decode bb_Q_init 4 = .ok (.aload_n 0, 1) := by decide +kernel
theorem dd_Q_init_5 : decode bb_Q_init 5 = .ok (.iconst 1, 1) := by decide +kernel
theorem dd_Q_init_6 : decode bb_Q_init 6 = .ok (.putfield 7, 3) := by decide +kernel
theorem dd_Q_init_9 : decode bb_Q_init 9 = .ok (.aload_n 0, 1) := by decide +kernel
theorem dd_Q_init_10 : decode bb_Q_init 10 = .ok (.bipush 8, 2) := by decide +kernel
theorem dd_Q_init_12 : decode bb_Q_init 12 = .ok (.newarray .int, 2) := by decide +kernel
theorem dd_Q_init_14 : decode bb_Q_init 14 = .ok (.putfield 13, 3) := by decide +kernel
theorem dd_Q_init_17 : decode bb_Q_init 17 = .ok (.aload_n 0, 1) := by decide +kernel
theorem dd_Q_init_18 : decode bb_Q_init 18 = .ok (.iconst 4, 1) := by decide +kernel
theorem dd_Q_init_19 : decode bb_Q_init 19 = .ok (.newarray .int, 2) := by decide +kernel
theorem dd_Q_init_21 : decode bb_Q_init 21 = .ok (.putfield 17, 3) := by decide +kernel
theorem dd_Q_init_24 : decode bb_Q_init 24 = .ok (.aload_n 0, 1) := by decide +kernel
theorem dd_Q_init_25 : decode bb_Q_init 25 = .ok (.bipush 12, 2) := by decide +kernel
theorem dd_Q_init_27 : decode bb_Q_init 27 = .ok (.newarray .int, 2) := by decide +kernel
theorem dd_Q_init_29 : decode bb_Q_init 29 = .ok (.putfield 20, 3) := by decide +kernel
theorem dd_Q_init_32 : decode bb_Q_init 32 = .ok (.aload_n 0, 1) := by decide +kernel
theorem dd_Q_init_33 : decode bb_Q_init 33 = .ok (.bipush 12, 2) := by decide +kernel
theorem dd_Q_init_35 : decode bb_Q_init 35 = .ok (.newarray .int, 2) := by decide +kernel
theorem dd_Q_init_37 : decode bb_Q_init 37 = .ok (.putfield 23, 3) := by decide +kernel
theorem dd_Q_init_40 : decode bb_Q_init 40 = .ok (.aload_n 0, 1) := by decide +kernel
theorem dd_Q_init_41 : decode bb_Q_init 41 = .ok (.bipush 48, 2) := by decide +kernel
theorem dd_Q_init_43 : decode bb_Q_init 43 = .ok (.newarray .int, 2) := by decide +kernel
theorem dd_Q_init_45 : decode bb_Q_init 45 = .ok (.putfield 26, 3) := by decide +kernel
theorem dd_Q_init_48 : decode bb_Q_init 48 = .ok (.aload_n 0, 1) := by decide +kernel
theorem dd_Q_init_49 : decode bb_Q_init 49 = .ok (.bipush 48, 2) := by decide +kernel
theorem dd_Q_init_51 : decode bb_Q_init 51 = .ok (.newarray .int, 2) := by decide +kernel
theorem dd_Q_init_53 : decode bb_Q_init 53 = .ok (.putfield 29, 3) := by decide +kernel
theorem dd_Q_init_56 : decode bb_Q_init 56 = .ok (.aload_n 0, 1) := by decide +kernel
theorem dd_Q_init_57 : decode bb_Q_init 57 = .ok (.bipush 48, 2) := by decide +kernel
theorem dd_Q_init_59 : decode bb_Q_init 59 = .ok (.newarray .int, 2) := by decide +kernel
theorem dd_Q_init_61 : decode bb_Q_init 61 = .ok (.putfield 32, 3) := by decide +kernel
theorem dd_Q_init_64 : decode bb_Q_init 64 = .ok (.aload_n 0, 1) := by decide +kernel
theorem dd_Q_init_65 : decode bb_Q_init 65 = .ok (.bipush 48, 2) := by decide +kernel
theorem dd_Q_init_67 : decode bb_Q_init 67 = .ok (.newarray .boolean, 2) := by decide +kernel
theorem dd_Q_init_69 : decode bb_Q_init 69 = .ok (.putfield 35, 3) := by decide +kernel
theorem dd_Q_init_72 : decode bb_Q_init 72 = .ok (.aload_n 0, 1) := by decide +kernel
theorem dd_Q_init_73 : decode bb_Q_init 73 = .ok (.bipush 12, 2) := by decide +kernel
theorem dd_Q_init_75 : decode bb_Q_init 75 = .ok (.newarray .int, 2) := by decide +kernel
theorem dd_Q_init_77 : decode bb_Q_init 77 = .ok (.putfield 39, 3) := by decide +kernel
theorem dd_Q_init_80 : decode bb_Q_init 80 = .ok (.aload_n 0, 1) := by decide +kernel
theorem dd_Q_init_81 : decode bb_Q_init 81 = .ok (.bipush 96, 2) := by decide +kernel
theorem dd_Q_init_83 : decode bb_Q_init 83 = .ok (.newarray .int, 2) := by decide +kernel
theorem dd_Q_init_85 : decode bb_Q_init 85 = .ok (.putfield 42, 3) := by decide +kernel
theorem dd_Q_init_88 : decode bb_Q_init 88 = .ok (.aload_n 0, 1) := by decide +kernel
theorem dd_Q_init_89 : decode bb_Q_init 89 = .ok (.bipush 96, 2) := by decide +kernel
theorem dd_Q_init_91 : decode bb_Q_init 91 = .ok (.newarray .int, 2) := by decide +kernel
theorem dd_Q_init_93 : decode bb_Q_init 93 = .ok (.putfield 45, 3) := by decide +kernel
theorem dd_Q_init_96 : decode bb_Q_init 96 = .ok (.aload_n 0, 1) := by decide +kernel
theorem dd_Q_init_97 : decode bb_Q_init 97 = .ok (.iconst 4, 1) := by decide +kernel
theorem dd_Q_init_98 : decode bb_Q_init 98 = .ok (.newarray .boolean, 2) := by decide +kernel
theorem dd_Q_init_100 : decode bb_Q_init 100 = .ok (.putfield 48, 3) := by decide +kernel
theorem dd_Q_init_103 : decode bb_Q_init 103 = .ok (.aload_n 0, 1) := by decide +kernel
theorem dd_Q_init_104 : decode bb_Q_init 104 = .ok (.sipush 16384, 3) := by decide +kernel
theorem dd_Q_init_107 : decode bb_Q_init 107 = .ok (.newarray .int, 2) := by decide +kernel
theorem dd_Q_init_109 : decode bb_Q_init 109 = .ok (.putfield 51, 3) := by decide +kernel
theorem dd_Q_init_112 : decode bb_Q_init 112 = .ok (.aload_n 0, 1) := by decide +kernel
theorem dd_Q_init_113 : decode bb_Q_init 113 = .ok (.bipush 12, 2) := by decide +kernel
theorem dd_Q_init_115 : decode bb_Q_init 115 = .ok (.newarray .int, 2) := by decide +kernel
theorem dd_Q_init_117 : decode bb_Q_init 117 = .ok (.putfield 54, 3) := by decide +kernel
theorem dd_Q_init_120 : decode bb_Q_init 120 = .ok (.aload_n 0, 1) := by decide +kernel
theorem dd_Q_init_121 : decode bb_Q_init 121 = .ok (.iconst 4, 1) := by decide +kernel
theorem dd_Q_init_122 : decode bb_Q_init 122 = .ok (.newarray .int, 2) := by decide +kernel
theorem dd_Q_init_124 : decode bb_Q_init 124 = .ok (.putfield 57, 3) := by decide +kernel
theorem dd_Q_init_127 : decode bb_Q_init 127 = .ok (.aload_n 0, 1) := by decide +kernel
theorem dd_Q_init_128 : decode bb_Q_init 128 = .ok (.sipush 320, 3) := by decide +kernel
theorem dd_Q_init_131 : decode bb_Q_init 131 = .ok (.newarray .int, 2) := by decide +kernel
theorem dd_Q_init_133 : decode bb_Q_init 133 = .ok (.putfield 60, 3) := by decide +kernel
theorem dd_Q_init_136 : decode bb_Q_init 136 = .ok (.aload_n 0, 1) := by decide +kernel
theorem dd_Q_init_137 : decode bb_Q_init 137 = .ok (.sipush 320, 3) := by decide +kernel
theorem dd_Q_init_140 : decode bb_Q_init 140 = .ok (.newarray .int, 2) := by decide +kernel
theorem dd_Q_init_142 : decode bb_Q_init 142 = .ok (.putfield 63, 3) := by decide +kernel
theorem dd_Q_init_145 : decode bb_Q_init 145 = .ok (.aload_n 0, 1) := by decide +kernel
theorem dd_Q_init_146 : decode bb_Q_init 146 = .ok (.sipush 320, 3) := by decide +kernel
theorem dd_Q_init_149 : decode bb_Q_init 149 = .ok (.newarray .int, 2) := by decide +kernel
theorem dd_Q_init_151 : decode bb_Q_init 151 = .ok (.putfield 66, 3) := by decide +kernel
theorem dd_Q_init_154 : decode bb_Q_init 154 = .ok (.aload_n 0, 1) := by decide +kernel
theorem dd_Q_init_155 : decode bb_Q_init 155 = .ok (.iconst 4, 1) := by decide +kernel
theorem dd_Q_init_156 : decode bb_Q_init 156 = .ok (.newarray .int, 2) := by decide +kernel
theorem dd_Q_init_158 : decode bb_Q_init 158 = .ok (.putfield 69, 3) := by decide +kernel
theorem dd_Q_init_161 : decode bb_Q_init 161 = .ok (.aload_n 0, 1) := by decide +kernel
theorem dd_Q_init_162 : decode bb_Q_init 162 = .ok (.sipush 192, 3) := by decide +kernel
theorem dd_Q_init_165 : decode bb_Q_init 165 = .ok (.newarray .int, 2) := by decide +kernel
theorem dd_Q_init_167 : decode bb_Q_init 167 = .ok (.putfield 72, 3) := by decide +kernel
theorem dd_Q_init_170 : decode bb_Q_init 170 = .ok (.aload_n 0, 1) := by decide +kernel
theorem dd_Q_init_171 : decode bb_Q_init 171 = .ok (.sipush 192, 3) := by decide +kernel
