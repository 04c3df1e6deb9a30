theorem dd_Q_init_174 : decode bb_Q_init 174 = .ok (.newarray .int, 2) := by decide +kernel
theorem dd_Q_init_176 : decode bb_Q_init 176 = .ok (.putfield 75, 3) := by decide +kernel
theorem dd_Q_init_179 : decode bb_Q_init 179 = .ok (.aload_n 0, 1) := by decide +kernel
theorem dd_Q_init_180 : decode bb_Q_init 180 = .ok (.sipush 192, 3) := by decide +kernel
theorem dd_Q_init_183 : decode bb_Q_init 183 = .ok (.newarray .int, 2) := by decide +kernel
theorem dd_Q_init_185 : decode bb_Q_init 185 = .ok (.putfield 78, 3) := by decide +kernel
theorem dd_Q_init_188 : decode bb_Q_init 188 = .ok (.aload_n 0, 1) := by decide +kernel
theorem dd_Q_init_189 : decode bb_Q_init 189 = .ok (.sipush 4096, 3) := by decide +kernel
theorem dd_Q_init_192 : decode bb_Q_init 192 = .ok (.newarray .long, 2) := by decide +kernel
theorem dd_Q_init_194 : decode bb_Q_init 194 = .ok (.putfield 81, 3) := by decide +kernel
theorem dd_Q_init_197 : decode bb_Q_init 197 = .ok (.aload_n 0, 1) := by decide +kernel
theorem dd_Q_init_198 : decode bb_Q_init 198 = .ok (.bipush 50, 2) := by decide +kernel
theorem dd_Q_init_200 : decode bb_Q_init 200 = .ok (.newarray .long, 2) := by decide +kernel
theorem dd_Q_init_202 : decode bb_Q_init 202 = .ok (.putfield 85, 3) := by decide +kernel
theorem dd_Q_init_205 : decode bb_Q_init 205 = .ok (.aload_n 0, 1) := by decide +kernel
theorem dd_Q_init_206 : decode bb_Q_init 206 = .ok (.bipush 50, 2) := by decide +kernel
theorem dd_Q_init_208 : decode bb_Q_init 208 = .ok (.newarray .long, 2) := by decide +kernel
theorem dd_Q_init_210 : decode bb_Q_init 210 = .ok (.putfield 88, 3) := by decide +kernel
theorem dd_Q_init_213 : decode bb_Q_init 213 = .ok (.aload_n 0, 1) := by decide +kernel
theorem dd_Q_init_214 : decode bb_Q_init 214 = .ok (.bipush 50, 2) := by decide +kernel
theorem dd_Q_init_216 : decode bb_Q_init 216 = .ok (.newarray .int, 2) := by decide +kernel
theorem dd_Q_init_218 : decode bb_Q_init 218 = .ok (.putfield 91, 3) := by decide +kernel
theorem dd_Q_init_221 : decode bb_Q_init 221 = .ok (.aload_n 0, 1) := by decide +kernel
theorem dd_Q_init_222 : decode bb_Q_init 222 = .ok (.bipush 50, 2) := by decide +kernel
theorem dd_Q_init_224 : decode bb_Q_init 224 = .ok (.newarray .int, 2) := by decide +kernel
theorem dd_Q_init_226 : decode bb_Q_init 226 = .ok (.putfield 94, 3) := by decide +kernel
theorem dd_Q_init_229 : decode bb_Q_init 229 = .ok (.aload_n 0, 1) := by decide +kernel
theorem dd_Q_init_230 : decode bb_Q_init 230 = .ok (.bipush 50, 2) := by decide +kernel
theorem dd_Q_init_232 : decode bb_Q_init 232 = .ok (.newarray .int, 2) := by decide +kernel
theorem dd_Q_init_234 : decode bb_Q_init 234 = .ok (.putfield 97, 3) := by decide +kernel
theorem dd_Q_init_237 : decode bb_Q_init 237 = .ok (.aload_n 0, 1) := by decide +kernel
theorem dd_Q_init_238 : decode bb_Q_init 238 = .ok (.bipush 50, 2) := by decide +kernel
theorem dd_Q_init_240 : decode bb_Q_init 240 = .ok (.newarray .int, 2) := by decide +kernel
theorem dd_Q_init_242 : decode bb_Q_init 242 = .ok (.putfield 100, 3) := by decide +kernel
theorem dd_Q_init_245 : decode bb_Q_init 245 = .ok (.aload_n 0, 1) := by decide +kernel
theorem dd_Q_init_246 : decode bb_Q_init 246 = .ok (.bipush 9, 2) := by decide +kernel
theorem dd_Q_init_248 : decode bb_Q_init 248 = .ok (.newarray .int, 2) := by decide +kernel
theorem dd_Q_init_250 : decode bb_Q_init 250 = .ok (.putfield 103, 3) := by decide +kernel
theorem dd_Q_init_253 : decode bb_Q_init 253 = .ok (.aload_n 0, 1) := by decide +kernel
theorem dd_Q_init_254 : decode bb_Q_init 254 = .ok (.bipush 9, 2) := by decide +kernel
theorem dd_Q_init_256 : decode bb_Q_init 256 = .ok (.newarray .int, 2) := by decide +kernel
theorem dd_Q_init_258 : decode bb_Q_init 258 = .ok (.putfield 106, 3) := by decide +kernel
theorem dd_Q_init_261 : decode bb_Q_init 261 = .ok (.aload_n 0, 1) := by decide +kernel
theorem dd_Q_init_262 : decode bb_Q_init 262 = .ok (.bipush 9, 2) := by decide +kernel
theorem dd_Q_init_264 : decode bb_Q_init 264 = .ok (.newarray .int, 2) := by decide +kernel
theorem dd_Q_init_266 : decode bb_Q_init 266 = .ok (.putfield 109, 3) := by decide +kernel
theorem dd_Q_init_269 : decode bb_Q_init 269 = .ok (.aload_n 0, 1) := by decide +kernel
theorem dd_Q_init_270 : decode bb_Q_init 270 = .ok (.bipush 9, 2) := by decide +kernel
theorem dd_Q_init_272 : decode bb_Q_init 272 = .ok (.newarray .int, 2) := by decide +kernel
theorem dd_Q_init_274 : decode bb_Q_init 274 = .ok (.putfield 112, 3) := by decide +kernel
theorem dd_Q_init_277 : decode bb_Q_init 277 = .ok (.aload_n 0, 1) := by decide +kernel
theorem dd_Q_init_278 : decode bb_Q_init 278 = .ok (.bipush 9, 2) := by decide +kernel
theorem dd_Q_init_280 : decode bb_Q_init 280 = .ok (.newarray .int, 2) := by decide +kernel
theorem dd_Q_init_282 : decode bb_Q_init 282 = .ok (.putfield 115, 3) := by decide +kernel
theorem dd_Q_init_285 : decode bb_Q_init 285 = .ok (.aload_n 0, 1) := by decide +kernel
theorem dd_Q_init_286 : decode bb_Q_init 286 = .ok (.bipush 54, 2) := by decide +kernel
theorem dd_Q_init_288 : decode bb_Q_init 288 = .ok (.newarray .int, 2) := by decide +kernel
theorem dd_Q_init_290 : decode bb_Q_init 290 = .ok (.putfield 118, 3) := by decide +kernel
theorem dd_Q_init_293 : decode bb_Q_init 293 = .ok (.return_, 1) := by decide +kernel
theorem dd_Q_isClass_0 : decode bb_Q_isClass 0 = .ok (.iload_n 1, 1) := by decide +kernel
theorem dd_Q_isClass_1 : decode bb_Q_isClass 1 = .ok (.istore_n 3, 1) := by decide +kernel
theorem dd_Q_isClass_2 : decode bb_Q_isClass 2 = .ok (.iconst 0, 1) := by decide +kernel
theorem dd_Q_isClass_3 : decode bb_Q_isClass 3 = .ok (.istore 4, 2) := by decide +kernel
theorem dd_Q_isClass_5 : decode bb_Q_isClass 5 = .ok (.iload 4, 2) := by decide +kernel
theorem dd_Q_isClass_7 : decode bb_Q_isClass 7 = .ok (.bipush 8, 2) := by decide +kernel
theorem dd_Q_isClass_9 : decode bb_Q_isClass 9 = .ok (.if_icmp .ge 25, 3) := by decide +kernel
theorem dd_Q_isClass_12 : decode bb_Q_isClass 12 = .ok (.iload_n 3, 1) := by decide +kernel
theorem dd_Q_isClass_13 : decode bb_Q_isClass 13 = .ok (.ifCond .le 21, 3) := by decide +kernel
theorem dd_Q_isClass_16 : decode bb_Q_isClass 16 = .ok (.iload_n 3, 1) := by decide +kernel
theorem dd_Q_isClass_17 : decode bb_Q_isClass 17 = .ok (.iload_n 2, 1) := by decide +kernel
theorem dd_Q_isClass_18 : decode bb_Q_isClass 18 = .ok (.if_icmp .eq 16, 3) := by decide +kernel
theorem dd_Q_isClass_21 : decode bb_Q_isClass 21 = .ok (.aload_n 0, 1) := by decide +kernel
theorem dd_Q_isClass_22 : decode bb_Q_isClass 22 = .ok (.getfield 13, 3) := by decide +kernel
theorem dd_Q_isClass_25 : decode bb_Q_isClass 25 = .ok (.iload_n 3, 1) := by decide +kernel
theorem dd_Q_isClass_26 : decode bb_Q_isClass 26 = .ok (.iaload, 1) := by decide +kernel
theorem dd_Q_isClass_27 : decode bb_Q_isClass 27 = .ok (.istore_n 3, 1) := by decide +kernel
theorem dd_Q_isClass_28 : decode bb_Q_isClass 28 = .ok (.iinc 4 1, 3) := by decide +kernel
theorem dd_Q_isClass_31 : decode bb_Q_isClass 31 = .ok (.goto (-26), 3) := by decide +kernel
theorem dd_Q_isClass_34 : decode bb_Q_isClass 34 = .ok (.iload_n 3, 1) := by decide +kernel
theorem dd_Q_isClass_35 : decode bb_Q_isClass 35 = .ok (.iload_n 2, 1) := by decide +kernel
theorem dd_Q_isClass_36 : decode bb_Q_isClass 36 = .ok (.if_icmp .ne 7, 3) := by decide +kernel
theorem dd_Q_isClass_39 : decode bb_Q_isClass 39 = .ok (.iconst 1, 1) := by decide +kernel
theorem dd_Q_isClass_40 : decode bb_Q_isClass 40 = .ok (.goto 4, 3) := by decide +kernel
theorem dd_Q_isClass_43 : decode bb_Q_isClass 43 = .ok (.iconst 0, 1) := by decide +kernel
theorem dd_Q_isClass_44 : decode bb_Q_isClass 44 = .ok (.ireturn, 1) := by decide +kernel
theorem dd_Q_isRow_0 : decode bb_Q_isRow 0 = .ok (.iload_n 2, 1) := by decide +kernel
theorem dd_Q_isRow_1 : decode bb_Q_isRow 1 = .ok (.iconst 0, 1) := by decide +kernel
theorem dd_Q_isRow_2 : decode bb_Q_isRow 2 = .ok (.aload_n 0, 1) := by decide +kernel
theorem dd_Q_isRow_3 : decode bb_Q_isRow 3 = .ok (.invokevirtual 141, 3) := by decide +kernel
theorem dd_Q_isRow_6 : decode bb_Q_isRow 6 = .ok (.iconst 1, 1) := by decide +kernel
theorem dd_Q_isRow_7 : decode bb_Q_isRow 7 = .ok (.isub, 1) := by decide +kernel
theorem dd_Q_isRow_8 : decode bb_Q_isRow 8 = .ok (.invokestatic 127, 3) := by decide +kernel
theorem dd_Q_isRow_11 : decode bb_Q_isRow 11 = .ok (.ifCond .eq 31, 3) := by decide +kernel
theorem dd_Q_isRow_14 : decode bb_Q_isRow 14 = .ok (.aload_n 0, 1) := by decide +kernel
theorem dd_Q_isRow_15 : decode bb_Q_isRow 15 = .ok (.getfield 17, 3) := by decide +kernel
theorem dd_Q_isRow_18 : decode bb_Q_isRow 18 = .ok (.iload_n 1, 1) := by decide +kernel
theorem dd_Q_isRow_19 : decode bb_Q_isRow 19 = .ok (.iaload, 1) := by decide +kernel
theorem dd_Q_isRow_20 : decode bb_Q_isRow 20 = .ok (.iconst 1, 1) := by decide +kernel
theorem dd_Q_isRow_21 : decode bb_Q_isRow 21 = .ok (.if_icmp .eq 17, 3) := by decide +kernel
theorem dd_Q_isRow_24 : decode bb_Q_isRow 24 = .ok (.iload_n 3, 1) := by decide +kernel
theorem dd_Q_isRow_25 : decode bb_Q_isRow 25 = .ok (.iconst 0, 1) := by decide +kernel
theorem dd_Q_isRow_26 : decode bb_Q_isRow 26 = .ok (.aload_n 0, 1) := by decide +kernel
theorem dd_Q_isRow_27 : decode bb_Q_isRow 27 = .ok (.invokevirtual 141, 3) := by decide +kernel
theorem dd_Q_isRow_30 : decode bb_Q_isRow 30 = .ok (.iconst 1, 1) := by decide +kernel
theorem dd_Q_isRow_31 : decode bb_Q_isRow 31 = .ok (.isub, 1) := by decide +kernel
theorem dd_Q_isRow_32 : decode bb_Q_isRow 32 = .ok (.invokestatic 127, 3) := by decide +kernel
theorem dd_Q_isRow_35 : decode bb_Q_isRow 35 = .ok (.ifCond .eq 7, 3) := by decide +kernel
theorem dd_Q_isRow_38 : decode bb_Q_isRow 38 = .ok (.iconst 1, 1) := by decide +kernel
theorem dd_Q_isRow_39 : decode bb_Q_isRow 39 = .ok (.goto 4, 3) := by decide +kernel
theorem dd_Q_isRow_42 : decode bb_Q_isRow 42 = .ok (.iconst 0, 1) := by decide +kernel
theorem dd_Q_isRow_43 : decode bb_Q_isRow 43 = .ok (.ireturn, 1) := by decide +kernel
theorem dd_Q_klass_0 : decode bb_Q_klass 0 = .ok (.aload_n 0, 1) := by decide +kernel
theorem dd_Q_klass_1 : decode bb_Q_klass 1 = .ok (.iload_n 1, 1) := by decide +kernel
theorem dd_Q_klass_2 : decode bb_Q_klass 2 = .ok (.iconst 0, 1) := by decide +kernel
theorem dd_Q_klass_3 : decode bb_Q_klass 3 = .ok (.aload_n 0, 1) := by decide +kernel
theorem dd_Q_klass_4 : decode bb_Q_klass 4 = .ok (.getfield 7, 3) := by decide +kernel
theorem dd_Q_klass_7 : decode bb_Q_klass 7 = .ok (.iconst 1, 1) := by decide +kernel
theorem dd_Q_klass_8 : decode bb_Q_klass 8 = .ok (.isub, 1) := by decide +kernel
theorem dd_Q_klass_9 : decode bb_Q_klass 9 = .ok (.invokestatic 127, 3) := by decide +kernel
theorem dd_Q_klass_12 : decode bb_Q_klass 12 = .ok (.ifCond .ne 7, 3) := by decide +kernel
theorem dd_Q_klass_15 : decode bb_Q_klass 15 = .ok (.iconst 1, 1) := by decide +kernel
theorem dd_Q_klass_16 : decode bb_Q_klass 16 = .ok (.goto 17, 3) := by decide +kernel
theorem dd_Q_klass_19 : decode bb_Q_klass 19 = .ok (.aload_n 0, 1) := by decide +kernel
theorem dd_Q_klass_20 : decode bb_Q_klass 20 = .ok (.getfield 7, 3) := by decide +kernel
theorem dd_Q_klass_23 : decode bb_Q_klass 23 = .ok (.bipush 8, 2) := by decide +kernel
theorem dd_Q_klass_25 : decode bb_Q_klass 25 = .ok (.if_icmp .ne 7, 3) := by decide +kernel
theorem dd_Q_klass_28 : decode bb_Q_klass 28 = .ok (.iconst 2, 1) := by decide +kernel
theorem dd_Q_klass_29 : decode bb_Q_klass 29 = .ok (.goto 4, 3) := by decide +kernel
theorem dd_Q_klass_32 : decode bb_Q_klass 32 = .ok (.iconst 0, 1) := by decide +kernel
theorem dd_Q_klass_33 : decode bb_Q_klass 33 = .ok (.putfield 121, 3) := by decide +kernel
theorem dd_Q_klass_36 : decode bb_Q_klass 36 = .ok (.aload_n 0, 1) := by decide +kernel
theorem dd_Q_klass_37 : decode bb_Q_klass 37 = .ok (.getfield 121, 3) := by decide +kernel
theorem dd_Q_klass_40 : decode bb_Q_klass 40 = .ok (.ifCond .le 5, 3) := by decide +kernel
theorem dd_Q_klass_43 : decode bb_Q_klass 43 = .ok (.iconst 0, 1) := by decide +kernel
theorem dd_Q_klass_44 : decode bb_Q_klass 44 = .ok (.ireturn, 1) := by decide +kernel
theorem dd_Q_klass_45 : decode bb_Q_klass 45 = .ok (.aload_n 0, 1) := by decide +kernel
theorem dd_Q_klass_46 : decode bb_Q_klass 46 = .ok (.getfield 13, 3) := by decide +kernel
theorem dd_Q_klass_49 : decode bb_Q_klass 49 = .ok (.aload_n 0, 1) := by decide +kernel
theorem dd_Q_klass_50 : decode bb_Q_klass 50 = .ok (.getfield 7, 3) := by decide +kernel
theorem dd_Q_klass_53 : decode bb_Q_klass 53 = .ok (.iload_n 1, 1) := by decide +kernel
theorem dd_Q_klass_54 : decode bb_Q_klass 54 = .ok (.iastore, 1) := by decide +kernel
theorem dd_Q_klass_55 : decode bb_Q_klass 55 = .ok (.aload_n 0, 1) := by decide +kernel
theorem dd_Q_klass_56 : decode bb_Q_klass 56 = .ok (.dup, 1) := by decide +kernel
theorem dd_Q_klass_57 : decode bb_Q_klass 57 = .ok (.getfield 7, 3) := by decide +kernel
theorem dd_Q_klass_60 : decode bb_Q_klass 60 = .ok (.iconst 1, 1) := by decide +kernel
theorem dd_Q_klass_61 : decode bb_Q_klass 61 = .ok (.iadd, 1) := by decide +kernel
theorem dd_Q_klass_62 : decode bb_Q_klass 62 = .ok (.putfield 7, 3) := by decide +kernel
theorem dd_Q_klass_65 : decode bb_Q_klass 65 = .ok (.iconst 0, 1) := by decide +kernel
theorem dd_Q_klass_66 : decode bb_Q_klass 66 = .ok (.istore_n 2, 1) := by decide +kernel
theorem dd_Q_klass_67 : decode bb_Q_klass 67 = .ok (.iload_n 2, 1) := by decide +kernel
theorem dd_Q_klass_68 : decode bb_Q_klass 68 = .ok (.iconst 4, 1) := by decide +kernel
theorem dd_Q_klass_69 : decode bb_Q_klass 69 = .ok (.if_icmp .ge 14, 3) := by decide +kernel
theorem dd_Q_klass_72 : decode bb_Q_klass 72 = .ok (.aload_n 0, 1) := by decide +kernel
theorem dd_Q_klass_73 : decode bb_Q_klass 73 = .ok (.iload_n 2, 1) := by decide +kernel
theorem dd_Q_klass_74 : decode bb_Q_klass 74 = .ok (.invokevirtual 131, 3) := by decide +kernel
theorem dd_Q_klass_77 : decode bb_Q_klass 77 = .ok (.iinc 2 1, 3) := by decide +kernel
theorem dd_Q_klass_80 : decode bb_Q_klass 80 = .ok (.goto (-13), 3) := by decide +kernel
theorem dd_Q_klass_83 : decode bb_Q_klass 83 = .ok (.aload_n 0, 1) := by decide +kernel
theorem dd_Q_klass_84 : decode bb_Q_klass 84 = .ok (.getfield 7, 3) := by decide +kernel
theorem dd_Q_klass_87 : decode bb_Q_klass 87 = .ok (.iconst 1, 1) := by decide +kernel
theorem dd_Q_klass_88 : decode bb_Q_klass 88 = .ok (.isub, 1) := by decide +kernel
theorem dd_Q_klass_89 : decode bb_Q_klass 89 = .ok (.ireturn, 1) := by decide +kernel
theorem dd_Q_know_0 : decode bb_Q_know 0 = .ok (.aload_n 0, 1) := by decide +kernel
theorem dd_Q_know_1 : decode bb_Q_know 1 = .ok (.getfield 48, 3) := by decide +kernel
theorem dd_Q_know_4 : decode bb_Q_know 4 = .ok (.iload_n 1, 1) := by decide +kernel
theorem dd_Q_know_5 : decode bb_Q_know 5 = .ok (.baload, 1) := by decide +kernel
theorem dd_Q_know_6 : decode bb_Q_know 6 = .ok (.ifCond .eq 4, 3) := by decide +kernel
theorem dd_Q_know_9 : decode bb_Q_know 9 = .ok (.return_, 1) := by decide +kernel
theorem dd_Q_know_10 : decode bb_Q_know 10 = .ok (.aload_n 0, 1) := by decide +kernel
theorem dd_Q_know_11 : decode bb_Q_know 11 = .ok (.getfield 48, 3) := by decide +kernel
theorem dd_Q_know_14 : decode bb_Q_know 14 = .ok (.iload_n 1, 1) := by decide +kernel
theorem dd_Q_know_15 : decode bb_Q_know 15 = .ok (.iconst 1, 1) := by decide +kernel
theorem dd_Q_know_16 : decode bb_Q_know 16 = .ok (.bastore, 1) := by decide +kernel
theorem dd_Q_know_17 : decode bb_Q_know 17 = .ok (.iconst 0, 1) := by decide +kernel
theorem dd_Q_know_18 : decode bb_Q_know 18 = .ok (.istore_n 2, 1) := by decide +kernel
theorem dd_Q_know_19 : decode bb_Q_know 19 = .ok (.iload_n 2, 1) := by decide +kernel
theorem dd_Q_know_20 : decode bb_Q_know 20 = .ok (.aload_n 0, 1) := by decide +kernel
theorem dd_Q_know_21 : decode bb_Q_know 21 = .ok (.iload_n 1, 1) := by decide +kernel
theorem dd_Q_know_22 : decode bb_Q_know 22 = .ok (.invokevirtual 153, 3) := by decide +kernel
theorem dd_Q_know_25 : decode bb_Q_know 25 = .ok (.if_icmp .ge 81, 3) := by decide +kernel
theorem dd_Q_know_28 : decode bb_Q_know 28 = .ok (.iconst 0, 1) := by decide +kernel
theorem dd_Q_know_29 : decode bb_Q_know 29 = .ok (.istore_n 3, 1) := by decide +kernel
theorem dd_Q_know_30 : decode bb_Q_know 30 = .ok (.iconst 0, 1) := by decide +kernel
theorem dd_Q_know_31 : decode bb_Q_know 31 = .ok (.istore 4, 2) := by decide +kernel
theorem dd_Q_know_33 : decode bb_Q_know 33 = .ok (.iload 4, 2) := by decide +kernel
theorem dd_Q_know_35 : decode bb_Q_know 35 = .ok (.aload_n 0, 1) := by decide +kernel
theorem dd_Q_know_36 : decode bb_Q_know 36 = .ok (.getfield 138, 3) := by decide +kernel
theorem dd_Q_know_39 : decode bb_Q_know 39 = .ok (.if_icmp .ge 48, 3) := by decide +kernel
theorem dd_Q_know_42 : decode bb_Q_know 42 = .ok (.aload_n 0, 1) := by decide +kernel
theorem dd_Q_know_43 : decode bb_Q_know 43 = .ok (.getfield 20, 3) := by decide +kernel
theorem dd_Q_know_46 : decode bb_Q_know 46 = .ok (.iload 4, 2) := by decide +kernel
theorem dd_Q_know_48 : decode bb_Q_know 48 = .ok (.iaload, 1) := by decide +kernel
theorem dd_Q_know_49 : decode bb_Q_know 49 = .ok (.iload_n 1, 1) := by decide +kernel
theorem dd_Q_know_50 : decode bb_Q_know 50 = .ok (.if_icmp .ne 31, 3) := by decide +kernel
theorem dd_Q_know_53 : decode bb_Q_know 53 = .ok (.aload_n 0, 1) := by decide +kernel
theorem dd_Q_know_54 : decode bb_Q_know 54 = .ok (.iload 4, 2) := by decide +kernel
theorem dd_Q_know_56 : decode bb_Q_know 56 = .ok (.aload_n 0, 1) := by decide +kernel
theorem dd_Q_know_57 : decode bb_Q_know 57 = .ok (.iload_n 1, 1) := by decide +kernel
theorem dd_Q_know_58 : decode bb_Q_know 58 = .ok (.iload_n 2, 1) := by decide +kernel
theorem dd_Q_know_59 : decode bb_Q_know 59 = .ok (.invokevirtual 157, 3) := by decide +kernel
theorem dd_Q_know_62 : decode bb_Q_know 62 = .ok (.aload_n 0, 1) := by decide +kernel
theorem dd_Q_know_63 : decode bb_Q_know 63 = .ok (.iload_n 1, 1) := by decide +kernel
theorem dd_Q_know_64 : decode bb_Q_know 64 = .ok (.iload_n 2, 1) := by decide +kernel
theorem dd_Q_know_65 : decode bb_Q_know 65 = .ok (.invokevirtual 161, 3) := by decide +kernel
theorem dd_Q_know_68 : decode bb_Q_know 68 = .ok (.invokevirtual 164, 3) := by decide +kernel
theorem dd_Q_know_71 : decode bb_Q_know 71 = .ok (.ifCond .eq 10, 3) := by decide +kernel
theorem dd_Q_know_74 : decode bb_Q_know 74 = .ok (.iload_n 3, 1) := by decide +kernel
theorem dd_Q_know_75 : decode bb_Q_know 75 = .ok (.iconst 1, 1) := by decide +kernel
theorem dd_Q_know_76 : decode bb_Q_know 76 = .ok (.iload 4, 2) := by decide +kernel
theorem dd_Q_know_78 : decode bb_Q_know 78 = .ok (.ishl, 1) := by decide +kernel
theorem dd_Q_know_79 : decode bb_Q_know 79 = .ok (.ior, 1) := by decide +kernel
theorem dd_Q_know_80 : decode bb_Q_know 80 = .ok (.istore_n 3, 1) := by decide +kernel
theorem dd_Q_know_81 : decode bb_Q_know 81 = .ok (.iinc 4 1, 3) := by decide +kernel
theorem dd_Q_know_84 : decode bb_Q_know 84 = .ok (.goto (-51), 3) := by decide +kernel
theorem dd_Q_know_87 : decode bb_Q_know 87 = .ok (.aload_n 0, 1) := by decide +kernel
theorem dd_Q_know_88 : decode bb_Q_know 88 = .ok (.getfield 51, 3) := by decide +kernel
theorem dd_Q_know_91 : decode bb_Q_know 91 = .ok (.sipush 4096, 3) := by decide +kernel
theorem dd_Q_know_94 : decode bb_Q_know 94 = .ok (.iload_n 1, 1) := by decide +kernel
theorem dd_Q_know_95 : decode bb_Q_know 95 = .ok (.imul, 1) := by decide +kernel
theorem dd_Q_know_96 : decode bb_Q_know 96 = .ok (.iload_n 2, 1) := by decide +kernel
theorem dd_Q_know_97 : decode bb_Q_know 97 = .ok (.iadd, 1) := by decide +kernel
theorem dd_Q_know_98 : decode bb_Q_know 98 = .ok (.iload_n 3, 1) := by decide +kernel
theorem dd_Q_know_99 : decode bb_Q_know 99 = .ok (.iastore, 1) := by decide +kernel
theorem dd_Q_know_100 : decode bb_Q_know 100 = .ok (.iinc 2 1, 3) := by decide +kernel
theorem dd_Q_know_103 : decode bb_Q_know 103 = .ok (.goto (-84), 3) := by decide +kernel
theorem dd_Q_know_106 : decode bb_Q_know 106 = .ok (.iconst 0, 1) := by decide +kernel
theorem dd_Q_know_107 : decode bb_Q_know 107 = .ok (.istore_n 2, 1) := by decide +kernel
theorem dd_Q_know_108 : decode bb_Q_know 108 = .ok (.iload_n 2, 1) := by decide +kernel
theorem dd_Q_know_109 : decode bb_Q_know 109 = .ok (.aload_n 0, 1) := by decide +kernel
theorem dd_Q_know_110 : decode bb_Q_know 110 = .ok (.getfield 138, 3) := by decide +kernel
theorem dd_Q_know_113 : decode bb_Q_know 113 = .ok (.if_icmp .ge 98, 3) := by decide +kernel
theorem dd_Q_know_116 : decode bb_Q_know 116 = .ok (.aload_n 0, 1) := by decide +kernel
theorem dd_Q_know_117 : decode bb_Q_know 117 = .ok (.getfield 20, 3) := by decide +kernel
theorem dd_Q_know_120 : decode bb_Q_know 120 = .ok (.iload_n 2, 1) := by decide +kernel
theorem dd_Q_know_121 : decode bb_Q_know 121 = .ok (.iaload, 1) := by decide +kernel
theorem dd_Q_know_122 : decode bb_Q_know 122 = .ok (.iload_n 1, 1) := by decide +kernel
theorem dd_Q_know_123 : decode bb_Q_know 123 = .ok (.if_icmp .ne 10, 3) := by decide +kernel
theorem dd_Q_know_126 : decode bb_Q_know 126 = .ok (.aload_n 0, 1) := by decide +kernel
theorem dd_Q_know_127 : decode bb_Q_know 127 = .ok (.getfield 54, 3) := by decide +kernel
theorem dd_Q_know_130 : decode bb_Q_know 130 = .ok (.iload_n 2, 1) := by decide +kernel
theorem dd_Q_know_131 : decode bb_Q_know 131 = .ok (.iconst 0, 1) := by decide +kernel
theorem dd_Q_know_132 : decode bb_Q_know 132 = .ok (.iastore, 1) := by decide +kernel
theorem dd_Q_know_133 : decode bb_Q_know 133 = .ok (.iconst 0, 1) := by decide +kernel
theorem dd_Q_know_134 : decode bb_Q_know 134 = .ok (.istore_n 3, 1) := by decide +kernel
theorem dd_Q_know_135 : decode bb_Q_know 135 = .ok (.iload_n 3, 1) := by decide +kernel
theorem dd_Q_know_136 : decode bb_Q_know 136 = .ok (.aload_n 0, 1) := by decide +kernel
theorem dd_Q_know_137 : decode bb_Q_know 137 = .ok (.getfield 138, 3) := by decide +kernel
theorem dd_Q_know_140 : decode bb_Q_know 140 = .ok (.if_icmp .ge 65, 3) := by decide +kernel
theorem dd_Q_know_143 : decode bb_Q_know 143 = .ok (.aload_n 0, 1) := by decide +kernel
theorem dd_Q_know_144 : decode bb_Q_know 144 = .ok (.getfield 20, 3) := by decide +kernel
theorem dd_Q_know_147 : decode bb_Q_know 147 = .ok (.iload_n 2, 1) := by decide +kernel
theorem dd_Q_know_148 : decode bb_Q_know 148 = .ok (.iaload, 1) := by decide +kernel
theorem dd_Q_know_149 : decode bb_Q_know 149 = .ok (.iload_n 1, 1) := by decide +kernel
theorem dd_Q_know_150 : decode bb_Q_know 150 = .ok (.if_icmp .ne 55, 3) := by decide +kernel
theorem dd_Q_know_153 : decode bb_Q_know 153 = .ok (.aload_n 0, 1) := by decide +kernel
theorem dd_Q_know_154 : decode bb_Q_know 154 = .ok (.getfield 20, 3) := by decide +kernel
theorem dd_Q_know_157 : decode bb_Q_know 157 = .ok (.iload_n 3, 1) := by decide +kernel
theorem dd_Q_know_158 : decode bb_Q_know 158 = .ok (.iaload, 1) := by decide +kernel
theorem dd_Q_know_159 : decode bb_Q_know 159 = .ok (.iload_n 1, 1) := by decide +kernel
theorem dd_Q_know_160 : decode bb_Q_know 160 = .ok (.if_icmp .ne 39, 3) := by decide +kernel
theorem dd_Q_know_163 : decode bb_Q_know 163 = .ok (.aload_n 0, 1) := by decide +kernel
theorem dd_Q_know_164 : decode bb_Q_know 164 = .ok (.iload_n 1, 1) := by decide +kernel
theorem dd_Q_know_165 : decode bb_Q_know 165 = .ok (.iload_n 2, 1) := by decide +kernel
theorem dd_Q_know_166 : decode bb_Q_know 166 = .ok (.iload_n 3, 1) := by decide +kernel
theorem dd_Q_know_167 : decode bb_Q_know 167 = .ok (.invokevirtual 167, 3) := by decide +kernel
theorem dd_Q_know_170 : decode bb_Q_know 170 = .ok (.ifCond .ne 29, 3) := by decide +kernel
theorem dd_Q_know_173 : decode bb_Q_know 173 = .ok (.aload_n 0, 1) := by decide +kernel
theorem dd_Q_know_174 : decode bb_Q_know 174 = .ok (.iload_n 1, 1) := by decide +kernel
theorem dd_Q_know_175 : decode bb_Q_know 175 = .ok (.iload_n 3, 1) := by decide +kernel
theorem dd_Q_know_176 : decode bb_Q_know 176 = .ok (.iload_n 2, 1) := by decide +kernel
theorem dd_Q_know_177 : decode bb_Q_know 177 = .ok (.invokevirtual 167, 3) := by decide +kernel
theorem dd_Q_know_180 : decode bb_Q_know 180 = .ok (.ifCond .eq 19, 3) := by decide +kernel
theorem dd_Q_know_183 : decode bb_Q_know 183 = .ok (.aload_n 0, 1) := by decide +kernel
theorem dd_Q_know_184 : decode bb_Q_know 184 = .ok (.getfield 54, 3) := by decide +kernel
theorem dd_Q_know_187 : decode bb_Q_know 187 = .ok (.iload_n 2, 1) := by decide +kernel
theorem dd_Q_know_188 : decode bb_Q_know 188 = .ok (.aload_n 0, 1) := by decide +kernel
theorem dd_Q_know_189 : decode bb_Q_know 189 = .ok (.getfield 54, 3) := by decide +kernel
theorem dd_Q_know_192 : decode bb_Q_know 192 = .ok (.iload_n 2, 1) := by decide +kernel
theorem dd_Q_know_193 : decode bb_Q_know 193 = .ok (.iaload, 1) := by decide +kernel
theorem dd_Q_know_194 : decode bb_Q_know 194 = .ok (.iconst 1, 1) := by decide +kernel
theorem dd_Q_know_195 : decode bb_Q_know 195 = .ok (.iload_n 3, 1) := by decide +kernel
theorem dd_Q_know_196 : decode bb_Q_know 196 = .ok (.ishl, 1) := by decide +kernel
theorem dd_Q_know_197 : decode bb_Q_know 197 = .ok (.ior, 1) := by decide +kernel
theorem dd_Q_know_198 : decode bb_Q_know 198 = .ok (.iastore, 1) := by decide +kernel
theorem dd_Q_know_199 : decode bb_Q_know 199 = .ok (.iinc 3 1, 3) := by decide +kernel
theorem dd_Q_know_202 : decode bb_Q_know 202 = .ok (.goto (-67), 3) := by decide +kernel
theorem dd_Q_know_205 : decode bb_Q_know 205 = .ok (.iinc 2 1, 3) := by decide +kernel
theorem dd_Q_know_208 : decode bb_Q_know 208 = .ok (.goto (-100), 3) := by decide +kernel
theorem dd_Q_know_211 : decode bb_Q_know 211 = .ok (.return_, 1) := by decide +kernel
theorem dd_Q_left_0 : decode bb_Q_left 0 = .ok (.aload_n 0, 1) := by decide +kernel
theorem dd_Q_left_1 : decode bb_Q_left 1 = .ok (.iconst 0, 1) := by decide +kernel
theorem dd_Q_left_2 : decode bb_Q_left 2 = .ok (.putfield 121, 3) := by decide +kernel
theorem dd_Q_left_5 : decode bb_Q_left 5 = .ok (.aload_n 0, 1) := by decide +kernel
theorem dd_Q_left_6 : decode bb_Q_left 6 = .ok (.getfield 225, 3) := by decide +kernel
theorem dd_Q_left_9 : decode bb_Q_left 9 = .ok (.ireturn, 1) := by decide +kernel
theorem dd_Q_made_0 : decode bb_Q_made 0 = .ok (.iconst 0, 1) := by decide +kernel
theorem dd_Q_made_1 : decode bb_Q_made 1 = .ok (.istore 5, 2) := by decide +kernel
theorem dd_Q_made_3 : decode bb_Q_made 3 = .ok (.iload 5, 2) := by decide +kernel
theorem dd_Q_made_5 : decode bb_Q_made 5 = .ok (.aload_n 0, 1) := by decide +kernel
theorem dd_Q_made_6 : decode bb_Q_made 6 = .ok (.getfield 57, 3) := by decide +kernel
theorem dd_Q_made_9 : decode bb_Q_made 9 = .ok (.iload_n 1, 1) := by decide +kernel
theorem dd_Q_made_10 : decode bb_Q_made 10 = .ok (.iaload, 1) := by decide +kernel
theorem dd_Q_made_11 : decode bb_Q_made 11 = .ok (.if_icmp .ge 61, 3) := by decide +kernel
theorem dd_Q_made_14 : decode bb_Q_made 14 = .ok (.aload_n 0, 1) := by decide +kernel
theorem dd_Q_made_15 : decode bb_Q_made 15 = .ok (.getfield 60, 3) := by decide +kernel
theorem dd_Q_made_18 : decode bb_Q_made 18 = .ok (.bipush 80, 2) := by decide +kernel
theorem dd_Q_made_20 : decode bb_Q_made 20 = .ok (.iload_n 1, 1) := by decide +kernel
theorem dd_Q_made_21 : decode bb_Q_made 21 = .ok (.imul, 1) := by decide +kernel
theorem dd_Q_made_22 : decode bb_Q_made 22 = .ok (.iload 5, 2) := by decide +kernel
theorem dd_Q_made_24 : decode bb_Q_made 24 = .ok (.iadd, 1) := by decide +kernel
theorem dd_Q_made_25 : decode bb_Q_made 25 = .ok (.iaload, 1) := by decide +kernel
theorem dd_Q_made_26 : decode bb_Q_made 26 = .ok (.iload_n 2, 1) := by decide +kernel
theorem dd_Q_made_27 : decode bb_Q_made 27 = .ok (.if_icmp .ne 39, 3) := by decide +kernel
theorem dd_Q_made_30 : decode bb_Q_made 30 = .ok (.aload_n 0, 1) := by decide +kernel
theorem dd_Q_made_31 : decode bb_Q_made 31 = .ok (.getfield 63, 3) := by decide +kernel
theorem dd_Q_made_34 : decode bb_Q_made 34 = .ok (.bipush 80, 2) := by decide +kernel
theorem dd_Q_made_36 : decode bb_Q_made 36 = .ok (.iload_n 1, 1) := by decide +kernel
theorem dd_Q_made_37 : decode bb_Q_made 37 = .ok (.imul, 1) := by decide +kernel
theorem dd_Q_made_38 : decode bb_Q_made 38 = .ok (.iload 5, 2) := by decide +kernel
theorem dd_Q_made_40 : decode bb_Q_made 40 = .ok (.iadd, 1) := by decide +kernel
theorem dd_Q_made_41 : decode bb_Q_made 41 = .ok (.iaload, 1) := by decide +kernel
theorem dd_Q_made_42 : decode bb_Q_made 42 = .ok (.iload_n 3, 1) := by decide +kernel
theorem dd_Q_made_43 : decode bb_Q_made 43 = .ok (.if_icmp .ne 23, 3) := by decide +kernel
theorem dd_Q_made_46 : decode bb_Q_made 46 = .ok (.aload_n 0, 1) := by decide +kernel
theorem dd_Q_made_47 : decode bb_Q_made 47 = .ok (.getfield 66, 3) := by decide +kernel
theorem dd_Q_made_50 : decode bb_Q_made 50 = .ok (.bipush 80, 2) := by decide +kernel
theorem dd_Q_made_52 : decode bb_Q_made 52 = .ok (.iload_n 1, 1) := by decide +kernel
theorem dd_Q_made_53 : decode bb_Q_made 53 = .ok (.imul, 1) := by decide +kernel
theorem dd_Q_made_54 : decode bb_Q_made 54 = .ok (.iload 5, 2) := by decide +kernel
theorem dd_Q_made_56 : decode bb_Q_made 56 = .ok (.iadd, 1) := by decide +kernel
theorem dd_Q_made_57 : decode bb_Q_made 57 = .ok (.iaload, 1) := by decide +kernel
theorem dd_Q_made_58 : decode bb_Q_made 58 = .ok (.iload 4, 2) := by decide +kernel
theorem dd_Q_made_60 : decode bb_Q_made 60 = .ok (.if_icmp .ne 6, 3) := by decide +kernel
theorem dd_Q_made_63 : decode bb_Q_made 63 = .ok (.iload 5, 2) := by decide +kernel
theorem dd_Q_made_65 : decode bb_Q_made 65 = .ok (.ireturn, 1) := by decide +kernel
theorem dd_Q_made_66 : decode bb_Q_made 66 = .ok (.iinc 5 1, 3) := by decide +kernel
theorem dd_Q_made_69 : decode bb_Q_made 69 = .ok (.goto (-66), 3) := by decide +kernel
theorem dd_Q_made_72 : decode bb_Q_made 72 = .ok (.aload_n 0, 1) := by decide +kernel
theorem dd_Q_made_73 : decode bb_Q_made 73 = .ok (.getfield 57, 3) := by decide +kernel
theorem dd_Q_made_76 : decode bb_Q_made 76 = .ok (.iload_n 1, 1) := by decide +kernel
theorem dd_Q_made_77 : decode bb_Q_made 77 = .ok (.iaload, 1) := by decide +kernel
theorem dd_Q_made_78 : decode bb_Q_made 78 = .ok (.bipush 80, 2) := by decide +kernel
theorem dd_Q_made_80 : decode bb_Q_made 80 = .ok (.if_icmp .ne 5, 3) := by decide +kernel
theorem dd_Q_made_83 : decode bb_Q_made 83 = .ok (.iconst (-1), 1) := by decide +kernel
theorem dd_Q_made_84 : decode bb_Q_made 84 = .ok (.ireturn, 1) := by decide +kernel
theorem dd_Q_made_85 : decode bb_Q_made 85 = .ok (.bipush 80, 2) := by decide +kernel
theorem dd_Q_made_87 : decode bb_Q_made 87 = .ok (.iload_n 1, 1) := by decide +kernel
theorem dd_Q_made_88 : decode bb_Q_made 88 = .ok (.imul, 1) := by decide +kernel
theorem dd_Q_made_89 : decode bb_Q_made 89 = .ok (.aload_n 0, 1) := by decide +kernel
theorem dd_Q_made_90 : decode bb_Q_made 90 = .ok (.getfield 57, 3) := by decide +kernel
theorem dd_Q_made_93 : decode bb_Q_made 93 = .ok (.iload_n 1, 1) := by decide +kernel
theorem dd_Q_made_94 : decode bb_Q_made 94 = .ok (.iaload, 1) := by decide +kernel
theorem dd_Q_made_95 : decode bb_Q_made 95 = .ok (.iadd, 1) := by decide +kernel
theorem dd_Q_made_96 : decode bb_Q_made 96 = .ok (.istore 5, 2) := by decide +kernel
theorem dd_Q_made_98 : decode bb_Q_made 98 = .ok (.aload_n 0, 1) := by decide +kernel
theorem dd_Q_made_99 : decode bb_Q_made 99 = .ok (.getfield 60, 3) := by decide +kernel
theorem dd_Q_made_102 : decode bb_Q_made 102 = .ok (.iload 5, 2) := by decide +kernel
theorem dd_Q_made_104 : decode bb_Q_made 104 = .ok (.iload_n 2, 1) := by decide +kernel
theorem dd_Q_made_105 : decode bb_Q_made 105 = .ok (.iastore, 1) := by decide +kernel
theorem dd_Q_made_106 : decode bb_Q_made 106 = .ok (.aload_n 0, 1) := by decide +kernel
theorem dd_Q_made_107 : decode bb_Q_made 107 = .ok (.getfield 63, 3) := by decide +kernel
theorem dd_Q_made_110 : decode bb_Q_made 110 = .ok (.iload 5, 2) := by decide +kernel
theorem dd_Q_made_112 : decode bb_Q_made 112 = .ok (.iload_n 3, 1) := by decide +kernel
theorem dd_Q_made_113 : decode bb_Q_made 113 = .ok (.iastore, 1) := by decide +kernel
theorem dd_Q_made_114 : decode bb_Q_made 114 = .ok (.aload_n 0, 1) := by decide +kernel
theorem dd_Q_made_115 : decode bb_Q_made 115 = .ok (.getfield 66, 3) := by decide +kernel
theorem dd_Q_made_118 : decode bb_Q_made 118 = .ok (.iload 5, 2) := by decide +kernel
theorem dd_Q_made_120 : decode bb_Q_made 120 = .ok (.iload 4, 2) := by decide +kernel
theorem dd_Q_made_122 : decode bb_Q_made 122 = .ok (.iastore, 1) := by decide +kernel
theorem dd_Q_made_123 : decode bb_Q_made 123 = .ok (.aload_n 0, 1) := by decide +kernel
theorem dd_Q_made_124 : decode bb_Q_made 124 = .ok (.getfield 57, 3) := by decide +kernel
theorem dd_Q_made_127 : decode bb_Q_made 127 = .ok (.iload_n 1, 1) := by decide +kernel
theorem dd_Q_made_128 : decode bb_Q_made 128 = .ok (.dup2, 1) := by decide +kernel
theorem dd_Q_made_129 : decode bb_Q_made 129 = .ok (.iaload, 1) := by decide +kernel
theorem dd_Q_made_130 : decode bb_Q_made 130 = .ok (.iconst 1, 1) := by decide +kernel
theorem dd_Q_made_131 : decode bb_Q_made 131 = .ok (.iadd, 1) := by decide +kernel
theorem dd_Q_made_132 : decode bb_Q_made 132 = .ok (.iastore, 1) := by decide +kernel
theorem dd_Q_made_133 : decode bb_Q_made 133 = .ok (.aload_n 0, 1) := by decide +kernel
theorem dd_Q_made_134 : decode bb_Q_made 134 = .ok (.getfield 57, 3) := by decide +kernel
theorem dd_Q_made_137 : decode bb_Q_made 137 = .ok (.iload_n 1, 1) := by decide +kernel
theorem dd_Q_made_138 : decode bb_Q_made 138 = .ok (.iaload, 1) := by decide +kernel
theorem dd_Q_made_139 : decode bb_Q_made 139 = .ok (.iconst 1, 1) := by decide +kernel
theorem dd_Q_made_140 : decode bb_Q_made 140 = .ok (.isub, 1) := by decide +kernel
theorem dd_Q_made_141 : decode bb_Q_made 141 = .ok (.ireturn, 1) := by decide +kernel
theorem dd_Q_method_0 : decode bb_Q_method 0 = .ok (.aload_n 0, 1) := by decide +kernel
theorem dd_Q_method_1 : decode bb_Q_method 1 = .ok (.iload_n 1, 1) := by decide +kernel
theorem dd_Q_method_2 : decode bb_Q_method 2 = .ok (.iconst 0, 1) := by decide +kernel
theorem dd_Q_method_3 : decode bb_Q_method 3 = .ok (.aload_n 0, 1) := by decide +kernel
theorem dd_Q_method_4 : decode bb_Q_method 4 = .ok (.getfield 135, 3) := by decide +kernel
theorem dd_Q_method_7 : decode bb_Q_method 7 = .ok (.iconst 1, 1) := by decide +kernel
theorem dd_Q_method_8 : decode bb_Q_method 8 = .ok (.isub, 1) := by decide +kernel
theorem dd_Q_method_9 : decode bb_Q_method 9 = .ok (.invokestatic 127, 3) := by decide +kernel
theorem dd_Q_method_12 : decode bb_Q_method 12 = .ok (.ifCond .ne 7, 3) := by decide +kernel
theorem dd_Q_method_15 : decode bb_Q_method 15 = .ok (.iconst 1, 1) := by decide +kernel
theorem dd_Q_method_16 : decode bb_Q_method 16 = .ok (.goto 17, 3) := by decide +kernel
theorem dd_Q_method_19 : decode bb_Q_method 19 = .ok (.aload_n 0, 1) := by decide +kernel
theorem dd_Q_method_20 : decode bb_Q_method 20 = .ok (.getfield 138, 3) := by decide +kernel
theorem dd_Q_method_23 : decode bb_Q_method 23 = .ok (.bipush 12, 2) := by decide +kernel
theorem dd_Q_method_25 : decode bb_Q_method 25 = .ok (.if_icmp .ne 7, 3) := by decide +kernel
theorem dd_Q_method_28 : decode bb_Q_method 28 = .ok (.iconst 2, 1) := by decide +kernel
theorem dd_Q_method_29 : decode bb_Q_method 29 = .ok (.goto 4, 3) := by decide +kernel
theorem dd_Q_method_32 : decode bb_Q_method 32 = .ok (.iconst 0, 1) := by decide +kernel
theorem dd_Q_method_33 : decode bb_Q_method 33 = .ok (.putfield 121, 3) := by decide +kernel
theorem dd_Q_method_36 : decode bb_Q_method 36 = .ok (.aload_n 0, 1) := by decide +kernel
theorem dd_Q_method_37 : decode bb_Q_method 37 = .ok (.getfield 121, 3) := by decide +kernel
theorem dd_Q_method_40 : decode bb_Q_method 40 = .ok (.ifCond .le 5, 3) := by decide +kernel
theorem dd_Q_method_43 : decode bb_Q_method 43 = .ok (.iconst 0, 1) := by decide +kernel
theorem dd_Q_method_44 : decode bb_Q_method 44 = .ok (.ireturn, 1) := by decide +kernel
theorem dd_Q_method_45 : decode bb_Q_method 45 = .ok (.aload_n 0, 1) := by decide +kernel
theorem dd_Q_method_46 : decode bb_Q_method 46 = .ok (.getfield 20, 3) := by decide +kernel
theorem dd_Q_method_49 : decode bb_Q_method 49 = .ok (.aload_n 0, 1) := by decide +kernel
theorem dd_Q_method_50 : decode bb_Q_method 50 = .ok (.getfield 138, 3) := by decide +kernel
theorem dd_Q_method_53 : decode bb_Q_method 53 = .ok (.iload_n 1, 1) := by decide +kernel
theorem dd_Q_method_54 : decode bb_Q_method 54 = .ok (.iastore, 1) := by decide +kernel
theorem dd_Q_method_55 : decode bb_Q_method 55 = .ok (.aload_n 0, 1) := by decide +kernel
theorem dd_Q_method_56 : decode bb_Q_method 56 = .ok (.iload_n 1, 1) := by decide +kernel
theorem dd_Q_method_57 : decode bb_Q_method 57 = .ok (.invokevirtual 131, 3) := by decide +kernel
theorem dd_Q_method_60 : decode bb_Q_method 60 = .ok (.aload_n 0, 1) := by decide +kernel
theorem dd_Q_method_61 : decode bb_Q_method 61 = .ok (.dup, 1) := by decide +kernel
theorem dd_Q_method_62 : decode bb_Q_method 62 = .ok (.getfield 138, 3) := by decide +kernel
theorem dd_Q_method_65 : decode bb_Q_method 65 = .ok (.iconst 1, 1) := by decide +kernel
theorem dd_Q_method_66 : decode bb_Q_method 66 = .ok (.iadd, 1) := by decide +kernel
theorem dd_Q_method_67 : decode bb_Q_method 67 = .ok (.putfield 138, 3) := by decide +kernel
theorem dd_Q_method_70 : decode bb_Q_method 70 = .ok (.aload_n 0, 1) := by decide +kernel
theorem dd_Q_method_71 : decode bb_Q_method 71 = .ok (.getfield 138, 3) := by decide +kernel
theorem dd_Q_method_74 : decode bb_Q_method 74 = .ok (.iconst 1, 1) := by decide +kernel
theorem dd_Q_method_75 : decode bb_Q_method 75 = .ok (.isub, 1) := by decide +kernel
theorem dd_Q_method_76 : decode bb_Q_method 76 = .ok (.ireturn, 1) := by decide +kernel
theorem dd_Q_node_0 : decode bb_Q_node 0 = .ok (.iload_n 1, 1) := by decide +kernel
theorem dd_Q_node_1 : decode bb_Q_node 1 = .ok (.iconst 0, 1) := by decide +kernel
theorem dd_Q_node_2 : decode bb_Q_node 2 = .ok (.aload_n 0, 1) := by decide +kernel
theorem dd_Q_node_3 : decode bb_Q_node 3 = .ok (.getfield 135, 3) := by decide +kernel
theorem dd_Q_node_6 : decode bb_Q_node 6 = .ok (.iconst 1, 1) := by decide +kernel
theorem dd_Q_node_7 : decode bb_Q_node 7 = .ok (.isub, 1) := by decide +kernel
theorem dd_Q_node_8 : decode bb_Q_node 8 = .ok (.invokestatic 127, 3) := by decide +kernel
theorem dd_Q_node_11 : decode bb_Q_node 11 = .ok (.ifCond .eq 16, 3) := by decide +kernel
theorem dd_Q_node_14 : decode bb_Q_node 14 = .ok (.iload_n 3, 1) := by decide +kernel
theorem dd_Q_node_15 : decode bb_Q_node 15 = .ok (.iconst 0, 1) := by decide +kernel
theorem dd_Q_node_16 : decode bb_Q_node 16 = .ok (.iconst 2, 1) := by decide +kernel
theorem dd_Q_node_17 : decode bb_Q_node 17 = .ok (.invokestatic 127, 3) := by decide +kernel
theorem dd_Q_node_20 : decode bb_Q_node 20 = .ok (.ifCond .eq 7, 3) := by decide +kernel
theorem dd_Q_node_23 : decode bb_Q_node 23 = .ok (.iconst 1, 1) := by decide +kernel
theorem dd_Q_node_24 : decode bb_Q_node 24 = .ok (.goto 4, 3) := by decide +kernel
theorem dd_Q_node_27 : decode bb_Q_node 27 = .ok (.iconst 0, 1) := by decide +kernel
theorem dd_Q_node_28 : decode bb_Q_node 28 = .ok (.istore 4, 2) := by decide +kernel
theorem dd_Q_node_30 : decode bb_Q_node 30 = .ok (.aload_n 0, 1) := by decide +kernel
theorem dd_Q_node_31 : decode bb_Q_node 31 = .ok (.iload 4, 2) := by decide +kernel
theorem dd_Q_node_33 : decode bb_Q_node 33 = .ok (.ifCond .ne 7, 3) := by decide +kernel
theorem dd_Q_node_36 : decode bb_Q_node 36 = .ok (.iconst 1, 1) := by decide +kernel
theorem dd_Q_node_37 : decode bb_Q_node 37 = .ok (.goto 37, 3) := by decide +kernel
theorem dd_Q_node_40 : decode bb_Q_node 40 = .ok (.aload_n 0, 1) := by decide +kernel
theorem dd_Q_node_41 : decode bb_Q_node 41 = .ok (.getfield 57, 3) := by decide +kernel
theorem dd_Q_node_44 : decode bb_Q_node 44 = .ok (.iload_n 1, 1) := by decide +kernel
theorem dd_Q_node_45 : decode bb_Q_node 45 = .ok (.iaload, 1) := by decide +kernel
theorem dd_Q_node_46 : decode bb_Q_node 46 = .ok (.ifCond .ne 7, 3) := by decide +kernel
theorem dd_Q_node_49 : decode bb_Q_node 49 = .ok (.iconst 2, 1) := by decide +kernel
theorem dd_Q_node_50 : decode bb_Q_node 50 = .ok (.goto 24, 3) := by decide +kernel
theorem dd_Q_node_53 : decode bb_Q_node 53 = .ok (.iload_n 2, 1) := by decide +kernel
theorem dd_Q_node_54 : decode bb_Q_node 54 = .ok (.iconst 0, 1) := by decide +kernel
theorem dd_Q_node_55 : decode bb_Q_node 55 = .ok (.aload_n 0, 1) := by decide +kernel
theorem dd_Q_node_56 : decode bb_Q_node 56 = .ok (.getfield 57, 3) := by decide +kernel
theorem dd_Q_node_59 : decode bb_Q_node 59 = .ok (.iload_n 1, 1) := by decide +kernel
theorem dd_Q_node_60 : decode bb_Q_node 60 = .ok (.iaload, 1) := by decide +kernel
theorem dd_Q_node_61 : decode bb_Q_node 61 = .ok (.iconst 1, 1) := by decide +kernel
theorem dd_Q_node_62 : decode bb_Q_node 62 = .ok (.isub, 1) := by decide +kernel
theorem dd_Q_node_63 : decode bb_Q_node 63 = .ok (.invokestatic 127, 3) := by decide +kernel
theorem dd_Q_node_66 : decode bb_Q_node 66 = .ok (.ifCond .eq 7, 3) := by decide +kernel
theorem dd_Q_node_69 : decode bb_Q_node 69 = .ok (.iconst 0, 1) := by decide +kernel
theorem dd_Q_node_70 : decode bb_Q_node 70 = .ok (.goto 4, 3) := by decide +kernel
theorem dd_Q_node_73 : decode bb_Q_node 73 = .ok (.iconst 3, 1) := by decide +kernel
theorem dd_Q_node_74 : decode bb_Q_node 74 = .ok (.putfield 121, 3) := by decide +kernel
theorem dd_Q_node_77 : decode bb_Q_node 77 = .ok (.aload_n 0, 1) := by decide +kernel
theorem dd_Q_node_78 : decode bb_Q_node 78 = .ok (.getfield 121, 3) := by decide +kernel
theorem dd_Q_node_81 : decode bb_Q_node 81 = .ok (.ifCond .le 5, 3) := by decide +kernel
theorem dd_Q_node_84 : decode bb_Q_node 84 = .ok (.iconst 0, 1) := by decide +kernel
theorem dd_Q_node_85 : decode bb_Q_node 85 = .ok (.ireturn, 1) := by decide +kernel
theorem dd_Q_node_86 : decode bb_Q_node 86 = .ok (.bipush 80, 2) := by decide +kernel
theorem dd_Q_node_88 : decode bb_Q_node 88 = .ok (.iload_n 1, 1) := by decide +kernel
theorem dd_Q_node_89 : decode bb_Q_node 89 = .ok (.imul, 1) := by decide +kernel
theorem dd_Q_node_90 : decode bb_Q_node 90 = .ok (.iload_n 2, 1) := by decide +kernel
theorem dd_Q_node_91 : decode bb_Q_node 91 = .ok (.iadd, 1) := by decide +kernel
theorem dd_Q_node_92 : decode bb_Q_node 92 = .ok (.istore 5, 2) := by decide +kernel
theorem dd_Q_node_94 : decode bb_Q_node 94 = .ok (.iload_n 3, 1) := by decide +kernel
theorem dd_Q_node_95 : decode bb_Q_node 95 = .ok (.ifCond .ne 13, 3) := by decide +kernel
theorem dd_Q_node_98 : decode bb_Q_node 98 = .ok (.aload_n 0, 1) := by decide +kernel
theorem dd_Q_node_99 : decode bb_Q_node 99 = .ok (.getfield 60, 3) := by decide +kernel
theorem dd_Q_node_102 : decode bb_Q_node 102 = .ok (.iload 5, 2) := by decide +kernel
theorem dd_Q_node_104 : decode bb_Q_node 104 = .ok (.iaload, 1) := by decide +kernel
theorem dd_Q_node_105 : decode bb_Q_node 105 = .ok (.goto 25, 3) := by decide +kernel
theorem dd_Q_node_108 : decode bb_Q_node 108 = .ok (.iload_n 3, 1) := by decide +kernel
theorem dd_Q_node_109 : decode bb_Q_node 109 = .ok (.iconst 1, 1) := by decide +kernel
theorem dd_Q_node_110 : decode bb_Q_node 110 = .ok (.if_icmp .ne 13, 3) := by decide +kernel
theorem dd_Q_node_113 : decode bb_Q_node 113 = .ok (.aload_n 0, 1) := by decide +kernel
theorem dd_Q_node_114 : decode bb_Q_node 114 = .ok (.getfield 63, 3) := by decide +kernel
theorem dd_Q_node_117 : decode bb_Q_node 117 = .ok (.iload 5, 2) := by decide +kernel
theorem dd_Q_node_119 : decode bb_Q_node 119 = .ok (.iaload, 1) := by decide +kernel
theorem dd_Q_node_120 : decode bb_Q_node 120 = .ok (.goto 10, 3) := by decide +kernel
theorem dd_Q_node_123 : decode bb_Q_node 123 = .ok (.aload_n 0, 1) := by decide +kernel
theorem dd_Q_node_124 : decode bb_Q_node 124 = .ok (.getfield 66, 3) := by decide +kernel
theorem dd_Q_node_127 : decode bb_Q_node 127 = .ok (.iload 5, 2) := by decide +kernel
theorem dd_Q_node_129 : decode bb_Q_node 129 = .ok (.iaload, 1) := by decide +kernel
theorem dd_Q_node_130 : decode bb_Q_node 130 = .ok (.ireturn, 1) := by decide +kernel
theorem dd_Q_operation_0 : decode bb_Q_operation 0 = .ok (.iload_n 1, 1) := by decide +kernel
theorem dd_Q_operation_1 : decode bb_Q_operation 1 = .ok (.iconst 0, 1) := by decide +kernel
theorem dd_Q_operation_2 : decode bb_Q_operation 2 = .ok (.aload_n 0, 1) := by decide +kernel
theorem dd_Q_operation_3 : decode bb_Q_operation 3 = .ok (.getfield 138, 3) := by decide +kernel
theorem dd_Q_operation_6 : decode bb_Q_operation 6 = .ok (.iconst 1, 1) := by decide +kernel
theorem dd_Q_operation_7 : decode bb_Q_operation 7 = .ok (.isub, 1) := by decide +kernel
theorem dd_Q_operation_8 : decode bb_Q_operation 8 = .ok (.invokestatic 127, 3) := by decide +kernel
theorem dd_Q_operation_11 : decode bb_Q_operation 11 = .ok (.ifCond .eq 17, 3) := by decide +kernel
theorem dd_Q_operation_14 : decode bb_Q_operation 14 = .ok (.iload_n 2, 1) := by decide +kernel
theorem dd_Q_operation_15 : decode bb_Q_operation 15 = .ok (.iconst 0, 1) := by decide +kernel
theorem dd_Q_operation_16 : decode bb_Q_operation 16 = .ok (.bipush 6, 2) := by decide +kernel
theorem dd_Q_operation_18 : decode bb_Q_operation 18 = .ok (.invokestatic 127, 3) := by decide +kernel
theorem dd_Q_operation_21 : decode bb_Q_operation 21 = .ok (.ifCond .eq 7, 3) := by decide +kernel
theorem dd_Q_operation_24 : decode bb_Q_operation 24 = .ok (.iconst 1, 1) := by decide +kernel
theorem dd_Q_operation_25 : decode bb_Q_operation 25 = .ok (.goto 4, 3) := by decide +kernel
theorem dd_Q_operation_28 : decode bb_Q_operation 28 = .ok (.iconst 0, 1) := by decide +kernel
theorem dd_Q_operation_29 : decode bb_Q_operation 29 = .ok (.istore 4, 2) := by decide +kernel
theorem dd_Q_operation_31 : decode bb_Q_operation 31 = .ok (.iload 4, 2) := by decide +kernel
theorem dd_Q_operation_33 : decode bb_Q_operation 33 = .ok (.ifCond .eq 16, 3) := by decide +kernel
theorem dd_Q_operation_36 : decode bb_Q_operation 36 = .ok (.iload_n 2, 1) := by decide +kernel
theorem dd_Q_operation_37 : decode bb_Q_operation 37 = .ok (.ifCond .ne 12, 3) := by decide +kernel
theorem dd_Q_operation_40 : decode bb_Q_operation 40 = .ok (.iload_n 3, 1) := by decide +kernel
theorem dd_Q_operation_41 : decode bb_Q_operation 41 = .ok (.bipush (-4), 2) := by decide +kernel
theorem dd_Q_operation_43 : decode bb_Q_operation 43 = .ok (.iconst 3, 1) := by decide +kernel
theorem dd_Q_operation_44 : decode bb_Q_operation 44 = .ok (.invokestatic 127, 3) := by decide +kernel
theorem dd_Q_operation_47 : decode bb_Q_operation 47 = .ok (.istore 4, 2) := by decide +kernel
theorem dd_Q_operation_49 : decode bb_Q_operation 49 = .ok (.iload 4, 2) := by decide +kernel
theorem dd_Q_operation_51 : decode bb_Q_operation 51 = .ok (.ifCond .eq 28, 3) := by decide +kernel
theorem dd_Q_operation_54 : decode bb_Q_operation 54 = .ok (.iload_n 2, 1) := by decide +kernel
theorem dd_Q_operation_55 : decode bb_Q_operation 55 = .ok (.iconst 1, 1) := by decide +kernel
theorem dd_Q_operation_56 : decode bb_Q_operation 56 = .ok (.if_icmp .ne 23, 3) := by decide +kernel
theorem dd_Q_operation_59 : decode bb_Q_operation 59 = .ok (.iload_n 3, 1) := by decide +kernel
theorem dd_Q_operation_60 : decode bb_Q_operation 60 = .ok (.iconst 0, 1) := by decide +kernel
theorem dd_Q_operation_61 : decode bb_Q_operation 61 = .ok (.aload_n 0, 1) := by decide +kernel
theorem dd_Q_operation_62 : decode bb_Q_operation 62 = .ok (.getfield 17, 3) := by decide +kernel
theorem dd_Q_operation_65 : decode bb_Q_operation 65 = .ok (.aload_n 0, 1) := by decide +kernel
theorem dd_Q_operation_66 : decode bb_Q_operation 66 = .ok (.getfield 20, 3) := by decide +kernel
theorem dd_Q_operation_69 : decode bb_Q_operation 69 = .ok (.iload_n 1, 1) := by decide +kernel
theorem dd_Q_operation_70 : decode bb_Q_operation 70 = .ok (.iaload, 1) := by decide +kernel
theorem dd_Q_operation_71 : decode bb_Q_operation 71 = .ok (.iaload, 1) := by decide +kernel
theorem dd_Q_operation_72 : decode bb_Q_operation 72 = .ok (.iconst 1, 1) := by decide +kernel
theorem dd_Q_operation_73 : decode bb_Q_operation 73 = .ok (.isub, 1) := by decide +kernel
theorem dd_Q_operation_74 : decode bb_Q_operation 74 = .ok (.invokestatic 127, 3) := by decide +kernel
theorem dd_Q_operation_77 : decode bb_Q_operation 77 = .ok (.istore 4, 2) := by decide +kernel
theorem dd_Q_operation_79 : decode bb_Q_operation 79 = .ok (.iload 4, 2) := by decide +kernel
theorem dd_Q_operation_81 : decode bb_Q_operation 81 = .ok (.ifCond .eq 21, 3) := by decide +kernel
theorem dd_Q_operation_84 : decode bb_Q_operation 84 = .ok (.iload_n 2, 1) := by decide +kernel
theorem dd_Q_operation_85 : decode bb_Q_operation 85 = .ok (.iconst 4, 1) := by decide +kernel
theorem dd_Q_operation_86 : decode bb_Q_operation 86 = .ok (.if_icmp .ne 16, 3) := by decide +kernel
theorem dd_Q_operation_89 : decode bb_Q_operation 89 = .ok (.iload_n 3, 1) := by decide +kernel
theorem dd_Q_operation_90 : decode bb_Q_operation 90 = .ok (.iconst 0, 1) := by decide +kernel
theorem dd_Q_operation_91 : decode bb_Q_operation 91 = .ok (.aload_n 0, 1) := by decide +kernel
theorem dd_Q_operation_92 : decode bb_Q_operation 92 = .ok (.getfield 7, 3) := by decide +kernel
theorem dd_Q_operation_95 : decode bb_Q_operation 95 = .ok (.iconst 1, 1) := by decide +kernel
theorem dd_Q_operation_96 : decode bb_Q_operation 96 = .ok (.isub, 1) := by decide +kernel
theorem dd_Q_operation_97 : decode bb_Q_operation 97 = .ok (.invokestatic 127, 3) := by decide +kernel
theorem dd_Q_operation_100 : decode bb_Q_operation 100 = .ok (.istore 4, 2) := by decide +kernel
theorem dd_Q_operation_102 : decode bb_Q_operation 102 = .ok (.iload 4, 2) := by decide +kernel
theorem dd_Q_operation_104 : decode bb_Q_operation 104 = .ok (.ifCond .eq 21, 3) := by decide +kernel
theorem dd_Q_operation_107 : decode bb_Q_operation 107 = .ok (.iload_n 2, 1) := by decide +kernel
theorem dd_Q_operation_108 : decode bb_Q_operation 108 = .ok (.iconst 5, 1) := by decide +kernel
theorem dd_Q_operation_109 : decode bb_Q_operation 109 = .ok (.if_icmp .ne 16, 3) := by decide +kernel
theorem dd_Q_operation_112 : decode bb_Q_operation 112 = .ok (.iload_n 3, 1) := by decide +kernel
theorem dd_Q_operation_113 : decode bb_Q_operation 113 = .ok (.iconst 0, 1) := by decide +kernel
theorem dd_Q_operation_114 : decode bb_Q_operation 114 = .ok (.aload_n 0, 1) := by decide +kernel
theorem dd_Q_operation_115 : decode bb_Q_operation 115 = .ok (.getfield 135, 3) := by decide +kernel
theorem dd_Q_operation_118 : decode bb_Q_operation 118 = .ok (.iconst 1, 1) := by decide +kernel
theorem dd_Q_operation_119 : decode bb_Q_operation 119 = .ok (.isub, 1) := by decide +kernel
theorem dd_Q_operation_120 : decode bb_Q_operation 120 = .ok (.invokestatic 127, 3) := by decide +kernel
theorem dd_Q_operation_123 : decode bb_Q_operation 123 = .ok (.istore 4, 2) := by decide +kernel
theorem dd_Q_operation_125 : decode bb_Q_operation 125 = .ok (.aload_n 0, 1) := by decide +kernel
theorem dd_Q_operation_126 : decode bb_Q_operation 126 = .ok (.iload 4, 2) := by decide +kernel
theorem dd_Q_operation_128 : decode bb_Q_operation 128 = .ok (.ifCond .ne 7, 3) := by decide +kernel
theorem dd_Q_operation_131 : decode bb_Q_operation 131 = .ok (.iconst 1, 1) := by decide +kernel
theorem dd_Q_operation_132 : decode bb_Q_operation 132 = .ok (.goto 19, 3) := by decide +kernel
theorem dd_Q_operation_135 : decode bb_Q_operation 135 = .ok (.aload_n 0, 1) := by decide +kernel
theorem dd_Q_operation_136 : decode bb_Q_operation 136 = .ok (.getfield 39, 3) := by decide +kernel
theorem dd_Q_operation_139 : decode bb_Q_operation 139 = .ok (.iload_n 1, 1) := by decide +kernel
theorem dd_Q_operation_140 : decode bb_Q_operation 140 = .ok (.iaload, 1) := by decide +kernel
theorem dd_Q_operation_141 : decode bb_Q_operation 141 = .ok (.bipush 8, 2) := by decide +kernel
theorem dd_Q_operation_143 : decode bb_Q_operation 143 = .ok (.if_icmp .ne 7, 3) := by decide +kernel
theorem dd_Q_operation_146 : decode bb_Q_operation 146 = .ok (.iconst 2, 1) := by decide +kernel
theorem dd_Q_operation_147 : decode bb_Q_operation 147 = .ok (.goto 4, 3) := by decide +kernel
theorem dd_Q_operation_150 : decode bb_Q_operation 150 = .ok (.iconst 0, 1) := by decide +kernel
theorem dd_Q_operation_151 : decode bb_Q_operation 151 = .ok (.putfield 121, 3) := by decide +kernel
theorem dd_Q_operation_154 : decode bb_Q_operation 154 = .ok (.aload_n 0, 1) := by decide +kernel
theorem dd_Q_operation_155 : decode bb_Q_operation 155 = .ok (.getfield 121, 3) := by decide +kernel
theorem dd_Q_operation_158 : decode bb_Q_operation 158 = .ok (.ifCond .le 5, 3) := by decide +kernel
theorem dd_Q_operation_161 : decode bb_Q_operation 161 = .ok (.iconst 0, 1) := by decide +kernel
theorem dd_Q_operation_162 : decode bb_Q_operation 162 = .ok (.ireturn, 1) := by decide +kernel
theorem dd_Q_operation_163 : decode bb_Q_operation 163 = .ok (.aload_n 0, 1) := by decide +kernel
theorem dd_Q_operation_164 : decode bb_Q_operation 164 = .ok (.getfield 42, 3) := by decide +kernel
theorem dd_Q_operation_167 : decode bb_Q_operation 167 = .ok (.bipush 8, 2) := by decide +kernel
theorem dd_Q_operation_169 : decode bb_Q_operation 169 = .ok (.iload_n 1, 1) := by decide +kernel
theorem dd_Q_operation_170 : decode bb_Q_operation 170 = .ok (.imul, 1) := by decide +kernel
theorem dd_Q_operation_171 : decode bb_Q_operation 171 = .ok (.aload_n 0, 1) := by decide +kernel
theorem dd_Q_operation_172 : decode bb_Q_operation 172 = .ok (.getfield 39, 3) := by decide +kernel
theorem dd_Q_operation_175 : decode bb_Q_operation 175 = .ok (.iload_n 1, 1) := by decide +kernel
theorem dd_Q_operation_176 : decode bb_Q_operation 176 = .ok (.iaload, 1) := by decide +kernel
theorem dd_Q_operation_177 : decode bb_Q_operation 177 = .ok (.iadd, 1) := by decide +kernel
theorem dd_Q_operation_178 : decode bb_Q_operation 178 = .ok (.iload_n 2, 1) := by decide +kernel
theorem dd_Q_operation_179 : decode bb_Q_operation 179 = .ok (.iastore, 1) := by decide +kernel
theorem dd_Q_operation_180 : decode bb_Q_operation 180 = .ok (.aload_n 0, 1) := by decide +kernel
theorem dd_Q_operation_181 : decode bb_Q_operation 181 = .ok (.getfield 45, 3) := by decide +kernel
theorem dd_Q_operation_184 : decode bb_Q_operation 184 = .ok (.bipush 8, 2) := by decide +kernel
theorem dd_Q_operation_186 : decode bb_Q_operation 186 = .ok (.iload_n 1, 1) := by decide +kernel
theorem dd_Q_operation_187 : decode bb_Q_operation 187 = .ok (.imul, 1) := by decide +kernel
theorem dd_Q_operation_188 : decode bb_Q_operation 188 = .ok (.aload_n 0, 1) := by decide +kernel
theorem dd_Q_operation_189 : decode bb_Q_operation 189 = .ok (.getfield 39, 3) := by decide +kernel
theorem dd_Q_operation_192 : decode bb_Q_operation 192 = .ok (.iload_n 1, 1) := by decide +kernel
theorem dd_Q_operation_193 : decode bb_Q_operation 193 = .ok (.iaload, 1) := by decide +kernel
theorem dd_Q_operation_194 : decode bb_Q_operation 194 = .ok (.iadd, 1) := by decide +kernel
theorem dd_Q_operation_195 : decode bb_Q_operation 195 = .ok (.iload_n 3, 1) := by decide +kernel
theorem dd_Q_operation_196 : decode bb_Q_operation 196 = .ok (.iastore, 1) := by decide +kernel
theorem dd_Q_operation_197 : decode bb_Q_operation 197 = .ok (.aload_n 0, 1) := by decide +kernel
theorem dd_Q_operation_198 : decode bb_Q_operation 198 = .ok (.getfield 39, 3) := by decide +kernel
theorem dd_Q_operation_201 : decode bb_Q_operation 201 = .ok (.iload_n 1, 1) := by decide +kernel
theorem dd_Q_operation_202 : decode bb_Q_operation 202 = .ok (.dup2, 1) := by decide +kernel
theorem dd_Q_operation_203 : decode bb_Q_operation 203 = .ok (.iaload, 1) := by decide +kernel
theorem dd_Q_operation_204 : decode bb_Q_operation 204 = .ok (.iconst 1, 1) := by decide +kernel
theorem dd_Q_operation_205 : decode bb_Q_operation 205 = .ok (.iadd, 1) := by decide +kernel
theorem dd_Q_operation_206 : decode bb_Q_operation 206 = .ok (.iastore, 1) := by decide +kernel
theorem dd_Q_operation_207 : decode bb_Q_operation 207 = .ok (.aload_n 0, 1) := by decide +kernel
theorem dd_Q_operation_208 : decode bb_Q_operation 208 = .ok (.getfield 39, 3) := by decide +kernel
theorem dd_Q_operation_211 : decode bb_Q_operation 211 = .ok (.iload_n 1, 1) := by decide +kernel
theorem dd_Q_operation_212 : decode bb_Q_operation 212 = .ok (.iaload, 1) := by decide +kernel
theorem dd_Q_operation_213 : decode bb_Q_operation 213 = .ok (.ireturn, 1) := by decide +kernel
theorem dd_Q_partingTest_0 : decode bb_Q_partingTest 0 = .ok (.aload_n 0, 1) := by decide +kernel
theorem dd_Q_partingTest_1 : decode bb_Q_partingTest 1 = .ok (.getfield 91, 3) := by decide +kernel
theorem dd_Q_partingTest_4 : decode bb_Q_partingTest 4 = .ok (.iload_n 2, 1) := by decide +kernel
theorem dd_Q_partingTest_5 : decode bb_Q_partingTest 5 = .ok (.iaload, 1) := by decide +kernel
theorem dd_Q_partingTest_6 : decode bb_Q_partingTest 6 = .ok (.istore_n 3, 1) := by decide +kernel
theorem dd_Q_partingTest_7 : decode bb_Q_partingTest 7 = .ok (.iload_n 3, 1) := by decide +kernel
theorem dd_Q_partingTest_8 : decode bb_Q_partingTest 8 = .ok (.aload_n 0, 1) := by decide +kernel
theorem dd_Q_partingTest_9 : decode bb_Q_partingTest 9 = .ok (.getfield 69, 3) := by decide +kernel
theorem dd_Q_partingTest_12 : decode bb_Q_partingTest 12 = .ok (.iload_n 1, 1) := by decide +kernel
theorem dd_Q_partingTest_13 : decode bb_Q_partingTest 13 = .ok (.iaload, 1) := by decide +kernel
theorem dd_Q_partingTest_14 : decode bb_Q_partingTest 14 = .ok (.if_icmp .ge 122, 3) := by decide +kernel
theorem dd_Q_partingTest_17 : decode bb_Q_partingTest 17 = .ok (.iconst 0, 1) := by decide +kernel
theorem dd_Q_partingTest_18 : decode bb_Q_partingTest 18 = .ok (.istore 4, 2) := by decide +kernel
theorem dd_Q_partingTest_20 : decode bb_Q_partingTest 20 = .ok (.iconst 0, 1) := by decide +kernel
theorem dd_Q_partingTest_21 : decode bb_Q_partingTest 21 = .ok (.istore 5, 2) := by decide +kernel
theorem dd_Q_partingTest_23 : decode bb_Q_partingTest 23 = .ok (.iconst 0, 1) := by decide +kernel
theorem dd_Q_partingTest_24 : decode bb_Q_partingTest 24 = .ok (.istore 6, 2) := by decide +kernel
theorem dd_Q_partingTest_26 : decode bb_Q_partingTest 26 = .ok (.iload 6, 2) := by decide +kernel
theorem dd_Q_partingTest_28 : decode bb_Q_partingTest 28 = .ok (.aload_n 0, 1) := by decide +kernel
theorem dd_Q_partingTest_29 : decode bb_Q_partingTest 29 = .ok (.iload_n 1, 1) := by decide +kernel
theorem dd_Q_partingTest_30 : decode bb_Q_partingTest 30 = .ok (.invokevirtual 153, 3) := by decide +kernel
theorem dd_Q_partingTest_33 : decode bb_Q_partingTest 33 = .ok (.if_icmp .ge 85, 3) := by decide +kernel
theorem dd_Q_partingTest_36 : decode bb_Q_partingTest 36 = .ok (.iload 4, 2) := by decide +kernel
theorem dd_Q_partingTest_38 : decode bb_Q_partingTest 38 = .ok (.ifCond .ne 29, 3) := by decide +kernel
theorem dd_Q_partingTest_41 : decode bb_Q_partingTest 41 = .ok (.aload_n 0, 1) := by decide +kernel
theorem dd_Q_partingTest_42 : decode bb_Q_partingTest 42 = .ok (.iload_n 2, 1) := by decide +kernel
theorem dd_Q_partingTest_43 : decode bb_Q_partingTest 43 = .ok (.iload 6, 2) := by decide +kernel
theorem dd_Q_partingTest_45 : decode bb_Q_partingTest 45 = .ok (.invokevirtual 195, 3) := by decide +kernel
theorem dd_Q_partingTest_48 : decode bb_Q_partingTest 48 = .ok (.ifCond .eq 23, 3) := by decide +kernel
theorem dd_Q_partingTest_51 : decode bb_Q_partingTest 51 = .ok (.aload_n 0, 1) := by decide +kernel
theorem dd_Q_partingTest_52 : decode bb_Q_partingTest 52 = .ok (.getfield 81, 3) := by decide +kernel
theorem dd_Q_partingTest_55 : decode bb_Q_partingTest 55 = .ok (.iload 6, 2) := by decide +kernel
theorem dd_Q_partingTest_57 : decode bb_Q_partingTest 57 = .ok (.laload, 1) := by decide +kernel
theorem dd_Q_partingTest_58 : decode bb_Q_partingTest 58 = .ok (.iload_n 3, 1) := by decide +kernel
theorem dd_Q_partingTest_59 : decode bb_Q_partingTest 59 = .ok (.lshr, 1) := by decide +kernel
theorem dd_Q_partingTest_60 : decode bb_Q_partingTest 60 = .ok (.lconst 1, 1) := by decide +kernel
theorem dd_Q_partingTest_61 : decode bb_Q_partingTest 61 = .ok (.land, 1) := by decide +kernel
theorem dd_Q_partingTest_62 : decode bb_Q_partingTest 62 = .ok (.lconst 1, 1) := by decide +kernel
theorem dd_Q_partingTest_63 : decode bb_Q_partingTest 63 = .ok (.lcmp, 1) := by decide +kernel
theorem dd_Q_partingTest_64 : decode bb_Q_partingTest 64 = .ok (.ifCond .ne 7, 3) := by decide +kernel
theorem dd_Q_partingTest_67 : decode bb_Q_partingTest 67 = .ok (.iconst 1, 1) := by decide +kernel
theorem dd_Q_partingTest_68 : decode bb_Q_partingTest 68 = .ok (.goto 4, 3) := by decide +kernel
theorem dd_Q_partingTest_71 : decode bb_Q_partingTest 71 = .ok (.iconst 0, 1) := by decide +kernel
theorem dd_Q_partingTest_72 : decode bb_Q_partingTest 72 = .ok (.istore 4, 2) := by decide +kernel
theorem dd_Q_partingTest_74 : decode bb_Q_partingTest 74 = .ok (.iload 5, 2) := by decide +kernel
theorem dd_Q_partingTest_76 : decode bb_Q_partingTest 76 = .ok (.ifCond .ne 29, 3) := by decide +kernel
theorem dd_Q_partingTest_79 : decode bb_Q_partingTest 79 = .ok (.aload_n 0, 1) := by decide +kernel
theorem dd_Q_partingTest_80 : decode bb_Q_partingTest 80 = .ok (.iload_n 2, 1) := by decide +kernel
theorem dd_Q_partingTest_81 : decode bb_Q_partingTest 81 = .ok (.iload 6, 2) := by decide +kernel
theorem dd_Q_partingTest_83 : decode bb_Q_partingTest 83 = .ok (.invokevirtual 195, 3) := by decide +kernel
theorem dd_Q_partingTest_86 : decode bb_Q_partingTest 86 = .ok (.ifCond .eq 23, 3) := by decide +kernel
theorem dd_Q_partingTest_89 : decode bb_Q_partingTest 89 = .ok (.aload_n 0, 1) := by decide +kernel
theorem dd_Q_partingTest_90 : decode bb_Q_partingTest 90 = .ok (.getfield 81, 3) := by decide +kernel
theorem dd_Q_partingTest_93 : decode bb_Q_partingTest 93 = .ok (.iload 6, 2) := by decide +kernel
theorem dd_Q_partingTest_95 : decode bb_Q_partingTest 95 = .ok (.laload, 1) := by decide +kernel
theorem dd_Q_partingTest_96 : decode bb_Q_partingTest 96 = .ok (.iload_n 3, 1) := by decide +kernel
theorem dd_Q_partingTest_97 : decode bb_Q_partingTest 97 = .ok (.lshr, 1) := by decide +kernel
theorem dd_Q_partingTest_98 : decode bb_Q_partingTest 98 = .ok (.lconst 1, 1) := by decide +kernel
theorem dd_Q_partingTest_99 : decode bb_Q_partingTest 99 = .ok (.land, 1) := by decide +kernel
theorem dd_Q_partingTest_100 : decode bb_Q_partingTest 100 = .ok (.lconst 0, 1) := by decide +kernel
theorem dd_Q_partingTest_101 : decode bb_Q_partingTest 101 = .ok (.lcmp, 1) := by decide +kernel
theorem dd_Q_partingTest_102 : decode bb_Q_partingTest 102 = .ok (.ifCond .ne 7, 3) := by decide +kernel
theorem dd_Q_partingTest_105 : decode bb_Q_partingTest 105 = .ok (.iconst 1, 1) := by decide +kernel
theorem dd_Q_partingTest_106 : decode bb_Q_partingTest 106 = .ok (.goto 4, 3) := by decide +kernel
theorem dd_Q_partingTest_109 : decode bb_Q_partingTest 109 = .ok (.iconst 0, 1) := by decide +kernel
theorem dd_Q_partingTest_110 : decode bb_Q_partingTest 110 = .ok (.istore 5, 2) := by decide +kernel
theorem dd_Q_partingTest_112 : decode bb_Q_partingTest 112 = .ok (.iinc 6 1, 3) := by decide +kernel
theorem dd_Q_partingTest_115 : decode bb_Q_partingTest 115 = .ok (.goto (-89), 3) := by decide +kernel
theorem dd_Q_partingTest_118 : decode bb_Q_partingTest 118 = .ok (.iload 4, 2) := by decide +kernel
theorem dd_Q_partingTest_120 : decode bb_Q_partingTest 120 = .ok (.ifCond .eq 10, 3) := by decide +kernel
theorem dd_Q_partingTest_123 : decode bb_Q_partingTest 123 = .ok (.iload 5, 2) := by decide +kernel
theorem dd_Q_partingTest_125 : decode bb_Q_partingTest 125 = .ok (.ifCond .eq 5, 3) := by decide +kernel
theorem dd_Q_partingTest_128 : decode bb_Q_partingTest 128 = .ok (.iload_n 3, 1) := by decide +kernel
theorem dd_Q_partingTest_129 : decode bb_Q_partingTest 129 = .ok (.ireturn, 1) := by decide +kernel
theorem dd_Q_partingTest_130 : decode bb_Q_partingTest 130 = .ok (.iinc 3 1, 3) := by decide +kernel
theorem dd_Q_partingTest_133 : decode bb_Q_partingTest 133 = .ok (.goto (-126), 3) := by decide +kernel
theorem dd_Q_partingTest_136 : decode bb_Q_partingTest 136 = .ok (.iconst (-1), 1) := by decide +kernel
theorem dd_Q_partingTest_137 : decode bb_Q_partingTest 137 = .ok (.ireturn, 1) := by decide +kernel
theorem dd_Q_parts_0 : decode bb_Q_parts 0 = .ok (.iconst 0, 1) := by decide +kernel
theorem dd_Q_parts_1 : decode bb_Q_parts 1 = .ok (.istore 4, 2) := by decide +kernel
theorem dd_Q_parts_3 : decode bb_Q_parts 3 = .ok (.iload 4, 2) := by decide +kernel
theorem dd_Q_parts_5 : decode bb_Q_parts 5 = .ok (.aload_n 0, 1) := by decide +kernel
theorem dd_Q_parts_6 : decode bb_Q_parts 6 = .ok (.iload_n 1, 1) := by decide +kernel
theorem dd_Q_parts_7 : decode bb_Q_parts 7 = .ok (.invokevirtual 153, 3) := by decide +kernel
theorem dd_Q_parts_10 : decode bb_Q_parts 10 = .ok (.if_icmp .ge 45, 3) := by decide +kernel
theorem dd_Q_parts_13 : decode bb_Q_parts 13 = .ok (.aload_n 0, 1) := by decide +kernel
theorem dd_Q_parts_14 : decode bb_Q_parts 14 = .ok (.getfield 51, 3) := by decide +kernel
theorem dd_Q_parts_17 : decode bb_Q_parts 17 = .ok (.sipush 4096, 3) := by decide +kernel
theorem dd_Q_parts_20 : decode bb_Q_parts 20 = .ok (.iload_n 1, 1) := by decide +kernel
theorem dd_Q_parts_21 : decode bb_Q_parts 21 = .ok (.imul, 1) := by decide +kernel
theorem dd_Q_parts_22 : decode bb_Q_parts 22 = .ok (.iload 4, 2) := by decide +kernel
theorem dd_Q_parts_24 : decode bb_Q_parts 24 = .ok (.iadd, 1) := by decide +kernel
theorem dd_Q_parts_25 : decode bb_Q_parts 25 = .ok (.iaload, 1) := by decide +kernel
theorem dd_Q_parts_26 : decode bb_Q_parts 26 = .ok (.istore 5, 2) := by decide +kernel
theorem dd_Q_parts_28 : decode bb_Q_parts 28 = .ok (.iload 5, 2) := by decide +kernel
theorem dd_Q_parts_30 : decode bb_Q_parts 30 = .ok (.iload_n 2, 1) := by decide +kernel
theorem dd_Q_parts_31 : decode bb_Q_parts 31 = .ok (.ishr, 1) := by decide +kernel
theorem dd_Q_parts_32 : decode bb_Q_parts 32 = .ok (.iconst 1, 1) := by decide +kernel
theorem dd_Q_parts_33 : decode bb_Q_parts 33 = .ok (.iand, 1) := by decide +kernel
theorem dd_Q_parts_34 : decode bb_Q_parts 34 = .ok (.iconst 1, 1) := by decide +kernel
theorem dd_Q_parts_35 : decode bb_Q_parts 35 = .ok (.if_icmp .ne 14, 3) := by decide +kernel
theorem dd_Q_parts_38 : decode bb_Q_parts 38 = .ok (.iload 5, 2) := by decide +kernel
theorem dd_Q_parts_40 : decode bb_Q_parts 40 = .ok (.iload_n 3, 1) := by decide +kernel
theorem dd_Q_parts_41 : decode bb_Q_parts 41 = .ok (.ishr, 1) := by decide +kernel
theorem dd_Q_parts_42 : decode bb_Q_parts 42 = .ok (.iconst 1, 1) := by decide +kernel
theorem dd_Q_parts_43 : decode bb_Q_parts 43 = .ok (.iand, 1) := by decide +kernel
theorem dd_Q_parts_44 : decode bb_Q_parts 44 = .ok (.ifCond .ne 5, 3) := by decide +kernel
theorem dd_Q_parts_47 : decode bb_Q_parts 47 = .ok (.iconst 1, 1) := by decide +kernel
theorem dd_Q_parts_48 : decode bb_Q_parts 48 = .ok (.ireturn, 1) := by decide +kernel
theorem dd_Q_parts_49 : decode bb_Q_parts 49 = .ok (.iinc 4 1, 3) := by decide +kernel
theorem dd_Q_parts_52 : decode bb_Q_parts 52 = .ok (.goto (-49), 3) := by decide +kernel
theorem dd_Q_parts_55 : decode bb_Q_parts 55 = .ok (.iconst 0, 1) := by decide +kernel
theorem dd_Q_parts_56 : decode bb_Q_parts 56 = .ok (.ireturn, 1) := by decide +kernel
theorem dd_Q_perform_0 : decode bb_Q_perform 0 = .ok (.aload_n 0, 1) := by decide +kernel
theorem dd_Q_perform_1 : decode bb_Q_perform 1 = .ok (.getfield 231, 3) := by decide +kernel
theorem dd_Q_perform_4 : decode bb_Q_perform 4 = .ok (.iconst 1, 1) := by decide +kernel
theorem dd_Q_perform_5 : decode bb_Q_perform 5 = .ok (.isub, 1) := by decide +kernel
theorem dd_Q_perform_6 : decode bb_Q_perform 6 = .ok (.istore_n 1, 1) := by decide +kernel
theorem dd_Q_perform_7 : decode bb_Q_perform 7 = .ok (.aload_n 0, 1) := by decide +kernel
theorem dd_Q_perform_8 : decode bb_Q_perform 8 = .ok (.getfield 103, 3) := by decide +kernel
theorem dd_Q_perform_11 : decode bb_Q_perform 11 = .ok (.iload_n 1, 1) := by decide +kernel
theorem dd_Q_perform_12 : decode bb_Q_perform 12 = .ok (.iaload, 1) := by decide +kernel
theorem dd_Q_perform_13 : decode bb_Q_perform 13 = .ok (.istore_n 2, 1) := by decide +kernel
theorem dd_Q_perform_14 : decode bb_Q_perform 14 = .ok (.aload_n 0, 1) := by decide +kernel
theorem dd_Q_perform_15 : decode bb_Q_perform 15 = .ok (.getfield 42, 3) := by decide +kernel
theorem dd_Q_perform_18 : decode bb_Q_perform 18 = .ok (.bipush 8, 2) := by decide +kernel
theorem dd_Q_perform_20 : decode bb_Q_perform 20 = .ok (.iload_n 2, 1) := by decide +kernel
theorem dd_Q_perform_21 : decode bb_Q_perform 21 = .ok (.imul, 1) := by decide +kernel
theorem dd_Q_perform_22 : decode bb_Q_perform 22 = .ok (.aload_n 0, 1) := by decide +kernel
theorem dd_Q_perform_23 : decode bb_Q_perform 23 = .ok (.getfield 112, 3) := by decide +kernel
theorem dd_Q_perform_26 : decode bb_Q_perform 26 = .ok (.iload_n 1, 1) := by decide +kernel
theorem dd_Q_perform_27 : decode bb_Q_perform 27 = .ok (.iaload, 1) := by decide +kernel
theorem dd_Q_perform_28 : decode bb_Q_perform 28 = .ok (.iadd, 1) := by decide +kernel
theorem dd_Q_perform_29 : decode bb_Q_perform 29 = .ok (.iaload, 1) := by decide +kernel
theorem dd_Q_perform_30 : decode bb_Q_perform 30 = .ok (.istore_n 3, 1) := by decide +kernel
theorem dd_Q_perform_31 : decode bb_Q_perform 31 = .ok (.aload_n 0, 1) := by decide +kernel
theorem dd_Q_perform_32 : decode bb_Q_perform 32 = .ok (.getfield 45, 3) := by decide +kernel
theorem dd_Q_perform_35 : decode bb_Q_perform 35 = .ok (.bipush 8, 2) := by decide +kernel
theorem dd_Q_perform_37 : decode bb_Q_perform 37 = .ok (.iload_n 2, 1) := by decide +kernel
theorem dd_Q_perform_38 : decode bb_Q_perform 38 = .ok (.imul, 1) := by decide +kernel
theorem dd_Q_perform_39 : decode bb_Q_perform 39 = .ok (.aload_n 0, 1) := by decide +kernel
theorem dd_Q_perform_40 : decode bb_Q_perform 40 = .ok (.getfield 112, 3) := by decide +kernel
theorem dd_Q_perform_43 : decode bb_Q_perform 43 = .ok (.iload_n 1, 1) := by decide +kernel
theorem dd_Q_perform_44 : decode bb_Q_perform 44 = .ok (.iaload, 1) := by decide +kernel
theorem dd_Q_perform_45 : decode bb_Q_perform 45 = .ok (.iadd, 1) := by decide +kernel
theorem dd_Q_perform_46 : decode bb_Q_perform 46 = .ok (.iaload, 1) := by decide +kernel
theorem dd_Q_perform_47 : decode bb_Q_perform 47 = .ok (.istore 4, 2) := by decide +kernel
theorem dd_Q_perform_49 : decode bb_Q_perform 49 = .ok (.aload_n 0, 1) := by decide +kernel
theorem dd_Q_perform_50 : decode bb_Q_perform 50 = .ok (.getfield 112, 3) := by decide +kernel
theorem dd_Q_perform_53 : decode bb_Q_perform 53 = .ok (.iload_n 1, 1) := by decide +kernel
theorem dd_Q_perform_54 : decode bb_Q_perform 54 = .ok (.dup2, 1) := by decide +kernel
theorem dd_Q_perform_55 : decode bb_Q_perform 55 = .ok (.iaload, 1) := by decide +kernel
theorem dd_Q_perform_56 : decode bb_Q_perform 56 = .ok (.iconst 1, 1) := by decide +kernel
theorem dd_Q_perform_57 : decode bb_Q_perform 57 = .ok (.iadd, 1) := by decide +kernel
theorem dd_Q_perform_58 : decode bb_Q_perform 58 = .ok (.iastore, 1) := by decide +kernel
theorem dd_Q_perform_59 : decode bb_Q_perform 59 = .ok (.bipush 6, 2) := by decide +kernel
theorem dd_Q_perform_61 : decode bb_Q_perform 61 = .ok (.iload_n 1, 1) := by decide +kernel
theorem dd_Q_perform_62 : decode bb_Q_perform 62 = .ok (.imul, 1) := by decide +kernel
theorem dd_Q_perform_63 : decode bb_Q_perform 63 = .ok (.aload_n 0, 1) := by decide +kernel
theorem dd_Q_perform_64 : decode bb_Q_perform 64 = .ok (.getfield 115, 3) := by decide +kernel
theorem dd_Q_perform_67 : decode bb_Q_perform 67 = .ok (.iload_n 1, 1) := by decide +kernel
theorem dd_Q_perform_68 : decode bb_Q_perform 68 = .ok (.iaload, 1) := by decide +kernel
theorem dd_Q_perform_69 : decode bb_Q_perform 69 = .ok (.iadd, 1) := by decide +kernel
theorem dd_Q_perform_70 : decode bb_Q_perform 70 = .ok (.istore 5, 2) := by decide +kernel
theorem dd_Q_perform_72 : decode bb_Q_perform 72 = .ok (.iload_n 3, 1) := by decide +kernel
theorem dd_Q_perform_73 : decode bb_Q_perform 73 = .ok (.iconst 2, 1) := by decide +kernel
theorem dd_Q_perform_74 : decode bb_Q_perform 74 = .ok (.if_icmp .eq 8, 3) := by decide +kernel
theorem dd_Q_perform_77 : decode bb_Q_perform 77 = .ok (.iload_n 3, 1) := by decide +kernel
theorem dd_Q_perform_78 : decode bb_Q_perform 78 = .ok (.iconst 3, 1) := by decide +kernel
theorem dd_Q_perform_79 : decode bb_Q_perform 79 = .ok (.if_icmp .ne 7, 3) := by decide +kernel
theorem dd_Q_perform_82 : decode bb_Q_perform 82 = .ok (.iconst 2, 1) := by decide +kernel
theorem dd_Q_perform_83 : decode bb_Q_perform 83 = .ok (.goto 28, 3) := by decide +kernel
theorem dd_Q_perform_86 : decode bb_Q_perform 86 = .ok (.iload_n 3, 1) := by decide +kernel
theorem dd_Q_perform_87 : decode bb_Q_perform 87 = .ok (.iconst 4, 1) := by decide +kernel
theorem dd_Q_perform_88 : decode bb_Q_perform 88 = .ok (.if_icmp .ne 7, 3) := by decide +kernel
theorem dd_Q_perform_91 : decode bb_Q_perform 91 = .ok (.iconst 1, 1) := by decide +kernel
theorem dd_Q_perform_92 : decode bb_Q_perform 92 = .ok (.goto 19, 3) := by decide +kernel
theorem dd_Q_perform_95 : decode bb_Q_perform 95 = .ok (.iload_n 3, 1) := by decide +kernel
theorem dd_Q_perform_96 : decode bb_Q_perform 96 = .ok (.iconst 5, 1) := by decide +kernel
theorem dd_Q_perform_97 : decode bb_Q_perform 97 = .ok (.if_icmp .ne 13, 3) := by decide +kernel
theorem dd_Q_perform_100 : decode bb_Q_perform 100 = .ok (.aload_n 0, 1) := by decide +kernel
theorem dd_Q_perform_101 : decode bb_Q_perform 101 = .ok (.getfield 17, 3) := by decide +kernel
theorem dd_Q_perform_104 : decode bb_Q_perform 104 = .ok (.iload 4, 2) := by decide +kernel
theorem dd_Q_perform_106 : decode bb_Q_perform 106 = .ok (.iaload, 1) := by decide +kernel
theorem dd_Q_perform_107 : decode bb_Q_perform 107 = .ok (.goto 4, 3) := by decide +kernel
theorem dd_Q_perform_110 : decode bb_Q_perform 110 = .ok (.iconst 0, 1) := by decide +kernel
theorem dd_Q_perform_111 : decode bb_Q_perform 111 = .ok (.istore 6, 2) := by decide +kernel
theorem dd_Q_perform_113 : decode bb_Q_perform 113 = .ok (.aload_n 0, 1) := by decide +kernel
theorem dd_Q_perform_114 : decode bb_Q_perform 114 = .ok (.getfield 115, 3) := by decide +kernel
theorem dd_Q_perform_117 : decode bb_Q_perform 117 = .ok (.iload_n 1, 1) := by decide +kernel
theorem dd_Q_perform_118 : decode bb_Q_perform 118 = .ok (.iaload, 1) := by decide +kernel
theorem dd_Q_perform_119 : decode bb_Q_perform 119 = .ok (.iload 6, 2) := by decide +kernel
theorem dd_Q_perform_121 : decode bb_Q_perform 121 = .ok (.if_icmp .ge 12, 3) := by decide +kernel
theorem dd_Q_perform_124 : decode bb_Q_perform 124 = .ok (.aload_n 0, 1) := by decide +kernel
theorem dd_Q_perform_125 : decode bb_Q_perform 125 = .ok (.bipush (-4), 2) := by decide +kernel
theorem dd_Q_perform_127 : decode bb_Q_perform 127 = .ok (.putfield 228, 3) := by decide +kernel
theorem dd_Q_perform_130 : decode bb_Q_perform 130 = .ok (.goto 261, 3) := by decide +kernel
theorem dd_Q_perform_133 : decode bb_Q_perform 133 = .ok (.iload_n 3, 1) := by decide +kernel
theorem dd_Q_perform_134 : decode bb_Q_perform 134 = .ok (.ifCond .ne 18, 3) := by decide +kernel
theorem dd_Q_perform_137 : decode bb_Q_perform 137 = .ok (.aload_n 0, 1) := by decide +kernel
theorem dd_Q_perform_138 : decode bb_Q_perform 138 = .ok (.iload_n 1, 1) := by decide +kernel
theorem dd_Q_perform_139 : decode bb_Q_perform 139 = .ok (.iload 4, 2) := by decide +kernel
theorem dd_Q_perform_141 : decode bb_Q_perform 141 = .ok (.iconst 4, 1) := by decide +kernel
theorem dd_Q_perform_142 : decode bb_Q_perform 142 = .ok (.iadd, 1) := by decide +kernel
theorem dd_Q_perform_143 : decode bb_Q_perform 143 = .ok (.bipush 8, 2) := by decide +kernel
theorem dd_Q_perform_145 : decode bb_Q_perform 145 = .ok (.irem, 1) := by decide +kernel
theorem dd_Q_perform_146 : decode bb_Q_perform 146 = .ok (.invokevirtual 241, 3) := by decide +kernel
theorem dd_Q_perform_149 : decode bb_Q_perform 149 = .ok (.goto 242, 3) := by decide +kernel
theorem dd_Q_perform_152 : decode bb_Q_perform 152 = .ok (.iload_n 3, 1) := by decide +kernel
theorem dd_Q_perform_153 : decode bb_Q_perform 153 = .ok (.iconst 1, 1) := by decide +kernel
theorem dd_Q_perform_154 : decode bb_Q_perform 154 = .ok (.if_icmp .ne 31, 3) := by decide +kernel
theorem dd_Q_perform_157 : decode bb_Q_perform 157 = .ok (.aload_n 0, 1) := by decide +kernel
theorem dd_Q_perform_158 : decode bb_Q_perform 158 = .ok (.iload_n 1, 1) := by decide +kernel
theorem dd_Q_perform_159 : decode bb_Q_perform 159 = .ok (.iload 4, 2) := by decide +kernel
theorem dd_Q_perform_161 : decode bb_Q_perform 161 = .ok (.ifCond .ne 12, 3) := by decide +kernel
theorem dd_Q_perform_164 : decode bb_Q_perform 164 = .ok (.aload_n 0, 1) := by decide +kernel
theorem dd_Q_perform_165 : decode bb_Q_perform 165 = .ok (.getfield 106, 3) := by decide +kernel
theorem dd_Q_perform_168 : decode bb_Q_perform 168 = .ok (.iload_n 1, 1) := by decide +kernel
theorem dd_Q_perform_169 : decode bb_Q_perform 169 = .ok (.iaload, 1) := by decide +kernel
theorem dd_Q_perform_170 : decode bb_Q_perform 170 = .ok (.goto 9, 3) := by decide +kernel
theorem dd_Q_perform_173 : decode bb_Q_perform 173 = .ok (.aload_n 0, 1) := by decide +kernel
theorem dd_Q_perform_174 : decode bb_Q_perform 174 = .ok (.getfield 109, 3) := by decide +kernel
theorem dd_Q_perform_177 : decode bb_Q_perform 177 = .ok (.iload_n 1, 1) := by decide +kernel
theorem dd_Q_perform_178 : decode bb_Q_perform 178 = .ok (.iaload, 1) := by decide +kernel
theorem dd_Q_perform_179 : decode bb_Q_perform 179 = .ok (.invokevirtual 241, 3) := by decide +kernel
theorem dd_Q_perform_182 : decode bb_Q_perform 182 = .ok (.goto 209, 3) := by decide +kernel
theorem dd_Q_perform_185 : decode bb_Q_perform 185 = .ok (.iload_n 3, 1) := by decide +kernel
theorem dd_Q_perform_186 : decode bb_Q_perform 186 = .ok (.iconst 4, 1) := by decide +kernel
theorem dd_Q_perform_187 : decode bb_Q_perform 187 = .ok (.if_icmp .ge 97, 3) := by decide +kernel
theorem dd_Q_perform_190 : decode bb_Q_perform 190 = .ok (.aload_n 0, 1) := by decide +kernel
theorem dd_Q_perform_191 : decode bb_Q_perform 191 = .ok (.getfield 118, 3) := by decide +kernel
theorem dd_Q_perform_194 : decode bb_Q_perform 194 = .ok (.iload 5, 2) := by decide +kernel
theorem dd_Q_perform_196 : decode bb_Q_perform 196 = .ok (.iconst 2, 1) := by decide +kernel
theorem dd_Q_perform_197 : decode bb_Q_perform 197 = .ok (.isub, 1) := by decide +kernel
theorem dd_Q_perform_198 : decode bb_Q_perform 198 = .ok (.iaload, 1) := by decide +kernel
theorem dd_Q_perform_199 : decode bb_Q_perform 199 = .ok (.bipush 8, 2) := by decide +kernel
theorem dd_Q_perform_201 : decode bb_Q_perform 201 = .ok (.irem, 1) := by decide +kernel
theorem dd_Q_perform_202 : decode bb_Q_perform 202 = .ok (.iconst 4, 1) := by decide +kernel
theorem dd_Q_perform_203 : decode bb_Q_perform 203 = .ok (.isub, 1) := by decide +kernel
theorem dd_Q_perform_204 : decode bb_Q_perform 204 = .ok (.istore 7, 2) := by decide +kernel
theorem dd_Q_perform_206 : decode bb_Q_perform 206 = .ok (.aload_n 0, 1) := by decide +kernel
theorem dd_Q_perform_207 : decode bb_Q_perform 207 = .ok (.getfield 118, 3) := by decide +kernel
theorem dd_Q_perform_210 : decode bb_Q_perform 210 = .ok (.iload 5, 2) := by decide +kernel
theorem dd_Q_perform_212 : decode bb_Q_perform 212 = .ok (.iconst 1, 1) := by decide +kernel
theorem dd_Q_perform_213 : decode bb_Q_perform 213 = .ok (.isub, 1) := by decide +kernel
theorem dd_Q_perform_214 : decode bb_Q_perform 214 = .ok (.iaload, 1) := by decide +kernel
theorem dd_Q_perform_215 : decode bb_Q_perform 215 = .ok (.bipush 8, 2) := by decide +kernel
theorem dd_Q_perform_217 : decode bb_Q_perform 217 = .ok (.irem, 1) := by decide +kernel
theorem dd_Q_perform_218 : decode bb_Q_perform 218 = .ok (.iconst 4, 1) := by decide +kernel
theorem dd_Q_perform_219 : decode bb_Q_perform 219 = .ok (.isub, 1) := by decide +kernel
theorem dd_Q_perform_220 : decode bb_Q_perform 220 = .ok (.istore 8, 2) := by decide +kernel
theorem dd_Q_perform_222 : decode bb_Q_perform 222 = .ok (.aload_n 0, 1) := by decide +kernel
theorem dd_Q_perform_223 : decode bb_Q_perform 223 = .ok (.getfield 118, 3) := by decide +kernel
theorem dd_Q_perform_226 : decode bb_Q_perform 226 = .ok (.iload 5, 2) := by decide +kernel
theorem dd_Q_perform_228 : decode bb_Q_perform 228 = .ok (.iconst 2, 1) := by decide +kernel
theorem dd_Q_perform_229 : decode bb_Q_perform 229 = .ok (.isub, 1) := by decide +kernel
theorem dd_Q_perform_230 : decode bb_Q_perform 230 = .ok (.aload_n 0, 1) := by decide +kernel
theorem dd_Q_perform_231 : decode bb_Q_perform 231 = .ok (.getfield 118, 3) := by decide +kernel
theorem dd_Q_perform_234 : decode bb_Q_perform 234 = .ok (.iload 5, 2) := by decide +kernel
theorem dd_Q_perform_236 : decode bb_Q_perform 236 = .ok (.iconst 2, 1) := by decide +kernel
theorem dd_Q_perform_237 : decode bb_Q_perform 237 = .ok (.isub, 1) := by decide +kernel
theorem dd_Q_perform_238 : decode bb_Q_perform 238 = .ok (.iaload, 1) := by decide +kernel
theorem dd_Q_perform_239 : decode bb_Q_perform 239 = .ok (.bipush 8, 2) := by decide +kernel
theorem dd_Q_perform_241 : decode bb_Q_perform 241 = .ok (.idiv, 1) := by decide +kernel
theorem dd_Q_perform_242 : decode bb_Q_perform 242 = .ok (.bipush 8, 2) := by decide +kernel
theorem dd_Q_perform_244 : decode bb_Q_perform 244 = .ok (.imul, 1) := by decide +kernel
theorem dd_Q_perform_245 : decode bb_Q_perform 245 = .ok (.iload_n 3, 1) := by decide +kernel
theorem dd_Q_perform_246 : decode bb_Q_perform 246 = .ok (.iconst 2, 1) := by decide +kernel
theorem dd_Q_perform_247 : decode bb_Q_perform 247 = .ok (.if_icmp .ne 11, 3) := by decide +kernel
theorem dd_Q_perform_250 : decode bb_Q_perform 250 = .ok (.iload 7, 2) := by decide +kernel
theorem dd_Q_perform_252 : decode bb_Q_perform 252 = .ok (.iload 8, 2) := by decide +kernel
theorem dd_Q_perform_254 : decode bb_Q_perform 254 = .ok (.iadd, 1) := by decide +kernel
theorem dd_Q_perform_255 : decode bb_Q_perform 255 = .ok (.goto 8, 3) := by decide +kernel
theorem dd_Q_perform_258 : decode bb_Q_perform 258 = .ok (.iload 7, 2) := by decide +kernel
theorem dd_Q_perform_260 : decode bb_Q_perform 260 = .ok (.iload 8, 2) := by decide +kernel
theorem dd_Q_perform_262 : decode bb_Q_perform 262 = .ok (.imul, 1) := by decide +kernel
theorem dd_Q_perform_263 : decode bb_Q_perform 263 = .ok (.bipush 36, 2) := by decide +kernel
theorem dd_Q_perform_265 : decode bb_Q_perform 265 = .ok (.iadd, 1) := by decide +kernel
theorem dd_Q_perform_266 : decode bb_Q_perform 266 = .ok (.bipush 8, 2) := by decide +kernel
theorem dd_Q_perform_268 : decode bb_Q_perform 268 = .ok (.irem, 1) := by decide +kernel
theorem dd_Q_perform_269 : decode bb_Q_perform 269 = .ok (.iadd, 1) := by decide +kernel
theorem dd_Q_perform_270 : decode bb_Q_perform 270 = .ok (.iastore, 1) := by decide +kernel
theorem dd_Q_perform_271 : decode bb_Q_perform 271 = .ok (.aload_n 0, 1) := by decide +kernel
theorem dd_Q_perform_272 : decode bb_Q_perform 272 = .ok (.getfield 115, 3) := by decide +kernel
theorem dd_Q_perform_275 : decode bb_Q_perform 275 = .ok (.iload_n 1, 1) := by decide +kernel
theorem dd_Q_perform_276 : decode bb_Q_perform 276 = .ok (.dup2, 1) := by decide +kernel
theorem dd_Q_perform_277 : decode bb_Q_perform 277 = .ok (.iaload, 1) := by decide +kernel
theorem dd_Q_perform_278 : decode bb_Q_perform 278 = .ok (.iconst 1, 1) := by decide +kernel
theorem dd_Q_perform_279 : decode bb_Q_perform 279 = .ok (.isub, 1) := by decide +kernel
theorem dd_Q_perform_280 : decode bb_Q_perform 280 = .ok (.iastore, 1) := by decide +kernel
theorem dd_Q_perform_281 : decode bb_Q_perform 281 = .ok (.goto 110, 3) := by decide +kernel
theorem dd_Q_perform_284 : decode bb_Q_perform 284 = .ok (.iload_n 3, 1) := by decide +kernel
theorem dd_Q_perform_285 : decode bb_Q_perform 285 = .ok (.iconst 4, 1) := by decide +kernel
theorem dd_Q_perform_286 : decode bb_Q_perform 286 = .ok (.if_icmp .ne 33, 3) := by decide +kernel
theorem dd_Q_perform_289 : decode bb_Q_perform 289 = .ok (.aload_n 0, 1) := by decide +kernel
theorem dd_Q_perform_290 : decode bb_Q_perform 290 = .ok (.getfield 118, 3) := by decide +kernel
theorem dd_Q_perform_293 : decode bb_Q_perform 293 = .ok (.iload 5, 2) := by decide +kernel
theorem dd_Q_perform_295 : decode bb_Q_perform 295 = .ok (.iconst 1, 1) := by decide +kernel
theorem dd_Q_perform_296 : decode bb_Q_perform 296 = .ok (.isub, 1) := by decide +kernel
theorem dd_Q_perform_297 : decode bb_Q_perform 297 = .ok (.bipush 8, 2) := by decide +kernel
theorem dd_Q_perform_299 : decode bb_Q_perform 299 = .ok (.iload 4, 2) := by decide +kernel
theorem dd_Q_perform_301 : decode bb_Q_perform 301 = .ok (.imul, 1) := by decide +kernel
theorem dd_Q_perform_302 : decode bb_Q_perform 302 = .ok (.aload_n 0, 1) := by decide +kernel
theorem dd_Q_perform_303 : decode bb_Q_perform 303 = .ok (.getfield 118, 3) := by decide +kernel
theorem dd_Q_perform_306 : decode bb_Q_perform 306 = .ok (.iload 5, 2) := by decide +kernel
theorem dd_Q_perform_308 : decode bb_Q_perform 308 = .ok (.iconst 1, 1) := by decide +kernel
theorem dd_Q_perform_309 : decode bb_Q_perform 309 = .ok (.isub, 1) := by decide +kernel
theorem dd_Q_perform_310 : decode bb_Q_perform 310 = .ok (.iaload, 1) := by decide +kernel
theorem dd_Q_perform_311 : decode bb_Q_perform 311 = .ok (.bipush 8, 2) := by decide +kernel
theorem dd_Q_perform_313 : decode bb_Q_perform 313 = .ok (.irem, 1) := by decide +kernel
theorem dd_Q_perform_314 : decode bb_Q_perform 314 = .ok (.iadd, 1) := by decide +kernel
theorem dd_Q_perform_315 : decode bb_Q_perform 315 = .ok (.iastore, 1) := by decide +kernel
theorem dd_Q_perform_316 : decode bb_Q_perform 316 = .ok (.goto 75, 3) := by decide +kernel
theorem dd_Q_perform_319 : decode bb_Q_perform 319 = .ok (.iload_n 3, 1) := by decide +kernel
theorem dd_Q_perform_320 : decode bb_Q_perform 320 = .ok (.iconst 5, 1) := by decide +kernel
theorem dd_Q_perform_321 : decode bb_Q_perform 321 = .ok (.if_icmp .ne 47, 3) := by decide +kernel
theorem dd_Q_perform_324 : decode bb_Q_perform 324 = .ok (.aload_n 0, 1) := by decide +kernel
theorem dd_Q_perform_325 : decode bb_Q_perform 325 = .ok (.getfield 115, 3) := by decide +kernel
theorem dd_Q_perform_328 : decode bb_Q_perform 328 = .ok (.iload_n 1, 1) := by decide +kernel
theorem dd_Q_perform_329 : decode bb_Q_perform 329 = .ok (.aload_n 0, 1) := by decide +kernel
theorem dd_Q_perform_330 : decode bb_Q_perform 330 = .ok (.getfield 115, 3) := by decide +kernel
theorem dd_Q_perform_333 : decode bb_Q_perform 333 = .ok (.iload_n 1, 1) := by decide +kernel
theorem dd_Q_perform_334 : decode bb_Q_perform 334 = .ok (.iaload, 1) := by decide +kernel
theorem dd_Q_perform_335 : decode bb_Q_perform 335 = .ok (.iload 6, 2) := by decide +kernel
theorem dd_Q_perform_337 : decode bb_Q_perform 337 = .ok (.isub, 1) := by decide +kernel
theorem dd_Q_perform_338 : decode bb_Q_perform 338 = .ok (.iastore, 1) := by decide +kernel
theorem dd_Q_perform_339 : decode bb_Q_perform 339 = .ok (.aload_n 0, 1) := by decide +kernel
theorem dd_Q_perform_340 : decode bb_Q_perform 340 = .ok (.iload 4, 2) := by decide +kernel
theorem dd_Q_perform_342 : decode bb_Q_perform 342 = .ok (.iconst (-1), 1) := by decide +kernel
theorem dd_Q_perform_343 : decode bb_Q_perform 343 = .ok (.aload_n 0, 1) := by decide +kernel
theorem dd_Q_perform_344 : decode bb_Q_perform 344 = .ok (.getfield 118, 3) := by decide +kernel
theorem dd_Q_perform_347 : decode bb_Q_perform 347 = .ok (.iload 5, 2) := by decide +kernel
theorem dd_Q_perform_349 : decode bb_Q_perform 349 = .ok (.iload 6, 2) := by decide +kernel
theorem dd_Q_perform_351 : decode bb_Q_perform 351 = .ok (.isub, 1) := by decide +kernel
theorem dd_Q_perform_352 : decode bb_Q_perform 352 = .ok (.iaload, 1) := by decide +kernel
theorem dd_Q_perform_353 : decode bb_Q_perform 353 = .ok (.aload_n 0, 1) := by decide +kernel
theorem dd_Q_perform_354 : decode bb_Q_perform 354 = .ok (.getfield 118, 3) := by decide +kernel
theorem dd_Q_perform_357 : decode bb_Q_perform 357 = .ok (.iload 5, 2) := by decide +kernel
theorem dd_Q_perform_359 : decode bb_Q_perform 359 = .ok (.iconst 1, 1) := by decide +kernel
theorem dd_Q_perform_360 : decode bb_Q_perform 360 = .ok (.isub, 1) := by decide +kernel
theorem dd_Q_perform_361 : decode bb_Q_perform 361 = .ok (.iaload, 1) := by decide +kernel
theorem dd_Q_perform_362 : decode bb_Q_perform 362 = .ok (.invokevirtual 245, 3) := by decide +kernel
theorem dd_Q_perform_365 : decode bb_Q_perform 365 = .ok (.goto 26, 3) := by decide +kernel
theorem dd_Q_perform_368 : decode bb_Q_perform 368 = .ok (.aload_n 0, 1) := by decide +kernel
theorem dd_Q_perform_369 : decode bb_Q_perform 369 = .ok (.aload_n 0, 1) := by decide +kernel
theorem dd_Q_perform_370 : decode bb_Q_perform 370 = .ok (.getfield 20, 3) := by decide +kernel
theorem dd_Q_perform_373 : decode bb_Q_perform 373 = .ok (.iload_n 2, 1) := by decide +kernel
theorem dd_Q_perform_374 : decode bb_Q_perform 374 = .ok (.iaload, 1) := by decide +kernel
theorem dd_Q_perform_375 : decode bb_Q_perform 375 = .ok (.iload_n 2, 1) := by decide +kernel
theorem dd_Q_perform_376 : decode bb_Q_perform 376 = .ok (.aload_n 0, 1) := by decide +kernel
theorem dd_Q_perform_377 : decode bb_Q_perform 377 = .ok (.getfield 106, 3) := by decide +kernel
theorem dd_Q_perform_380 : decode bb_Q_perform 380 = .ok (.iload_n 1, 1) := by decide +kernel
theorem dd_Q_perform_381 : decode bb_Q_perform 381 = .ok (.iaload, 1) := by decide +kernel
theorem dd_Q_perform_382 : decode bb_Q_perform 382 = .ok (.aload_n 0, 1) := by decide +kernel
theorem dd_Q_perform_383 : decode bb_Q_perform 383 = .ok (.getfield 109, 3) := by decide +kernel
theorem dd_Q_perform_386 : decode bb_Q_perform 386 = .ok (.iload_n 1, 1) := by decide +kernel
theorem dd_Q_perform_387 : decode bb_Q_perform 387 = .ok (.iaload, 1) := by decide +kernel
theorem dd_Q_perform_388 : decode bb_Q_perform 388 = .ok (.invokevirtual 245, 3) := by decide +kernel
theorem dd_Q_perform_391 : decode bb_Q_perform 391 = .ok (.return_, 1) := by decide +kernel
theorem dd_Q_push_0 : decode bb_Q_push 0 = .ok (.aload_n 0, 1) := by decide +kernel
theorem dd_Q_push_1 : decode bb_Q_push 1 = .ok (.getfield 115, 3) := by decide +kernel
theorem dd_Q_push_4 : decode bb_Q_push 4 = .ok (.iload_n 1, 1) := by decide +kernel
theorem dd_Q_push_5 : decode bb_Q_push 5 = .ok (.iaload, 1) := by decide +kernel
theorem dd_Q_push_6 : decode bb_Q_push 6 = .ok (.bipush 6, 2) := by decide +kernel
theorem dd_Q_push_8 : decode bb_Q_push 8 = .ok (.if_icmp .ne 10, 3) := by decide +kernel
theorem dd_Q_push_11 : decode bb_Q_push 11 = .ok (.aload_n 0, 1) := by decide +kernel
theorem dd_Q_push_12 : decode bb_Q_push 12 = .ok (.bipush (-4), 2) := by decide +kernel
theorem dd_Q_push_14 : decode bb_Q_push 14 = .ok (.putfield 228, 3) := by decide +kernel
theorem dd_Q_push_17 : decode bb_Q_push 17 = .ok (.return_, 1) := by decide +kernel
theorem dd_Q_push_18 : decode bb_Q_push 18 = .ok (.aload_n 0, 1) := by decide +kernel
theorem dd_Q_push_19 : decode bb_Q_push 19 = .ok (.getfield 118, 3) := by decide +kernel
theorem dd_Q_push_22 : decode bb_Q_push 22 = .ok (.bipush 6, 2) := by decide +kernel
theorem dd_Q_push_24 : decode bb_Q_push 24 = .ok (.iload_n 1, 1) := by decide +kernel
theorem dd_Q_push_25 : decode bb_Q_push 25 = .ok (.imul, 1) := by decide +kernel
theorem dd_Q_push_26 : decode bb_Q_push 26 = .ok (.aload_n 0, 1) := by decide +kernel
theorem dd_Q_push_27 : decode bb_Q_push 27 = .ok (.getfield 115, 3) := by decide +kernel
theorem dd_Q_push_30 : decode bb_Q_push 30 = .ok (.iload_n 1, 1) := by decide +kernel
theorem dd_Q_push_31 : decode bb_Q_push 31 = .ok (.iaload, 1) := by decide +kernel
theorem dd_Q_push_32 : decode bb_Q_push 32 = .ok (.iadd, 1) := by decide +kernel
theorem dd_Q_push_33 : decode bb_Q_push 33 = .ok (.iload_n 2, 1) := by decide +kernel
theorem dd_Q_push_34 : decode bb_Q_push 34 = .ok (.iastore, 1) := by decide +kernel
theorem dd_Q_push_35 : decode bb_Q_push 35 = .ok (.aload_n 0, 1) := by decide +kernel
theorem dd_Q_push_36 : decode bb_Q_push 36 = .ok (.getfield 115, 3) := by decide +kernel
theorem dd_Q_push_39 : decode bb_Q_push 39 = .ok (.iload_n 1, 1) := by decide +kernel
theorem dd_Q_push_40 : decode bb_Q_push 40 = .ok (.dup2, 1) := by decide +kernel
theorem dd_Q_push_41 : decode bb_Q_push 41 = .ok (.iaload, 1) := by decide +kernel
theorem dd_Q_push_42 : decode bb_Q_push 42 = .ok (.iconst 1, 1) := by decide +kernel
theorem dd_Q_push_43 : decode bb_Q_push 43 = .ok (.iadd, 1) := by decide +kernel
theorem dd_Q_push_44 : decode bb_Q_push 44 = .ok (.iastore, 1) := by decide +kernel
theorem dd_Q_push_45 : decode bb_Q_push 45 = .ok (.return_, 1) := by decide +kernel
theorem dd_Q_row_0 : decode bb_Q_row 0 = .ok (.aload_n 0, 1) := by decide +kernel
theorem dd_Q_row_1 : decode bb_Q_row 1 = .ok (.getfield 17, 3) := by decide +kernel
theorem dd_Q_row_4 : decode bb_Q_row 4 = .ok (.iload_n 1, 1) := by decide +kernel
theorem dd_Q_row_5 : decode bb_Q_row 5 = .ok (.iaload, 1) := by decide +kernel
theorem dd_Q_row_6 : decode bb_Q_row 6 = .ok (.iconst 1, 1) := by decide +kernel
theorem dd_Q_row_7 : decode bb_Q_row 7 = .ok (.if_icmp .ne 7, 3) := by decide +kernel
theorem dd_Q_row_10 : decode bb_Q_row 10 = .ok (.iload_n 2, 1) := by decide +kernel
theorem dd_Q_row_11 : decode bb_Q_row 11 = .ok (.goto 11, 3) := by decide +kernel
theorem dd_Q_row_14 : decode bb_Q_row 14 = .ok (.iload_n 2, 1) := by decide +kernel
theorem dd_Q_row_15 : decode bb_Q_row 15 = .ok (.aload_n 0, 1) := by decide +kernel
theorem dd_Q_row_16 : decode bb_Q_row 16 = .ok (.invokevirtual 141, 3) := by decide +kernel
theorem dd_Q_row_19 : decode bb_Q_row 19 = .ok (.imul, 1) := by decide +kernel
theorem dd_Q_row_20 : decode bb_Q_row 20 = .ok (.iload_n 3, 1) := by decide +kernel
theorem dd_Q_row_21 : decode bb_Q_row 21 = .ok (.iadd, 1) := by decide +kernel
theorem dd_Q_row_22 : decode bb_Q_row 22 = .ok (.ireturn, 1) := by decide +kernel
theorem dd_Q_rows_0 : decode bb_Q_rows 0 = .ok (.aload_n 0, 1) := by decide +kernel
theorem dd_Q_rows_1 : decode bb_Q_rows 1 = .ok (.getfield 17, 3) := by decide +kernel
theorem dd_Q_rows_4 : decode bb_Q_rows 4 = .ok (.iload_n 1, 1) := by decide +kernel
theorem dd_Q_rows_5 : decode bb_Q_rows 5 = .ok (.iaload, 1) := by decide +kernel
theorem dd_Q_rows_6 : decode bb_Q_rows 6 = .ok (.iconst 1, 1) := by decide +kernel
theorem dd_Q_rows_7 : decode bb_Q_rows 7 = .ok (.if_icmp .ne 10, 3) := by decide +kernel
theorem dd_Q_rows_10 : decode bb_Q_rows 10 = .ok (.aload_n 0, 1) := by decide +kernel
theorem dd_Q_rows_11 : decode bb_Q_rows 11 = .ok (.invokevirtual 141, 3) := by decide +kernel
theorem dd_Q_rows_14 : decode bb_Q_rows 14 = .ok (.goto 12, 3) := by decide +kernel
theorem dd_Q_rows_17 : decode bb_Q_rows 17 = .ok (.aload_n 0, 1) := by decide +kernel
theorem dd_Q_rows_18 : decode bb_Q_rows 18 = .ok (.invokevirtual 141, 3) := by decide +kernel
theorem dd_Q_rows_21 : decode bb_Q_rows 21 = .ok (.aload_n 0, 1) := by decide +kernel
theorem dd_Q_rows_22 : decode bb_Q_rows 22 = .ok (.invokevirtual 141, 3) := by decide +kernel
theorem dd_Q_rows_25 : decode bb_Q_rows 25 = .ok (.imul, 1) := by decide +kernel
theorem dd_Q_rows_26 : decode bb_Q_rows 26 = .ok (.ireturn, 1) := by decide +kernel
theorem dd_Q_run_0 : decode bb_Q_run 0 = .ok (.iload_n 1, 1) := by decide +kernel
theorem dd_Q_run_1 : decode bb_Q_run 1 = .ok (.iconst 0, 1) := by decide +kernel
theorem dd_Q_run_2 : decode bb_Q_run 2 = .ok (.aload_n 0, 1) := by decide +kernel
theorem dd_Q_run_3 : decode bb_Q_run 3 = .ok (.getfield 135, 3) := by decide +kernel
theorem dd_Q_run_6 : decode bb_Q_run 6 = .ok (.iconst 1, 1) := by decide +kernel
theorem dd_Q_run_7 : decode bb_Q_run 7 = .ok (.isub, 1) := by decide +kernel
theorem dd_Q_run_8 : decode bb_Q_run 8 = .ok (.invokestatic 127, 3) := by decide +kernel
theorem dd_Q_run_11 : decode bb_Q_run 11 = .ok (.ifCond .eq 19, 3) := by decide +kernel
theorem dd_Q_run_14 : decode bb_Q_run 14 = .ok (.iload 4, 2) := by decide +kernel
theorem dd_Q_run_16 : decode bb_Q_run 16 = .ok (.iconst 0, 1) := by decide +kernel
theorem dd_Q_run_17 : decode bb_Q_run 17 = .ok (.sipush 200, 3) := by decide +kernel
theorem dd_Q_run_20 : decode bb_Q_run 20 = .ok (.invokestatic 127, 3) := by decide +kernel
theorem dd_Q_run_23 : decode bb_Q_run 23 = .ok (.ifCond .eq 7, 3) := by decide +kernel
theorem dd_Q_run_26 : decode bb_Q_run 26 = .ok (.iconst 1, 1) := by decide +kernel
theorem dd_Q_run_27 : decode bb_Q_run 27 = .ok (.goto 4, 3) := by decide +kernel
theorem dd_Q_run_30 : decode bb_Q_run 30 = .ok (.iconst 0, 1) := by decide +kernel
theorem dd_Q_run_31 : decode bb_Q_run 31 = .ok (.istore 5, 2) := by decide +kernel
theorem dd_Q_run_33 : decode bb_Q_run 33 = .ok (.aload_n 0, 1) := by decide +kernel
theorem dd_Q_run_34 : decode bb_Q_run 34 = .ok (.iload 5, 2) := by decide +kernel
theorem dd_Q_run_36 : decode bb_Q_run 36 = .ok (.ifCond .eq 17, 3) := by decide +kernel
theorem dd_Q_run_39 : decode bb_Q_run 39 = .ok (.aload_n 0, 1) := by decide +kernel
theorem dd_Q_run_40 : decode bb_Q_run 40 = .ok (.iload_n 1, 1) := by decide +kernel
theorem dd_Q_run_41 : decode bb_Q_run 41 = .ok (.iload_n 2, 1) := by decide +kernel
theorem dd_Q_run_42 : decode bb_Q_run 42 = .ok (.iload_n 3, 1) := by decide +kernel
theorem dd_Q_run_43 : decode bb_Q_run 43 = .ok (.invokevirtual 176, 3) := by decide +kernel
theorem dd_Q_run_46 : decode bb_Q_run 46 = .ok (.ifCond .eq 7, 3) := by decide +kernel
theorem dd_Q_run_49 : decode bb_Q_run 49 = .ok (.iconst 0, 1) := by decide +kernel
theorem dd_Q_run_50 : decode bb_Q_run 50 = .ok (.goto 4, 3) := by decide +kernel
theorem dd_Q_run_53 : decode bb_Q_run 53 = .ok (.iconst 1, 1) := by decide +kernel
theorem dd_Q_run_54 : decode bb_Q_run 54 = .ok (.putfield 121, 3) := by decide +kernel
theorem dd_Q_run_57 : decode bb_Q_run 57 = .ok (.aload_n 0, 1) := by decide +kernel
theorem dd_Q_run_58 : decode bb_Q_run 58 = .ok (.getfield 121, 3) := by decide +kernel
theorem dd_Q_run_61 : decode bb_Q_run 61 = .ok (.ifCond .le 5, 3) := by decide +kernel
theorem dd_Q_run_64 : decode bb_Q_run 64 = .ok (.iconst 0, 1) := by decide +kernel
theorem dd_Q_run_65 : decode bb_Q_run 65 = .ok (.ireturn, 1) := by decide +kernel
theorem dd_Q_run_66 : decode bb_Q_run 66 = .ok (.aload_n 0, 1) := by decide +kernel
theorem dd_Q_run_67 : decode bb_Q_run 67 = .ok (.iload 4, 2) := by decide +kernel
theorem dd_Q_run_69 : decode bb_Q_run 69 = .ok (.putfield 225, 3) := by decide +kernel
theorem dd_Q_run_72 : decode bb_Q_run 72 = .ok (.aload_n 0, 1) := by decide +kernel
theorem dd_Q_run_73 : decode bb_Q_run 73 = .ok (.iconst 0, 1) := by decide +kernel
theorem dd_Q_run_74 : decode bb_Q_run 74 = .ok (.putfield 222, 3) := by decide +kernel
theorem dd_Q_run_77 : decode bb_Q_run 77 = .ok (.aload_n 0, 1) := by decide +kernel
theorem dd_Q_run_78 : decode bb_Q_run 78 = .ok (.iconst 0, 1) := by decide +kernel
theorem dd_Q_run_79 : decode bb_Q_run 79 = .ok (.putfield 228, 3) := by decide +kernel
theorem dd_Q_run_82 : decode bb_Q_run 82 = .ok (.aload_n 0, 1) := by decide +kernel
theorem dd_Q_run_83 : decode bb_Q_run 83 = .ok (.iconst 0, 1) := by decide +kernel
theorem dd_Q_run_84 : decode bb_Q_run 84 = .ok (.putfield 231, 3) := by decide +kernel
theorem dd_Q_run_87 : decode bb_Q_run 87 = .ok (.iconst 0, 1) := by decide +kernel
theorem dd_Q_run_88 : decode bb_Q_run 88 = .ok (.istore 6, 2) := by decide +kernel
theorem dd_Q_run_90 : decode bb_Q_run 90 = .ok (.aload_n 0, 1) := by decide +kernel
theorem dd_Q_run_91 : decode bb_Q_run 91 = .ok (.iload_n 1, 1) := by decide +kernel
theorem dd_Q_run_92 : decode bb_Q_run 92 = .ok (.iconst (-1), 1) := by decide +kernel
theorem dd_Q_run_93 : decode bb_Q_run 93 = .ok (.iload_n 2, 1) := by decide +kernel
theorem dd_Q_run_94 : decode bb_Q_run 94 = .ok (.iload_n 3, 1) := by decide +kernel
theorem dd_Q_run_95 : decode bb_Q_run 95 = .ok (.invokevirtual 245, 3) := by decide +kernel
theorem dd_Q_run_98 : decode bb_Q_run 98 = .ok (.aload_n 0, 1) := by decide +kernel
theorem dd_Q_run_99 : decode bb_Q_run 99 = .ok (.getfield 231, 3) := by decide +kernel
theorem dd_Q_run_102 : decode bb_Q_run 102 = .ok (.ifCond .le 126, 3) := by decide +kernel
theorem dd_Q_run_105 : decode bb_Q_run 105 = .ok (.aload_n 0, 1) := by decide +kernel
theorem dd_Q_run_106 : decode bb_Q_run 106 = .ok (.getfield 228, 3) := by decide +kernel
theorem dd_Q_run_109 : decode bb_Q_run 109 = .ok (.ifCond .ne 119, 3) := by decide +kernel
theorem dd_Q_run_112 : decode bb_Q_run 112 = .ok (.aload_n 0, 1) := by decide +kernel
theorem dd_Q_run_113 : decode bb_Q_run 113 = .ok (.getfield 231, 3) := by decide +kernel
theorem dd_Q_run_116 : decode bb_Q_run 116 = .ok (.iconst 1, 1) := by decide +kernel
theorem dd_Q_run_117 : decode bb_Q_run 117 = .ok (.isub, 1) := by decide +kernel
theorem dd_Q_run_118 : decode bb_Q_run 118 = .ok (.istore 7, 2) := by decide +kernel
theorem dd_Q_run_120 : decode bb_Q_run 120 = .ok (.aload_n 0, 1) := by decide +kernel
theorem dd_Q_run_121 : decode bb_Q_run 121 = .ok (.getfield 112, 3) := by decide +kernel
theorem dd_Q_run_124 : decode bb_Q_run 124 = .ok (.iload 7, 2) := by decide +kernel
theorem dd_Q_run_126 : decode bb_Q_run 126 = .ok (.iaload, 1) := by decide +kernel
theorem dd_Q_run_127 : decode bb_Q_run 127 = .ok (.aload_n 0, 1) := by decide +kernel
theorem dd_Q_run_128 : decode bb_Q_run 128 = .ok (.getfield 39, 3) := by decide +kernel
theorem dd_Q_run_131 : decode bb_Q_run 131 = .ok (.aload_n 0, 1) := by decide +kernel
theorem dd_Q_run_132 : decode bb_Q_run 132 = .ok (.getfield 103, 3) := by decide +kernel
theorem dd_Q_run_135 : decode bb_Q_run 135 = .ok (.iload 7, 2) := by decide +kernel
theorem dd_Q_run_137 : decode bb_Q_run 137 = .ok (.iaload, 1) := by decide +kernel
theorem dd_Q_run_138 : decode bb_Q_run 138 = .ok (.iaload, 1) := by decide +kernel
theorem dd_Q_run_139 : decode bb_Q_run 139 = .ok (.if_icmp .ge 17, 3) := by decide +kernel
theorem dd_Q_run_142 : decode bb_Q_run 142 = .ok (.aload_n 0, 1) := by decide +kernel
theorem dd_Q_run_143 : decode bb_Q_run 143 = .ok (.invokevirtual 234, 3) := by decide +kernel
theorem dd_Q_run_146 : decode bb_Q_run 146 = .ok (.ifCond .eq 79, 3) := by decide +kernel
theorem dd_Q_run_149 : decode bb_Q_run 149 = .ok (.aload_n 0, 1) := by decide +kernel
theorem dd_Q_run_150 : decode bb_Q_run 150 = .ok (.invokevirtual 249, 3) := by decide +kernel
theorem dd_Q_run_153 : decode bb_Q_run 153 = .ok (.goto 72, 3) := by decide +kernel
theorem dd_Q_run_156 : decode bb_Q_run 156 = .ok (.aload_n 0, 1) := by decide +kernel
theorem dd_Q_run_157 : decode bb_Q_run 157 = .ok (.getfield 115, 3) := by decide +kernel
theorem dd_Q_run_160 : decode bb_Q_run 160 = .ok (.iload 7, 2) := by decide +kernel
theorem dd_Q_run_162 : decode bb_Q_run 162 = .ok (.iaload, 1) := by decide +kernel
theorem dd_Q_run_163 : decode bb_Q_run 163 = .ok (.ifCond .ne 13, 3) := by decide +kernel
theorem dd_Q_run_166 : decode bb_Q_run 166 = .ok (.aload_n 0, 1) := by decide +kernel
theorem dd_Q_run_167 : decode bb_Q_run 167 = .ok (.getfield 106, 3) := by decide +kernel
theorem dd_Q_run_170 : decode bb_Q_run 170 = .ok (.iload 7, 2) := by decide +kernel
theorem dd_Q_run_172 : decode bb_Q_run 172 = .ok (.iaload, 1) := by decide +kernel
theorem dd_Q_run_173 : decode bb_Q_run 173 = .ok (.goto 23, 3) := by decide +kernel
theorem dd_Q_run_176 : decode bb_Q_run 176 = .ok (.aload_n 0, 1) := by decide +kernel
theorem dd_Q_run_177 : decode bb_Q_run 177 = .ok (.getfield 118, 3) := by decide +kernel
theorem dd_Q_run_180 : decode bb_Q_run 180 = .ok (.bipush 6, 2) := by decide +kernel
theorem dd_Q_run_182 : decode bb_Q_run 182 = .ok (.iload 7, 2) := by decide +kernel
theorem dd_Q_run_184 : decode bb_Q_run 184 = .ok (.imul, 1) := by decide +kernel
theorem dd_Q_run_185 : decode bb_Q_run 185 = .ok (.aload_n 0, 1) := by decide +kernel
theorem dd_Q_run_186 : decode bb_Q_run 186 = .ok (.getfield 115, 3) := by decide +kernel
theorem dd_Q_run_189 : decode bb_Q_run 189 = .ok (.iload 7, 2) := by decide +kernel
theorem dd_Q_run_191 : decode bb_Q_run 191 = .ok (.iaload, 1) := by decide +kernel
theorem dd_Q_run_192 : decode bb_Q_run 192 = .ok (.iadd, 1) := by decide +kernel
theorem dd_Q_run_193 : decode bb_Q_run 193 = .ok (.iconst 1, 1) := by decide +kernel
theorem dd_Q_run_194 : decode bb_Q_run 194 = .ok (.isub, 1) := by decide +kernel
theorem dd_Q_run_195 : decode bb_Q_run 195 = .ok (.iaload, 1) := by decide +kernel
theorem dd_Q_run_196 : decode bb_Q_run 196 = .ok (.istore 6, 2) := by decide +kernel
theorem dd_Q_run_198 : decode bb_Q_run 198 = .ok (.aload_n 0, 1) := by decide +kernel
theorem dd_Q_run_199 : decode bb_Q_run 199 = .ok (.dup, 1) := by decide +kernel
theorem dd_Q_run_200 : decode bb_Q_run 200 = .ok (.getfield 231, 3) := by decide +kernel
theorem dd_Q_run_203 : decode bb_Q_run 203 = .ok (.iconst 1, 1) := by decide +kernel
theorem dd_Q_run_204 : decode bb_Q_run 204 = .ok (.isub, 1) := by decide +kernel
theorem dd_Q_run_205 : decode bb_Q_run 205 = .ok (.putfield 231, 3) := by decide +kernel
theorem dd_Q_run_208 : decode bb_Q_run 208 = .ok (.aload_n 0, 1) := by decide +kernel
theorem dd_Q_run_209 : decode bb_Q_run 209 = .ok (.getfield 231, 3) := by decide +kernel
theorem dd_Q_run_212 : decode bb_Q_run 212 = .ok (.ifCond .le 13, 3) := by decide +kernel
theorem dd_Q_run_215 : decode bb_Q_run 215 = .ok (.aload_n 0, 1) := by decide +kernel
theorem dd_Q_run_216 : decode bb_Q_run 216 = .ok (.iload 7, 2) := by decide +kernel
theorem dd_Q_run_218 : decode bb_Q_run 218 = .ok (.iconst 1, 1) := by decide +kernel
theorem dd_Q_run_219 : decode bb_Q_run 219 = .ok (.isub, 1) := by decide +kernel
theorem dd_Q_run_220 : decode bb_Q_run 220 = .ok (.iload 6, 2) := by decide +kernel
theorem dd_Q_run_222 : decode bb_Q_run 222 = .ok (.invokevirtual 241, 3) := by decide +kernel
theorem dd_Q_run_225 : decode bb_Q_run 225 = .ok (.goto (-127), 3) := by decide +kernel
theorem dd_Q_run_228 : decode bb_Q_run 228 = .ok (.aload_n 0, 1) := by decide +kernel
theorem dd_Q_run_229 : decode bb_Q_run 229 = .ok (.getfield 228, 3) := by decide +kernel
theorem dd_Q_run_232 : decode bb_Q_run 232 = .ok (.ifCond .ge 10, 3) := by decide +kernel
theorem dd_Q_run_235 : decode bb_Q_run 235 = .ok (.aload_n 0, 1) := by decide +kernel
theorem dd_Q_run_236 : decode bb_Q_run 236 = .ok (.getfield 228, 3) := by decide +kernel
theorem dd_Q_run_239 : decode bb_Q_run 239 = .ok (.goto 5, 3) := by decide +kernel
theorem dd_Q_run_242 : decode bb_Q_run 242 = .ok (.iload 6, 2) := by decide +kernel
theorem dd_Q_run_244 : decode bb_Q_run 244 = .ok (.ireturn, 1) := by decide +kernel
theorem dd_Q_secondOf_0 : decode bb_Q_secondOf 0 = .ok (.aload_n 0, 1) := by decide +kernel
theorem dd_Q_secondOf_1 : decode bb_Q_secondOf 1 = .ok (.getfield 17, 3) := by decide +kernel
theorem dd_Q_secondOf_4 : decode bb_Q_secondOf 4 = .ok (.iload_n 1, 1) := by decide +kernel
theorem dd_Q_secondOf_5 : decode bb_Q_secondOf 5 = .ok (.iaload, 1) := by decide +kernel
theorem dd_Q_secondOf_6 : decode bb_Q_secondOf 6 = .ok (.iconst 1, 1) := by decide +kernel
theorem dd_Q_secondOf_7 : decode bb_Q_secondOf 7 = .ok (.if_icmp .ne 7, 3) := by decide +kernel
theorem dd_Q_secondOf_10 : decode bb_Q_secondOf 10 = .ok (.iconst 0, 1) := by decide +kernel
theorem dd_Q_secondOf_11 : decode bb_Q_secondOf 11 = .ok (.goto 9, 3) := by decide +kernel
theorem dd_Q_secondOf_14 : decode bb_Q_secondOf 14 = .ok (.iload_n 2, 1) := by decide +kernel
theorem dd_Q_secondOf_15 : decode bb_Q_secondOf 15 = .ok (.aload_n 0, 1) := by decide +kernel
theorem dd_Q_secondOf_16 : decode bb_Q_secondOf 16 = .ok (.invokevirtual 141, 3) := by decide +kernel
theorem dd_Q_secondOf_19 : decode bb_Q_secondOf 19 = .ok (.irem, 1) := by decide +kernel
theorem dd_Q_secondOf_20 : decode bb_Q_secondOf 20 = .ok (.ireturn, 1) := by decide +kernel
theorem dd_Q_spends_0 : decode bb_Q_spends 0 = .ok (.aload_n 0, 1) := by decide +kernel
theorem dd_Q_spends_1 : decode bb_Q_spends 1 = .ok (.aload_n 0, 1) := by decide +kernel
theorem dd_Q_spends_2 : decode bb_Q_spends 2 = .ok (.getfield 225, 3) := by decide +kernel
theorem dd_Q_spends_5 : decode bb_Q_spends 5 = .ok (.ifCond .ne 8, 3) := by decide +kernel
theorem dd_Q_spends_8 : decode bb_Q_spends 8 = .ok (.bipush (-3), 2) := by decide +kernel
theorem dd_Q_spends_10 : decode bb_Q_spends 10 = .ok (.goto 4, 3) := by decide +kernel
theorem dd_Q_spends_13 : decode bb_Q_spends 13 = .ok (.iconst 0, 1) := by decide +kernel
theorem dd_Q_spends_14 : decode bb_Q_spends 14 = .ok (.putfield 228, 3) := by decide +kernel
theorem dd_Q_spends_17 : decode bb_Q_spends 17 = .ok (.aload_n 0, 1) := by decide +kernel
theorem dd_Q_spends_18 : decode bb_Q_spends 18 = .ok (.aload_n 0, 1) := by decide +kernel
theorem dd_Q_spends_19 : decode bb_Q_spends 19 = .ok (.getfield 225, 3) := by decide +kernel
theorem dd_Q_spends_22 : decode bb_Q_spends 22 = .ok (.ifCond .le 12, 3) := by decide +kernel
theorem dd_Q_spends_25 : decode bb_Q_spends 25 = .ok (.aload_n 0, 1) := by decide +kernel
theorem dd_Q_spends_26 : decode bb_Q_spends 26 = .ok (.getfield 225, 3) := by decide +kernel
theorem dd_Q_spends_29 : decode bb_Q_spends 29 = .ok (.iconst 1, 1) := by decide +kernel
theorem dd_Q_spends_30 : decode bb_Q_spends 30 = .ok (.isub, 1) := by decide +kernel
theorem dd_Q_spends_31 : decode bb_Q_spends 31 = .ok (.goto 4, 3) := by decide +kernel
theorem dd_Q_spends_34 : decode bb_Q_spends 34 = .ok (.iconst 0, 1) := by decide +kernel
theorem dd_Q_spends_35 : decode bb_Q_spends 35 = .ok (.putfield 225, 3) := by decide +kernel
theorem dd_Q_spends_38 : decode bb_Q_spends 38 = .ok (.aload_n 0, 1) := by decide +kernel
theorem dd_Q_spends_39 : decode bb_Q_spends 39 = .ok (.getfield 228, 3) := by decide +kernel
theorem dd_Q_spends_42 : decode bb_Q_spends 42 = .ok (.ifCond .ne 7, 3) := by decide +kernel
theorem dd_Q_spends_45 : decode bb_Q_spends 45 = .ok (.iconst 1, 1) := by decide +kernel
theorem dd_Q_spends_46 : decode bb_Q_spends 46 = .ok (.goto 4, 3) := by decide +kernel
theorem dd_Q_spends_49 : decode bb_Q_spends 49 = .ok (.iconst 0, 1) := by decide +kernel
theorem dd_Q_spends_50 : decode bb_Q_spends 50 = .ok (.ireturn, 1) := by decide +kernel
theorem dd_Q_test_0 : decode bb_Q_test 0 = .ok (.iload_n 1, 1) := by decide +kernel
theorem dd_Q_test_1 : decode bb_Q_test 1 = .ok (.iconst 0, 1) := by decide +kernel
theorem dd_Q_test_2 : decode bb_Q_test 2 = .ok (.aload_n 0, 1) := by decide +kernel
theorem dd_Q_test_3 : decode bb_Q_test 3 = .ok (.getfield 135, 3) := by decide +kernel
theorem dd_Q_test_6 : decode bb_Q_test 6 = .ok (.iconst 1, 1) := by decide +kernel
theorem dd_Q_test_7 : decode bb_Q_test 7 = .ok (.isub, 1) := by decide +kernel
theorem dd_Q_test_8 : decode bb_Q_test 8 = .ok (.invokestatic 127, 3) := by decide +kernel
theorem dd_Q_test_11 : decode bb_Q_test 11 = .ok (.ifCond .eq 16, 3) := by decide +kernel
theorem dd_Q_test_14 : decode bb_Q_test 14 = .ok (.iload_n 3, 1) := by decide +kernel
theorem dd_Q_test_15 : decode bb_Q_test 15 = .ok (.iconst 0, 1) := by decide +kernel
theorem dd_Q_test_16 : decode bb_Q_test 16 = .ok (.iconst 2, 1) := by decide +kernel
theorem dd_Q_test_17 : decode bb_Q_test 17 = .ok (.invokestatic 127, 3) := by decide +kernel
theorem dd_Q_test_20 : decode bb_Q_test 20 = .ok (.ifCond .eq 7, 3) := by decide +kernel
theorem dd_Q_test_23 : decode bb_Q_test 23 = .ok (.iconst 1, 1) := by decide +kernel
theorem dd_Q_test_24 : decode bb_Q_test 24 = .ok (.goto 4, 3) := by decide +kernel
theorem dd_Q_test_27 : decode bb_Q_test 27 = .ok (.iconst 0, 1) := by decide +kernel
theorem dd_Q_test_28 : decode bb_Q_test 28 = .ok (.istore 4, 2) := by decide +kernel
theorem dd_Q_test_30 : decode bb_Q_test 30 = .ok (.aload_n 0, 1) := by decide +kernel
theorem dd_Q_test_31 : decode bb_Q_test 31 = .ok (.iload 4, 2) := by decide +kernel
theorem dd_Q_test_33 : decode bb_Q_test 33 = .ok (.ifCond .ne 7, 3) := by decide +kernel
theorem dd_Q_test_36 : decode bb_Q_test 36 = .ok (.iconst 1, 1) := by decide +kernel
theorem dd_Q_test_37 : decode bb_Q_test 37 = .ok (.goto 37, 3) := by decide +kernel
theorem dd_Q_test_40 : decode bb_Q_test 40 = .ok (.aload_n 0, 1) := by decide +kernel
theorem dd_Q_test_41 : decode bb_Q_test 41 = .ok (.getfield 57, 3) := by decide +kernel
theorem dd_Q_test_44 : decode bb_Q_test 44 = .ok (.iload_n 1, 1) := by decide +kernel
theorem dd_Q_test_45 : decode bb_Q_test 45 = .ok (.iaload, 1) := by decide +kernel
theorem dd_Q_test_46 : decode bb_Q_test 46 = .ok (.ifCond .ne 7, 3) := by decide +kernel
theorem dd_Q_test_49 : decode bb_Q_test 49 = .ok (.iconst 2, 1) := by decide +kernel
theorem dd_Q_test_50 : decode bb_Q_test 50 = .ok (.goto 24, 3) := by decide +kernel
theorem dd_Q_test_53 : decode bb_Q_test 53 = .ok (.iload_n 2, 1) := by decide +kernel
theorem dd_Q_test_54 : decode bb_Q_test 54 = .ok (.iconst 0, 1) := by decide +kernel
theorem dd_Q_test_55 : decode bb_Q_test 55 = .ok (.aload_n 0, 1) := by decide +kernel
theorem dd_Q_test_56 : decode bb_Q_test 56 = .ok (.getfield 69, 3) := by decide +kernel
theorem dd_Q_test_59 : decode bb_Q_test 59 = .ok (.iload_n 1, 1) := by decide +kernel
theorem dd_Q_test_60 : decode bb_Q_test 60 = .ok (.iaload, 1) := by decide +kernel
theorem dd_Q_test_61 : decode bb_Q_test 61 = .ok (.iconst 1, 1) := by decide +kernel
theorem dd_Q_test_62 : decode bb_Q_test 62 = .ok (.isub, 1) := by decide +kernel
theorem dd_Q_test_63 : decode bb_Q_test 63 = .ok (.invokestatic 127, 3) := by decide +kernel
theorem dd_Q_test_66 : decode bb_Q_test 66 = .ok (.ifCond .eq 7, 3) := by decide +kernel
theorem dd_Q_test_69 : decode bb_Q_test 69 = .ok (.iconst 0, 1) := by decide +kernel
theorem dd_Q_test_70 : decode bb_Q_test 70 = .ok (.goto 4, 3) := by decide +kernel
theorem dd_Q_test_73 : decode bb_Q_test 73 = .ok (.iconst 3, 1) := by decide +kernel
theorem dd_Q_test_74 : decode bb_Q_test 74 = .ok (.putfield 121, 3) := by decide +kernel
theorem dd_Q_test_77 : decode bb_Q_test 77 = .ok (.aload_n 0, 1) := by decide +kernel
theorem dd_Q_test_78 : decode bb_Q_test 78 = .ok (.getfield 121, 3) := by decide +kernel
theorem dd_Q_test_81 : decode bb_Q_test 81 = .ok (.ifCond .le 5, 3) := by decide +kernel
theorem dd_Q_test_84 : decode bb_Q_test 84 = .ok (.iconst 0, 1) := by decide +kernel
theorem dd_Q_test_85 : decode bb_Q_test 85 = .ok (.ireturn, 1) := by decide +kernel
theorem dd_Q_test_86 : decode bb_Q_test 86 = .ok (.bipush 48, 2) := by decide +kernel
theorem dd_Q_test_88 : decode bb_Q_test 88 = .ok (.iload_n 1, 1) := by decide +kernel
theorem dd_Q_test_89 : decode bb_Q_test 89 = .ok (.imul, 1) := by decide +kernel
theorem dd_Q_test_90 : decode bb_Q_test 90 = .ok (.iload_n 2, 1) := by decide +kernel
theorem dd_Q_test_91 : decode bb_Q_test 91 = .ok (.iadd, 1) := by decide +kernel
theorem dd_Q_test_92 : decode bb_Q_test 92 = .ok (.istore 5, 2) := by decide +kernel
theorem dd_Q_test_94 : decode bb_Q_test 94 = .ok (.iload_n 3, 1) := by decide +kernel
theorem dd_Q_test_95 : decode bb_Q_test 95 = .ok (.ifCond .ne 13, 3) := by decide +kernel
theorem dd_Q_test_98 : decode bb_Q_test 98 = .ok (.aload_n 0, 1) := by decide +kernel
theorem dd_Q_test_99 : decode bb_Q_test 99 = .ok (.getfield 72, 3) := by decide +kernel
theorem dd_Q_test_102 : decode bb_Q_test 102 = .ok (.iload 5, 2) := by decide +kernel
theorem dd_Q_test_104 : decode bb_Q_test 104 = .ok (.iaload, 1) := by decide +kernel
theorem dd_Q_test_105 : decode bb_Q_test 105 = .ok (.goto 25, 3) := by decide +kernel
theorem dd_Q_test_108 : decode bb_Q_test 108 = .ok (.iload_n 3, 1) := by decide +kernel
theorem dd_Q_test_109 : decode bb_Q_test 109 = .ok (.iconst 1, 1) := by decide +kernel
theorem dd_Q_test_110 : decode bb_Q_test 110 = .ok (.if_icmp .ne 13, 3) := by decide +kernel
theorem dd_Q_test_113 : decode bb_Q_test 113 = .ok (.aload_n 0, 1) := by decide +kernel
theorem dd_Q_test_114 : decode bb_Q_test 114 = .ok (.getfield 75, 3) := by decide +kernel
theorem dd_Q_test_117 : decode bb_Q_test 117 = .ok (.iload 5, 2) := by decide +kernel
theorem dd_Q_test_119 : decode bb_Q_test 119 = .ok (.iaload, 1) := by decide +kernel
theorem dd_Q_test_120 : decode bb_Q_test 120 = .ok (.goto 10, 3) := by decide +kernel
theorem dd_Q_test_123 : decode bb_Q_test 123 = .ok (.aload_n 0, 1) := by decide +kernel
theorem dd_Q_test_124 : decode bb_Q_test 124 = .ok (.getfield 78, 3) := by decide +kernel
theorem dd_Q_test_127 : decode bb_Q_test 127 = .ok (.iload 5, 2) := by decide +kernel
theorem dd_Q_test_129 : decode bb_Q_test 129 = .ok (.iaload, 1) := by decide +kernel
theorem dd_Q_test_130 : decode bb_Q_test 130 = .ok (.ireturn, 1) := by decide +kernel
theorem dd_Q_tests_0 : decode bb_Q_tests 0 = .ok (.aload_n 0, 1) := by decide +kernel
theorem dd_Q_tests_1 : decode bb_Q_tests 1 = .ok (.iconst 0, 1) := by decide +kernel
theorem dd_Q_tests_2 : decode bb_Q_tests 2 = .ok (.putfield 121, 3) := by decide +kernel
theorem dd_Q_tests_5 : decode bb_Q_tests 5 = .ok (.aload_n 0, 1) := by decide +kernel
theorem dd_Q_tests_6 : decode bb_Q_tests 6 = .ok (.getfield 222, 3) := by decide +kernel
theorem dd_Q_tests_9 : decode bb_Q_tests 9 = .ok (.ireturn, 1) := by decide +kernel
theorem dd_Q_thrown_0 : decode bb_Q_thrown 0 = .ok (.aload_n 0, 1) := by decide +kernel
theorem dd_Q_thrown_1 : decode bb_Q_thrown 1 = .ok (.getfield 121, 3) := by decide +kernel
theorem dd_Q_thrown_4 : decode bb_Q_thrown 4 = .ok (.ireturn, 1) := by decide +kernel
theorem dd_Q_values_0 : decode bb_Q_values 0 = .ok (.bipush 8, 2) := by decide +kernel
theorem dd_Q_values_2 : decode bb_Q_values 2 = .ok (.aload_n 0, 1) := by decide +kernel
theorem dd_Q_values_3 : decode bb_Q_values 3 = .ok (.getfield 7, 3) := by decide +kernel
theorem dd_Q_values_6 : decode bb_Q_values 6 = .ok (.imul, 1) := by decide +kernel
theorem dd_Q_values_7 : decode bb_Q_values 7 = .ok (.ireturn, 1) := by decide +kernel
theorem dd_Q_witness_0 : decode bb_Q_witness 0 = .ok (.aload_n 0, 1) := by decide +kernel
theorem dd_Q_witness_1 : decode bb_Q_witness 1 = .ok (.iload_n 1, 1) := by decide +kernel
theorem dd_Q_witness_2 : decode bb_Q_witness 2 = .ok (.iconst 0, 1) := by decide +kernel
theorem dd_Q_witness_3 : decode bb_Q_witness 3 = .ok (.aload_n 0, 1) := by decide +kernel
theorem dd_Q_witness_4 : decode bb_Q_witness 4 = .ok (.getfield 124, 3) := by decide +kernel
theorem dd_Q_witness_7 : decode bb_Q_witness 7 = .ok (.iconst 1, 1) := by decide +kernel
theorem dd_Q_witness_8 : decode bb_Q_witness 8 = .ok (.isub, 1) := by decide +kernel
theorem dd_Q_witness_9 : decode bb_Q_witness 9 = .ok (.invokestatic 127, 3) := by decide +kernel
theorem dd_Q_witness_12 : decode bb_Q_witness 12 = .ok (.ifCond .eq 7, 3) := by decide +kernel
theorem dd_Q_witness_15 : decode bb_Q_witness 15 = .ok (.iconst 0, 1) := by decide +kernel
theorem dd_Q_witness_16 : decode bb_Q_witness 16 = .ok (.goto 4, 3) := by decide +kernel
theorem dd_Q_witness_19 : decode bb_Q_witness 19 = .ok (.iconst 1, 1) := by decide +kernel
theorem dd_Q_witness_20 : decode bb_Q_witness 20 = .ok (.putfield 121, 3) := by decide +kernel
theorem dd_Q_witness_23 : decode bb_Q_witness 23 = .ok (.aload_n 0, 1) := by decide +kernel
theorem dd_Q_witness_24 : decode bb_Q_witness 24 = .ok (.getfield 121, 3) := by decide +kernel
theorem dd_Q_witness_27 : decode bb_Q_witness 27 = .ok (.ifCond .le 7, 3) := by decide +kernel
theorem dd_Q_witness_30 : decode bb_Q_witness 30 = .ok (.iconst 0, 1) := by decide +kernel
theorem dd_Q_witness_31 : decode bb_Q_witness 31 = .ok (.goto 18, 3) := by decide +kernel
theorem dd_Q_witness_34 : decode bb_Q_witness 34 = .ok (.iload_n 1, 1) := by decide +kernel
theorem dd_Q_witness_35 : decode bb_Q_witness 35 = .ok (.ifCond .ne 10, 3) := by decide +kernel
theorem dd_Q_witness_38 : decode bb_Q_witness 38 = .ok (.aload_n 0, 1) := by decide +kernel
theorem dd_Q_witness_39 : decode bb_Q_witness 39 = .ok (.getfield 186, 3) := by decide +kernel
theorem dd_Q_witness_42 : decode bb_Q_witness 42 = .ok (.goto 7, 3) := by decide +kernel
theorem dd_Q_witness_45 : decode bb_Q_witness 45 = .ok (.aload_n 0, 1) := by decide +kernel
theorem dd_Q_witness_46 : decode bb_Q_witness 46 = .ok (.getfield 189, 3) := by decide +kernel
theorem dd_Q_witness_49 : decode bb_Q_witness 49 = .ok (.ireturn, 1) := by decide +kernel
