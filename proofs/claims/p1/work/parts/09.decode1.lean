theorem dd_H_add_0 : decode bb_H_add 0 = .ok (.aload_n 0, 1) := by decide +kernel
theorem dd_H_add_1 : decode bb_H_add 1 = .ok (.getfield 9, 3) := by decide +kernel
theorem dd_H_add_4 : decode bb_H_add 4 = .ok (.aload_n 0, 1) := by decide +kernel
theorem dd_H_add_5 : decode bb_H_add 5 = .ok (.getfield 13, 3) := by decide +kernel
theorem dd_H_add_8 : decode bb_H_add 8 = .ok (.aload_n 0, 1) := by decide +kernel
theorem dd_H_add_9 : decode bb_H_add 9 = .ok (.getfield 9, 3) := by decide +kernel
theorem dd_H_add_12 : decode bb_H_add 12 = .ok (.iload_n 1, 1) := by decide +kernel
theorem dd_H_add_13 : decode bb_H_add 13 = .ok (.iaload, 1) := by decide +kernel
theorem dd_H_add_14 : decode bb_H_add 14 = .ok (.iconst 1, 1) := by decide +kernel
theorem dd_H_add_15 : decode bb_H_add 15 = .ok (.aload_n 0, 1) := by decide +kernel
theorem dd_H_add_16 : decode bb_H_add 16 = .ok (.getfield 13, 3) := by decide +kernel
theorem dd_H_add_19 : decode bb_H_add 19 = .ok (.ishl, 1) := by decide +kernel
theorem dd_H_add_20 : decode bb_H_add 20 = .ok (.ior, 1) := by decide +kernel
theorem dd_H_add_21 : decode bb_H_add 21 = .ok (.iastore, 1) := by decide +kernel
theorem dd_H_add_22 : decode bb_H_add 22 = .ok (.aload_n 0, 1) := by decide +kernel
theorem dd_H_add_23 : decode bb_H_add 23 = .ok (.dup, 1) := by decide +kernel
theorem dd_H_add_24 : decode bb_H_add 24 = .ok (.getfield 13, 3) := by decide +kernel
theorem dd_H_add_27 : decode bb_H_add 27 = .ok (.dup_x1, 1) := by decide +kernel
theorem dd_H_add_28 : decode bb_H_add 28 = .ok (.iconst 1, 1) := by decide +kernel
theorem dd_H_add_29 : decode bb_H_add 29 = .ok (.iadd, 1) := by decide +kernel
theorem dd_H_add_30 : decode bb_H_add 30 = .ok (.putfield 13, 3) := by decide +kernel
theorem dd_H_add_33 : decode bb_H_add 33 = .ok (.ireturn, 1) := by decide +kernel
theorem dd_H_has_0 : decode bb_H_has 0 = .ok (.iload_n 1, 1) := by decide +kernel
theorem dd_H_has_1 : decode bb_H_has 1 = .ok (.ifCond .lt 15, 3) := by decide +kernel
theorem dd_H_has_4 : decode bb_H_has 4 = .ok (.iload_n 1, 1) := by decide +kernel
theorem dd_H_has_5 : decode bb_H_has 5 = .ok (.aload_n 0, 1) := by decide +kernel
theorem dd_H_has_6 : decode bb_H_has 6 = .ok (.getfield 13, 3) := by decide +kernel
theorem dd_H_has_9 : decode bb_H_has 9 = .ok (.if_icmp .ge 7, 3) := by decide +kernel
theorem dd_H_has_12 : decode bb_H_has 12 = .ok (.iconst 1, 1) := by decide +kernel
theorem dd_H_has_13 : decode bb_H_has 13 = .ok (.goto 4, 3) := by decide +kernel
theorem dd_H_has_16 : decode bb_H_has 16 = .ok (.iconst 0, 1) := by decide +kernel
theorem dd_H_has_17 : decode bb_H_has 17 = .ok (.ireturn, 1) := by decide +kernel
theorem dd_H_hasValue_0 : decode bb_H_hasValue 0 = .ok (.iload_n 1, 1) := by decide +kernel
theorem dd_H_hasValue_1 : decode bb_H_hasValue 1 = .ok (.ifCond .lt 15, 3) := by decide +kernel
theorem dd_H_hasValue_4 : decode bb_H_hasValue 4 = .ok (.iload_n 1, 1) := by decide +kernel
theorem dd_H_hasValue_5 : decode bb_H_hasValue 5 = .ok (.aload_n 0, 1) := by decide +kernel
theorem dd_H_hasValue_6 : decode bb_H_hasValue 6 = .ok (.invokevirtual 17, 3) := by decide +kernel
theorem dd_H_hasValue_9 : decode bb_H_hasValue 9 = .ok (.if_icmp .ge 7, 3) := by decide +kernel
theorem dd_H_hasValue_12 : decode bb_H_hasValue 12 = .ok (.iconst 1, 1) := by decide +kernel
theorem dd_H_hasValue_13 : decode bb_H_hasValue 13 = .ok (.goto 4, 3) := by decide +kernel
theorem dd_H_hasValue_16 : decode bb_H_hasValue 16 = .ok (.iconst 0, 1) := by decide +kernel
theorem dd_H_hasValue_17 : decode bb_H_hasValue 17 = .ok (.ireturn, 1) := by decide +kernel
theorem dd_H_init_0 : decode bb_H_init 0 = .ok (.aload_n 0, 1) := by decide +kernel
theorem dd_H_init_1 : decode bb_H_init 1 = .ok (.invokespecial 3, 3) := by decide +kernel
theorem dd_H_init_4 : decode bb_H_init 4 = .ok (.aload_n 0, 1) := by decide +kernel
theorem dd_H_init_5 : decode bb_H_init 5 = .ok (.bipush 8, 2) := by decide +kernel
theorem dd_H_init_7 : decode bb_H_init 7 = .ok (.newarray .int, 2) := by decide +kernel
theorem dd_H_init_9 : decode bb_H_init 9 = .ok (.putfield 9, 3) := by decide +kernel
theorem dd_H_init_12 : decode bb_H_init 12 = .ok (.aload_n 0, 1) := by decide +kernel
theorem dd_H_init_13 : decode bb_H_init 13 = .ok (.iconst 1, 1) := by decide +kernel
theorem dd_H_init_14 : decode bb_H_init 14 = .ok (.putfield 13, 3) := by decide +kernel
theorem dd_H_init_17 : decode bb_H_init 17 = .ok (.aload_n 0, 1) := by decide +kernel
theorem dd_H_init_18 : decode bb_H_init 18 = .ok (.getfield 9, 3) := by decide +kernel
theorem dd_H_init_21 : decode bb_H_init 21 = .ok (.iconst 0, 1) := by decide +kernel
theorem dd_H_init_22 : decode bb_H_init 22 = .ok (.iconst 1, 1) := by decide +kernel
theorem dd_H_init_23 : decode bb_H_init 23 = .ok (.iastore, 1) := by decide +kernel
theorem dd_H_init_24 : decode bb_H_init 24 = .ok (.return_, 1) := by decide +kernel
theorem dd_H_is_0 : decode bb_H_is 0 = .ok (.aload_n 0, 1) := by decide +kernel
theorem dd_H_is_1 : decode bb_H_is 1 = .ok (.getfield 9, 3) := by decide +kernel
theorem dd_H_is_4 : decode bb_H_is 4 = .ok (.iload_n 1, 1) := by decide +kernel
theorem dd_H_is_5 : decode bb_H_is 5 = .ok (.iaload, 1) := by decide +kernel
theorem dd_H_is_6 : decode bb_H_is 6 = .ok (.iload_n 2, 1) := by decide +kernel
theorem dd_H_is_7 : decode bb_H_is 7 = .ok (.ishr, 1) := by decide +kernel
theorem dd_H_is_8 : decode bb_H_is 8 = .ok (.iconst 1, 1) := by decide +kernel
theorem dd_H_is_9 : decode bb_H_is 9 = .ok (.iand, 1) := by decide +kernel
theorem dd_H_is_10 : decode bb_H_is 10 = .ok (.ifCond .eq 7, 3) := by decide +kernel
theorem dd_H_is_13 : decode bb_H_is 13 = .ok (.iconst 1, 1) := by decide +kernel
theorem dd_H_is_14 : decode bb_H_is 14 = .ok (.goto 4, 3) := by decide +kernel
theorem dd_H_is_17 : decode bb_H_is 17 = .ok (.iconst 0, 1) := by decide +kernel
theorem dd_H_is_18 : decode bb_H_is 18 = .ok (.ireturn, 1) := by decide +kernel
theorem dd_H_isFull_0 : decode bb_H_isFull 0 = .ok (.aload_n 0, 1) := by decide +kernel
theorem dd_H_isFull_1 : decode bb_H_isFull 1 = .ok (.getfield 13, 3) := by decide +kernel
theorem dd_H_isFull_4 : decode bb_H_isFull 4 = .ok (.bipush 8, 2) := by decide +kernel
theorem dd_H_isFull_6 : decode bb_H_isFull 6 = .ok (.if_icmp .lt 7, 3) := by decide +kernel
theorem dd_H_isFull_9 : decode bb_H_isFull 9 = .ok (.iconst 1, 1) := by decide +kernel
theorem dd_H_isFull_10 : decode bb_H_isFull 10 = .ok (.goto 4, 3) := by decide +kernel
theorem dd_H_isFull_13 : decode bb_H_isFull 13 = .ok (.iconst 0, 1) := by decide +kernel
theorem dd_H_isFull_14 : decode bb_H_isFull 14 = .ok (.ireturn, 1) := by decide +kernel
theorem dd_H_valueCount_0 : decode bb_H_valueCount 0 = .ok (.bipush 8, 2) := by decide +kernel
theorem dd_H_valueCount_2 : decode bb_H_valueCount 2 = .ok (.aload_n 0, 1) := by decide +kernel
theorem dd_H_valueCount_3 : decode bb_H_valueCount 3 = .ok (.getfield 13, 3) := by decide +kernel
theorem dd_H_valueCount_6 : decode bb_H_valueCount 6 = .ok (.imul, 1) := by decide +kernel
theorem dd_H_valueCount_7 : decode bb_H_valueCount 7 = .ok (.ireturn, 1) := by decide +kernel
theorem dd_B_bringForward_0 : decode bb_B_bringForward 0 = .ok (.iload_n 1, 1) := by decide +kernel
theorem dd_B_bringForward_1 : decode bb_B_bringForward 1 = .ok (.istore 5, 2) := by decide +kernel
theorem dd_B_bringForward_3 : decode bb_B_bringForward 3 = .ok (.iload_n 1, 1) := by decide +kernel
theorem dd_B_bringForward_4 : decode bb_B_bringForward 4 = .ok (.istore 6, 2) := by decide +kernel
theorem dd_B_bringForward_6 : decode bb_B_bringForward 6 = .ok (.iload 6, 2) := by decide +kernel
theorem dd_B_bringForward_8 : decode bb_B_bringForward 8 = .ok (.iload_n 2, 1) := by decide +kernel
theorem dd_B_bringForward_9 : decode bb_B_bringForward 9 = .ok (.if_icmp .ge 53, 3) := by decide +kernel
theorem dd_B_bringForward_12 : decode bb_B_bringForward 12 = .ok (.aload_n 0, 1) := by decide +kernel
theorem dd_B_bringForward_13 : decode bb_B_bringForward 13 = .ok (.getfield 13, 3) := by decide +kernel
theorem dd_B_bringForward_16 : decode bb_B_bringForward 16 = .ok (.iload 6, 2) := by decide +kernel
theorem dd_B_bringForward_18 : decode bb_B_bringForward 18 = .ok (.laload, 1) := by decide +kernel
theorem dd_B_bringForward_19 : decode bb_B_bringForward 19 = .ok (.lstore 7, 2) := by decide +kernel
theorem dd_B_bringForward_21 : decode bb_B_bringForward 21 = .ok (.lload 7, 2) := by decide +kernel
theorem dd_B_bringForward_23 : decode bb_B_bringForward 23 = .ok (.lload_n 3, 1) := by decide +kernel
theorem dd_B_bringForward_24 : decode bb_B_bringForward 24 = .ok (.land, 1) := by decide +kernel
theorem dd_B_bringForward_25 : decode bb_B_bringForward 25 = .ok (.lconst 0, 1) := by decide +kernel
theorem dd_B_bringForward_26 : decode bb_B_bringForward 26 = .ok (.lcmp, 1) := by decide +kernel
theorem dd_B_bringForward_27 : decode bb_B_bringForward 27 = .ok (.ifCond .eq 29, 3) := by decide +kernel
theorem dd_B_bringForward_30 : decode bb_B_bringForward 30 = .ok (.aload_n 0, 1) := by decide +kernel
theorem dd_B_bringForward_31 : decode bb_B_bringForward 31 = .ok (.getfield 13, 3) := by decide +kernel
theorem dd_B_bringForward_34 : decode bb_B_bringForward 34 = .ok (.iload 6, 2) := by decide +kernel
theorem dd_B_bringForward_36 : decode bb_B_bringForward 36 = .ok (.aload_n 0, 1) := by decide +kernel
theorem dd_B_bringForward_37 : decode bb_B_bringForward 37 = .ok (.getfield 13, 3) := by decide +kernel
theorem dd_B_bringForward_40 : decode bb_B_bringForward 40 = .ok (.iload 5, 2) := by decide +kernel
theorem dd_B_bringForward_42 : decode bb_B_bringForward 42 = .ok (.laload, 1) := by decide +kernel
theorem dd_B_bringForward_43 : decode bb_B_bringForward 43 = .ok (.lastore, 1) := by decide +kernel
theorem dd_B_bringForward_44 : decode bb_B_bringForward 44 = .ok (.aload_n 0, 1) := by decide +kernel
theorem dd_B_bringForward_45 : decode bb_B_bringForward 45 = .ok (.getfield 13, 3) := by decide +kernel
theorem dd_B_bringForward_48 : decode bb_B_bringForward 48 = .ok (.iload 5, 2) := by decide +kernel
theorem dd_B_bringForward_50 : decode bb_B_bringForward 50 = .ok (.lload 7, 2) := by decide +kernel
theorem dd_B_bringForward_52 : decode bb_B_bringForward 52 = .ok (.lastore, 1) := by decide +kernel
theorem dd_B_bringForward_53 : decode bb_B_bringForward 53 = .ok (.iinc 5 1, 3) := by decide +kernel
theorem dd_B_bringForward_56 : decode bb_B_bringForward 56 = .ok (.iinc 6 1, 3) := by decide +kernel
theorem dd_B_bringForward_59 : decode bb_B_bringForward 59 = .ok (.goto (-53), 3) := by decide +kernel
theorem dd_B_bringForward_62 : decode bb_B_bringForward 62 = .ok (.iload 5, 2) := by decide +kernel
theorem dd_B_bringForward_64 : decode bb_B_bringForward 64 = .ok (.ireturn, 1) := by decide +kernel
theorem dd_B_build_0 : decode bb_B_build 0 = .ok (.aload_n 1, 1) := by decide +kernel
theorem dd_B_build_1 : decode bb_B_build 1 = .ok (.getfield 19, 3) := by decide +kernel
theorem dd_B_build_4 : decode bb_B_build 4 = .ok (.astore_n 2, 1) := by decide +kernel
theorem dd_B_build_5 : decode bb_B_build 5 = .ok (.aload_n 2, 1) := by decide +kernel
theorem dd_B_build_6 : decode bb_B_build 6 = .ok (.invokevirtual 25, 3) := by decide +kernel
theorem dd_B_build_9 : decode bb_B_build 9 = .ok (.aload_n 0, 1) := by decide +kernel
theorem dd_B_build_10 : decode bb_B_build 10 = .ok (.aload_n 2, 1) := by decide +kernel
theorem dd_B_build_11 : decode bb_B_build 11 = .ok (.iconst 0, 1) := by decide +kernel
theorem dd_B_build_12 : decode bb_B_build 12 = .ok (.aload_n 0, 1) := by decide +kernel
theorem dd_B_build_13 : decode bb_B_build 13 = .ok (.aload_n 1, 1) := by decide +kernel
theorem dd_B_build_14 : decode bb_B_build 14 = .ok (.invokevirtual 30, 3) := by decide +kernel
theorem dd_B_build_17 : decode bb_B_build 17 = .ok (.iconst 0, 1) := by decide +kernel
theorem dd_B_build_18 : decode bb_B_build 18 = .ok (.invokevirtual 34, 3) := by decide +kernel
theorem dd_B_build_21 : decode bb_B_build 21 = .ok (.istore_n 3, 1) := by decide +kernel
theorem dd_B_build_22 : decode bb_B_build 22 = .ok (.iload_n 3, 1) := by decide +kernel
theorem dd_B_build_23 : decode bb_B_build 23 = .ok (.iconst (-1), 1) := by decide +kernel
theorem dd_B_build_24 : decode bb_B_build 24 = .ok (.if_icmp .ne 7, 3) := by decide +kernel
theorem dd_B_build_27 : decode bb_B_build 27 = .ok (.aload_n 2, 1) := by decide +kernel
theorem dd_B_build_28 : decode bb_B_build 28 = .ok (.invokevirtual 25, 3) := by decide +kernel
theorem dd_B_build_31 : decode bb_B_build 31 = .ok (.iload_n 3, 1) := by decide +kernel
theorem dd_B_build_32 : decode bb_B_build 32 = .ok (.iconst (-1), 1) := by decide +kernel
theorem dd_B_build_33 : decode bb_B_build 33 = .ok (.if_icmp .eq 7, 3) := by decide +kernel
theorem dd_B_build_36 : decode bb_B_build 36 = .ok (.iconst 1, 1) := by decide +kernel
theorem dd_B_build_37 : decode bb_B_build 37 = .ok (.goto 4, 3) := by decide +kernel
theorem dd_B_build_40 : decode bb_B_build 40 = .ok (.iconst 0, 1) := by decide +kernel
theorem dd_B_build_41 : decode bb_B_build 41 = .ok (.ireturn, 1) := by decide +kernel
theorem dd_B_differing_0 : decode bb_B_differing 0 = .ok (.lconst 0, 1) := by decide +kernel
theorem dd_B_differing_1 : decode bb_B_differing 1 = .ok (.lstore_n 3, 1) := by decide +kernel
theorem dd_B_differing_2 : decode bb_B_differing 2 = .ok (.ldc2_w 77, 3) := by decide +kernel
theorem dd_B_differing_5 : decode bb_B_differing 5 = .ok (.lstore 5, 2) := by decide +kernel
theorem dd_B_differing_7 : decode bb_B_differing 7 = .ok (.iload_n 1, 1) := by decide +kernel
theorem dd_B_differing_8 : decode bb_B_differing 8 = .ok (.istore 7, 2) := by decide +kernel
theorem dd_B_differing_10 : decode bb_B_differing 10 = .ok (.iload 7, 2) := by decide +kernel
theorem dd_B_differing_12 : decode bb_B_differing 12 = .ok (.iload_n 2, 1) := by decide +kernel
theorem dd_B_differing_13 : decode bb_B_differing 13 = .ok (.if_icmp .ge 31, 3) := by decide +kernel
theorem dd_B_differing_16 : decode bb_B_differing 16 = .ok (.lload_n 3, 1) := by decide +kernel
theorem dd_B_differing_17 : decode bb_B_differing 17 = .ok (.aload_n 0, 1) := by decide +kernel
theorem dd_B_differing_18 : decode bb_B_differing 18 = .ok (.getfield 13, 3) := by decide +kernel
theorem dd_B_differing_21 : decode bb_B_differing 21 = .ok (.iload 7, 2) := by decide +kernel
theorem dd_B_differing_23 : decode bb_B_differing 23 = .ok (.laload, 1) := by decide +kernel
theorem dd_B_differing_24 : decode bb_B_differing 24 = .ok (.lor, 1) := by decide +kernel
theorem dd_B_differing_25 : decode bb_B_differing 25 = .ok (.lstore_n 3, 1) := by decide +kernel
theorem dd_B_differing_26 : decode bb_B_differing 26 = .ok (.lload 5, 2) := by decide +kernel
theorem dd_B_differing_28 : decode bb_B_differing 28 = .ok (.aload_n 0, 1) := by decide +kernel
theorem dd_B_differing_29 : decode bb_B_differing 29 = .ok (.getfield 13, 3) := by decide +kernel
theorem dd_B_differing_32 : decode bb_B_differing 32 = .ok (.iload 7, 2) := by decide +kernel
theorem dd_B_differing_34 : decode bb_B_differing 34 = .ok (.laload, 1) := by decide +kernel
theorem dd_B_differing_35 : decode bb_B_differing 35 = .ok (.land, 1) := by decide +kernel
theorem dd_B_differing_36 : decode bb_B_differing 36 = .ok (.lstore 5, 2) := by decide +kernel
theorem dd_B_differing_38 : decode bb_B_differing 38 = .ok (.iinc 7 1, 3) := by decide +kernel
theorem dd_B_differing_41 : decode bb_B_differing 41 = .ok (.goto (-31), 3) := by decide +kernel
theorem dd_B_differing_44 : decode bb_B_differing 44 = .ok (.lload_n 3, 1) := by decide +kernel
theorem dd_B_differing_45 : decode bb_B_differing 45 = .ok (.lload 5, 2) := by decide +kernel
theorem dd_B_differing_47 : decode bb_B_differing 47 = .ok (.ldc2_w 77, 3) := by decide +kernel
theorem dd_B_differing_50 : decode bb_B_differing 50 = .ok (.lxor, 1) := by decide +kernel
theorem dd_B_differing_51 : decode bb_B_differing 51 = .ok (.land, 1) := by decide +kernel
theorem dd_B_differing_52 : decode bb_B_differing 52 = .ok (.lreturn, 1) := by decide +kernel
theorem dd_B_gather_0 : decode bb_B_gather 0 = .ok (.iconst 0, 1) := by decide +kernel
theorem dd_B_gather_1 : decode bb_B_gather 1 = .ok (.istore_n 2, 1) := by decide +kernel
theorem dd_B_gather_2 : decode bb_B_gather 2 = .ok (.iconst 0, 1) := by decide +kernel
theorem dd_B_gather_3 : decode bb_B_gather 3 = .ok (.istore_n 3, 1) := by decide +kernel
theorem dd_B_gather_4 : decode bb_B_gather 4 = .ok (.iload_n 3, 1) := by decide +kernel
theorem dd_B_gather_5 : decode bb_B_gather 5 = .ok (.aload_n 1, 1) := by decide +kernel
theorem dd_B_gather_6 : decode bb_B_gather 6 = .ok (.invokevirtual 38, 3) := by decide +kernel
theorem dd_B_gather_9 : decode bb_B_gather 9 = .ok (.if_icmp .ge 86, 3) := by decide +kernel
theorem dd_B_gather_12 : decode bb_B_gather 12 = .ok (.iconst 0, 1) := by decide +kernel
theorem dd_B_gather_13 : decode bb_B_gather 13 = .ok (.istore 4, 2) := by decide +kernel
theorem dd_B_gather_15 : decode bb_B_gather 15 = .ok (.iload 4, 2) := by decide +kernel
theorem dd_B_gather_17 : decode bb_B_gather 17 = .ok (.aload_n 1, 1) := by decide +kernel
theorem dd_B_gather_18 : decode bb_B_gather 18 = .ok (.invokevirtual 42, 3) := by decide +kernel
theorem dd_B_gather_21 : decode bb_B_gather 21 = .ok (.if_icmp .ge 68, 3) := by decide +kernel
theorem dd_B_gather_24 : decode bb_B_gather 24 = .ok (.aload_n 1, 1) := by decide +kernel
theorem dd_B_gather_25 : decode bb_B_gather 25 = .ok (.getfield 45, 3) := by decide +kernel
theorem dd_B_gather_28 : decode bb_B_gather 28 = .ok (.iload_n 3, 1) := by decide +kernel
theorem dd_B_gather_29 : decode bb_B_gather 29 = .ok (.iload 4, 2) := by decide +kernel
theorem dd_B_gather_31 : decode bb_B_gather 31 = .ok (.invokevirtual 49, 3) := by decide +kernel
theorem dd_B_gather_34 : decode bb_B_gather 34 = .ok (.lstore 5, 2) := by decide +kernel
theorem dd_B_gather_36 : decode bb_B_gather 36 = .ok (.lload 5, 2) := by decide +kernel
theorem dd_B_gather_38 : decode bb_B_gather 38 = .ok (.aload_n 1, 1) := by decide +kernel
theorem dd_B_gather_39 : decode bb_B_gather 39 = .ok (.lload 5, 2) := by decide +kernel
theorem dd_B_gather_41 : decode bb_B_gather 41 = .ok (.invokevirtual 53, 3) := by decide +kernel
theorem dd_B_gather_44 : decode bb_B_gather 44 = .ok (.bipush (-2), 2) := by decide +kernel
theorem dd_B_gather_46 : decode bb_B_gather 46 = .ok (.isub, 1) := by decide +kernel
theorem dd_B_gather_47 : decode bb_B_gather 47 = .ok (.i2l, 1) := by decide +kernel
theorem dd_B_gather_48 : decode bb_B_gather 48 = .ok (.bipush 48, 2) := by decide +kernel
theorem dd_B_gather_50 : decode bb_B_gather 50 = .ok (.lshl, 1) := by decide +kernel
theorem dd_B_gather_51 : decode bb_B_gather 51 = .ok (.lor, 1) := by decide +kernel
theorem dd_B_gather_52 : decode bb_B_gather 52 = .ok (.lstore 7, 2) := by decide +kernel
theorem dd_B_gather_54 : decode bb_B_gather 54 = .ok (.iload_n 2, 1) := by decide +kernel
theorem dd_B_gather_55 : decode bb_B_gather 55 = .ok (.ifCond .eq 17, 3) := by decide +kernel
theorem dd_B_gather_58 : decode bb_B_gather 58 = .ok (.aload_n 0, 1) := by decide +kernel
theorem dd_B_gather_59 : decode bb_B_gather 59 = .ok (.getfield 13, 3) := by decide +kernel
theorem dd_B_gather_62 : decode bb_B_gather 62 = .ok (.iload_n 2, 1) := by decide +kernel
theorem dd_B_gather_63 : decode bb_B_gather 63 = .ok (.iconst 1, 1) := by decide +kernel
theorem dd_B_gather_64 : decode bb_B_gather 64 = .ok (.isub, 1) := by decide +kernel
theorem dd_B_gather_65 : decode bb_B_gather 65 = .ok (.laload, 1) := by decide +kernel
theorem dd_B_gather_66 : decode bb_B_gather 66 = .ok (.lload 7, 2) := by decide +kernel
theorem dd_B_gather_68 : decode bb_B_gather 68 = .ok (.lcmp, 1) := by decide +kernel
theorem dd_B_gather_69 : decode bb_B_gather 69 = .ok (.ifCond .eq 14, 3) := by decide +kernel
theorem dd_B_gather_72 : decode bb_B_gather 72 = .ok (.aload_n 0, 1) := by decide +kernel
theorem dd_B_gather_73 : decode bb_B_gather 73 = .ok (.getfield 13, 3) := by decide +kernel
theorem dd_B_gather_76 : decode bb_B_gather 76 = .ok (.iload_n 2, 1) := by decide +kernel
theorem dd_B_gather_77 : decode bb_B_gather 77 = .ok (.lload 7, 2) := by decide +kernel
theorem dd_B_gather_79 : decode bb_B_gather 79 = .ok (.lastore, 1) := by decide +kernel
theorem dd_B_gather_80 : decode bb_B_gather 80 = .ok (.iinc 2 1, 3) := by decide +kernel
theorem dd_B_gather_83 : decode bb_B_gather 83 = .ok (.iinc 4 1, 3) := by decide +kernel
theorem dd_B_gather_86 : decode bb_B_gather 86 = .ok (.goto (-71), 3) := by decide +kernel
theorem dd_B_gather_89 : decode bb_B_gather 89 = .ok (.iinc 3 1, 3) := by decide +kernel
theorem dd_B_gather_92 : decode bb_B_gather 92 = .ok (.goto (-88), 3) := by decide +kernel
theorem dd_B_gather_95 : decode bb_B_gather 95 = .ok (.iload_n 2, 1) := by decide +kernel
theorem dd_B_gather_96 : decode bb_B_gather 96 = .ok (.ireturn, 1) := by decide +kernel
theorem dd_B_init_0 : decode bb_B_init 0 = .ok (.aload_n 0, 1) := by decide +kernel
theorem dd_B_init_1 : decode bb_B_init 1 = .ok (.invokespecial 5, 3) := by decide +kernel
theorem dd_B_init_4 : decode bb_B_init 4 = .ok (.aload_n 0, 1) := by decide +kernel
theorem dd_B_init_5 : decode bb_B_init 5 = .ok (.sipush 4096, 3) := by decide +kernel
theorem dd_B_init_8 : decode bb_B_init 8 = .ok (.newarray .long, 2) := by decide +kernel
theorem dd_B_init_10 : decode bb_B_init 10 = .ok (.putfield 13, 3) := by decide +kernel
theorem dd_B_init_13 : decode bb_B_init 13 = .ok (.return_, 1) := by decide +kernel
theorem dd_B_treeFor_0 : decode bb_B_treeFor 0 = .ok (.iload 4, 2) := by decide +kernel
theorem dd_B_treeFor_2 : decode bb_B_treeFor 2 = .ok (.bipush 30, 2) := by decide +kernel
theorem dd_B_treeFor_4 : decode bb_B_treeFor 4 = .ok (.if_icmp .le 5, 3) := by decide +kernel
theorem dd_B_treeFor_7 : decode bb_B_treeFor 7 = .ok (.iconst (-1), 1) := by decide +kernel
theorem dd_B_treeFor_8 : decode bb_B_treeFor 8 = .ok (.ireturn, 1) := by decide +kernel
theorem dd_B_treeFor_9 : decode bb_B_treeFor 9 = .ok (.aload_n 0, 1) := by decide +kernel
theorem dd_B_treeFor_10 : decode bb_B_treeFor 10 = .ok (.iload_n 2, 1) := by decide +kernel
theorem dd_B_treeFor_11 : decode bb_B_treeFor 11 = .ok (.iload_n 3, 1) := by decide +kernel
theorem dd_B_treeFor_12 : decode bb_B_treeFor 12 = .ok (.invokevirtual 57, 3) := by decide +kernel
theorem dd_B_treeFor_15 : decode bb_B_treeFor 15 = .ok (.lstore 5, 2) := by decide +kernel
theorem dd_B_treeFor_17 : decode bb_B_treeFor 17 = .ok (.lload 5, 2) := by decide +kernel
theorem dd_B_treeFor_19 : decode bb_B_treeFor 19 = .ok (.bipush 48, 2) := by decide +kernel
theorem dd_B_treeFor_21 : decode bb_B_treeFor 21 = .ok (.lushr, 1) := by decide +kernel
theorem dd_B_treeFor_22 : decode bb_B_treeFor 22 = .ok (.lconst 0, 1) := by decide +kernel
theorem dd_B_treeFor_23 : decode bb_B_treeFor 23 = .ok (.lcmp, 1) := by decide +kernel
theorem dd_B_treeFor_24 : decode bb_B_treeFor 24 = .ok (.ifCond .ne 21, 3) := by decide +kernel
theorem dd_B_treeFor_27 : decode bb_B_treeFor 27 = .ok (.aload_n 1, 1) := by decide +kernel
theorem dd_B_treeFor_28 : decode bb_B_treeFor 28 = .ok (.aload_n 0, 1) := by decide +kernel
theorem dd_B_treeFor_29 : decode bb_B_treeFor 29 = .ok (.getfield 13, 3) := by decide +kernel
theorem dd_B_treeFor_32 : decode bb_B_treeFor 32 = .ok (.iload_n 2, 1) := by decide +kernel
theorem dd_B_treeFor_33 : decode bb_B_treeFor 33 = .ok (.laload, 1) := by decide +kernel
theorem dd_B_treeFor_34 : decode bb_B_treeFor 34 = .ok (.bipush 48, 2) := by decide +kernel
theorem dd_B_treeFor_36 : decode bb_B_treeFor 36 = .ok (.lushr, 1) := by decide +kernel
theorem dd_B_treeFor_37 : decode bb_B_treeFor 37 = .ok (.l2i, 1) := by decide +kernel
theorem dd_B_treeFor_38 : decode bb_B_treeFor 38 = .ok (.bipush (-2), 2) := by decide +kernel
theorem dd_B_treeFor_40 : decode bb_B_treeFor 40 = .ok (.iadd, 1) := by decide +kernel
theorem dd_B_treeFor_41 : decode bb_B_treeFor 41 = .ok (.invokevirtual 60, 3) := by decide +kernel
theorem dd_B_treeFor_44 : decode bb_B_treeFor 44 = .ok (.ireturn, 1) := by decide +kernel
theorem dd_B_treeFor_45 : decode bb_B_treeFor 45 = .ok (.lload 5, 2) := by decide +kernel
theorem dd_B_treeFor_47 : decode bb_B_treeFor 47 = .ok (.invokestatic 64, 3) := by decide +kernel
theorem dd_B_treeFor_50 : decode bb_B_treeFor 50 = .ok (.istore 7, 2) := by decide +kernel
theorem dd_B_treeFor_52 : decode bb_B_treeFor 52 = .ok (.aload_n 0, 1) := by decide +kernel
theorem dd_B_treeFor_53 : decode bb_B_treeFor 53 = .ok (.iload_n 2, 1) := by decide +kernel
theorem dd_B_treeFor_54 : decode bb_B_treeFor 54 = .ok (.iload_n 3, 1) := by decide +kernel
theorem dd_B_treeFor_55 : decode bb_B_treeFor 55 = .ok (.lconst 1, 1) := by decide +kernel
theorem dd_B_treeFor_56 : decode bb_B_treeFor 56 = .ok (.iload 7, 2) := by decide +kernel
theorem dd_B_treeFor_58 : decode bb_B_treeFor 58 = .ok (.lshl, 1) := by decide +kernel
theorem dd_B_treeFor_59 : decode bb_B_treeFor 59 = .ok (.invokevirtual 69, 3) := by decide +kernel
theorem dd_B_treeFor_62 : decode bb_B_treeFor 62 = .ok (.istore 8, 2) := by decide +kernel
theorem dd_B_treeFor_64 : decode bb_B_treeFor 64 = .ok (.aload_n 0, 1) := by decide +kernel
theorem dd_B_treeFor_65 : decode bb_B_treeFor 65 = .ok (.aload_n 1, 1) := by decide +kernel
theorem dd_B_treeFor_66 : decode bb_B_treeFor 66 = .ok (.iload_n 2, 1) := by decide +kernel
theorem dd_B_treeFor_67 : decode bb_B_treeFor 67 = .ok (.iload 8, 2) := by decide +kernel
theorem dd_B_treeFor_69 : decode bb_B_treeFor 69 = .ok (.iload 4, 2) := by decide +kernel
theorem dd_B_treeFor_71 : decode bb_B_treeFor 71 = .ok (.iconst 1, 1) := by decide +kernel
theorem dd_B_treeFor_72 : decode bb_B_treeFor 72 = .ok (.iadd, 1) := by decide +kernel
theorem dd_B_treeFor_73 : decode bb_B_treeFor 73 = .ok (.invokevirtual 34, 3) := by decide +kernel
theorem dd_B_treeFor_76 : decode bb_B_treeFor 76 = .ok (.istore 9, 2) := by decide +kernel
theorem dd_B_treeFor_78 : decode bb_B_treeFor 78 = .ok (.iload 9, 2) := by decide +kernel
theorem dd_B_treeFor_80 : decode bb_B_treeFor 80 = .ok (.iconst (-1), 1) := by decide +kernel
theorem dd_B_treeFor_81 : decode bb_B_treeFor 81 = .ok (.if_icmp .ne 5, 3) := by decide +kernel
theorem dd_B_treeFor_84 : decode bb_B_treeFor 84 = .ok (.iconst (-1), 1) := by decide +kernel
theorem dd_B_treeFor_85 : decode bb_B_treeFor 85 = .ok (.ireturn, 1) := by decide +kernel
theorem dd_B_treeFor_86 : decode bb_B_treeFor 86 = .ok (.aload_n 0, 1) := by decide +kernel
theorem dd_B_treeFor_87 : decode bb_B_treeFor 87 = .ok (.aload_n 1, 1) := by decide +kernel
theorem dd_B_treeFor_88 : decode bb_B_treeFor 88 = .ok (.iload 8, 2) := by decide +kernel
theorem dd_B_treeFor_90 : decode bb_B_treeFor 90 = .ok (.iload_n 3, 1) := by decide +kernel
theorem dd_B_treeFor_91 : decode bb_B_treeFor 91 = .ok (.iload 4, 2) := by decide +kernel
theorem dd_B_treeFor_93 : decode bb_B_treeFor 93 = .ok (.iconst 1, 1) := by decide +kernel
theorem dd_B_treeFor_94 : decode bb_B_treeFor 94 = .ok (.iadd, 1) := by decide +kernel
theorem dd_B_treeFor_95 : decode bb_B_treeFor 95 = .ok (.invokevirtual 34, 3) := by decide +kernel
theorem dd_B_treeFor_98 : decode bb_B_treeFor 98 = .ok (.istore 10, 2) := by decide +kernel
theorem dd_B_treeFor_100 : decode bb_B_treeFor 100 = .ok (.iload 10, 2) := by decide +kernel
theorem dd_B_treeFor_102 : decode bb_B_treeFor 102 = .ok (.iconst (-1), 1) := by decide +kernel
theorem dd_B_treeFor_103 : decode bb_B_treeFor 103 = .ok (.if_icmp .ne 5, 3) := by decide +kernel
theorem dd_B_treeFor_106 : decode bb_B_treeFor 106 = .ok (.iconst (-1), 1) := by decide +kernel
theorem dd_B_treeFor_107 : decode bb_B_treeFor 107 = .ok (.ireturn, 1) := by decide +kernel
theorem dd_B_treeFor_108 : decode bb_B_treeFor 108 = .ok (.aload_n 1, 1) := by decide +kernel
theorem dd_B_treeFor_109 : decode bb_B_treeFor 109 = .ok (.iload 7, 2) := by decide +kernel
theorem dd_B_treeFor_111 : decode bb_B_treeFor 111 = .ok (.iload 9, 2) := by decide +kernel
theorem dd_B_treeFor_113 : decode bb_B_treeFor 113 = .ok (.iload 10, 2) := by decide +kernel
theorem dd_B_treeFor_115 : decode bb_B_treeFor 115 = .ok (.invokevirtual 73, 3) := by decide +kernel
theorem dd_B_treeFor_118 : decode bb_B_treeFor 118 = .ok (.ireturn, 1) := by decide +kernel
theorem dd_E_has_0 : decode bb_E_has 0 = .ok (.aload_n 0, 1) := by decide +kernel
theorem dd_E_has_1 : decode bb_E_has 1 = .ok (.getfield 24, 3) := by decide +kernel
theorem dd_E_has_4 : decode bb_E_has 4 = .ok (.iload_n 1, 1) := by decide +kernel
theorem dd_E_has_5 : decode bb_E_has 5 = .ok (.if_icmp .lt 7, 3) := by decide +kernel
theorem dd_E_has_8 : decode bb_E_has 8 = .ok (.iconst 1, 1) := by decide +kernel
theorem dd_E_has_9 : decode bb_E_has 9 = .ok (.goto 4, 3) := by decide +kernel
theorem dd_E_has_12 : decode bb_E_has 12 = .ok (.iconst 0, 1) := by decide +kernel
theorem dd_E_has_13 : decode bb_E_has 13 = .ok (.ireturn, 1) := by decide +kernel
theorem dd_E_init_0 : decode bb_E_init 0 = .ok (.aload_n 0, 1) := by decide +kernel
theorem dd_E_init_1 : decode bb_E_init 1 = .ok (.invokespecial 1, 3) := by decide +kernel
theorem dd_E_init_4 : decode bb_E_init 4 = .ok (.aload_n 0, 1) := by decide +kernel
theorem dd_E_init_5 : decode bb_E_init 5 = .ok (.aconst_null, 1) := by decide +kernel
theorem dd_E_init_6 : decode bb_E_init 6 = .ok (.putfield 7, 3) := by decide +kernel
theorem dd_E_init_9 : decode bb_E_init 9 = .ok (.aload_n 0, 1) := by decide +kernel
theorem dd_E_init_10 : decode bb_E_init 10 = .ok (.iconst 0, 1) := by decide +kernel
theorem dd_E_init_11 : decode bb_E_init 11 = .ok (.putfield 13, 3) := by decide +kernel
theorem dd_E_init_14 : decode bb_E_init 14 = .ok (.aload_n 0, 1) := by decide +kernel
theorem dd_E_init_15 : decode bb_E_init 15 = .ok (.iconst 0, 1) := by decide +kernel
theorem dd_E_init_16 : decode bb_E_init 16 = .ok (.putfield 17, 3) := by decide +kernel
theorem dd_E_init_19 : decode bb_E_init 19 = .ok (.aload_n 0, 1) := by decide +kernel
theorem dd_E_init_20 : decode bb_E_init 20 = .ok (.bipush 6, 2) := by decide +kernel
theorem dd_E_init_22 : decode bb_E_init 22 = .ok (.newarray .int, 2) := by decide +kernel
theorem dd_E_init_24 : decode bb_E_init 24 = .ok (.putfield 20, 3) := by decide +kernel
theorem dd_E_init_27 : decode bb_E_init 27 = .ok (.aload_n 0, 1) := by decide +kernel
theorem dd_E_init_28 : decode bb_E_init 28 = .ok (.iconst 0, 1) := by decide +kernel
theorem dd_E_init_29 : decode bb_E_init 29 = .ok (.putfield 24, 3) := by decide +kernel
theorem dd_E_init_32 : decode bb_E_init 32 = .ok (.return_, 1) := by decide +kernel
theorem dd_E_open_0 : decode bb_E_open 0 = .ok (.aload_n 0, 1) := by decide +kernel
theorem dd_E_open_1 : decode bb_E_open 1 = .ok (.aload_n 1, 1) := by decide +kernel
theorem dd_E_open_2 : decode bb_E_open 2 = .ok (.putfield 7, 3) := by decide +kernel
theorem dd_E_open_5 : decode bb_E_open 5 = .ok (.aload_n 0, 1) := by decide +kernel
theorem dd_E_open_6 : decode bb_E_open 6 = .ok (.iload_n 2, 1) := by decide +kernel
theorem dd_E_open_7 : decode bb_E_open 7 = .ok (.putfield 13, 3) := by decide +kernel
theorem dd_E_open_10 : decode bb_E_open 10 = .ok (.aload_n 0, 1) := by decide +kernel
theorem dd_E_open_11 : decode bb_E_open 11 = .ok (.iload_n 3, 1) := by decide +kernel
theorem dd_E_open_12 : decode bb_E_open 12 = .ok (.putfield 17, 3) := by decide +kernel
theorem dd_E_open_15 : decode bb_E_open 15 = .ok (.aload_n 0, 1) := by decide +kernel
theorem dd_E_open_16 : decode bb_E_open 16 = .ok (.iconst 0, 1) := by decide +kernel
theorem dd_E_open_17 : decode bb_E_open 17 = .ok (.putfield 24, 3) := by decide +kernel
theorem dd_E_open_20 : decode bb_E_open 20 = .ok (.return_, 1) := by decide +kernel
theorem dd_E_pop_0 : decode bb_E_pop 0 = .ok (.aload_n 0, 1) := by decide +kernel
theorem dd_E_pop_1 : decode bb_E_pop 1 = .ok (.dup, 1) := by decide +kernel
theorem dd_E_pop_2 : decode bb_E_pop 2 = .ok (.getfield 24, 3) := by decide +kernel
theorem dd_E_pop_5 : decode bb_E_pop 5 = .ok (.iconst 1, 1) := by decide +kernel
theorem dd_E_pop_6 : decode bb_E_pop 6 = .ok (.isub, 1) := by decide +kernel
theorem dd_E_pop_7 : decode bb_E_pop 7 = .ok (.putfield 24, 3) := by decide +kernel
theorem dd_E_pop_10 : decode bb_E_pop 10 = .ok (.aload_n 0, 1) := by decide +kernel
theorem dd_E_pop_11 : decode bb_E_pop 11 = .ok (.getfield 20, 3) := by decide +kernel
theorem dd_E_pop_14 : decode bb_E_pop 14 = .ok (.aload_n 0, 1) := by decide +kernel
theorem dd_E_pop_15 : decode bb_E_pop 15 = .ok (.getfield 24, 3) := by decide +kernel
theorem dd_E_pop_18 : decode bb_E_pop 18 = .ok (.iaload, 1) := by decide +kernel
theorem dd_E_pop_19 : decode bb_E_pop 19 = .ok (.ireturn, 1) := by decide +kernel
theorem dd_E_push_0 : decode bb_E_push 0 = .ok (.aload_n 0, 1) := by decide +kernel
theorem dd_E_push_1 : decode bb_E_push 1 = .ok (.getfield 24, 3) := by decide +kernel
theorem dd_E_push_4 : decode bb_E_push 4 = .ok (.bipush 6, 2) := by decide +kernel
theorem dd_E_push_6 : decode bb_E_push 6 = .ok (.if_icmp .lt 6, 3) := by decide +kernel
theorem dd_E_push_9 : decode bb_E_push 9 = .ok (.bipush (-4), 2) := by decide +kernel
theorem dd_E_push_11 : decode bb_E_push 11 = .ok (.ireturn, 1) := by decide +kernel
theorem dd_E_push_12 : decode bb_E_push 12 = .ok (.aload_n 0, 1) := by decide +kernel
theorem dd_E_push_13 : decode bb_E_push 13 = .ok (.getfield 20, 3) := by decide +kernel
theorem dd_E_push_16 : decode bb_E_push 16 = .ok (.aload_n 0, 1) := by decide +kernel
theorem dd_E_push_17 : decode bb_E_push 17 = .ok (.getfield 24, 3) := by decide +kernel
theorem dd_E_push_20 : decode bb_E_push 20 = .ok (.iload_n 1, 1) := by decide +kernel
theorem dd_E_push_21 : decode bb_E_push 21 = .ok (.iastore, 1) := by decide +kernel
theorem dd_E_push_22 : decode bb_E_push 22 = .ok (.aload_n 0, 1) := by decide +kernel
theorem dd_E_push_23 : decode bb_E_push 23 = .ok (.dup, 1) := by decide +kernel
theorem dd_E_push_24 : decode bb_E_push 24 = .ok (.getfield 24, 3) := by decide +kernel
theorem dd_E_push_27 : decode bb_E_push 27 = .ok (.iconst 1, 1) := by decide +kernel
theorem dd_E_push_28 : decode bb_E_push 28 = .ok (.iadd, 1) := by decide +kernel
theorem dd_E_push_29 : decode bb_E_push 29 = .ok (.putfield 24, 3) := by decide +kernel
theorem dd_E_push_32 : decode bb_E_push 32 = .ok (.iload_n 1, 1) := by decide +kernel
theorem dd_E_push_33 : decode bb_E_push 33 = .ok (.ireturn, 1) := by decide +kernel
theorem dd_E_result_0 : decode bb_E_result 0 = .ok (.aload_n 0, 1) := by decide +kernel
theorem dd_E_result_1 : decode bb_E_result 1 = .ok (.getfield 24, 3) := by decide +kernel
theorem dd_E_result_4 : decode bb_E_result 4 = .ok (.ifCond .le 17, 3) := by decide +kernel
theorem dd_E_result_7 : decode bb_E_result 7 = .ok (.aload_n 0, 1) := by decide +kernel
theorem dd_E_result_8 : decode bb_E_result 8 = .ok (.getfield 20, 3) := by decide +kernel
theorem dd_E_result_11 : decode bb_E_result 11 = .ok (.aload_n 0, 1) := by decide +kernel
theorem dd_E_result_12 : decode bb_E_result 12 = .ok (.getfield 24, 3) := by decide +kernel
theorem dd_E_result_15 : decode bb_E_result 15 = .ok (.iconst 1, 1) := by decide +kernel
theorem dd_E_result_16 : decode bb_E_result 16 = .ok (.isub, 1) := by decide +kernel
theorem dd_E_result_17 : decode bb_E_result 17 = .ok (.iaload, 1) := by decide +kernel
theorem dd_E_result_18 : decode bb_E_result 18 = .ok (.goto 7, 3) := by decide +kernel
theorem dd_E_result_21 : decode bb_E_result 21 = .ok (.aload_n 0, 1) := by decide +kernel
theorem dd_E_result_22 : decode bb_E_result 22 = .ok (.getfield 13, 3) := by decide +kernel
theorem dd_E_result_25 : decode bb_E_result 25 = .ok (.ireturn, 1) := by decide +kernel
theorem dd_N_call_0 : decode bb_N_call 0 = .ok (.aload_n 0, 1) := by decide +kernel
theorem dd_N_call_1 : decode bb_N_call 1 = .ok (.iload 4, 2) := by decide +kernel
theorem dd_N_call_3 : decode bb_N_call 3 = .ok (.invokevirtual 31, 3) := by decide +kernel
theorem dd_N_call_6 : decode bb_N_call 6 = .ok (.istore 5, 2) := by decide +kernel
theorem dd_N_call_8 : decode bb_N_call 8 = .ok (.iload 5, 2) := by decide +kernel
theorem dd_N_call_10 : decode bb_N_call 10 = .ok (.ifCond .ge 6, 3) := by decide +kernel
theorem dd_N_call_13 : decode bb_N_call 13 = .ok (.iload 5, 2) := by decide +kernel
theorem dd_N_call_15 : decode bb_N_call 15 = .ok (.ireturn, 1) := by decide +kernel
theorem dd_N_call_16 : decode bb_N_call 16 = .ok (.aload_n 1, 1) := by decide +kernel
theorem dd_N_call_17 : decode bb_N_call 17 = .ok (.getfield 35, 3) := by decide +kernel
theorem dd_N_call_20 : decode bb_N_call 20 = .ok (.iload_n 2, 1) := by decide +kernel
theorem dd_N_call_21 : decode bb_N_call 21 = .ok (.iload_n 3, 1) := by decide +kernel
theorem dd_N_call_22 : decode bb_N_call 22 = .ok (.invokevirtual 41, 3) := by decide +kernel
theorem dd_N_call_25 : decode bb_N_call 25 = .ok (.lstore 6, 2) := by decide +kernel
theorem dd_N_call_27 : decode bb_N_call 27 = .ok (.aload_n 1, 1) := by decide +kernel
theorem dd_N_call_28 : decode bb_N_call 28 = .ok (.getfield 47, 3) := by decide +kernel
theorem dd_N_call_31 : decode bb_N_call 31 = .ok (.invokevirtual 51, 3) := by decide +kernel
theorem dd_N_call_34 : decode bb_N_call 34 = .ok (.ifCond .eq 12, 3) := by decide +kernel
theorem dd_N_call_37 : decode bb_N_call 37 = .ok (.aload_n 1, 1) := by decide +kernel
theorem dd_N_call_38 : decode bb_N_call 38 = .ok (.lload 6, 2) := by decide +kernel
theorem dd_N_call_40 : decode bb_N_call 40 = .ok (.invokevirtual 57, 3) := by decide +kernel
theorem dd_N_call_43 : decode bb_N_call 43 = .ok (.goto 13, 3) := by decide +kernel
theorem dd_N_call_46 : decode bb_N_call 46 = .ok (.aload_n 0, 1) := by decide +kernel
theorem dd_N_call_47 : decode bb_N_call 47 = .ok (.aload_n 1, 1) := by decide +kernel
theorem dd_N_call_48 : decode bb_N_call 48 = .ok (.getfield 47, 3) := by decide +kernel
theorem dd_N_call_51 : decode bb_N_call 51 = .ok (.lload 6, 2) := by decide +kernel
theorem dd_N_call_53 : decode bb_N_call 53 = .ok (.invokevirtual 61, 3) := by decide +kernel
theorem dd_N_call_56 : decode bb_N_call 56 = .ok (.istore 8, 2) := by decide +kernel
theorem dd_N_call_58 : decode bb_N_call 58 = .ok (.iload 8, 2) := by decide +kernel
theorem dd_N_call_60 : decode bb_N_call 60 = .ok (.ifCond .ge 8, 3) := by decide +kernel
theorem dd_N_call_63 : decode bb_N_call 63 = .ok (.iload 8, 2) := by decide +kernel
theorem dd_N_call_65 : decode bb_N_call 65 = .ok (.goto 18, 3) := by decide +kernel
theorem dd_N_call_68 : decode bb_N_call 68 = .ok (.aload_n 0, 1) := by decide +kernel
theorem dd_N_call_69 : decode bb_N_call 69 = .ok (.aload_n 0, 1) := by decide +kernel
theorem dd_N_call_70 : decode bb_N_call 70 = .ok (.getfield 20, 3) := by decide +kernel
theorem dd_N_call_73 : decode bb_N_call 73 = .ok (.iload 8, 2) := by decide +kernel
theorem dd_N_call_75 : decode bb_N_call 75 = .ok (.aaload, 1) := by decide +kernel
theorem dd_N_call_76 : decode bb_N_call 76 = .ok (.iload_n 2, 1) := by decide +kernel
theorem dd_N_call_77 : decode bb_N_call 77 = .ok (.iload_n 3, 1) := by decide +kernel
theorem dd_N_call_78 : decode bb_N_call 78 = .ok (.iload 4, 2) := by decide +kernel
theorem dd_N_call_80 : decode bb_N_call 80 = .ok (.invokevirtual 65, 3) := by decide +kernel
theorem dd_N_call_83 : decode bb_N_call 83 = .ok (.ireturn, 1) := by decide +kernel
theorem dd_N_callNext_0 : decode bb_N_callNext 0 = .ok (.aload_n 0, 1) := by decide +kernel
theorem dd_N_callNext_1 : decode bb_N_callNext 1 = .ok (.iload_n 2, 1) := by decide +kernel
theorem dd_N_callNext_2 : decode bb_N_callNext 2 = .ok (.invokevirtual 31, 3) := by decide +kernel
theorem dd_N_callNext_5 : decode bb_N_callNext 5 = .ok (.istore_n 3, 1) := by decide +kernel
theorem dd_N_callNext_6 : decode bb_N_callNext 6 = .ok (.iload_n 3, 1) := by decide +kernel
theorem dd_N_callNext_7 : decode bb_N_callNext 7 = .ok (.ifCond .ge 5, 3) := by decide +kernel
theorem dd_N_callNext_10 : decode bb_N_callNext 10 = .ok (.iload_n 3, 1) := by decide +kernel
theorem dd_N_callNext_11 : decode bb_N_callNext 11 = .ok (.ireturn, 1) := by decide +kernel
theorem dd_N_callNext_12 : decode bb_N_callNext 12 = .ok (.aload_n 1, 1) := by decide +kernel
theorem dd_N_callNext_13 : decode bb_N_callNext 13 = .ok (.getfield 69, 3) := by decide +kernel
theorem dd_N_callNext_16 : decode bb_N_callNext 16 = .ok (.getfield 73, 3) := by decide +kernel
theorem dd_N_callNext_19 : decode bb_N_callNext 19 = .ok (.astore 4, 2) := by decide +kernel
theorem dd_N_callNext_21 : decode bb_N_callNext 21 = .ok (.aload 4, 2) := by decide +kernel
theorem dd_N_callNext_23 : decode bb_N_callNext 23 = .ok (.getfield 35, 3) := by decide +kernel
theorem dd_N_callNext_26 : decode bb_N_callNext 26 = .ok (.aload_n 1, 1) := by decide +kernel
theorem dd_N_callNext_27 : decode bb_N_callNext 27 = .ok (.getfield 79, 3) := by decide +kernel
theorem dd_N_callNext_30 : decode bb_N_callNext 30 = .ok (.aload_n 1, 1) := by decide +kernel
theorem dd_N_callNext_31 : decode bb_N_callNext 31 = .ok (.getfield 82, 3) := by decide +kernel
theorem dd_N_callNext_34 : decode bb_N_callNext 34 = .ok (.invokevirtual 41, 3) := by decide +kernel
theorem dd_N_callNext_37 : decode bb_N_callNext 37 = .ok (.lstore 5, 2) := by decide +kernel
theorem dd_N_callNext_39 : decode bb_N_callNext 39 = .ok (.aload 4, 2) := by decide +kernel
theorem dd_N_callNext_41 : decode bb_N_callNext 41 = .ok (.aload_n 1, 1) := by decide +kernel
theorem dd_N_callNext_42 : decode bb_N_callNext 42 = .ok (.getfield 69, 3) := by decide +kernel
theorem dd_N_callNext_45 : decode bb_N_callNext 45 = .ok (.lload 5, 2) := by decide +kernel
theorem dd_N_callNext_47 : decode bb_N_callNext 47 = .ok (.invokevirtual 85, 3) := by decide +kernel
theorem dd_N_callNext_50 : decode bb_N_callNext 50 = .ok (.istore 7, 2) := by decide +kernel
theorem dd_N_callNext_52 : decode bb_N_callNext 52 = .ok (.iload 7, 2) := by decide +kernel
theorem dd_N_callNext_54 : decode bb_N_callNext 54 = .ok (.ifCond .ge 8, 3) := by decide +kernel
theorem dd_N_callNext_57 : decode bb_N_callNext 57 = .ok (.iload 7, 2) := by decide +kernel
theorem dd_N_callNext_59 : decode bb_N_callNext 59 = .ok (.goto 23, 3) := by decide +kernel
theorem dd_N_callNext_62 : decode bb_N_callNext 62 = .ok (.aload_n 0, 1) := by decide +kernel
theorem dd_N_callNext_63 : decode bb_N_callNext 63 = .ok (.aload_n 0, 1) := by decide +kernel
theorem dd_N_callNext_64 : decode bb_N_callNext 64 = .ok (.getfield 20, 3) := by decide +kernel
theorem dd_N_callNext_67 : decode bb_N_callNext 67 = .ok (.iload 7, 2) := by decide +kernel
theorem dd_N_callNext_69 : decode bb_N_callNext 69 = .ok (.aaload, 1) := by decide +kernel
theorem dd_N_callNext_70 : decode bb_N_callNext 70 = .ok (.aload_n 1, 1) := by decide +kernel
theorem dd_N_callNext_71 : decode bb_N_callNext 71 = .ok (.getfield 79, 3) := by decide +kernel
theorem dd_N_callNext_74 : decode bb_N_callNext 74 = .ok (.aload_n 1, 1) := by decide +kernel
theorem dd_N_callNext_75 : decode bb_N_callNext 75 = .ok (.getfield 82, 3) := by decide +kernel
theorem dd_N_callNext_78 : decode bb_N_callNext 78 = .ok (.iload_n 2, 1) := by decide +kernel
theorem dd_N_callNext_79 : decode bb_N_callNext 79 = .ok (.invokevirtual 65, 3) := by decide +kernel
theorem dd_N_callNext_82 : decode bb_N_callNext 82 = .ok (.ireturn, 1) := by decide +kernel
theorem dd_N_callOnTop_0 : decode bb_N_callOnTop 0 = .ok (.aload_n 2, 1) := by decide +kernel
theorem dd_N_callOnTop_1 : decode bb_N_callOnTop 1 = .ok (.aload_n 1, 1) := by decide +kernel
theorem dd_N_callOnTop_2 : decode bb_N_callOnTop 2 = .ok (.getfield 172, 3) := by decide +kernel
theorem dd_N_callOnTop_5 : decode bb_N_callOnTop 5 = .ok (.invokevirtual 160, 3) := by decide +kernel
theorem dd_N_callOnTop_8 : decode bb_N_callOnTop 8 = .ok (.ifCond .ne 6, 3) := by decide +kernel
theorem dd_N_callOnTop_11 : decode bb_N_callOnTop 11 = .ok (.bipush (-4), 2) := by decide +kernel
theorem dd_N_callOnTop_13 : decode bb_N_callOnTop 13 = .ok (.ireturn, 1) := by decide +kernel
theorem dd_N_callOnTop_14 : decode bb_N_callOnTop 14 = .ok (.aload_n 1, 1) := by decide +kernel
theorem dd_N_callOnTop_15 : decode bb_N_callOnTop 15 = .ok (.getfield 172, 3) := by decide +kernel
theorem dd_N_callOnTop_18 : decode bb_N_callOnTop 18 = .ok (.iconst 2, 1) := by decide +kernel
theorem dd_N_callOnTop_19 : decode bb_N_callOnTop 19 = .ok (.if_icmp .ne 10, 3) := by decide +kernel
theorem dd_N_callOnTop_22 : decode bb_N_callOnTop 22 = .ok (.aload_n 2, 1) := by decide +kernel
theorem dd_N_callOnTop_23 : decode bb_N_callOnTop 23 = .ok (.invokevirtual 163, 3) := by decide +kernel
theorem dd_N_callOnTop_26 : decode bb_N_callOnTop 26 = .ok (.goto 4, 3) := by decide +kernel
theorem dd_N_callOnTop_29 : decode bb_N_callOnTop 29 = .ok (.iconst 0, 1) := by decide +kernel
theorem dd_N_callOnTop_30 : decode bb_N_callOnTop 30 = .ok (.istore 4, 2) := by decide +kernel
theorem dd_N_callOnTop_32 : decode bb_N_callOnTop 32 = .ok (.aload_n 2, 1) := by decide +kernel
theorem dd_N_callOnTop_33 : decode bb_N_callOnTop 33 = .ok (.invokevirtual 163, 3) := by decide +kernel
theorem dd_N_callOnTop_36 : decode bb_N_callOnTop 36 = .ok (.istore 5, 2) := by decide +kernel
theorem dd_N_callOnTop_38 : decode bb_N_callOnTop 38 = .ok (.aload_n 2, 1) := by decide +kernel
theorem dd_N_callOnTop_39 : decode bb_N_callOnTop 39 = .ok (.aload_n 0, 1) := by decide +kernel
theorem dd_N_callOnTop_40 : decode bb_N_callOnTop 40 = .ok (.aload_n 1, 1) := by decide +kernel
theorem dd_N_callOnTop_41 : decode bb_N_callOnTop 41 = .ok (.iload 5, 2) := by decide +kernel
theorem dd_N_callOnTop_43 : decode bb_N_callOnTop 43 = .ok (.iload 4, 2) := by decide +kernel
theorem dd_N_callOnTop_45 : decode bb_N_callOnTop 45 = .ok (.iload_n 3, 1) := by decide +kernel
theorem dd_N_callOnTop_46 : decode bb_N_callOnTop 46 = .ok (.iconst 1, 1) := by decide +kernel
theorem dd_N_callOnTop_47 : decode bb_N_callOnTop 47 = .ok (.iadd, 1) := by decide +kernel
theorem dd_N_callOnTop_48 : decode bb_N_callOnTop 48 = .ok (.invokevirtual 175, 3) := by decide +kernel
theorem dd_N_callOnTop_51 : decode bb_N_callOnTop 51 = .ok (.invokestatic 157, 3) := by decide +kernel
theorem dd_N_callOnTop_54 : decode bb_N_callOnTop 54 = .ok (.ireturn, 1) := by decide +kernel
theorem dd_N_combine_0 : decode bb_N_combine 0 = .ok (.aload_n 0, 1) := by decide +kernel
theorem dd_N_combine_1 : decode bb_N_combine 1 = .ok (.iconst 2, 1) := by decide +kernel
theorem dd_N_combine_2 : decode bb_N_combine 2 = .ok (.invokevirtual 160, 3) := by decide +kernel
theorem dd_N_combine_5 : decode bb_N_combine 5 = .ok (.ifCond .ne 6, 3) := by decide +kernel
theorem dd_N_combine_8 : decode bb_N_combine 8 = .ok (.bipush (-4), 2) := by decide +kernel
theorem dd_N_combine_10 : decode bb_N_combine 10 = .ok (.ireturn, 1) := by decide +kernel
theorem dd_N_combine_11 : decode bb_N_combine 11 = .ok (.aload_n 0, 1) := by decide +kernel
theorem dd_N_combine_12 : decode bb_N_combine 12 = .ok (.invokevirtual 163, 3) := by decide +kernel
theorem dd_N_combine_15 : decode bb_N_combine 15 = .ok (.invokestatic 166, 3) := by decide +kernel
theorem dd_N_combine_18 : decode bb_N_combine 18 = .ok (.istore_n 2, 1) := by decide +kernel
theorem dd_N_combine_19 : decode bb_N_combine 19 = .ok (.aload_n 0, 1) := by decide +kernel
theorem dd_N_combine_20 : decode bb_N_combine 20 = .ok (.invokevirtual 163, 3) := by decide +kernel
theorem dd_N_combine_23 : decode bb_N_combine 23 = .ok (.istore_n 3, 1) := by decide +kernel
theorem dd_N_combine_24 : decode bb_N_combine 24 = .ok (.iload_n 3, 1) := by decide +kernel
theorem dd_N_combine_25 : decode bb_N_combine 25 = .ok (.invokestatic 166, 3) := by decide +kernel
theorem dd_N_combine_28 : decode bb_N_combine 28 = .ok (.istore 4, 2) := by decide +kernel
theorem dd_N_combine_30 : decode bb_N_combine 30 = .ok (.aload_n 0, 1) := by decide +kernel
theorem dd_N_combine_31 : decode bb_N_combine 31 = .ok (.iload_n 3, 1) := by decide +kernel
theorem dd_N_combine_32 : decode bb_N_combine 32 = .ok (.invokestatic 169, 3) := by decide +kernel
theorem dd_N_combine_35 : decode bb_N_combine 35 = .ok (.iload_n 1, 1) := by decide +kernel
theorem dd_N_combine_36 : decode bb_N_combine 36 = .ok (.ifCond .eq 10, 3) := by decide +kernel
theorem dd_N_combine_39 : decode bb_N_combine 39 = .ok (.iload 4, 2) := by decide +kernel
theorem dd_N_combine_41 : decode bb_N_combine 41 = .ok (.iload_n 2, 1) := by decide +kernel
theorem dd_N_combine_42 : decode bb_N_combine 42 = .ok (.iadd, 1) := by decide +kernel
theorem dd_N_combine_43 : decode bb_N_combine 43 = .ok (.goto 7, 3) := by decide +kernel
theorem dd_N_combine_46 : decode bb_N_combine 46 = .ok (.iload 4, 2) := by decide +kernel
theorem dd_N_combine_48 : decode bb_N_combine 48 = .ok (.iload_n 2, 1) := by decide +kernel
theorem dd_N_combine_49 : decode bb_N_combine 49 = .ok (.imul, 1) := by decide +kernel
theorem dd_N_combine_50 : decode bb_N_combine 50 = .ok (.invokestatic 133, 3) := by decide +kernel
theorem dd_N_combine_53 : decode bb_N_combine 53 = .ok (.invokevirtual 139, 3) := by decide +kernel
theorem dd_N_combine_56 : decode bb_N_combine 56 = .ok (.ireturn, 1) := by decide +kernel
theorem dd_N_enter_0 : decode bb_N_enter 0 = .ok (.iload_n 1, 1) := by decide +kernel
theorem dd_N_enter_1 : decode bb_N_enter 1 = .ok (.bipush 8, 2) := by decide +kernel
theorem dd_N_enter_3 : decode bb_N_enter 3 = .ok (.if_icmp .lt 8, 3) := by decide +kernel
theorem dd_N_enter_6 : decode bb_N_enter 6 = .ok (.bipush (-5), 2) := by decide +kernel
theorem dd_N_enter_8 : decode bb_N_enter 8 = .ok (.goto 7, 3) := by decide +kernel
theorem dd_N_enter_11 : decode bb_N_enter 11 = .ok (.aload_n 0, 1) := by decide +kernel
theorem dd_N_enter_12 : decode bb_N_enter 12 = .ok (.invokevirtual 89, 3) := by decide +kernel
theorem dd_N_enter_15 : decode bb_N_enter 15 = .ok (.ireturn, 1) := by decide +kernel
theorem dd_N_init_0 : decode bb_N_init 0 = .ok (.aload_n 0, 1) := by decide +kernel
theorem dd_N_init_1 : decode bb_N_init 1 = .ok (.invokespecial 1, 3) := by decide +kernel
theorem dd_N_init_4 : decode bb_N_init 4 = .ok (.aload_n 0, 1) := by decide +kernel
theorem dd_N_init_5 : decode bb_N_init 5 = .ok (.iconst 0, 1) := by decide +kernel
theorem dd_N_init_6 : decode bb_N_init 6 = .ok (.putfield 7, 3) := by decide +kernel
theorem dd_N_init_9 : decode bb_N_init 9 = .ok (.aload_n 0, 1) := by decide +kernel
theorem dd_N_init_10 : decode bb_N_init 10 = .ok (.iconst 0, 1) := by decide +kernel
theorem dd_N_init_11 : decode bb_N_init 11 = .ok (.putfield 13, 3) := by decide +kernel
theorem dd_N_init_14 : decode bb_N_init 14 = .ok (.aload_n 0, 1) := by decide +kernel
theorem dd_N_init_15 : decode bb_N_init 15 = .ok (.aconst_null, 1) := by decide +kernel
theorem dd_N_init_16 : decode bb_N_init 16 = .ok (.putfield 16, 3) := by decide +kernel
theorem dd_N_init_19 : decode bb_N_init 19 = .ok (.aload_n 0, 1) := by decide +kernel
theorem dd_N_init_20 : decode bb_N_init 20 = .ok (.aconst_null, 1) := by decide +kernel
theorem dd_N_init_21 : decode bb_N_init 21 = .ok (.putfield 20, 3) := by decide +kernel
theorem dd_N_init_24 : decode bb_N_init 24 = .ok (.aload_n 0, 1) := by decide +kernel
theorem dd_N_init_25 : decode bb_N_init 25 = .ok (.bipush 8, 2) := by decide +kernel
theorem dd_N_init_27 : decode bb_N_init 27 = .ok (.anewarray 24, 3) := by decide +kernel
theorem dd_N_init_30 : decode bb_N_init 30 = .ok (.putfield 26, 3) := by decide +kernel
theorem dd_N_init_33 : decode bb_N_init 33 = .ok (.iconst 0, 1) := by decide +kernel
theorem dd_N_init_34 : decode bb_N_init 34 = .ok (.istore_n 1, 1) := by decide +kernel
theorem dd_N_init_35 : decode bb_N_init 35 = .ok (.iload_n 1, 1) := by decide +kernel
theorem dd_N_init_36 : decode bb_N_init 36 = .ok (.bipush 8, 2) := by decide +kernel
theorem dd_N_init_38 : decode bb_N_init 38 = .ok (.if_icmp .ge 22, 3) := by decide +kernel
theorem dd_N_init_41 : decode bb_N_init 41 = .ok (.aload_n 0, 1) := by decide +kernel
theorem dd_N_init_42 : decode bb_N_init 42 = .ok (.getfield 26, 3) := by decide +kernel
theorem dd_N_init_45 : decode bb_N_init 45 = .ok (.iload_n 1, 1) := by decide +kernel
theorem dd_N_init_46 : decode bb_N_init 46 = .ok (.new 24, 3) := by decide +kernel
theorem dd_N_init_49 : decode bb_N_init 49 = .ok (.dup, 1) := by decide +kernel
theorem dd_N_init_50 : decode bb_N_init 50 = .ok (.invokespecial 30, 3) := by decide +kernel
theorem dd_N_init_53 : decode bb_N_init 53 = .ok (.aastore, 1) := by decide +kernel
theorem dd_N_init_54 : decode bb_N_init 54 = .ok (.iinc 1 1, 3) := by decide +kernel
theorem dd_N_init_57 : decode bb_N_init 57 = .ok (.goto (-22), 3) := by decide +kernel
theorem dd_N_init_60 : decode bb_N_init 60 = .ok (.return_, 1) := by decide +kernel
theorem dd_N_load_0 : decode bb_N_load 0 = .ok (.aload_n 0, 1) := by decide +kernel
theorem dd_N_load_1 : decode bb_N_load 1 = .ok (.aload_n 1, 1) := by decide +kernel
theorem dd_N_load_2 : decode bb_N_load 2 = .ok (.putfield 16, 3) := by decide +kernel
theorem dd_N_load_5 : decode bb_N_load 5 = .ok (.aload_n 0, 1) := by decide +kernel
theorem dd_N_load_6 : decode bb_N_load 6 = .ok (.aload_n 2, 1) := by decide +kernel
theorem dd_N_load_7 : decode bb_N_load 7 = .ok (.putfield 20, 3) := by decide +kernel
theorem dd_N_load_10 : decode bb_N_load 10 = .ok (.aload_n 0, 1) := by decide +kernel
theorem dd_N_load_11 : decode bb_N_load 11 = .ok (.iload_n 3, 1) := by decide +kernel
theorem dd_N_load_12 : decode bb_N_load 12 = .ok (.putfield 7, 3) := by decide +kernel
theorem dd_N_load_15 : decode bb_N_load 15 = .ok (.aload_n 0, 1) := by decide +kernel
theorem dd_N_load_16 : decode bb_N_load 16 = .ok (.iconst 0, 1) := by decide +kernel
theorem dd_N_load_17 : decode bb_N_load 17 = .ok (.putfield 13, 3) := by decide +kernel
theorem dd_N_load_20 : decode bb_N_load 20 = .ok (.return_, 1) := by decide +kernel
theorem dd_N_perform_0 : decode bb_N_perform 0 = .ok (.aload_n 0, 1) := by decide +kernel
theorem dd_N_perform_1 : decode bb_N_perform 1 = .ok (.getfield 26, 3) := by decide +kernel
theorem dd_N_perform_4 : decode bb_N_perform 4 = .ok (.iload 4, 2) := by decide +kernel
theorem dd_N_perform_6 : decode bb_N_perform 6 = .ok (.aaload, 1) := by decide +kernel
theorem dd_N_perform_7 : decode bb_N_perform 7 = .ok (.astore 5, 2) := by decide +kernel
theorem dd_N_perform_9 : decode bb_N_perform 9 = .ok (.aload 5, 2) := by decide +kernel
theorem dd_N_perform_11 : decode bb_N_perform 11 = .ok (.aload_n 1, 1) := by decide +kernel
theorem dd_N_perform_12 : decode bb_N_perform 12 = .ok (.iload_n 2, 1) := by decide +kernel
theorem dd_N_perform_13 : decode bb_N_perform 13 = .ok (.iload_n 3, 1) := by decide +kernel
theorem dd_N_perform_14 : decode bb_N_perform 14 = .ok (.invokevirtual 107, 3) := by decide +kernel
theorem dd_N_perform_17 : decode bb_N_perform 17 = .ok (.iconst 0, 1) := by decide +kernel
theorem dd_N_perform_18 : decode bb_N_perform 18 = .ok (.istore 6, 2) := by decide +kernel
theorem dd_N_perform_20 : decode bb_N_perform 20 = .ok (.iload 6, 2) := by decide +kernel
theorem dd_N_perform_22 : decode bb_N_perform 22 = .ok (.aload_n 1, 1) := by decide +kernel
theorem dd_N_perform_23 : decode bb_N_perform 23 = .ok (.getfield 111, 3) := by decide +kernel
theorem dd_N_perform_26 : decode bb_N_perform 26 = .ok (.if_icmp .ge 50, 3) := by decide +kernel
theorem dd_N_perform_29 : decode bb_N_perform 29 = .ok (.aload_n 0, 1) := by decide +kernel
theorem dd_N_perform_30 : decode bb_N_perform 30 = .ok (.invokevirtual 89, 3) := by decide +kernel
theorem dd_N_perform_33 : decode bb_N_perform 33 = .ok (.istore 7, 2) := by decide +kernel
theorem dd_N_perform_35 : decode bb_N_perform 35 = .ok (.iload 7, 2) := by decide +kernel
theorem dd_N_perform_37 : decode bb_N_perform 37 = .ok (.ifCond .ge 8, 3) := by decide +kernel
theorem dd_N_perform_40 : decode bb_N_perform 40 = .ok (.iload 7, 2) := by decide +kernel
theorem dd_N_perform_42 : decode bb_N_perform 42 = .ok (.goto 18, 3) := by decide +kernel
theorem dd_N_perform_45 : decode bb_N_perform 45 = .ok (.aload_n 0, 1) := by decide +kernel
theorem dd_N_perform_46 : decode bb_N_perform 46 = .ok (.aload_n 1, 1) := by decide +kernel
theorem dd_N_perform_47 : decode bb_N_perform 47 = .ok (.getfield 114, 3) := by decide +kernel
theorem dd_N_perform_50 : decode bb_N_perform 50 = .ok (.iload 6, 2) := by decide +kernel
theorem dd_N_perform_52 : decode bb_N_perform 52 = .ok (.aaload, 1) := by decide +kernel
theorem dd_N_perform_53 : decode bb_N_perform 53 = .ok (.aload 5, 2) := by decide +kernel
theorem dd_N_perform_55 : decode bb_N_perform 55 = .ok (.iload 4, 2) := by decide +kernel
theorem dd_N_perform_57 : decode bb_N_perform 57 = .ok (.invokevirtual 118, 3) := by decide +kernel
theorem dd_N_perform_60 : decode bb_N_perform 60 = .ok (.istore 8, 2) := by decide +kernel
theorem dd_N_perform_62 : decode bb_N_perform 62 = .ok (.iload 8, 2) := by decide +kernel
theorem dd_N_perform_64 : decode bb_N_perform 64 = .ok (.ifCond .ge 6, 3) := by decide +kernel
theorem dd_N_perform_67 : decode bb_N_perform 67 = .ok (.iload 8, 2) := by decide +kernel
theorem dd_N_perform_69 : decode bb_N_perform 69 = .ok (.ireturn, 1) := by decide +kernel
theorem dd_N_perform_70 : decode bb_N_perform 70 = .ok (.iinc 6 1, 3) := by decide +kernel
theorem dd_N_perform_73 : decode bb_N_perform 73 = .ok (.goto (-53), 3) := by decide +kernel
theorem dd_N_perform_76 : decode bb_N_perform 76 = .ok (.aload 5, 2) := by decide +kernel
theorem dd_N_perform_78 : decode bb_N_perform 78 = .ok (.invokevirtual 122, 3) := by decide +kernel
theorem dd_N_perform_81 : decode bb_N_perform 81 = .ok (.ireturn, 1) := by decide +kernel
theorem dd_N_pushUnlessEnded_0 : decode bb_N_pushUnlessEnded 0 = .ok (.iload_n 1, 1) := by decide +kernel
theorem dd_N_pushUnlessEnded_1 : decode bb_N_pushUnlessEnded 1 = .ok (.ifCond .ge 7, 3) := by decide +kernel
theorem dd_N_pushUnlessEnded_4 : decode bb_N_pushUnlessEnded 4 = .ok (.iload_n 1, 1) := by decide +kernel
theorem dd_N_pushUnlessEnded_5 : decode bb_N_pushUnlessEnded 5 = .ok (.goto 8, 3) := by decide +kernel
theorem dd_N_pushUnlessEnded_8 : decode bb_N_pushUnlessEnded 8 = .ok (.aload_n 0, 1) := by decide +kernel
theorem dd_N_pushUnlessEnded_9 : decode bb_N_pushUnlessEnded 9 = .ok (.iload_n 1, 1) := by decide +kernel
theorem dd_N_pushUnlessEnded_10 : decode bb_N_pushUnlessEnded 10 = .ok (.invokevirtual 139, 3) := by decide +kernel
theorem dd_N_pushUnlessEnded_13 : decode bb_N_pushUnlessEnded 13 = .ok (.ireturn, 1) := by decide +kernel
theorem dd_N_recast_0 : decode bb_N_recast 0 = .ok (.aload_n 0, 1) := by decide +kernel
theorem dd_N_recast_1 : decode bb_N_recast 1 = .ok (.iconst 1, 1) := by decide +kernel
theorem dd_N_recast_2 : decode bb_N_recast 2 = .ok (.invokevirtual 160, 3) := by decide +kernel
theorem dd_N_recast_5 : decode bb_N_recast 5 = .ok (.ifCond .ne 6, 3) := by decide +kernel
theorem dd_N_recast_8 : decode bb_N_recast 8 = .ok (.bipush (-4), 2) := by decide +kernel
theorem dd_N_recast_10 : decode bb_N_recast 10 = .ok (.ireturn, 1) := by decide +kernel
theorem dd_N_recast_11 : decode bb_N_recast 11 = .ok (.aload_n 0, 1) := by decide +kernel
theorem dd_N_recast_12 : decode bb_N_recast 12 = .ok (.iload_n 1, 1) := by decide +kernel
theorem dd_N_recast_13 : decode bb_N_recast 13 = .ok (.aload_n 0, 1) := by decide +kernel
theorem dd_N_recast_14 : decode bb_N_recast 14 = .ok (.invokevirtual 163, 3) := by decide +kernel
theorem dd_N_recast_17 : decode bb_N_recast 17 = .ok (.invokestatic 166, 3) := by decide +kernel
theorem dd_N_recast_20 : decode bb_N_recast 20 = .ok (.invokestatic 133, 3) := by decide +kernel
theorem dd_N_recast_23 : decode bb_N_recast 23 = .ok (.invokevirtual 139, 3) := by decide +kernel
theorem dd_N_recast_26 : decode bb_N_recast 26 = .ok (.ireturn, 1) := by decide +kernel
theorem dd_N_spend_0 : decode bb_N_spend 0 = .ok (.aload_n 0, 1) := by decide +kernel
theorem dd_N_spend_1 : decode bb_N_spend 1 = .ok (.getfield 7, 3) := by decide +kernel
theorem dd_N_spend_4 : decode bb_N_spend 4 = .ok (.ifCond .gt 6, 3) := by decide +kernel
theorem dd_N_spend_7 : decode bb_N_spend 7 = .ok (.bipush (-3), 2) := by decide +kernel
theorem dd_N_spend_9 : decode bb_N_spend 9 = .ok (.ireturn, 1) := by decide +kernel
theorem dd_N_spend_10 : decode bb_N_spend 10 = .ok (.aload_n 0, 1) := by decide +kernel
theorem dd_N_spend_11 : decode bb_N_spend 11 = .ok (.dup, 1) := by decide +kernel
theorem dd_N_spend_12 : decode bb_N_spend 12 = .ok (.getfield 7, 3) := by decide +kernel
theorem dd_N_spend_15 : decode bb_N_spend 15 = .ok (.iconst 1, 1) := by decide +kernel
theorem dd_N_spend_16 : decode bb_N_spend 16 = .ok (.isub, 1) := by decide +kernel
theorem dd_N_spend_17 : decode bb_N_spend 17 = .ok (.putfield 7, 3) := by decide +kernel
theorem dd_N_spend_20 : decode bb_N_spend 20 = .ok (.aload_n 0, 1) := by decide +kernel
theorem dd_N_spend_21 : decode bb_N_spend 21 = .ok (.getfield 7, 3) := by decide +kernel
theorem dd_N_spend_24 : decode bb_N_spend 24 = .ok (.ireturn, 1) := by decide +kernel
theorem dd_N_step_0 : decode bb_N_step 0 = .ok (.aload_n 1, 1) := by decide +kernel
theorem dd_N_step_1 : decode bb_N_step 1 = .ok (.invokevirtual 125, 3) := by decide +kernel
theorem dd_N_step_4 : decode bb_N_step 4 = .ok (.tableswitch 119 0 5 #[40, 53, 76, 76, 94, 103], 40) := by decide +kernel
theorem dd_N_step_44 : decode bb_N_step 44 = .ok (.aload_n 2, 1) := by decide +kernel
theorem dd_N_step_45 : decode bb_N_step 45 = .ok (.iconst 0, 1) := by decide +kernel
theorem dd_N_step_46 : decode bb_N_step 46 = .ok (.aload_n 1, 1) := by decide +kernel
theorem dd_N_step_47 : decode bb_N_step 47 = .ok (.invokevirtual 130, 3) := by decide +kernel
theorem dd_N_step_50 : decode bb_N_step 50 = .ok (.invokestatic 133, 3) := by decide +kernel
theorem dd_N_step_53 : decode bb_N_step 53 = .ok (.invokevirtual 139, 3) := by decide +kernel
theorem dd_N_step_56 : decode bb_N_step 56 = .ok (.ireturn, 1) := by decide +kernel
theorem dd_N_step_57 : decode bb_N_step 57 = .ok (.aload_n 2, 1) := by decide +kernel
theorem dd_N_step_58 : decode bb_N_step 58 = .ok (.aload_n 1, 1) := by decide +kernel
theorem dd_N_step_59 : decode bb_N_step 59 = .ok (.invokevirtual 130, 3) := by decide +kernel
theorem dd_N_step_62 : decode bb_N_step 62 = .ok (.ifCond .ne 10, 3) := by decide +kernel
theorem dd_N_step_65 : decode bb_N_step 65 = .ok (.aload_n 2, 1) := by decide +kernel
theorem dd_N_step_66 : decode bb_N_step 66 = .ok (.getfield 79, 3) := by decide +kernel
theorem dd_N_step_69 : decode bb_N_step 69 = .ok (.goto 7, 3) := by decide +kernel
theorem dd_N_step_72 : decode bb_N_step 72 = .ok (.aload_n 2, 1) := by decide +kernel
theorem dd_N_step_73 : decode bb_N_step 73 = .ok (.getfield 82, 3) := by decide +kernel
theorem dd_N_step_76 : decode bb_N_step 76 = .ok (.invokevirtual 139, 3) := by decide +kernel
theorem dd_N_step_79 : decode bb_N_step 79 = .ok (.ireturn, 1) := by decide +kernel
theorem dd_N_step_80 : decode bb_N_step 80 = .ok (.aload_n 2, 1) := by decide +kernel
theorem dd_N_step_81 : decode bb_N_step 81 = .ok (.aload_n 1, 1) := by decide +kernel
theorem dd_N_step_82 : decode bb_N_step 82 = .ok (.invokevirtual 125, 3) := by decide +kernel
theorem dd_N_step_85 : decode bb_N_step 85 = .ok (.iconst 2, 1) := by decide +kernel
theorem dd_N_step_86 : decode bb_N_step 86 = .ok (.if_icmp .ne 7, 3) := by decide +kernel
theorem dd_N_step_89 : decode bb_N_step 89 = .ok (.iconst 1, 1) := by decide +kernel
theorem dd_N_step_90 : decode bb_N_step 90 = .ok (.goto 4, 3) := by decide +kernel
theorem dd_N_step_93 : decode bb_N_step 93 = .ok (.iconst 0, 1) := by decide +kernel
theorem dd_N_step_94 : decode bb_N_step 94 = .ok (.invokestatic 142, 3) := by decide +kernel
theorem dd_N_step_97 : decode bb_N_step 97 = .ok (.ireturn, 1) := by decide +kernel
theorem dd_N_step_98 : decode bb_N_step 98 = .ok (.aload_n 2, 1) := by decide +kernel
theorem dd_N_step_99 : decode bb_N_step 99 = .ok (.aload_n 1, 1) := by decide +kernel
theorem dd_N_step_100 : decode bb_N_step 100 = .ok (.invokevirtual 130, 3) := by decide +kernel
theorem dd_N_step_103 : decode bb_N_step 103 = .ok (.invokestatic 146, 3) := by decide +kernel
theorem dd_N_step_106 : decode bb_N_step 106 = .ok (.ireturn, 1) := by decide +kernel
theorem dd_N_step_107 : decode bb_N_step 107 = .ok (.aload_n 0, 1) := by decide +kernel
theorem dd_N_step_108 : decode bb_N_step 108 = .ok (.aload_n 0, 1) := by decide +kernel
theorem dd_N_step_109 : decode bb_N_step 109 = .ok (.getfield 16, 3) := by decide +kernel
theorem dd_N_step_112 : decode bb_N_step 112 = .ok (.aload_n 1, 1) := by decide +kernel
theorem dd_N_step_113 : decode bb_N_step 113 = .ok (.invokevirtual 130, 3) := by decide +kernel
theorem dd_N_step_116 : decode bb_N_step 116 = .ok (.aaload, 1) := by decide +kernel
theorem dd_N_step_117 : decode bb_N_step 117 = .ok (.aload_n 2, 1) := by decide +kernel
theorem dd_N_step_118 : decode bb_N_step 118 = .ok (.iload_n 3, 1) := by decide +kernel
theorem dd_N_step_119 : decode bb_N_step 119 = .ok (.invokevirtual 150, 3) := by decide +kernel
theorem dd_N_step_122 : decode bb_N_step 122 = .ok (.ireturn, 1) := by decide +kernel
theorem dd_N_step_123 : decode bb_N_step 123 = .ok (.aload_n 2, 1) := by decide +kernel
theorem dd_N_step_124 : decode bb_N_step 124 = .ok (.aload_n 0, 1) := by decide +kernel
theorem dd_N_step_125 : decode bb_N_step 125 = .ok (.aload_n 2, 1) := by decide +kernel
theorem dd_N_step_126 : decode bb_N_step 126 = .ok (.iload_n 3, 1) := by decide +kernel
theorem dd_N_step_127 : decode bb_N_step 127 = .ok (.iconst 1, 1) := by decide +kernel
theorem dd_N_step_128 : decode bb_N_step 128 = .ok (.iadd, 1) := by decide +kernel
theorem dd_N_step_129 : decode bb_N_step 129 = .ok (.invokevirtual 154, 3) := by decide +kernel
theorem dd_N_step_132 : decode bb_N_step 132 = .ok (.invokestatic 157, 3) := by decide +kernel
theorem dd_N_step_135 : decode bb_N_step 135 = .ok (.ireturn, 1) := by decide +kernel
theorem dd_N_walk_0 : decode bb_N_walk 0 = .ok (.aload_n 1, 1) := by decide +kernel
theorem dd_N_walk_1 : decode bb_N_walk 1 = .ok (.invokevirtual 93, 3) := by decide +kernel
theorem dd_N_walk_4 : decode bb_N_walk 4 = .ok (.istore 4, 2) := by decide +kernel
theorem dd_N_walk_6 : decode bb_N_walk 6 = .ok (.iconst 0, 1) := by decide +kernel
theorem dd_N_walk_7 : decode bb_N_walk 7 = .ok (.istore 5, 2) := by decide +kernel
theorem dd_N_walk_9 : decode bb_N_walk 9 = .ok (.iload 5, 2) := by decide +kernel
theorem dd_N_walk_11 : decode bb_N_walk 11 = .ok (.bipush 80, 2) := by decide +kernel
theorem dd_N_walk_13 : decode bb_N_walk 13 = .ok (.if_icmp .ge 37, 3) := by decide +kernel
theorem dd_N_walk_16 : decode bb_N_walk 16 = .ok (.aload_n 1, 1) := by decide +kernel
theorem dd_N_walk_17 : decode bb_N_walk 17 = .ok (.iload 4, 2) := by decide +kernel
theorem dd_N_walk_19 : decode bb_N_walk 19 = .ok (.invokevirtual 96, 3) := by decide +kernel
theorem dd_N_walk_22 : decode bb_N_walk 22 = .ok (.ifCond .ne 28, 3) := by decide +kernel
theorem dd_N_walk_25 : decode bb_N_walk 25 = .ok (.aload_n 0, 1) := by decide +kernel
theorem dd_N_walk_26 : decode bb_N_walk 26 = .ok (.dup, 1) := by decide +kernel
theorem dd_N_walk_27 : decode bb_N_walk 27 = .ok (.getfield 13, 3) := by decide +kernel
theorem dd_N_walk_30 : decode bb_N_walk 30 = .ok (.iconst 1, 1) := by decide +kernel
theorem dd_N_walk_31 : decode bb_N_walk 31 = .ok (.iadd, 1) := by decide +kernel
theorem dd_N_walk_32 : decode bb_N_walk 32 = .ok (.putfield 13, 3) := by decide +kernel
theorem dd_N_walk_35 : decode bb_N_walk 35 = .ok (.aload_n 1, 1) := by decide +kernel
theorem dd_N_walk_36 : decode bb_N_walk 36 = .ok (.iload 4, 2) := by decide +kernel
theorem dd_N_walk_38 : decode bb_N_walk 38 = .ok (.lload_n 2, 1) := by decide +kernel
theorem dd_N_walk_39 : decode bb_N_walk 39 = .ok (.invokevirtual 100, 3) := by decide +kernel
theorem dd_N_walk_42 : decode bb_N_walk 42 = .ok (.istore 4, 2) := by decide +kernel
theorem dd_N_walk_44 : decode bb_N_walk 44 = .ok (.iinc 5 1, 3) := by decide +kernel
theorem dd_N_walk_47 : decode bb_N_walk 47 = .ok (.goto (-38), 3) := by decide +kernel
theorem dd_N_walk_50 : decode bb_N_walk 50 = .ok (.aload_n 1, 1) := by decide +kernel
theorem dd_N_walk_51 : decode bb_N_walk 51 = .ok (.iload 4, 2) := by decide +kernel
theorem dd_N_walk_53 : decode bb_N_walk 53 = .ok (.invokevirtual 104, 3) := by decide +kernel
theorem dd_N_walk_56 : decode bb_N_walk 56 = .ok (.ireturn, 1) := by decide +kernel
theorem dd_A_asksTheSame_0 : decode bb_A_asksTheSame 0 = .ok (.aload_n 0, 1) := by decide +kernel
theorem dd_A_asksTheSame_1 : decode bb_A_asksTheSame 1 = .ok (.getfield 7, 3) := by decide +kernel
theorem dd_A_asksTheSame_4 : decode bb_A_asksTheSame 4 = .ok (.aload_n 1, 1) := by decide +kernel
theorem dd_A_asksTheSame_5 : decode bb_A_asksTheSame 5 = .ok (.getfield 7, 3) := by decide +kernel
theorem dd_A_asksTheSame_8 : decode bb_A_asksTheSame 8 = .ok (.if_icmp .ne 29, 3) := by decide +kernel
theorem dd_A_asksTheSame_11 : decode bb_A_asksTheSame 11 = .ok (.aload_n 0, 1) := by decide +kernel
theorem dd_A_asksTheSame_12 : decode bb_A_asksTheSame 12 = .ok (.getfield 13, 3) := by decide +kernel
theorem dd_A_asksTheSame_15 : decode bb_A_asksTheSame 15 = .ok (.aload_n 1, 1) := by decide +kernel
theorem dd_A_asksTheSame_16 : decode bb_A_asksTheSame 16 = .ok (.getfield 13, 3) := by decide +kernel
theorem dd_A_asksTheSame_19 : decode bb_A_asksTheSame 19 = .ok (.if_icmp .ne 18, 3) := by decide +kernel
theorem dd_A_asksTheSame_22 : decode bb_A_asksTheSame 22 = .ok (.aload_n 0, 1) := by decide +kernel
theorem dd_A_asksTheSame_23 : decode bb_A_asksTheSame 23 = .ok (.getfield 16, 3) := by decide +kernel
theorem dd_A_asksTheSame_26 : decode bb_A_asksTheSame 26 = .ok (.aload_n 1, 1) := by decide +kernel
theorem dd_A_asksTheSame_27 : decode bb_A_asksTheSame 27 = .ok (.getfield 16, 3) := by decide +kernel
theorem dd_A_asksTheSame_30 : decode bb_A_asksTheSame 30 = .ok (.if_icmp .ne 7, 3) := by decide +kernel
theorem dd_A_asksTheSame_33 : decode bb_A_asksTheSame 33 = .ok (.iconst 1, 1) := by decide +kernel
theorem dd_A_asksTheSame_34 : decode bb_A_asksTheSame 34 = .ok (.goto 4, 3) := by decide +kernel
theorem dd_A_asksTheSame_37 : decode bb_A_asksTheSame 37 = .ok (.iconst 0, 1) := by decide +kernel
theorem dd_A_asksTheSame_38 : decode bb_A_asksTheSame 38 = .ok (.ireturn, 1) := by decide +kernel
theorem dd_A_holdsFor_0 : decode bb_A_holdsFor 0 = .ok (.iload_n 1, 1) := by decide +kernel
theorem dd_A_holdsFor_1 : decode bb_A_holdsFor 1 = .ok (.invokestatic 26, 3) := by decide +kernel
theorem dd_A_holdsFor_4 : decode bb_A_holdsFor 4 = .ok (.istore_n 3, 1) := by decide +kernel
theorem dd_A_holdsFor_5 : decode bb_A_holdsFor 5 = .ok (.aload_n 0, 1) := by decide +kernel
theorem dd_A_holdsFor_6 : decode bb_A_holdsFor 6 = .ok (.getfield 7, 3) := by decide +kernel
theorem dd_A_holdsFor_9 : decode bb_A_holdsFor 9 = .ok (.tableswitch 68 0 2 #[27, 40, 54], 27) := by decide +kernel
theorem dd_A_holdsFor_36 : decode bb_A_holdsFor 36 = .ok (.aload_n 2, 1) := by decide +kernel
theorem dd_A_holdsFor_37 : decode bb_A_holdsFor 37 = .ok (.iload_n 1, 1) := by decide +kernel
theorem dd_A_holdsFor_38 : decode bb_A_holdsFor 38 = .ok (.invokestatic 32, 3) := by decide +kernel
theorem dd_A_holdsFor_41 : decode bb_A_holdsFor 41 = .ok (.aload_n 0, 1) := by decide +kernel
theorem dd_A_holdsFor_42 : decode bb_A_holdsFor 42 = .ok (.getfield 16, 3) := by decide +kernel
theorem dd_A_holdsFor_45 : decode bb_A_holdsFor 45 = .ok (.invokevirtual 35, 3) := by decide +kernel
theorem dd_A_holdsFor_48 : decode bb_A_holdsFor 48 = .ok (.ireturn, 1) := by decide +kernel
theorem dd_A_holdsFor_49 : decode bb_A_holdsFor 49 = .ok (.iload_n 3, 1) := by decide +kernel
theorem dd_A_holdsFor_50 : decode bb_A_holdsFor 50 = .ok (.aload_n 0, 1) := by decide +kernel
theorem dd_A_holdsFor_51 : decode bb_A_holdsFor 51 = .ok (.getfield 16, 3) := by decide +kernel
theorem dd_A_holdsFor_54 : decode bb_A_holdsFor 54 = .ok (.if_icmp .ge 7, 3) := by decide +kernel
theorem dd_A_holdsFor_57 : decode bb_A_holdsFor 57 = .ok (.iconst 1, 1) := by decide +kernel
theorem dd_A_holdsFor_58 : decode bb_A_holdsFor 58 = .ok (.goto 4, 3) := by decide +kernel
theorem dd_A_holdsFor_61 : decode bb_A_holdsFor 61 = .ok (.iconst 0, 1) := by decide +kernel
theorem dd_A_holdsFor_62 : decode bb_A_holdsFor 62 = .ok (.ireturn, 1) := by decide +kernel
theorem dd_A_holdsFor_63 : decode bb_A_holdsFor 63 = .ok (.iload_n 3, 1) := by decide +kernel
theorem dd_A_holdsFor_64 : decode bb_A_holdsFor 64 = .ok (.aload_n 0, 1) := by decide +kernel
theorem dd_A_holdsFor_65 : decode bb_A_holdsFor 65 = .ok (.getfield 16, 3) := by decide +kernel
theorem dd_A_holdsFor_68 : decode bb_A_holdsFor 68 = .ok (.if_icmp .ne 7, 3) := by decide +kernel
theorem dd_A_holdsFor_71 : decode bb_A_holdsFor 71 = .ok (.iconst 1, 1) := by decide +kernel
theorem dd_A_holdsFor_72 : decode bb_A_holdsFor 72 = .ok (.goto 4, 3) := by decide +kernel
theorem dd_A_holdsFor_75 : decode bb_A_holdsFor 75 = .ok (.iconst 0, 1) := by decide +kernel
theorem dd_A_holdsFor_76 : decode bb_A_holdsFor 76 = .ok (.ireturn, 1) := by decide +kernel
theorem dd_A_holdsFor_77 : decode bb_A_holdsFor 77 = .ok (.iload_n 3, 1) := by decide +kernel
theorem dd_A_holdsFor_78 : decode bb_A_holdsFor 78 = .ok (.iconst 1, 1) := by decide +kernel
theorem dd_A_holdsFor_79 : decode bb_A_holdsFor 79 = .ok (.iand, 1) := by decide +kernel
theorem dd_A_holdsFor_80 : decode bb_A_holdsFor 80 = .ok (.ifCond .ne 7, 3) := by decide +kernel
theorem dd_A_holdsFor_83 : decode bb_A_holdsFor 83 = .ok (.iconst 1, 1) := by decide +kernel
theorem dd_A_holdsFor_84 : decode bb_A_holdsFor 84 = .ok (.goto 4, 3) := by decide +kernel
theorem dd_A_holdsFor_87 : decode bb_A_holdsFor 87 = .ok (.iconst 0, 1) := by decide +kernel
theorem dd_A_holdsFor_88 : decode bb_A_holdsFor 88 = .ok (.ireturn, 1) := by decide +kernel
theorem dd_A_i_0 : decode bb_A_i 0 = .ok (.aload_n 0, 1) := by decide +kernel
theorem dd_A_i_1 : decode bb_A_i 1 = .ok (.getfield 13, 3) := by decide +kernel
theorem dd_A_i_4 : decode bb_A_i 4 = .ok (.ireturn, 1) := by decide +kernel
theorem dd_A_init_0 : decode bb_A_init 0 = .ok (.aload_n 0, 1) := by decide +kernel
theorem dd_A_init_1 : decode bb_A_init 1 = .ok (.invokespecial 1, 3) := by decide +kernel
theorem dd_A_init_4 : decode bb_A_init 4 = .ok (.aload_n 0, 1) := by decide +kernel
theorem dd_A_init_5 : decode bb_A_init 5 = .ok (.iload_n 1, 1) := by decide +kernel
theorem dd_A_init_6 : decode bb_A_init 6 = .ok (.putfield 7, 3) := by decide +kernel
theorem dd_A_init_9 : decode bb_A_init 9 = .ok (.aload_n 0, 1) := by decide +kernel
theorem dd_A_init_10 : decode bb_A_init 10 = .ok (.iload_n 2, 1) := by decide +kernel
theorem dd_A_init_11 : decode bb_A_init 11 = .ok (.putfield 13, 3) := by decide +kernel
theorem dd_A_init_14 : decode bb_A_init 14 = .ok (.aload_n 0, 1) := by decide +kernel
theorem dd_A_init_15 : decode bb_A_init 15 = .ok (.iload_n 3, 1) := by decide +kernel
theorem dd_A_init_16 : decode bb_A_init 16 = .ok (.putfield 16, 3) := by decide +kernel
theorem dd_A_init_19 : decode bb_A_init 19 = .ok (.aload_n 0, 1) := by decide +kernel
theorem dd_A_init_20 : decode bb_A_init 20 = .ok (.iload 4, 2) := by decide +kernel
theorem dd_A_init_22 : decode bb_A_init 22 = .ok (.putfield 19, 3) := by decide +kernel
theorem dd_A_init_25 : decode bb_A_init 25 = .ok (.return_, 1) := by decide +kernel
theorem dd_A_kind_0 : decode bb_A_kind 0 = .ok (.aload_n 0, 1) := by decide +kernel
theorem dd_A_kind_1 : decode bb_A_kind 1 = .ok (.getfield 7, 3) := by decide +kernel
theorem dd_A_kind_4 : decode bb_A_kind 4 = .ok (.ireturn, 1) := by decide +kernel
theorem dd_A_negated_0 : decode bb_A_negated 0 = .ok (.aload_n 0, 1) := by decide +kernel
theorem dd_A_negated_1 : decode bb_A_negated 1 = .ok (.getfield 19, 3) := by decide +kernel
theorem dd_A_negated_4 : decode bb_A_negated 4 = .ok (.ireturn, 1) := by decide +kernel
theorem dd_A_plainest_0 : decode bb_A_plainest 0 = .ok (.iload_n 0, 1) := by decide +kernel
theorem dd_A_plainest_1 : decode bb_A_plainest 1 = .ok (.iconst 4, 1) := by decide +kernel
theorem dd_A_plainest_2 : decode bb_A_plainest 2 = .ok (.if_icmp .ge 7, 3) := by decide +kernel
theorem dd_A_plainest_5 : decode bb_A_plainest 5 = .ok (.iconst 1, 1) := by decide +kernel
theorem dd_A_plainest_6 : decode bb_A_plainest 6 = .ok (.goto 4, 3) := by decide +kernel
theorem dd_A_plainest_9 : decode bb_A_plainest 9 = .ok (.iconst 0, 1) := by decide +kernel
theorem dd_A_plainest_10 : decode bb_A_plainest 10 = .ok (.istore 4, 2) := by decide +kernel
theorem dd_A_plainest_12 : decode bb_A_plainest 12 = .ok (.new 8, 3) := by decide +kernel
theorem dd_A_plainest_15 : decode bb_A_plainest 15 = .ok (.dup, 1) := by decide +kernel
theorem dd_A_plainest_16 : decode bb_A_plainest 16 = .ok (.iload_n 0, 1) := by decide +kernel
theorem dd_A_plainest_17 : decode bb_A_plainest 17 = .ok (.iload 4, 2) := by decide +kernel
theorem dd_A_plainest_19 : decode bb_A_plainest 19 = .ok (.ifCond .eq 7, 3) := by decide +kernel
theorem dd_A_plainest_22 : decode bb_A_plainest 22 = .ok (.iload_n 1, 1) := by decide +kernel
theorem dd_A_plainest_23 : decode bb_A_plainest 23 = .ok (.goto 4, 3) := by decide +kernel
theorem dd_A_plainest_26 : decode bb_A_plainest 26 = .ok (.iconst 0, 1) := by decide +kernel
theorem dd_A_plainest_27 : decode bb_A_plainest 27 = .ok (.iload_n 0, 1) := by decide +kernel
theorem dd_A_plainest_28 : decode bb_A_plainest 28 = .ok (.iconst 3, 1) := by decide +kernel
theorem dd_A_plainest_29 : decode bb_A_plainest 29 = .ok (.if_icmp .ge 7, 3) := by decide +kernel
theorem dd_A_plainest_32 : decode bb_A_plainest 32 = .ok (.iload_n 2, 1) := by decide +kernel
theorem dd_A_plainest_33 : decode bb_A_plainest 33 = .ok (.goto 4, 3) := by decide +kernel
theorem dd_A_plainest_36 : decode bb_A_plainest 36 = .ok (.iconst 0, 1) := by decide +kernel
theorem dd_A_plainest_37 : decode bb_A_plainest 37 = .ok (.iload_n 3, 1) := by decide +kernel
theorem dd_A_plainest_38 : decode bb_A_plainest 38 = .ok (.invokespecial 23, 3) := by decide +kernel
theorem dd_A_plainest_41 : decode bb_A_plainest 41 = .ok (.areturn, 1) := by decide +kernel
theorem dd_A_x_0 : decode bb_A_x 0 = .ok (.aload_n 0, 1) := by decide +kernel
theorem dd_A_x_1 : decode bb_A_x 1 = .ok (.getfield 16, 3) := by decide +kernel
theorem dd_A_x_4 : decode bb_A_x 4 = .ok (.ireturn, 1) := by decide +kernel
theorem dd_O_init_0 : decode bb_O_init 0 = .ok (.aload_n 0, 1) := by decide +kernel
theorem dd_O_init_1 : decode bb_O_init 1 = .ok (.invokespecial 1, 3) := by decide +kernel
theorem dd_O_init_4 : decode bb_O_init 4 = .ok (.aload_n 0, 1) := by decide +kernel
theorem dd_O_init_5 : decode bb_O_init 5 = .ok (.iload_n 1, 1) := by decide +kernel
theorem dd_O_init_6 : decode bb_O_init 6 = .ok (.putfield 7, 3) := by decide +kernel
theorem dd_O_init_9 : decode bb_O_init 9 = .ok (.aload_n 0, 1) := by decide +kernel
theorem dd_O_init_10 : decode bb_O_init 10 = .ok (.iload_n 2, 1) := by decide +kernel
theorem dd_O_init_11 : decode bb_O_init 11 = .ok (.putfield 13, 3) := by decide +kernel
theorem dd_O_init_14 : decode bb_O_init 14 = .ok (.return_, 1) := by decide +kernel
theorem dd_O_kind_0 : decode bb_O_kind 0 = .ok (.aload_n 0, 1) := by decide +kernel
theorem dd_O_kind_1 : decode bb_O_kind 1 = .ok (.getfield 7, 3) := by decide +kernel
theorem dd_O_kind_4 : decode bb_O_kind 4 = .ok (.ireturn, 1) := by decide +kernel
theorem dd_O_n_0 : decode bb_O_n 0 = .ok (.aload_n 0, 1) := by decide +kernel
theorem dd_O_n_1 : decode bb_O_n 1 = .ok (.getfield 13, 3) := by decide +kernel
theorem dd_O_n_4 : decode bb_O_n 4 = .ok (.ireturn, 1) := by decide +kernel
theorem dd_V_classOf_0 : decode bb_V_classOf 0 = .ok (.iload_n 0, 1) := by decide +kernel
theorem dd_V_classOf_1 : decode bb_V_classOf 1 = .ok (.iconst 3, 1) := by decide +kernel
theorem dd_V_classOf_2 : decode bb_V_classOf 2 = .ok (.ishr, 1) := by decide +kernel
theorem dd_V_classOf_3 : decode bb_V_classOf 3 = .ok (.ireturn, 1) := by decide +kernel
theorem dd_V_isNumber_0 : decode bb_V_isNumber 0 = .ok (.iload_n 0, 1) := by decide +kernel
theorem dd_V_isNumber_1 : decode bb_V_isNumber 1 = .ok (.bipush (-4), 2) := by decide +kernel
theorem dd_V_isNumber_3 : decode bb_V_isNumber 3 = .ok (.if_icmp .lt 12, 3) := by decide +kernel
theorem dd_V_isNumber_6 : decode bb_V_isNumber 6 = .ok (.iload_n 0, 1) := by decide +kernel
theorem dd_V_isNumber_7 : decode bb_V_isNumber 7 = .ok (.iconst 3, 1) := by decide +kernel
theorem dd_V_isNumber_8 : decode bb_V_isNumber 8 = .ok (.if_icmp .gt 7, 3) := by decide +kernel
theorem dd_V_isNumber_11 : decode bb_V_isNumber 11 = .ok (.iconst 1, 1) := by decide +kernel
theorem dd_V_isNumber_12 : decode bb_V_isNumber 12 = .ok (.goto 4, 3) := by decide +kernel
theorem dd_V_isNumber_15 : decode bb_V_isNumber 15 = .ok (.iconst 0, 1) := by decide +kernel
theorem dd_V_isNumber_16 : decode bb_V_isNumber 16 = .ok (.ireturn, 1) := by decide +kernel
theorem dd_V_numberOf_0 : decode bb_V_numberOf 0 = .ok (.iload_n 0, 1) := by decide +kernel
theorem dd_V_numberOf_1 : decode bb_V_numberOf 1 = .ok (.bipush 7, 2) := by decide +kernel
theorem dd_V_numberOf_3 : decode bb_V_numberOf 3 = .ok (.iand, 1) := by decide +kernel
theorem dd_V_numberOf_4 : decode bb_V_numberOf 4 = .ok (.bipush (-4), 2) := by decide +kernel
theorem dd_V_numberOf_6 : decode bb_V_numberOf 6 = .ok (.iadd, 1) := by decide +kernel
theorem dd_V_numberOf_7 : decode bb_V_numberOf 7 = .ok (.ireturn, 1) := by decide +kernel
theorem dd_V_of_0 : decode bb_V_of 0 = .ok (.iload_n 0, 1) := by decide +kernel
theorem dd_V_of_1 : decode bb_V_of 1 = .ok (.iconst 3, 1) := by decide +kernel
theorem dd_V_of_2 : decode bb_V_of 2 = .ok (.ishl, 1) := by decide +kernel
theorem dd_V_of_3 : decode bb_V_of 3 = .ok (.iload_n 1, 1) := by decide +kernel
theorem dd_V_of_4 : decode bb_V_of 4 = .ok (.bipush (-4), 2) := by decide +kernel
theorem dd_V_of_6 : decode bb_V_of 6 = .ok (.isub, 1) := by decide +kernel
theorem dd_V_of_7 : decode bb_V_of 7 = .ok (.bipush 7, 2) := by decide +kernel
theorem dd_V_of_9 : decode bb_V_of 9 = .ok (.iand, 1) := by decide +kernel
theorem dd_V_of_10 : decode bb_V_of 10 = .ok (.ior, 1) := by decide +kernel
theorem dd_V_of_11 : decode bb_V_of 11 = .ok (.ireturn, 1) := by decide +kernel
theorem dd_F_forget_0 : decode bb_F_forget 0 = .ok (.aload_n 0, 1) := by decide +kernel
theorem dd_F_forget_1 : decode bb_F_forget 1 = .ok (.iconst 0, 1) := by decide +kernel
theorem dd_F_forget_2 : decode bb_F_forget 2 = .ok (.putfield 19, 3) := by decide +kernel
theorem dd_F_forget_5 : decode bb_F_forget 5 = .ok (.aload_n 0, 1) := by decide +kernel
theorem dd_F_forget_6 : decode bb_F_forget 6 = .ok (.lconst 0, 1) := by decide +kernel
theorem dd_F_forget_7 : decode bb_F_forget 7 = .ok (.putfield 32, 3) := by decide +kernel
theorem dd_F_forget_10 : decode bb_F_forget 10 = .ok (.aload_n 0, 1) := by decide +kernel
theorem dd_F_forget_11 : decode bb_F_forget 11 = .ok (.lconst 0, 1) := by decide +kernel
theorem dd_F_forget_12 : decode bb_F_forget 12 = .ok (.putfield 36, 3) := by decide +kernel
theorem dd_F_forget_15 : decode bb_F_forget 15 = .ok (.iconst 0, 1) := by decide +kernel
theorem dd_F_forget_16 : decode bb_F_forget 16 = .ok (.istore_n 1, 1) := by decide +kernel
theorem dd_F_forget_17 : decode bb_F_forget 17 = .ok (.iload_n 1, 1) := by decide +kernel
theorem dd_F_forget_18 : decode bb_F_forget 18 = .ok (.bipush 64, 2) := by decide +kernel
theorem dd_F_forget_20 : decode bb_F_forget 20 = .ok (.if_icmp .ge 23, 3) := by decide +kernel
theorem dd_F_forget_23 : decode bb_F_forget 23 = .ok (.aload_n 0, 1) := by decide +kernel
theorem dd_F_forget_24 : decode bb_F_forget 24 = .ok (.getfield 25, 3) := by decide +kernel
theorem dd_F_forget_27 : decode bb_F_forget 27 = .ok (.iload_n 1, 1) := by decide +kernel
theorem dd_F_forget_28 : decode bb_F_forget 28 = .ok (.lconst 0, 1) := by decide +kernel
theorem dd_F_forget_29 : decode bb_F_forget 29 = .ok (.lastore, 1) := by decide +kernel
theorem dd_F_forget_30 : decode bb_F_forget 30 = .ok (.aload_n 0, 1) := by decide +kernel
theorem dd_F_forget_31 : decode bb_F_forget 31 = .ok (.getfield 29, 3) := by decide +kernel
theorem dd_F_forget_34 : decode bb_F_forget 34 = .ok (.iload_n 1, 1) := by decide +kernel
theorem dd_F_forget_35 : decode bb_F_forget 35 = .ok (.lconst 0, 1) := by decide +kernel
theorem dd_F_forget_36 : decode bb_F_forget 36 = .ok (.lastore, 1) := by decide +kernel
theorem dd_F_forget_37 : decode bb_F_forget 37 = .ok (.iinc 1 1, 3) := by decide +kernel
theorem dd_F_forget_40 : decode bb_F_forget 40 = .ok (.goto (-23), 3) := by decide +kernel
theorem dd_F_forget_43 : decode bb_F_forget 43 = .ok (.return_, 1) := by decide +kernel
theorem dd_F_init_0 : decode bb_F_init 0 = .ok (.aload_n 0, 1) := by decide +kernel
theorem dd_F_init_1 : decode bb_F_init 1 = .ok (.invokespecial 5, 3) := by decide +kernel
theorem dd_F_init_4 : decode bb_F_init 4 = .ok (.aload_n 0, 1) := by decide +kernel
theorem dd_F_init_5 : decode bb_F_init 5 = .ok (.bipush 48, 2) := by decide +kernel
theorem dd_F_init_7 : decode bb_F_init 7 = .ok (.anewarray 13, 3) := by decide +kernel
theorem dd_F_init_10 : decode bb_F_init 10 = .ok (.putfield 15, 3) := by decide +kernel
theorem dd_F_init_13 : decode bb_F_init 13 = .ok (.aload_n 0, 1) := by decide +kernel
theorem dd_F_init_14 : decode bb_F_init 14 = .ok (.iconst 0, 1) := by decide +kernel
theorem dd_F_init_15 : decode bb_F_init 15 = .ok (.putfield 19, 3) := by decide +kernel
theorem dd_F_init_18 : decode bb_F_init 18 = .ok (.aload_n 0, 1) := by decide +kernel
theorem dd_F_init_19 : decode bb_F_init 19 = .ok (.bipush 64, 2) := by decide +kernel
theorem dd_F_init_21 : decode bb_F_init 21 = .ok (.newarray .long, 2) := by decide +kernel
theorem dd_F_init_23 : decode bb_F_init 23 = .ok (.putfield 25, 3) := by decide +kernel
theorem dd_F_init_26 : decode bb_F_init 26 = .ok (.aload_n 0, 1) := by decide +kernel
theorem dd_F_init_27 : decode bb_F_init 27 = .ok (.bipush 64, 2) := by decide +kernel
theorem dd_F_init_29 : decode bb_F_init 29 = .ok (.newarray .long, 2) := by decide +kernel
theorem dd_F_init_31 : decode bb_F_init 31 = .ok (.putfield 29, 3) := by decide +kernel
theorem dd_F_init_34 : decode bb_F_init 34 = .ok (.aload_n 0, 1) := by decide +kernel
theorem dd_F_init_35 : decode bb_F_init 35 = .ok (.lconst 0, 1) := by decide +kernel
theorem dd_F_init_36 : decode bb_F_init 36 = .ok (.putfield 32, 3) := by decide +kernel
theorem dd_F_init_39 : decode bb_F_init 39 = .ok (.aload_n 0, 1) := by decide +kernel
theorem dd_F_init_40 : decode bb_F_init 40 = .ok (.lconst 0, 1) := by decide +kernel
theorem dd_F_init_41 : decode bb_F_init 41 = .ok (.putfield 36, 3) := by decide +kernel
theorem dd_F_init_44 : decode bb_F_init 44 = .ok (.aload_n 0, 1) := by decide +kernel
theorem dd_F_init_45 : decode bb_F_init 45 = .ok (.aload_n 1, 1) := by decide +kernel
theorem dd_F_init_46 : decode bb_F_init 46 = .ok (.putfield 39, 3) := by decide +kernel
theorem dd_F_init_49 : decode bb_F_init 49 = .ok (.return_, 1) := by decide +kernel
theorem dd_F_learn_0 : decode bb_F_learn 0 = .ok (.iconst 0, 1) := by decide +kernel
theorem dd_F_learn_1 : decode bb_F_learn 1 = .ok (.istore_n 2, 1) := by decide +kernel
theorem dd_F_learn_2 : decode bb_F_learn 2 = .ok (.iload_n 2, 1) := by decide +kernel
theorem dd_F_learn_3 : decode bb_F_learn 3 = .ok (.aload_n 0, 1) := by decide +kernel
theorem dd_F_learn_4 : decode bb_F_learn 4 = .ok (.getfield 19, 3) := by decide +kernel
theorem dd_F_learn_7 : decode bb_F_learn 7 = .ok (.if_icmp .ge 26, 3) := by decide +kernel
theorem dd_F_learn_10 : decode bb_F_learn 10 = .ok (.aload_n 0, 1) := by decide +kernel
theorem dd_F_learn_11 : decode bb_F_learn 11 = .ok (.getfield 15, 3) := by decide +kernel
theorem dd_F_learn_14 : decode bb_F_learn 14 = .ok (.iload_n 2, 1) := by decide +kernel
theorem dd_F_learn_15 : decode bb_F_learn 15 = .ok (.aaload, 1) := by decide +kernel
theorem dd_F_learn_16 : decode bb_F_learn 16 = .ok (.aload_n 1, 1) := by decide +kernel
theorem dd_F_learn_17 : decode bb_F_learn 17 = .ok (.invokevirtual 53, 3) := by decide +kernel
theorem dd_F_learn_20 : decode bb_F_learn 20 = .ok (.ifCond .eq 7, 3) := by decide +kernel
theorem dd_F_learn_23 : decode bb_F_learn 23 = .ok (.lconst 1, 1) := by decide +kernel
theorem dd_F_learn_24 : decode bb_F_learn 24 = .ok (.iload_n 2, 1) := by decide +kernel
theorem dd_F_learn_25 : decode bb_F_learn 25 = .ok (.lshl, 1) := by decide +kernel
theorem dd_F_learn_26 : decode bb_F_learn 26 = .ok (.lreturn, 1) := by decide +kernel
theorem dd_F_learn_27 : decode bb_F_learn 27 = .ok (.iinc 2 1, 3) := by decide +kernel
theorem dd_F_learn_30 : decode bb_F_learn 30 = .ok (.goto (-28), 3) := by decide +kernel
theorem dd_F_learn_33 : decode bb_F_learn 33 = .ok (.lconst 1, 1) := by decide +kernel
theorem dd_F_learn_34 : decode bb_F_learn 34 = .ok (.aload_n 0, 1) := by decide +kernel
theorem dd_F_learn_35 : decode bb_F_learn 35 = .ok (.getfield 19, 3) := by decide +kernel
theorem dd_F_learn_38 : decode bb_F_learn 38 = .ok (.lshl, 1) := by decide +kernel
theorem dd_F_learn_39 : decode bb_F_learn 39 = .ok (.lstore_n 2, 1) := by decide +kernel
theorem dd_F_learn_40 : decode bb_F_learn 40 = .ok (.aload_n 0, 1) := by decide +kernel
theorem dd_F_learn_41 : decode bb_F_learn 41 = .ok (.getfield 15, 3) := by decide +kernel
theorem dd_F_learn_44 : decode bb_F_learn 44 = .ok (.aload_n 0, 1) := by decide +kernel
theorem dd_F_learn_45 : decode bb_F_learn 45 = .ok (.getfield 19, 3) := by decide +kernel
theorem dd_F_learn_48 : decode bb_F_learn 48 = .ok (.aload_n 1, 1) := by decide +kernel
theorem dd_F_learn_49 : decode bb_F_learn 49 = .ok (.aastore, 1) := by decide +kernel
theorem dd_F_learn_50 : decode bb_F_learn 50 = .ok (.aload_n 0, 1) := by decide +kernel
theorem dd_F_learn_51 : decode bb_F_learn 51 = .ok (.dup, 1) := by decide +kernel
theorem dd_F_learn_52 : decode bb_F_learn 52 = .ok (.getfield 19, 3) := by decide +kernel
theorem dd_F_learn_55 : decode bb_F_learn 55 = .ok (.iconst 1, 1) := by decide +kernel
theorem dd_F_learn_56 : decode bb_F_learn 56 = .ok (.iadd, 1) := by decide +kernel
theorem dd_F_learn_57 : decode bb_F_learn 57 = .ok (.putfield 19, 3) := by decide +kernel
theorem dd_F_learn_60 : decode bb_F_learn 60 = .ok (.aload_n 0, 1) := by decide +kernel
theorem dd_F_learn_61 : decode bb_F_learn 61 = .ok (.aload_n 1, 1) := by decide +kernel
theorem dd_F_learn_62 : decode bb_F_learn 62 = .ok (.lload_n 2, 1) := by decide +kernel
theorem dd_F_learn_63 : decode bb_F_learn 63 = .ok (.invokevirtual 57, 3) := by decide +kernel
theorem dd_F_learn_66 : decode bb_F_learn 66 = .ok (.lload_n 2, 1) := by decide +kernel
theorem dd_F_learn_67 : decode bb_F_learn 67 = .ok (.lreturn, 1) := by decide +kernel
theorem dd_F_note_0 : decode bb_F_note 0 = .ok (.aload_n 1, 1) := by decide +kernel
theorem dd_F_note_1 : decode bb_F_note 1 = .ok (.invokevirtual 43, 3) := by decide +kernel
theorem dd_F_note_4 : decode bb_F_note 4 = .ok (.iconst 4, 1) := by decide +kernel
theorem dd_F_note_5 : decode bb_F_note 5 = .ok (.if_icmp .ne 9, 3) := by decide +kernel
theorem dd_F_note_8 : decode bb_F_note 8 = .ok (.aload_n 0, 1) := by decide +kernel
theorem dd_F_note_9 : decode bb_F_note 9 = .ok (.lload_n 2, 1) := by decide +kernel
theorem dd_F_note_10 : decode bb_F_note 10 = .ok (.putfield 32, 3) := by decide +kernel
theorem dd_F_note_13 : decode bb_F_note 13 = .ok (.return_, 1) := by decide +kernel
theorem dd_F_note_14 : decode bb_F_note 14 = .ok (.aload_n 1, 1) := by decide +kernel
theorem dd_F_note_15 : decode bb_F_note 15 = .ok (.invokevirtual 43, 3) := by decide +kernel
theorem dd_F_note_18 : decode bb_F_note 18 = .ok (.iconst 5, 1) := by decide +kernel
theorem dd_F_note_19 : decode bb_F_note 19 = .ok (.if_icmp .ne 9, 3) := by decide +kernel
theorem dd_F_note_22 : decode bb_F_note 22 = .ok (.aload_n 0, 1) := by decide +kernel
theorem dd_F_note_23 : decode bb_F_note 23 = .ok (.lload_n 2, 1) := by decide +kernel
theorem dd_F_note_24 : decode bb_F_note 24 = .ok (.putfield 36, 3) := by decide +kernel
theorem dd_F_note_27 : decode bb_F_note 27 = .ok (.return_, 1) := by decide +kernel
theorem dd_F_note_28 : decode bb_F_note 28 = .ok (.aload_n 1, 1) := by decide +kernel
theorem dd_F_note_29 : decode bb_F_note 29 = .ok (.invokevirtual 47, 3) := by decide +kernel
theorem dd_F_note_32 : decode bb_F_note 32 = .ok (.ifCond .ne 10, 3) := by decide +kernel
theorem dd_F_note_35 : decode bb_F_note 35 = .ok (.aload_n 0, 1) := by decide +kernel
theorem dd_F_note_36 : decode bb_F_note 36 = .ok (.getfield 25, 3) := by decide +kernel
theorem dd_F_note_39 : decode bb_F_note 39 = .ok (.goto 7, 3) := by decide +kernel
theorem dd_F_note_42 : decode bb_F_note 42 = .ok (.aload_n 0, 1) := by decide +kernel
theorem dd_F_note_43 : decode bb_F_note 43 = .ok (.getfield 29, 3) := by decide +kernel
theorem dd_F_note_46 : decode bb_F_note 46 = .ok (.astore 4, 2) := by decide +kernel
theorem dd_F_note_48 : decode bb_F_note 48 = .ok (.iconst 0, 1) := by decide +kernel
theorem dd_F_note_49 : decode bb_F_note 49 = .ok (.istore 5, 2) := by decide +kernel
theorem dd_F_note_51 : decode bb_F_note 51 = .ok (.iload 5, 2) := by decide +kernel
theorem dd_F_note_53 : decode bb_F_note 53 = .ok (.aload_n 0, 1) := by decide +kernel
theorem dd_F_note_54 : decode bb_F_note 54 = .ok (.getfield 39, 3) := by decide +kernel
theorem dd_F_note_57 : decode bb_F_note 57 = .ok (.invokevirtual 61, 3) := by decide +kernel
theorem dd_F_note_60 : decode bb_F_note 60 = .ok (.if_icmp .ge 31, 3) := by decide +kernel
theorem dd_F_note_63 : decode bb_F_note 63 = .ok (.aload_n 1, 1) := by decide +kernel
theorem dd_F_note_64 : decode bb_F_note 64 = .ok (.iload 5, 2) := by decide +kernel
theorem dd_F_note_66 : decode bb_F_note 66 = .ok (.aload_n 0, 1) := by decide +kernel
theorem dd_F_note_67 : decode bb_F_note 67 = .ok (.getfield 39, 3) := by decide +kernel
theorem dd_F_note_70 : decode bb_F_note 70 = .ok (.invokevirtual 64, 3) := by decide +kernel
theorem dd_F_note_73 : decode bb_F_note 73 = .ok (.ifCond .eq 12, 3) := by decide +kernel
theorem dd_F_note_76 : decode bb_F_note 76 = .ok (.aload 4, 2) := by decide +kernel
theorem dd_F_note_78 : decode bb_F_note 78 = .ok (.iload 5, 2) := by decide +kernel
theorem dd_F_note_80 : decode bb_F_note 80 = .ok (.dup2, 1) := by decide +kernel
theorem dd_F_note_81 : decode bb_F_note 81 = .ok (.laload, 1) := by decide +kernel
theorem dd_F_note_82 : decode bb_F_note 82 = .ok (.lload_n 2, 1) := by decide +kernel
theorem dd_F_note_83 : decode bb_F_note 83 = .ok (.lor, 1) := by decide +kernel
theorem dd_F_note_84 : decode bb_F_note 84 = .ok (.lastore, 1) := by decide +kernel
theorem dd_F_note_85 : decode bb_F_note 85 = .ok (.iinc 5 1, 3) := by decide +kernel
theorem dd_F_note_88 : decode bb_F_note 88 = .ok (.goto (-37), 3) := by decide +kernel
theorem dd_F_note_91 : decode bb_F_note 91 = .ok (.return_, 1) := by decide +kernel
theorem dd_F_ofRow_0 : decode bb_F_ofRow 0 = .ok (.aload_n 0, 1) := by decide +kernel
theorem dd_F_ofRow_1 : decode bb_F_ofRow 1 = .ok (.getfield 25, 3) := by decide +kernel
theorem dd_F_ofRow_4 : decode bb_F_ofRow 4 = .ok (.iload_n 1, 1) := by decide +kernel
theorem dd_F_ofRow_5 : decode bb_F_ofRow 5 = .ok (.laload, 1) := by decide +kernel
theorem dd_F_ofRow_6 : decode bb_F_ofRow 6 = .ok (.aload_n 0, 1) := by decide +kernel
theorem dd_F_ofRow_7 : decode bb_F_ofRow 7 = .ok (.getfield 29, 3) := by decide +kernel
theorem dd_F_ofRow_10 : decode bb_F_ofRow 10 = .ok (.iload_n 2, 1) := by decide +kernel
theorem dd_F_ofRow_11 : decode bb_F_ofRow 11 = .ok (.laload, 1) := by decide +kernel
theorem dd_F_ofRow_12 : decode bb_F_ofRow 12 = .ok (.lor, 1) := by decide +kernel
theorem dd_F_ofRow_13 : decode bb_F_ofRow 13 = .ok (.lstore_n 3, 1) := by decide +kernel
theorem dd_F_ofRow_14 : decode bb_F_ofRow 14 = .ok (.iload_n 1, 1) := by decide +kernel
theorem dd_F_ofRow_15 : decode bb_F_ofRow 15 = .ok (.invokestatic 68, 3) := by decide +kernel
theorem dd_F_ofRow_18 : decode bb_F_ofRow 18 = .ok (.iload_n 2, 1) := by decide +kernel
theorem dd_F_ofRow_19 : decode bb_F_ofRow 19 = .ok (.invokestatic 68, 3) := by decide +kernel
theorem dd_F_ofRow_22 : decode bb_F_ofRow 22 = .ok (.if_icmp .ge 10, 3) := by decide +kernel
theorem dd_F_ofRow_25 : decode bb_F_ofRow 25 = .ok (.lload_n 3, 1) := by decide +kernel
theorem dd_F_ofRow_26 : decode bb_F_ofRow 26 = .ok (.aload_n 0, 1) := by decide +kernel
theorem dd_F_ofRow_27 : decode bb_F_ofRow 27 = .ok (.getfield 32, 3) := by decide +kernel
theorem dd_F_ofRow_30 : decode bb_F_ofRow 30 = .ok (.lor, 1) := by decide +kernel
theorem dd_F_ofRow_31 : decode bb_F_ofRow 31 = .ok (.lstore_n 3, 1) := by decide +kernel
theorem dd_F_ofRow_32 : decode bb_F_ofRow 32 = .ok (.iload_n 1, 1) := by decide +kernel
theorem dd_F_ofRow_33 : decode bb_F_ofRow 33 = .ok (.invokestatic 74, 3) := by decide +kernel
theorem dd_F_ofRow_36 : decode bb_F_ofRow 36 = .ok (.iload_n 2, 1) := by decide +kernel
theorem dd_F_ofRow_37 : decode bb_F_ofRow 37 = .ok (.invokestatic 74, 3) := by decide +kernel
theorem dd_F_ofRow_40 : decode bb_F_ofRow 40 = .ok (.if_icmp .ne 10, 3) := by decide +kernel
theorem dd_F_ofRow_43 : decode bb_F_ofRow 43 = .ok (.lload_n 3, 1) := by decide +kernel
theorem dd_F_ofRow_44 : decode bb_F_ofRow 44 = .ok (.aload_n 0, 1) := by decide +kernel
theorem dd_F_ofRow_45 : decode bb_F_ofRow 45 = .ok (.getfield 36, 3) := by decide +kernel
theorem dd_F_ofRow_48 : decode bb_F_ofRow 48 = .ok (.lor, 1) := by decide +kernel
theorem dd_F_ofRow_49 : decode bb_F_ofRow 49 = .ok (.lstore_n 3, 1) := by decide +kernel
theorem dd_F_ofRow_50 : decode bb_F_ofRow 50 = .ok (.lload_n 3, 1) := by decide +kernel
theorem dd_F_ofRow_51 : decode bb_F_ofRow 51 = .ok (.lreturn, 1) := by decide +kernel
theorem dd_F_part_0 : decode bb_F_part 0 = .ok (.aload_n 0, 1) := by decide +kernel
theorem dd_F_part_1 : decode bb_F_part 1 = .ok (.getfield 15, 3) := by decide +kernel
theorem dd_F_part_4 : decode bb_F_part 4 = .ok (.iload_n 1, 1) := by decide +kernel
theorem dd_F_part_5 : decode bb_F_part 5 = .ok (.aaload, 1) := by decide +kernel
theorem dd_F_part_6 : decode bb_F_part 6 = .ok (.astore_n 3, 1) := by decide +kernel
theorem dd_F_part_7 : decode bb_F_part 7 = .ok (.iload_n 2, 1) := by decide +kernel
theorem dd_F_part_8 : decode bb_F_part 8 = .ok (.ifCond .ne 10, 3) := by decide +kernel
theorem dd_F_part_11 : decode bb_F_part 11 = .ok (.aload_n 3, 1) := by decide +kernel
theorem dd_F_part_12 : decode bb_F_part 12 = .ok (.invokevirtual 43, 3) := by decide +kernel
theorem dd_F_part_15 : decode bb_F_part 15 = .ok (.goto 19, 3) := by decide +kernel
theorem dd_F_part_18 : decode bb_F_part 18 = .ok (.iload_n 2, 1) := by decide +kernel
theorem dd_F_part_19 : decode bb_F_part 19 = .ok (.iconst 1, 1) := by decide +kernel
theorem dd_F_part_20 : decode bb_F_part 20 = .ok (.if_icmp .ne 10, 3) := by decide +kernel
theorem dd_F_part_23 : decode bb_F_part 23 = .ok (.aload_n 3, 1) := by decide +kernel
theorem dd_F_part_24 : decode bb_F_part 24 = .ok (.invokevirtual 47, 3) := by decide +kernel
theorem dd_F_part_27 : decode bb_F_part 27 = .ok (.goto 7, 3) := by decide +kernel
theorem dd_F_part_30 : decode bb_F_part 30 = .ok (.aload_n 3, 1) := by decide +kernel
theorem dd_F_part_31 : decode bb_F_part 31 = .ok (.invokevirtual 50, 3) := by decide +kernel
theorem dd_F_part_34 : decode bb_F_part 34 = .ok (.ireturn, 1) := by decide +kernel
theorem dd_F_size_0 : decode bb_F_size 0 = .ok (.aload_n 0, 1) := by decide +kernel
theorem dd_F_size_1 : decode bb_F_size 1 = .ok (.getfield 19, 3) := by decide +kernel
theorem dd_F_size_4 : decode bb_F_size 4 = .ok (.ireturn, 1) := by decide +kernel
theorem dd_M_addAtom_0 : decode bb_M_addAtom 0 = .ok (.aload_n 0, 1) := by decide +kernel
theorem dd_M_addAtom_1 : decode bb_M_addAtom 1 = .ok (.getfield 11, 3) := by decide +kernel
theorem dd_M_addAtom_4 : decode bb_M_addAtom 4 = .ok (.aload_n 0, 1) := by decide +kernel
theorem dd_M_addAtom_5 : decode bb_M_addAtom 5 = .ok (.getfield 15, 3) := by decide +kernel
theorem dd_M_addAtom_8 : decode bb_M_addAtom 8 = .ok (.aload_n 1, 1) := by decide +kernel
theorem dd_M_addAtom_9 : decode bb_M_addAtom 9 = .ok (.aastore, 1) := by decide +kernel
theorem dd_M_addAtom_10 : decode bb_M_addAtom 10 = .ok (.aload_n 0, 1) := by decide +kernel
theorem dd_M_addAtom_11 : decode bb_M_addAtom 11 = .ok (.dup, 1) := by decide +kernel
theorem dd_M_addAtom_12 : decode bb_M_addAtom 12 = .ok (.getfield 15, 3) := by decide +kernel
theorem dd_M_addAtom_15 : decode bb_M_addAtom 15 = .ok (.iconst 1, 1) := by decide +kernel
theorem dd_M_addAtom_16 : decode bb_M_addAtom 16 = .ok (.iadd, 1) := by decide +kernel
theorem dd_M_addAtom_17 : decode bb_M_addAtom 17 = .ok (.putfield 15, 3) := by decide +kernel
theorem dd_M_addAtom_20 : decode bb_M_addAtom 20 = .ok (.aload_n 0, 1) := by decide +kernel
theorem dd_M_addAtom_21 : decode bb_M_addAtom 21 = .ok (.getfield 15, 3) := by decide +kernel
theorem dd_M_addAtom_24 : decode bb_M_addAtom 24 = .ok (.ireturn, 1) := by decide +kernel
theorem dd_M_addOperation_0 : decode bb_M_addOperation 0 = .ok (.aload_n 0, 1) := by decide +kernel
theorem dd_M_addOperation_1 : decode bb_M_addOperation 1 = .ok (.getfield 21, 3) := by decide +kernel
theorem dd_M_addOperation_4 : decode bb_M_addOperation 4 = .ok (.aload_n 0, 1) := by decide +kernel
theorem dd_M_addOperation_5 : decode bb_M_addOperation 5 = .ok (.getfield 25, 3) := by decide +kernel
theorem dd_M_addOperation_8 : decode bb_M_addOperation 8 = .ok (.aload_n 1, 1) := by decide +kernel
theorem dd_M_addOperation_9 : decode bb_M_addOperation 9 = .ok (.aastore, 1) := by decide +kernel
theorem dd_M_addOperation_10 : decode bb_M_addOperation 10 = .ok (.aload_n 0, 1) := by decide +kernel
theorem dd_M_addOperation_11 : decode bb_M_addOperation 11 = .ok (.dup, 1) := by decide +kernel
theorem dd_M_addOperation_12 : decode bb_M_addOperation 12 = .ok (.getfield 25, 3) := by decide +kernel
theorem dd_M_addOperation_15 : decode bb_M_addOperation 15 = .ok (.iconst 1, 1) := by decide +kernel
theorem dd_M_addOperation_16 : decode bb_M_addOperation 16 = .ok (.iadd, 1) := by decide +kernel
theorem dd_M_addOperation_17 : decode bb_M_addOperation 17 = .ok (.putfield 25, 3) := by decide +kernel
theorem dd_M_addOperation_20 : decode bb_M_addOperation 20 = .ok (.aload_n 0, 1) := by decide +kernel
theorem dd_M_addOperation_21 : decode bb_M_addOperation 21 = .ok (.getfield 25, 3) := by decide +kernel
theorem dd_M_addOperation_24 : decode bb_M_addOperation 24 = .ok (.ireturn, 1) := by decide +kernel
theorem dd_M_bit_0 : decode bb_M_bit 0 = .ok (.iconst 1, 1) := by decide +kernel
theorem dd_M_bit_1 : decode bb_M_bit 1 = .ok (.aload_n 0, 1) := by decide +kernel
theorem dd_M_bit_2 : decode bb_M_bit 2 = .ok (.getfield 41, 3) := by decide +kernel
theorem dd_M_bit_5 : decode bb_M_bit 5 = .ok (.ishl, 1) := by decide +kernel
theorem dd_M_bit_6 : decode bb_M_bit 6 = .ok (.ireturn, 1) := by decide +kernel
theorem dd_M_holds_0 : decode bb_M_holds 0 = .ok (.lload_n 1, 1) := by decide +kernel
theorem dd_M_holds_1 : decode bb_M_holds 1 = .ok (.aload_n 0, 1) := by decide +kernel
theorem dd_M_holds_2 : decode bb_M_holds 2 = .ok (.getfield 28, 3) := by decide +kernel
theorem dd_M_holds_5 : decode bb_M_holds 5 = .ok (.land, 1) := by decide +kernel
theorem dd_M_holds_6 : decode bb_M_holds 6 = .ok (.aload_n 0, 1) := by decide +kernel
theorem dd_M_holds_7 : decode bb_M_holds 7 = .ok (.getfield 28, 3) := by decide +kernel
theorem dd_M_holds_10 : decode bb_M_holds 10 = .ok (.lcmp, 1) := by decide +kernel
theorem dd_M_holds_11 : decode bb_M_holds 11 = .ok (.ifCond .ne 18, 3) := by decide +kernel
theorem dd_M_holds_14 : decode bb_M_holds 14 = .ok (.lload_n 1, 1) := by decide +kernel
theorem dd_M_holds_15 : decode bb_M_holds 15 = .ok (.aload_n 0, 1) := by decide +kernel
theorem dd_M_holds_16 : decode bb_M_holds 16 = .ok (.getfield 32, 3) := by decide +kernel
theorem dd_M_holds_19 : decode bb_M_holds 19 = .ok (.land, 1) := by decide +kernel
theorem dd_M_holds_20 : decode bb_M_holds 20 = .ok (.lconst 0, 1) := by decide +kernel
theorem dd_M_holds_21 : decode bb_M_holds 21 = .ok (.lcmp, 1) := by decide +kernel
theorem dd_M_holds_22 : decode bb_M_holds 22 = .ok (.ifCond .ne 7, 3) := by decide +kernel
theorem dd_M_holds_25 : decode bb_M_holds 25 = .ok (.iconst 1, 1) := by decide +kernel
theorem dd_M_holds_26 : decode bb_M_holds 26 = .ok (.goto 4, 3) := by decide +kernel
theorem dd_M_holds_29 : decode bb_M_holds 29 = .ok (.iconst 0, 1) := by decide +kernel
theorem dd_M_holds_30 : decode bb_M_holds 30 = .ok (.ireturn, 1) := by decide +kernel
theorem dd_M_init_0 : decode bb_M_init 0 = .ok (.aload_n 0, 1) := by decide +kernel
theorem dd_M_init_1 : decode bb_M_init 1 = .ok (.invokespecial 1, 3) := by decide +kernel
theorem dd_M_init_4 : decode bb_M_init 4 = .ok (.aload_n 0, 1) := by decide +kernel
theorem dd_M_init_5 : decode bb_M_init 5 = .ok (.iconst 4, 1) := by decide +kernel
theorem dd_M_init_6 : decode bb_M_init 6 = .ok (.anewarray 9, 3) := by decide +kernel
theorem dd_M_init_9 : decode bb_M_init 9 = .ok (.putfield 11, 3) := by decide +kernel
theorem dd_M_init_12 : decode bb_M_init 12 = .ok (.aload_n 0, 1) := by decide +kernel
theorem dd_M_init_13 : decode bb_M_init 13 = .ok (.iconst 0, 1) := by decide +kernel
theorem dd_M_init_14 : decode bb_M_init 14 = .ok (.putfield 15, 3) := by decide +kernel
theorem dd_M_init_17 : decode bb_M_init 17 = .ok (.aload_n 0, 1) := by decide +kernel
theorem dd_M_init_18 : decode bb_M_init 18 = .ok (.bipush 8, 2) := by decide +kernel
theorem dd_M_init_20 : decode bb_M_init 20 = .ok (.anewarray 19, 3) := by decide +kernel
theorem dd_M_init_23 : decode bb_M_init 23 = .ok (.putfield 21, 3) := by decide +kernel
theorem dd_M_init_26 : decode bb_M_init 26 = .ok (.aload_n 0, 1) := by decide +kernel
theorem dd_M_init_27 : decode bb_M_init 27 = .ok (.iconst 0, 1) := by decide +kernel
theorem dd_M_init_28 : decode bb_M_init 28 = .ok (.putfield 25, 3) := by decide +kernel
theorem dd_M_init_31 : decode bb_M_init 31 = .ok (.aload_n 0, 1) := by decide +kernel
theorem dd_M_init_32 : decode bb_M_init 32 = .ok (.lconst 0, 1) := by decide +kernel
theorem dd_M_init_33 : decode bb_M_init 33 = .ok (.putfield 28, 3) := by decide +kernel
theorem dd_M_init_36 : decode bb_M_init 36 = .ok (.aload_n 0, 1) := by decide +kernel
theorem dd_M_init_37 : decode bb_M_init 37 = .ok (.lconst 0, 1) := by decide +kernel
theorem dd_M_init_38 : decode bb_M_init 38 = .ok (.putfield 32, 3) := by decide +kernel
theorem dd_M_init_41 : decode bb_M_init 41 = .ok (.aload_n 0, 1) := by decide +kernel
theorem dd_M_init_42 : decode bb_M_init 42 = .ok (.iconst 0, 1) := by decide +kernel
theorem dd_M_init_43 : decode bb_M_init 43 = .ok (.putfield 35, 3) := by decide +kernel
theorem dd_M_init_46 : decode bb_M_init 46 = .ok (.aload_n 0, 1) := by decide +kernel
theorem dd_M_init_47 : decode bb_M_init 47 = .ok (.iconst 0, 1) := by decide +kernel
theorem dd_M_init_48 : decode bb_M_init 48 = .ok (.putfield 38, 3) := by decide +kernel
theorem dd_M_init_51 : decode bb_M_init 51 = .ok (.aload_n 0, 1) := by decide +kernel
theorem dd_M_init_52 : decode bb_M_init 52 = .ok (.iload_n 1, 1) := by decide +kernel
theorem dd_M_init_53 : decode bb_M_init 53 = .ok (.putfield 41, 3) := by decide +kernel
theorem dd_M_init_56 : decode bb_M_init 56 = .ok (.aload_n 0, 1) := by decide +kernel
theorem dd_M_init_57 : decode bb_M_init 57 = .ok (.aload_n 2, 1) := by decide +kernel
theorem dd_M_init_58 : decode bb_M_init 58 = .ok (.putfield 44, 3) := by decide +kernel
theorem dd_M_init_61 : decode bb_M_init 61 = .ok (.return_, 1) := by decide +kernel
theorem dd_M_learnCondition_0 : decode bb_M_learnCondition 0 = .ok (.aload_n 0, 1) := by decide +kernel
theorem dd_M_learnCondition_1 : decode bb_M_learnCondition 1 = .ok (.lconst 0, 1) := by decide +kernel
theorem dd_M_learnCondition_2 : decode bb_M_learnCondition 2 = .ok (.putfield 28, 3) := by decide +kernel
theorem dd_M_learnCondition_5 : decode bb_M_learnCondition 5 = .ok (.aload_n 0, 1) := by decide +kernel
theorem dd_M_learnCondition_6 : decode bb_M_learnCondition 6 = .ok (.lconst 0, 1) := by decide +kernel
theorem dd_M_learnCondition_7 : decode bb_M_learnCondition 7 = .ok (.putfield 32, 3) := by decide +kernel
theorem dd_M_learnCondition_10 : decode bb_M_learnCondition 10 = .ok (.iconst 0, 1) := by decide +kernel
theorem dd_M_learnCondition_11 : decode bb_M_learnCondition 11 = .ok (.istore_n 2, 1) := by decide +kernel
theorem dd_M_learnCondition_12 : decode bb_M_learnCondition 12 = .ok (.iload_n 2, 1) := by decide +kernel
theorem dd_M_learnCondition_13 : decode bb_M_learnCondition 13 = .ok (.aload_n 0, 1) := by decide +kernel
theorem dd_M_learnCondition_14 : decode bb_M_learnCondition 14 = .ok (.getfield 15, 3) := by decide +kernel
theorem dd_M_learnCondition_17 : decode bb_M_learnCondition 17 = .ok (.if_icmp .ge 55, 3) := by decide +kernel
theorem dd_M_learnCondition_20 : decode bb_M_learnCondition 20 = .ok (.aload_n 1, 1) := by decide +kernel
theorem dd_M_learnCondition_21 : decode bb_M_learnCondition 21 = .ok (.aload_n 0, 1) := by decide +kernel
theorem dd_M_learnCondition_22 : decode bb_M_learnCondition 22 = .ok (.getfield 11, 3) := by decide +kernel
theorem dd_M_learnCondition_25 : decode bb_M_learnCondition 25 = .ok (.iload_n 2, 1) := by decide +kernel
theorem dd_M_learnCondition_26 : decode bb_M_learnCondition 26 = .ok (.aaload, 1) := by decide +kernel
theorem dd_M_learnCondition_27 : decode bb_M_learnCondition 27 = .ok (.invokevirtual 48, 3) := by decide +kernel
theorem dd_M_learnCondition_30 : decode bb_M_learnCondition 30 = .ok (.lstore_n 3, 1) := by decide +kernel
theorem dd_M_learnCondition_31 : decode bb_M_learnCondition 31 = .ok (.aload_n 0, 1) := by decide +kernel
theorem dd_M_learnCondition_32 : decode bb_M_learnCondition 32 = .ok (.getfield 11, 3) := by decide +kernel
theorem dd_M_learnCondition_35 : decode bb_M_learnCondition 35 = .ok (.iload_n 2, 1) := by decide +kernel
theorem dd_M_learnCondition_36 : decode bb_M_learnCondition 36 = .ok (.aaload, 1) := by decide +kernel
theorem dd_M_learnCondition_37 : decode bb_M_learnCondition 37 = .ok (.invokevirtual 54, 3) := by decide +kernel
theorem dd_M_learnCondition_40 : decode bb_M_learnCondition 40 = .ok (.ifCond .eq 16, 3) := by decide +kernel
theorem dd_M_learnCondition_43 : decode bb_M_learnCondition 43 = .ok (.aload_n 0, 1) := by decide +kernel
theorem dd_M_learnCondition_44 : decode bb_M_learnCondition 44 = .ok (.dup, 1) := by decide +kernel
theorem dd_M_learnCondition_45 : decode bb_M_learnCondition 45 = .ok (.getfield 32, 3) := by decide +kernel
theorem dd_M_learnCondition_48 : decode bb_M_learnCondition 48 = .ok (.lload_n 3, 1) := by decide +kernel
theorem dd_M_learnCondition_49 : decode bb_M_learnCondition 49 = .ok (.lor, 1) := by decide +kernel
theorem dd_M_learnCondition_50 : decode bb_M_learnCondition 50 = .ok (.putfield 32, 3) := by decide +kernel
theorem dd_M_learnCondition_53 : decode bb_M_learnCondition 53 = .ok (.goto 13, 3) := by decide +kernel
theorem dd_M_learnCondition_56 : decode bb_M_learnCondition 56 = .ok (.aload_n 0, 1) := by decide +kernel
theorem dd_M_learnCondition_57 : decode bb_M_learnCondition 57 = .ok (.dup, 1) := by decide +kernel
theorem dd_M_learnCondition_58 : decode bb_M_learnCondition 58 = .ok (.getfield 28, 3) := by decide +kernel
theorem dd_M_learnCondition_61 : decode bb_M_learnCondition 61 = .ok (.lload_n 3, 1) := by decide +kernel
theorem dd_M_learnCondition_62 : decode bb_M_learnCondition 62 = .ok (.lor, 1) := by decide +kernel
theorem dd_M_learnCondition_63 : decode bb_M_learnCondition 63 = .ok (.putfield 28, 3) := by decide +kernel
theorem dd_M_learnCondition_66 : decode bb_M_learnCondition 66 = .ok (.iinc 2 1, 3) := by decide +kernel
theorem dd_M_learnCondition_69 : decode bb_M_learnCondition 69 = .ok (.goto (-57), 3) := by decide +kernel
theorem dd_M_learnCondition_72 : decode bb_M_learnCondition 72 = .ok (.return_, 1) := by decide +kernel
theorem dd_R_clear_0 : decode bb_R_clear 0 = .ok (.aload_n 0, 1) := by decide +kernel
theorem dd_R_clear_1 : decode bb_R_clear 1 = .ok (.iconst 0, 1) := by decide +kernel
theorem dd_R_clear_2 : decode bb_R_clear 2 = .ok (.putfield 19, 3) := by decide +kernel
theorem dd_R_clear_5 : decode bb_R_clear 5 = .ok (.return_, 1) := by decide +kernel
theorem dd_R_follow_0 : decode bb_R_follow 0 = .ok (.lload_n 2, 1) := by decide +kernel
theorem dd_R_follow_1 : decode bb_R_follow 1 = .ok (.aload_n 0, 1) := by decide +kernel
theorem dd_R_follow_2 : decode bb_R_follow 2 = .ok (.getfield 9, 3) := by decide +kernel
theorem dd_R_follow_5 : decode bb_R_follow 5 = .ok (.iload_n 1, 1) := by decide +kernel
theorem dd_R_follow_6 : decode bb_R_follow 6 = .ok (.iaload, 1) := by decide +kernel
theorem dd_R_follow_7 : decode bb_R_follow 7 = .ok (.lshr, 1) := by decide +kernel
theorem dd_R_follow_8 : decode bb_R_follow 8 = .ok (.lconst 1, 1) := by decide +kernel
theorem dd_R_follow_9 : decode bb_R_follow 9 = .ok (.land, 1) := by decide +kernel
theorem dd_R_follow_10 : decode bb_R_follow 10 = .ok (.lconst 0, 1) := by decide +kernel
theorem dd_R_follow_11 : decode bb_R_follow 11 = .ok (.lcmp, 1) := by decide +kernel
theorem dd_R_follow_12 : decode bb_R_follow 12 = .ok (.ifCond .eq 12, 3) := by decide +kernel
theorem dd_R_follow_15 : decode bb_R_follow 15 = .ok (.aload_n 0, 1) := by decide +kernel
theorem dd_R_follow_16 : decode bb_R_follow 16 = .ok (.getfield 13, 3) := by decide +kernel
theorem dd_R_follow_19 : decode bb_R_follow 19 = .ok (.iload_n 1, 1) := by decide +kernel
theorem dd_R_follow_20 : decode bb_R_follow 20 = .ok (.iaload, 1) := by decide +kernel
theorem dd_R_follow_21 : decode bb_R_follow 21 = .ok (.goto 9, 3) := by decide +kernel
theorem dd_R_follow_24 : decode bb_R_follow 24 = .ok (.aload_n 0, 1) := by decide +kernel
theorem dd_R_follow_25 : decode bb_R_follow 25 = .ok (.getfield 16, 3) := by decide +kernel
theorem dd_R_follow_28 : decode bb_R_follow 28 = .ok (.iload_n 1, 1) := by decide +kernel
theorem dd_R_follow_29 : decode bb_R_follow 29 = .ok (.iaload, 1) := by decide +kernel
theorem dd_R_follow_30 : decode bb_R_follow 30 = .ok (.ireturn, 1) := by decide +kernel
theorem dd_R_init_0 : decode bb_R_init 0 = .ok (.aload_n 0, 1) := by decide +kernel
theorem dd_R_init_1 : decode bb_R_init 1 = .ok (.invokespecial 1, 3) := by decide +kernel
theorem dd_R_init_4 : decode bb_R_init 4 = .ok (.aload_n 0, 1) := by decide +kernel
theorem dd_R_init_5 : decode bb_R_init 5 = .ok (.bipush 80, 2) := by decide +kernel
theorem dd_R_init_7 : decode bb_R_init 7 = .ok (.newarray .int, 2) := by decide +kernel
theorem dd_R_init_9 : decode bb_R_init 9 = .ok (.putfield 9, 3) := by decide +kernel
theorem dd_R_init_12 : decode bb_R_init 12 = .ok (.aload_n 0, 1) := by decide +kernel
theorem dd_R_init_13 : decode bb_R_init 13 = .ok (.bipush 80, 2) := by decide +kernel
theorem dd_R_init_15 : decode bb_R_init 15 = .ok (.newarray .int, 2) := by decide +kernel
theorem dd_R_init_17 : decode bb_R_init 17 = .ok (.putfield 13, 3) := by decide +kernel
theorem dd_R_init_20 : decode bb_R_init 20 = .ok (.aload_n 0, 1) := by decide +kernel
theorem dd_R_init_21 : decode bb_R_init 21 = .ok (.bipush 80, 2) := by decide +kernel
theorem dd_R_init_23 : decode bb_R_init 23 = .ok (.newarray .int, 2) := by decide +kernel
theorem dd_R_init_25 : decode bb_R_init 25 = .ok (.putfield 16, 3) := by decide +kernel
theorem dd_R_init_28 : decode bb_R_init 28 = .ok (.aload_n 0, 1) := by decide +kernel
theorem dd_R_init_29 : decode bb_R_init 29 = .ok (.iconst 0, 1) := by decide +kernel
theorem dd_R_init_30 : decode bb_R_init 30 = .ok (.putfield 19, 3) := by decide +kernel
theorem dd_R_init_33 : decode bb_R_init 33 = .ok (.return_, 1) := by decide +kernel
theorem dd_R_isEmpty_0 : decode bb_R_isEmpty 0 = .ok (.aload_n 0, 1) := by decide +kernel
theorem dd_R_isEmpty_1 : decode bb_R_isEmpty 1 = .ok (.getfield 19, 3) := by decide +kernel
theorem dd_R_isEmpty_4 : decode bb_R_isEmpty 4 = .ok (.ifCond .ne 7, 3) := by decide +kernel
theorem dd_R_isEmpty_7 : decode bb_R_isEmpty 7 = .ok (.iconst 1, 1) := by decide +kernel
theorem dd_R_isEmpty_8 : decode bb_R_isEmpty 8 = .ok (.goto 4, 3) := by decide +kernel
theorem dd_R_isEmpty_11 : decode bb_R_isEmpty 11 = .ok (.iconst 0, 1) := by decide +kernel
theorem dd_R_isEmpty_12 : decode bb_R_isEmpty 12 = .ok (.ireturn, 1) := by decide +kernel
theorem dd_R_isLeaf_0 : decode bb_R_isLeaf 0 = .ok (.aload_n 0, 1) := by decide +kernel
theorem dd_R_isLeaf_1 : decode bb_R_isLeaf 1 = .ok (.getfield 9, 3) := by decide +kernel
theorem dd_R_isLeaf_4 : decode bb_R_isLeaf 4 = .ok (.iload_n 1, 1) := by decide +kernel
theorem dd_R_isLeaf_5 : decode bb_R_isLeaf 5 = .ok (.iaload, 1) := by decide +kernel
theorem dd_R_isLeaf_6 : decode bb_R_isLeaf 6 = .ok (.iconst (-1), 1) := by decide +kernel
theorem dd_R_isLeaf_7 : decode bb_R_isLeaf 7 = .ok (.if_icmp .ne 7, 3) := by decide +kernel
theorem dd_R_isLeaf_10 : decode bb_R_isLeaf 10 = .ok (.iconst 1, 1) := by decide +kernel
theorem dd_R_isLeaf_11 : decode bb_R_isLeaf 11 = .ok (.goto 4, 3) := by decide +kernel
theorem dd_R_isLeaf_14 : decode bb_R_isLeaf 14 = .ok (.iconst 0, 1) := by decide +kernel
theorem dd_R_isLeaf_15 : decode bb_R_isLeaf 15 = .ok (.ireturn, 1) := by decide +kernel
theorem dd_R_leafFor_0 : decode bb_R_leafFor 0 = .ok (.aload_n 0, 1) := by decide +kernel
theorem dd_R_leafFor_1 : decode bb_R_leafFor 1 = .ok (.iconst (-1), 1) := by decide +kernel
theorem dd_R_leafFor_2 : decode bb_R_leafFor 2 = .ok (.iload_n 1, 1) := by decide +kernel
theorem dd_R_leafFor_3 : decode bb_R_leafFor 3 = .ok (.iconst (-1), 1) := by decide +kernel
theorem dd_R_leafFor_4 : decode bb_R_leafFor 4 = .ok (.invokevirtual 23, 3) := by decide +kernel
theorem dd_R_leafFor_7 : decode bb_R_leafFor 7 = .ok (.ireturn, 1) := by decide +kernel
theorem dd_R_methodAt_0 : decode bb_R_methodAt 0 = .ok (.aload_n 0, 1) := by decide +kernel
theorem dd_R_methodAt_1 : decode bb_R_methodAt 1 = .ok (.getfield 13, 3) := by decide +kernel
theorem dd_R_methodAt_4 : decode bb_R_methodAt 4 = .ok (.iload_n 1, 1) := by decide +kernel
theorem dd_R_methodAt_5 : decode bb_R_methodAt 5 = .ok (.iaload, 1) := by decide +kernel
theorem dd_R_methodAt_6 : decode bb_R_methodAt 6 = .ok (.ireturn, 1) := by decide +kernel
theorem dd_R_nodeFor_0 : decode bb_R_nodeFor 0 = .ok (.iconst 0, 1) := by decide +kernel
theorem dd_R_nodeFor_1 : decode bb_R_nodeFor 1 = .ok (.istore 4, 2) := by decide +kernel
theorem dd_R_nodeFor_3 : decode bb_R_nodeFor 3 = .ok (.iload 4, 2) := by decide +kernel
theorem dd_R_nodeFor_5 : decode bb_R_nodeFor 5 = .ok (.aload_n 0, 1) := by decide +kernel
theorem dd_R_nodeFor_6 : decode bb_R_nodeFor 6 = .ok (.getfield 19, 3) := by decide +kernel
theorem dd_R_nodeFor_9 : decode bb_R_nodeFor 9 = .ok (.if_icmp .ge 45, 3) := by decide +kernel
theorem dd_R_nodeFor_12 : decode bb_R_nodeFor 12 = .ok (.aload_n 0, 1) := by decide +kernel
theorem dd_R_nodeFor_13 : decode bb_R_nodeFor 13 = .ok (.getfield 9, 3) := by decide +kernel
theorem dd_R_nodeFor_16 : decode bb_R_nodeFor 16 = .ok (.iload 4, 2) := by decide +kernel
theorem dd_R_nodeFor_18 : decode bb_R_nodeFor 18 = .ok (.iaload, 1) := by decide +kernel
theorem dd_R_nodeFor_19 : decode bb_R_nodeFor 19 = .ok (.iload_n 1, 1) := by decide +kernel
theorem dd_R_nodeFor_20 : decode bb_R_nodeFor 20 = .ok (.if_icmp .ne 28, 3) := by decide +kernel
theorem dd_R_nodeFor_23 : decode bb_R_nodeFor 23 = .ok (.aload_n 0, 1) := by decide +kernel
theorem dd_R_nodeFor_24 : decode bb_R_nodeFor 24 = .ok (.getfield 13, 3) := by decide +kernel
theorem dd_R_nodeFor_27 : decode bb_R_nodeFor 27 = .ok (.iload 4, 2) := by decide +kernel
theorem dd_R_nodeFor_29 : decode bb_R_nodeFor 29 = .ok (.iaload, 1) := by decide +kernel
theorem dd_R_nodeFor_30 : decode bb_R_nodeFor 30 = .ok (.iload_n 2, 1) := by decide +kernel
theorem dd_R_nodeFor_31 : decode bb_R_nodeFor 31 = .ok (.if_icmp .ne 17, 3) := by decide +kernel
theorem dd_R_nodeFor_34 : decode bb_R_nodeFor 34 = .ok (.aload_n 0, 1) := by decide +kernel
theorem dd_R_nodeFor_35 : decode bb_R_nodeFor 35 = .ok (.getfield 16, 3) := by decide +kernel
theorem dd_R_nodeFor_38 : decode bb_R_nodeFor 38 = .ok (.iload 4, 2) := by decide +kernel
theorem dd_R_nodeFor_40 : decode bb_R_nodeFor 40 = .ok (.iaload, 1) := by decide +kernel
theorem dd_R_nodeFor_41 : decode bb_R_nodeFor 41 = .ok (.iload_n 3, 1) := by decide +kernel
theorem dd_R_nodeFor_42 : decode bb_R_nodeFor 42 = .ok (.if_icmp .ne 6, 3) := by decide +kernel
theorem dd_R_nodeFor_45 : decode bb_R_nodeFor 45 = .ok (.iload 4, 2) := by decide +kernel
theorem dd_R_nodeFor_47 : decode bb_R_nodeFor 47 = .ok (.ireturn, 1) := by decide +kernel
theorem dd_R_nodeFor_48 : decode bb_R_nodeFor 48 = .ok (.iinc 4 1, 3) := by decide +kernel
theorem dd_R_nodeFor_51 : decode bb_R_nodeFor 51 = .ok (.goto (-48), 3) := by decide +kernel
theorem dd_R_nodeFor_54 : decode bb_R_nodeFor 54 = .ok (.aload_n 0, 1) := by decide +kernel
theorem dd_R_nodeFor_55 : decode bb_R_nodeFor 55 = .ok (.getfield 19, 3) := by decide +kernel
theorem dd_R_nodeFor_58 : decode bb_R_nodeFor 58 = .ok (.bipush 80, 2) := by decide +kernel
theorem dd_R_nodeFor_60 : decode bb_R_nodeFor 60 = .ok (.if_icmp .lt 5, 3) := by decide +kernel
theorem dd_R_nodeFor_63 : decode bb_R_nodeFor 63 = .ok (.iconst (-1), 1) := by decide +kernel
theorem dd_R_nodeFor_64 : decode bb_R_nodeFor 64 = .ok (.ireturn, 1) := by decide +kernel
theorem dd_R_nodeFor_65 : decode bb_R_nodeFor 65 = .ok (.aload_n 0, 1) := by decide +kernel
theorem dd_R_nodeFor_66 : decode bb_R_nodeFor 66 = .ok (.getfield 9, 3) := by decide +kernel
theorem dd_R_nodeFor_69 : decode bb_R_nodeFor 69 = .ok (.aload_n 0, 1) := by decide +kernel
theorem dd_R_nodeFor_70 : decode bb_R_nodeFor 70 = .ok (.getfield 19, 3) := by decide +kernel
theorem dd_R_nodeFor_73 : decode bb_R_nodeFor 73 = .ok (.iload_n 1, 1) := by decide +kernel
theorem dd_R_nodeFor_74 : decode bb_R_nodeFor 74 = .ok (.iastore, 1) := by decide +kernel
theorem dd_R_nodeFor_75 : decode bb_R_nodeFor 75 = .ok (.aload_n 0, 1) := by decide +kernel
theorem dd_R_nodeFor_76 : decode bb_R_nodeFor 76 = .ok (.getfield 13, 3) := by decide +kernel
theorem dd_R_nodeFor_79 : decode bb_R_nodeFor 79 = .ok (.aload_n 0, 1) := by decide +kernel
theorem dd_R_nodeFor_80 : decode bb_R_nodeFor 80 = .ok (.getfield 19, 3) := by decide +kernel
theorem dd_R_nodeFor_83 : decode bb_R_nodeFor 83 = .ok (.iload_n 2, 1) := by decide +kernel
theorem dd_R_nodeFor_84 : decode bb_R_nodeFor 84 = .ok (.iastore, 1) := by decide +kernel
theorem dd_R_nodeFor_85 : decode bb_R_nodeFor 85 = .ok (.aload_n 0, 1) := by decide +kernel
theorem dd_R_nodeFor_86 : decode bb_R_nodeFor 86 = .ok (.getfield 16, 3) := by decide +kernel
theorem dd_R_nodeFor_89 : decode bb_R_nodeFor 89 = .ok (.aload_n 0, 1) := by decide +kernel
theorem dd_R_nodeFor_90 : decode bb_R_nodeFor 90 = .ok (.getfield 19, 3) := by decide +kernel
theorem dd_R_nodeFor_93 : decode bb_R_nodeFor 93 = .ok (.iload_n 3, 1) := by decide +kernel
theorem dd_R_nodeFor_94 : decode bb_R_nodeFor 94 = .ok (.iastore, 1) := by decide +kernel
theorem dd_R_nodeFor_95 : decode bb_R_nodeFor 95 = .ok (.aload_n 0, 1) := by decide +kernel
theorem dd_R_nodeFor_96 : decode bb_R_nodeFor 96 = .ok (.dup, 1) := by decide +kernel
theorem dd_R_nodeFor_97 : decode bb_R_nodeFor 97 = .ok (.getfield 19, 3) := by decide +kernel
theorem dd_R_nodeFor_100 : decode bb_R_nodeFor 100 = .ok (.dup_x1, 1) := by decide +kernel
theorem dd_R_nodeFor_101 : decode bb_R_nodeFor 101 = .ok (.iconst 1, 1) := by decide +kernel
theorem dd_R_nodeFor_102 : decode bb_R_nodeFor 102 = .ok (.iadd, 1) := by decide +kernel
theorem dd_R_nodeFor_103 : decode bb_R_nodeFor 103 = .ok (.putfield 19, 3) := by decide +kernel
theorem dd_R_nodeFor_106 : decode bb_R_nodeFor 106 = .ok (.ireturn, 1) := by decide +kernel
theorem dd_R_part_0 : decode bb_R_part 0 = .ok (.iload_n 2, 1) := by decide +kernel
theorem dd_R_part_1 : decode bb_R_part 1 = .ok (.ifCond .ne 12, 3) := by decide +kernel
theorem dd_R_part_4 : decode bb_R_part 4 = .ok (.aload_n 0, 1) := by decide +kernel
theorem dd_R_part_5 : decode bb_R_part 5 = .ok (.getfield 9, 3) := by decide +kernel
theorem dd_R_part_8 : decode bb_R_part 8 = .ok (.iload_n 1, 1) := by decide +kernel
theorem dd_R_part_9 : decode bb_R_part 9 = .ok (.iaload, 1) := by decide +kernel
theorem dd_R_part_10 : decode bb_R_part 10 = .ok (.goto 23, 3) := by decide +kernel
theorem dd_R_part_13 : decode bb_R_part 13 = .ok (.iload_n 2, 1) := by decide +kernel
theorem dd_R_part_14 : decode bb_R_part 14 = .ok (.iconst 1, 1) := by decide +kernel
theorem dd_R_part_15 : decode bb_R_part 15 = .ok (.if_icmp .ne 12, 3) := by decide +kernel
theorem dd_R_part_18 : decode bb_R_part 18 = .ok (.aload_n 0, 1) := by decide +kernel
theorem dd_R_part_19 : decode bb_R_part 19 = .ok (.getfield 13, 3) := by decide +kernel
theorem dd_R_part_22 : decode bb_R_part 22 = .ok (.iload_n 1, 1) := by decide +kernel
theorem dd_R_part_23 : decode bb_R_part 23 = .ok (.iaload, 1) := by decide +kernel
theorem dd_R_part_24 : decode bb_R_part 24 = .ok (.goto 9, 3) := by decide +kernel
theorem dd_R_part_27 : decode bb_R_part 27 = .ok (.aload_n 0, 1) := by decide +kernel
theorem dd_R_part_28 : decode bb_R_part 28 = .ok (.getfield 16, 3) := by decide +kernel
theorem dd_R_part_31 : decode bb_R_part 31 = .ok (.iload_n 1, 1) := by decide +kernel
theorem dd_R_part_32 : decode bb_R_part 32 = .ok (.iaload, 1) := by decide +kernel
theorem dd_R_part_33 : decode bb_R_part 33 = .ok (.ireturn, 1) := by decide +kernel
theorem dd_R_root_0 : decode bb_R_root 0 = .ok (.aload_n 0, 1) := by decide +kernel
theorem dd_R_root_1 : decode bb_R_root 1 = .ok (.getfield 19, 3) := by decide +kernel
theorem dd_R_root_4 : decode bb_R_root 4 = .ok (.iconst 1, 1) := by decide +kernel
theorem dd_R_root_5 : decode bb_R_root 5 = .ok (.isub, 1) := by decide +kernel
theorem dd_R_root_6 : decode bb_R_root 6 = .ok (.ireturn, 1) := by decide +kernel
theorem dd_R_size_0 : decode bb_R_size 0 = .ok (.aload_n 0, 1) := by decide +kernel
theorem dd_R_size_1 : decode bb_R_size 1 = .ok (.getfield 19, 3) := by decide +kernel
theorem dd_R_size_4 : decode bb_R_size 4 = .ok (.ireturn, 1) := by decide +kernel
