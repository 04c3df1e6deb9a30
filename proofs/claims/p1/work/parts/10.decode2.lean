theorem dd_G_add_0 : decode bb_G_add 0 = .ok (.aload_n 0, 1) := by decide +kernel
theorem dd_G_add_1 : decode bb_G_add 1 = .ok (.getfield 20, 3) := by decide +kernel
theorem dd_G_add_4 : decode bb_G_add 4 = .ok (.aload_n 0, 1) := by decide +kernel
theorem dd_G_add_5 : decode bb_G_add 5 = .ok (.getfield 24, 3) := by decide +kernel
theorem dd_G_add_8 : decode bb_G_add 8 = .ok (.aload_n 1, 1) := by decide +kernel
theorem dd_G_add_9 : decode bb_G_add 9 = .ok (.aastore, 1) := by decide +kernel
theorem dd_G_add_10 : decode bb_G_add 10 = .ok (.aload_n 0, 1) := by decide +kernel
theorem dd_G_add_11 : decode bb_G_add 11 = .ok (.dup, 1) := by decide +kernel
theorem dd_G_add_12 : decode bb_G_add 12 = .ok (.getfield 24, 3) := by decide +kernel
theorem dd_G_add_15 : decode bb_G_add 15 = .ok (.iconst 1, 1) := by decide +kernel
theorem dd_G_add_16 : decode bb_G_add 16 = .ok (.iadd, 1) := by decide +kernel
theorem dd_G_add_17 : decode bb_G_add 17 = .ok (.putfield 24, 3) := by decide +kernel
theorem dd_G_add_20 : decode bb_G_add 20 = .ok (.aload_n 0, 1) := by decide +kernel
theorem dd_G_add_21 : decode bb_G_add 21 = .ok (.dup, 1) := by decide +kernel
theorem dd_G_add_22 : decode bb_G_add 22 = .ok (.getfield 28, 3) := by decide +kernel
theorem dd_G_add_25 : decode bb_G_add 25 = .ok (.aload_n 1, 1) := by decide +kernel
theorem dd_G_add_26 : decode bb_G_add 26 = .ok (.invokevirtual 67, 3) := by decide +kernel
theorem dd_G_add_29 : decode bb_G_add 29 = .ok (.ior, 1) := by decide +kernel
theorem dd_G_add_30 : decode bb_G_add 30 = .ok (.putfield 28, 3) := by decide +kernel
theorem dd_G_add_33 : decode bb_G_add 33 = .ok (.aload_n 0, 1) := by decide +kernel
theorem dd_G_add_34 : decode bb_G_add 34 = .ok (.invokevirtual 70, 3) := by decide +kernel
theorem dd_G_add_37 : decode bb_G_add 37 = .ok (.return_, 1) := by decide +kernel
theorem dd_G_applicable_0 : decode bb_G_applicable 0 = .ok (.iconst 0, 1) := by decide +kernel
theorem dd_G_applicable_1 : decode bb_G_applicable 1 = .ok (.istore_n 3, 1) := by decide +kernel
theorem dd_G_applicable_2 : decode bb_G_applicable 2 = .ok (.iconst 0, 1) := by decide +kernel
theorem dd_G_applicable_3 : decode bb_G_applicable 3 = .ok (.istore 4, 2) := by decide +kernel
theorem dd_G_applicable_5 : decode bb_G_applicable 5 = .ok (.iload 4, 2) := by decide +kernel
theorem dd_G_applicable_7 : decode bb_G_applicable 7 = .ok (.aload_n 0, 1) := by decide +kernel
theorem dd_G_applicable_8 : decode bb_G_applicable 8 = .ok (.getfield 24, 3) := by decide +kernel
theorem dd_G_applicable_11 : decode bb_G_applicable 11 = .ok (.if_icmp .ge 36, 3) := by decide +kernel
theorem dd_G_applicable_14 : decode bb_G_applicable 14 = .ok (.aload_n 0, 1) := by decide +kernel
theorem dd_G_applicable_15 : decode bb_G_applicable 15 = .ok (.getfield 20, 3) := by decide +kernel
theorem dd_G_applicable_18 : decode bb_G_applicable 18 = .ok (.iload 4, 2) := by decide +kernel
theorem dd_G_applicable_20 : decode bb_G_applicable 20 = .ok (.aaload, 1) := by decide +kernel
theorem dd_G_applicable_21 : decode bb_G_applicable 21 = .ok (.lload_n 1, 1) := by decide +kernel
theorem dd_G_applicable_22 : decode bb_G_applicable 22 = .ok (.invokevirtual 115, 3) := by decide +kernel
theorem dd_G_applicable_25 : decode bb_G_applicable 25 = .ok (.ifCond .eq 16, 3) := by decide +kernel
theorem dd_G_applicable_28 : decode bb_G_applicable 28 = .ok (.iload_n 3, 1) := by decide +kernel
theorem dd_G_applicable_29 : decode bb_G_applicable 29 = .ok (.aload_n 0, 1) := by decide +kernel
theorem dd_G_applicable_30 : decode bb_G_applicable 30 = .ok (.getfield 20, 3) := by decide +kernel
theorem dd_G_applicable_33 : decode bb_G_applicable 33 = .ok (.iload 4, 2) := by decide +kernel
theorem dd_G_applicable_35 : decode bb_G_applicable 35 = .ok (.aaload, 1) := by decide +kernel
theorem dd_G_applicable_36 : decode bb_G_applicable 36 = .ok (.invokevirtual 67, 3) := by decide +kernel
theorem dd_G_applicable_39 : decode bb_G_applicable 39 = .ok (.ior, 1) := by decide +kernel
theorem dd_G_applicable_40 : decode bb_G_applicable 40 = .ok (.istore_n 3, 1) := by decide +kernel
theorem dd_G_applicable_41 : decode bb_G_applicable 41 = .ok (.iinc 4 1, 3) := by decide +kernel
theorem dd_G_applicable_44 : decode bb_G_applicable 44 = .ok (.goto (-39), 3) := by decide +kernel
theorem dd_G_applicable_47 : decode bb_G_applicable 47 = .ok (.iload_n 3, 1) := by decide +kernel
theorem dd_G_applicable_48 : decode bb_G_applicable 48 = .ok (.ireturn, 1) := by decide +kernel
theorem dd_G_choose_0 : decode bb_G_choose 0 = .ok (.aload_n 0, 1) := by decide +kernel
theorem dd_G_choose_1 : decode bb_G_choose 1 = .ok (.getfield 35, 3) := by decide +kernel
theorem dd_G_choose_4 : decode bb_G_choose 4 = .ok (.ifCond .eq 12, 3) := by decide +kernel
theorem dd_G_choose_7 : decode bb_G_choose 7 = .ok (.aload_n 0, 1) := by decide +kernel
theorem dd_G_choose_8 : decode bb_G_choose 8 = .ok (.getfield 38, 3) := by decide +kernel
theorem dd_G_choose_11 : decode bb_G_choose 11 = .ok (.lload_n 1, 1) := by decide +kernel
theorem dd_G_choose_12 : decode bb_G_choose 12 = .ok (.lcmp, 1) := by decide +kernel
theorem dd_G_choose_13 : decode bb_G_choose 13 = .ok (.ifCond .eq 26, 3) := by decide +kernel
theorem dd_G_choose_16 : decode bb_G_choose 16 = .ok (.aload_n 0, 1) := by decide +kernel
theorem dd_G_choose_17 : decode bb_G_choose 17 = .ok (.aload_n 0, 1) := by decide +kernel
theorem dd_G_choose_18 : decode bb_G_choose 18 = .ok (.aload_n 0, 1) := by decide +kernel
theorem dd_G_choose_19 : decode bb_G_choose 19 = .ok (.lload_n 1, 1) := by decide +kernel
theorem dd_G_choose_20 : decode bb_G_choose 20 = .ok (.invokevirtual 104, 3) := by decide +kernel
theorem dd_G_choose_23 : decode bb_G_choose 23 = .ok (.invokevirtual 122, 3) := by decide +kernel
theorem dd_G_choose_26 : decode bb_G_choose 26 = .ok (.putfield 42, 3) := by decide +kernel
theorem dd_G_choose_29 : decode bb_G_choose 29 = .ok (.aload_n 0, 1) := by decide +kernel
theorem dd_G_choose_30 : decode bb_G_choose 30 = .ok (.lload_n 1, 1) := by decide +kernel
theorem dd_G_choose_31 : decode bb_G_choose 31 = .ok (.putfield 38, 3) := by decide +kernel
theorem dd_G_choose_34 : decode bb_G_choose 34 = .ok (.aload_n 0, 1) := by decide +kernel
theorem dd_G_choose_35 : decode bb_G_choose 35 = .ok (.iconst 1, 1) := by decide +kernel
theorem dd_G_choose_36 : decode bb_G_choose 36 = .ok (.putfield 35, 3) := by decide +kernel
theorem dd_G_choose_39 : decode bb_G_choose 39 = .ok (.aload_n 0, 1) := by decide +kernel
theorem dd_G_choose_40 : decode bb_G_choose 40 = .ok (.getfield 42, 3) := by decide +kernel
theorem dd_G_choose_43 : decode bb_G_choose 43 = .ok (.ireturn, 1) := by decide +kernel
theorem dd_G_chooseBehind_0 : decode bb_G_chooseBehind 0 = .ok (.aload_n 0, 1) := by decide +kernel
theorem dd_G_chooseBehind_1 : decode bb_G_chooseBehind 1 = .ok (.aload_n 0, 1) := by decide +kernel
theorem dd_G_chooseBehind_2 : decode bb_G_chooseBehind 2 = .ok (.lload_n 2, 1) := by decide +kernel
theorem dd_G_chooseBehind_3 : decode bb_G_chooseBehind 3 = .ok (.invokevirtual 104, 3) := by decide +kernel
theorem dd_G_chooseBehind_6 : decode bb_G_chooseBehind 6 = .ok (.aload_n 1, 1) := by decide +kernel
theorem dd_G_chooseBehind_7 : decode bb_G_chooseBehind 7 = .ok (.getfield 112, 3) := by decide +kernel
theorem dd_G_chooseBehind_10 : decode bb_G_chooseBehind 10 = .ok (.iand, 1) := by decide +kernel
theorem dd_G_chooseBehind_11 : decode bb_G_chooseBehind 11 = .ok (.invokevirtual 122, 3) := by decide +kernel
theorem dd_G_chooseBehind_14 : decode bb_G_chooseBehind 14 = .ok (.ireturn, 1) := by decide +kernel
theorem dd_G_findBeyond_0 : decode bb_G_findBeyond 0 = .ok (.iconst 0, 1) := by decide +kernel
theorem dd_G_findBeyond_1 : decode bb_G_findBeyond 1 = .ok (.istore_n 1, 1) := by decide +kernel
theorem dd_G_findBeyond_2 : decode bb_G_findBeyond 2 = .ok (.iload_n 1, 1) := by decide +kernel
theorem dd_G_findBeyond_3 : decode bb_G_findBeyond 3 = .ok (.aload_n 0, 1) := by decide +kernel
theorem dd_G_findBeyond_4 : decode bb_G_findBeyond 4 = .ok (.getfield 24, 3) := by decide +kernel
theorem dd_G_findBeyond_7 : decode bb_G_findBeyond 7 = .ok (.if_icmp .ge 85, 3) := by decide +kernel
theorem dd_G_findBeyond_10 : decode bb_G_findBeyond 10 = .ok (.aload_n 0, 1) := by decide +kernel
theorem dd_G_findBeyond_11 : decode bb_G_findBeyond 11 = .ok (.getfield 20, 3) := by decide +kernel
theorem dd_G_findBeyond_14 : decode bb_G_findBeyond 14 = .ok (.iload_n 1, 1) := by decide +kernel
theorem dd_G_findBeyond_15 : decode bb_G_findBeyond 15 = .ok (.aaload, 1) := by decide +kernel
theorem dd_G_findBeyond_16 : decode bb_G_findBeyond 16 = .ok (.astore_n 2, 1) := by decide +kernel
theorem dd_G_findBeyond_17 : decode bb_G_findBeyond 17 = .ok (.aload_n 2, 1) := by decide +kernel
theorem dd_G_findBeyond_18 : decode bb_G_findBeyond 18 = .ok (.iconst 0, 1) := by decide +kernel
theorem dd_G_findBeyond_19 : decode bb_G_findBeyond 19 = .ok (.putfield 112, 3) := by decide +kernel
theorem dd_G_findBeyond_22 : decode bb_G_findBeyond 22 = .ok (.iconst 0, 1) := by decide +kernel
theorem dd_G_findBeyond_23 : decode bb_G_findBeyond 23 = .ok (.istore_n 3, 1) := by decide +kernel
theorem dd_G_findBeyond_24 : decode bb_G_findBeyond 24 = .ok (.iload_n 3, 1) := by decide +kernel
theorem dd_G_findBeyond_25 : decode bb_G_findBeyond 25 = .ok (.aload_n 0, 1) := by decide +kernel
theorem dd_G_findBeyond_26 : decode bb_G_findBeyond 26 = .ok (.getfield 24, 3) := by decide +kernel
theorem dd_G_findBeyond_29 : decode bb_G_findBeyond 29 = .ok (.if_icmp .ge 57, 3) := by decide +kernel
theorem dd_G_findBeyond_32 : decode bb_G_findBeyond 32 = .ok (.aload_n 0, 1) := by decide +kernel
theorem dd_G_findBeyond_33 : decode bb_G_findBeyond 33 = .ok (.getfield 20, 3) := by decide +kernel
theorem dd_G_findBeyond_36 : decode bb_G_findBeyond 36 = .ok (.iload_n 3, 1) := by decide +kernel
theorem dd_G_findBeyond_37 : decode bb_G_findBeyond 37 = .ok (.aaload, 1) := by decide +kernel
theorem dd_G_findBeyond_38 : decode bb_G_findBeyond 38 = .ok (.astore 4, 2) := by decide +kernel
theorem dd_G_findBeyond_40 : decode bb_G_findBeyond 40 = .ok (.aload_n 2, 1) := by decide +kernel
theorem dd_G_findBeyond_41 : decode bb_G_findBeyond 41 = .ok (.getfield 89, 3) := by decide +kernel
theorem dd_G_findBeyond_44 : decode bb_G_findBeyond 44 = .ok (.aload 4, 2) := by decide +kernel
theorem dd_G_findBeyond_46 : decode bb_G_findBeyond 46 = .ok (.invokevirtual 67, 3) := by decide +kernel
theorem dd_G_findBeyond_49 : decode bb_G_findBeyond 49 = .ok (.iand, 1) := by decide +kernel
theorem dd_G_findBeyond_50 : decode bb_G_findBeyond 50 = .ok (.ifCond .eq 30, 3) := by decide +kernel
theorem dd_G_findBeyond_53 : decode bb_G_findBeyond 53 = .ok (.aload 4, 2) := by decide +kernel
theorem dd_G_findBeyond_55 : decode bb_G_findBeyond 55 = .ok (.getfield 89, 3) := by decide +kernel
theorem dd_G_findBeyond_58 : decode bb_G_findBeyond 58 = .ok (.aload_n 2, 1) := by decide +kernel
theorem dd_G_findBeyond_59 : decode bb_G_findBeyond 59 = .ok (.invokevirtual 67, 3) := by decide +kernel
theorem dd_G_findBeyond_62 : decode bb_G_findBeyond 62 = .ok (.iand, 1) := by decide +kernel
theorem dd_G_findBeyond_63 : decode bb_G_findBeyond 63 = .ok (.ifCond .ne 17, 3) := by decide +kernel
theorem dd_G_findBeyond_66 : decode bb_G_findBeyond 66 = .ok (.aload_n 2, 1) := by decide +kernel
theorem dd_G_findBeyond_67 : decode bb_G_findBeyond 67 = .ok (.dup, 1) := by decide +kernel
theorem dd_G_findBeyond_68 : decode bb_G_findBeyond 68 = .ok (.getfield 112, 3) := by decide +kernel
theorem dd_G_findBeyond_71 : decode bb_G_findBeyond 71 = .ok (.aload 4, 2) := by decide +kernel
theorem dd_G_findBeyond_73 : decode bb_G_findBeyond 73 = .ok (.invokevirtual 67, 3) := by decide +kernel
theorem dd_G_findBeyond_76 : decode bb_G_findBeyond 76 = .ok (.ior, 1) := by decide +kernel
theorem dd_G_findBeyond_77 : decode bb_G_findBeyond 77 = .ok (.putfield 112, 3) := by decide +kernel
theorem dd_G_findBeyond_80 : decode bb_G_findBeyond 80 = .ok (.iinc 3 1, 3) := by decide +kernel
theorem dd_G_findBeyond_83 : decode bb_G_findBeyond 83 = .ok (.goto (-59), 3) := by decide +kernel
theorem dd_G_findBeyond_86 : decode bb_G_findBeyond 86 = .ok (.iinc 1 1, 3) := by decide +kernel
theorem dd_G_findBeyond_89 : decode bb_G_findBeyond 89 = .ok (.goto (-87), 3) := by decide +kernel
theorem dd_G_findBeyond_92 : decode bb_G_findBeyond 92 = .ok (.return_, 1) := by decide +kernel
theorem dd_G_findImplied_0 : decode bb_G_findImplied 0 = .ok (.iconst 0, 1) := by decide +kernel
theorem dd_G_findImplied_1 : decode bb_G_findImplied 1 = .ok (.istore_n 1, 1) := by decide +kernel
theorem dd_G_findImplied_2 : decode bb_G_findImplied 2 = .ok (.iload_n 1, 1) := by decide +kernel
theorem dd_G_findImplied_3 : decode bb_G_findImplied 3 = .ok (.aload_n 0, 1) := by decide +kernel
theorem dd_G_findImplied_4 : decode bb_G_findImplied 4 = .ok (.getfield 24, 3) := by decide +kernel
theorem dd_G_findImplied_7 : decode bb_G_findImplied 7 = .ok (.if_icmp .ge 22, 3) := by decide +kernel
theorem dd_G_findImplied_10 : decode bb_G_findImplied 10 = .ok (.aload_n 0, 1) := by decide +kernel
theorem dd_G_findImplied_11 : decode bb_G_findImplied 11 = .ok (.getfield 20, 3) := by decide +kernel
theorem dd_G_findImplied_14 : decode bb_G_findImplied 14 = .ok (.iload_n 1, 1) := by decide +kernel
theorem dd_G_findImplied_15 : decode bb_G_findImplied 15 = .ok (.aaload, 1) := by decide +kernel
theorem dd_G_findImplied_16 : decode bb_G_findImplied 16 = .ok (.aload_n 0, 1) := by decide +kernel
theorem dd_G_findImplied_17 : decode bb_G_findImplied 17 = .ok (.getfield 28, 3) := by decide +kernel
theorem dd_G_findImplied_20 : decode bb_G_findImplied 20 = .ok (.putfield 89, 3) := by decide +kernel
theorem dd_G_findImplied_23 : decode bb_G_findImplied 23 = .ok (.iinc 1 1, 3) := by decide +kernel
theorem dd_G_findImplied_26 : decode bb_G_findImplied 26 = .ok (.goto (-24), 3) := by decide +kernel
theorem dd_G_findImplied_29 : decode bb_G_findImplied 29 = .ok (.ldc2_w 92, 3) := by decide +kernel
theorem dd_G_findImplied_32 : decode bb_G_findImplied 32 = .ok (.lstore_n 1, 1) := by decide +kernel
theorem dd_G_findImplied_33 : decode bb_G_findImplied 33 = .ok (.iconst 0, 1) := by decide +kernel
theorem dd_G_findImplied_34 : decode bb_G_findImplied 34 = .ok (.istore_n 3, 1) := by decide +kernel
theorem dd_G_findImplied_35 : decode bb_G_findImplied 35 = .ok (.iload_n 3, 1) := by decide +kernel
theorem dd_G_findImplied_36 : decode bb_G_findImplied 36 = .ok (.aload_n 0, 1) := by decide +kernel
theorem dd_G_findImplied_37 : decode bb_G_findImplied 37 = .ok (.invokevirtual 94, 3) := by decide +kernel
theorem dd_G_findImplied_40 : decode bb_G_findImplied 40 = .ok (.if_icmp .ge 59, 3) := by decide +kernel
theorem dd_G_findImplied_43 : decode bb_G_findImplied 43 = .ok (.iconst 0, 1) := by decide +kernel
theorem dd_G_findImplied_44 : decode bb_G_findImplied 44 = .ok (.istore 4, 2) := by decide +kernel
theorem dd_G_findImplied_46 : decode bb_G_findImplied 46 = .ok (.iload 4, 2) := by decide +kernel
theorem dd_G_findImplied_48 : decode bb_G_findImplied 48 = .ok (.aload_n 0, 1) := by decide +kernel
theorem dd_G_findImplied_49 : decode bb_G_findImplied 49 = .ok (.invokevirtual 97, 3) := by decide +kernel
theorem dd_G_findImplied_52 : decode bb_G_findImplied 52 = .ok (.if_icmp .ge 41, 3) := by decide +kernel
theorem dd_G_findImplied_55 : decode bb_G_findImplied 55 = .ok (.aload_n 0, 1) := by decide +kernel
theorem dd_G_findImplied_56 : decode bb_G_findImplied 56 = .ok (.getfield 57, 3) := by decide +kernel
theorem dd_G_findImplied_59 : decode bb_G_findImplied 59 = .ok (.iload_n 3, 1) := by decide +kernel
theorem dd_G_findImplied_60 : decode bb_G_findImplied 60 = .ok (.iload 4, 2) := by decide +kernel
theorem dd_G_findImplied_62 : decode bb_G_findImplied 62 = .ok (.invokevirtual 100, 3) := by decide +kernel
theorem dd_G_findImplied_65 : decode bb_G_findImplied 65 = .ok (.lstore 5, 2) := by decide +kernel
theorem dd_G_findImplied_67 : decode bb_G_findImplied 67 = .ok (.lload 5, 2) := by decide +kernel
theorem dd_G_findImplied_69 : decode bb_G_findImplied 69 = .ok (.lload_n 1, 1) := by decide +kernel
theorem dd_G_findImplied_70 : decode bb_G_findImplied 70 = .ok (.lcmp, 1) := by decide +kernel
theorem dd_G_findImplied_71 : decode bb_G_findImplied 71 = .ok (.ifCond .eq 16, 3) := by decide +kernel
theorem dd_G_findImplied_74 : decode bb_G_findImplied 74 = .ok (.aload_n 0, 1) := by decide +kernel
theorem dd_G_findImplied_75 : decode bb_G_findImplied 75 = .ok (.aload_n 0, 1) := by decide +kernel
theorem dd_G_findImplied_76 : decode bb_G_findImplied 76 = .ok (.lload 5, 2) := by decide +kernel
theorem dd_G_findImplied_78 : decode bb_G_findImplied 78 = .ok (.invokevirtual 104, 3) := by decide +kernel
theorem dd_G_findImplied_81 : decode bb_G_findImplied 81 = .ok (.invokevirtual 108, 3) := by decide +kernel
theorem dd_G_findImplied_84 : decode bb_G_findImplied 84 = .ok (.lload 5, 2) := by decide +kernel
theorem dd_G_findImplied_86 : decode bb_G_findImplied 86 = .ok (.lstore_n 1, 1) := by decide +kernel
theorem dd_G_findImplied_87 : decode bb_G_findImplied 87 = .ok (.iinc 4 1, 3) := by decide +kernel
theorem dd_G_findImplied_90 : decode bb_G_findImplied 90 = .ok (.goto (-44), 3) := by decide +kernel
theorem dd_G_findImplied_93 : decode bb_G_findImplied 93 = .ok (.iinc 3 1, 3) := by decide +kernel
theorem dd_G_findImplied_96 : decode bb_G_findImplied 96 = .ok (.goto (-61), 3) := by decide +kernel
theorem dd_G_findImplied_99 : decode bb_G_findImplied 99 = .ok (.return_, 1) := by decide +kernel
theorem dd_G_firstCount_0 : decode bb_G_firstCount 0 = .ok (.aload_n 0, 1) := by decide +kernel
theorem dd_G_firstCount_1 : decode bb_G_firstCount 1 = .ok (.getfield 48, 3) := by decide +kernel
theorem dd_G_firstCount_4 : decode bb_G_firstCount 4 = .ok (.invokevirtual 63, 3) := by decide +kernel
theorem dd_G_firstCount_7 : decode bb_G_firstCount 7 = .ok (.ireturn, 1) := by decide +kernel
theorem dd_G_firstFault_0 : decode bb_G_firstFault 0 = .ok (.iconst 0, 1) := by decide +kernel
theorem dd_G_firstFault_1 : decode bb_G_firstFault 1 = .ok (.istore_n 1, 1) := by decide +kernel
theorem dd_G_firstFault_2 : decode bb_G_firstFault 2 = .ok (.iload_n 1, 1) := by decide +kernel
theorem dd_G_firstFault_3 : decode bb_G_firstFault 3 = .ok (.aload_n 0, 1) := by decide +kernel
theorem dd_G_firstFault_4 : decode bb_G_firstFault 4 = .ok (.invokevirtual 94, 3) := by decide +kernel
theorem dd_G_firstFault_7 : decode bb_G_firstFault 7 = .ok (.if_icmp .ge 48, 3) := by decide +kernel
theorem dd_G_firstFault_10 : decode bb_G_firstFault 10 = .ok (.iconst 0, 1) := by decide +kernel
theorem dd_G_firstFault_11 : decode bb_G_firstFault 11 = .ok (.istore_n 2, 1) := by decide +kernel
theorem dd_G_firstFault_12 : decode bb_G_firstFault 12 = .ok (.iload_n 2, 1) := by decide +kernel
theorem dd_G_firstFault_13 : decode bb_G_firstFault 13 = .ok (.aload_n 0, 1) := by decide +kernel
theorem dd_G_firstFault_14 : decode bb_G_firstFault 14 = .ok (.invokevirtual 97, 3) := by decide +kernel
theorem dd_G_firstFault_17 : decode bb_G_firstFault 17 = .ok (.if_icmp .ge 32, 3) := by decide +kernel
theorem dd_G_firstFault_20 : decode bb_G_firstFault 20 = .ok (.aload_n 0, 1) := by decide +kernel
theorem dd_G_firstFault_21 : decode bb_G_firstFault 21 = .ok (.aload_n 0, 1) := by decide +kernel
theorem dd_G_firstFault_22 : decode bb_G_firstFault 22 = .ok (.getfield 57, 3) := by decide +kernel
theorem dd_G_firstFault_25 : decode bb_G_firstFault 25 = .ok (.iload_n 1, 1) := by decide +kernel
theorem dd_G_firstFault_26 : decode bb_G_firstFault 26 = .ok (.iload_n 2, 1) := by decide +kernel
theorem dd_G_firstFault_27 : decode bb_G_firstFault 27 = .ok (.invokevirtual 100, 3) := by decide +kernel
theorem dd_G_firstFault_30 : decode bb_G_firstFault 30 = .ok (.invokevirtual 126, 3) := by decide +kernel
theorem dd_G_firstFault_33 : decode bb_G_firstFault 33 = .ok (.ifCond .ge 10, 3) := by decide +kernel
theorem dd_G_firstFault_36 : decode bb_G_firstFault 36 = .ok (.iload_n 1, 1) := by decide +kernel
theorem dd_G_firstFault_37 : decode bb_G_firstFault 37 = .ok (.bipush 64, 2) := by decide +kernel
theorem dd_G_firstFault_39 : decode bb_G_firstFault 39 = .ok (.imul, 1) := by decide +kernel
theorem dd_G_firstFault_40 : decode bb_G_firstFault 40 = .ok (.iload_n 2, 1) := by decide +kernel
theorem dd_G_firstFault_41 : decode bb_G_firstFault 41 = .ok (.iadd, 1) := by decide +kernel
theorem dd_G_firstFault_42 : decode bb_G_firstFault 42 = .ok (.ireturn, 1) := by decide +kernel
theorem dd_G_firstFault_43 : decode bb_G_firstFault 43 = .ok (.iinc 2 1, 3) := by decide +kernel
theorem dd_G_firstFault_46 : decode bb_G_firstFault 46 = .ok (.goto (-34), 3) := by decide +kernel
theorem dd_G_firstFault_49 : decode bb_G_firstFault 49 = .ok (.iinc 1 1, 3) := by decide +kernel
theorem dd_G_firstFault_52 : decode bb_G_firstFault 52 = .ok (.goto (-50), 3) := by decide +kernel
theorem dd_G_firstFault_55 : decode bb_G_firstFault 55 = .ok (.iconst (-1), 1) := by decide +kernel
theorem dd_G_firstFault_56 : decode bb_G_firstFault 56 = .ok (.ireturn, 1) := by decide +kernel
theorem dd_G_firstOfRow_0 : decode bb_G_firstOfRow 0 = .ok (.iload_n 0, 1) := by decide +kernel
theorem dd_G_firstOfRow_1 : decode bb_G_firstOfRow 1 = .ok (.bipush 64, 2) := by decide +kernel
theorem dd_G_firstOfRow_3 : decode bb_G_firstOfRow 3 = .ok (.idiv, 1) := by decide +kernel
theorem dd_G_firstOfRow_4 : decode bb_G_firstOfRow 4 = .ok (.ireturn, 1) := by decide +kernel
theorem dd_G_init_0 : decode bb_G_init 0 = .ok (.aload_n 0, 1) := by decide +kernel
theorem dd_G_init_1 : decode bb_G_init 1 = .ok (.invokespecial 3, 3) := by decide +kernel
theorem dd_G_init_4 : decode bb_G_init 4 = .ok (.aload_n 0, 1) := by decide +kernel
theorem dd_G_init_5 : decode bb_G_init 5 = .ok (.new 9, 3) := by decide +kernel
theorem dd_G_init_8 : decode bb_G_init 8 = .ok (.dup, 1) := by decide +kernel
theorem dd_G_init_9 : decode bb_G_init 9 = .ok (.invokespecial 11, 3) := by decide +kernel
theorem dd_G_init_12 : decode bb_G_init 12 = .ok (.putfield 12, 3) := by decide +kernel
theorem dd_G_init_15 : decode bb_G_init 15 = .ok (.aload_n 0, 1) := by decide +kernel
theorem dd_G_init_16 : decode bb_G_init 16 = .ok (.bipush 12, 2) := by decide +kernel
theorem dd_G_init_18 : decode bb_G_init 18 = .ok (.anewarray 18, 3) := by decide +kernel
theorem dd_G_init_21 : decode bb_G_init 21 = .ok (.putfield 20, 3) := by decide +kernel
theorem dd_G_init_24 : decode bb_G_init 24 = .ok (.aload_n 0, 1) := by decide +kernel
theorem dd_G_init_25 : decode bb_G_init 25 = .ok (.iconst 0, 1) := by decide +kernel
theorem dd_G_init_26 : decode bb_G_init 26 = .ok (.putfield 24, 3) := by decide +kernel
theorem dd_G_init_29 : decode bb_G_init 29 = .ok (.aload_n 0, 1) := by decide +kernel
theorem dd_G_init_30 : decode bb_G_init 30 = .ok (.iconst 0, 1) := by decide +kernel
theorem dd_G_init_31 : decode bb_G_init 31 = .ok (.putfield 28, 3) := by decide +kernel
theorem dd_G_init_34 : decode bb_G_init 34 = .ok (.aload_n 0, 1) := by decide +kernel
theorem dd_G_init_35 : decode bb_G_init 35 = .ok (.iconst 0, 1) := by decide +kernel
theorem dd_G_init_36 : decode bb_G_init 36 = .ok (.putfield 31, 3) := by decide +kernel
theorem dd_G_init_39 : decode bb_G_init 39 = .ok (.aload_n 0, 1) := by decide +kernel
theorem dd_G_init_40 : decode bb_G_init 40 = .ok (.iconst 0, 1) := by decide +kernel
theorem dd_G_init_41 : decode bb_G_init 41 = .ok (.putfield 35, 3) := by decide +kernel
theorem dd_G_init_44 : decode bb_G_init 44 = .ok (.aload_n 0, 1) := by decide +kernel
theorem dd_G_init_45 : decode bb_G_init 45 = .ok (.lconst 0, 1) := by decide +kernel
theorem dd_G_init_46 : decode bb_G_init 46 = .ok (.putfield 38, 3) := by decide +kernel
theorem dd_G_init_49 : decode bb_G_init 49 = .ok (.aload_n 0, 1) := by decide +kernel
theorem dd_G_init_50 : decode bb_G_init 50 = .ok (.iconst 0, 1) := by decide +kernel
theorem dd_G_init_51 : decode bb_G_init 51 = .ok (.putfield 42, 3) := by decide +kernel
theorem dd_G_init_54 : decode bb_G_init 54 = .ok (.aload_n 0, 1) := by decide +kernel
theorem dd_G_init_55 : decode bb_G_init 55 = .ok (.iload_n 1, 1) := by decide +kernel
theorem dd_G_init_56 : decode bb_G_init 56 = .ok (.putfield 45, 3) := by decide +kernel
theorem dd_G_init_59 : decode bb_G_init 59 = .ok (.aload_n 0, 1) := by decide +kernel
theorem dd_G_init_60 : decode bb_G_init 60 = .ok (.aload_n 2, 1) := by decide +kernel
theorem dd_G_init_61 : decode bb_G_init 61 = .ok (.putfield 48, 3) := by decide +kernel
theorem dd_G_init_64 : decode bb_G_init 64 = .ok (.aload_n 0, 1) := by decide +kernel
theorem dd_G_init_65 : decode bb_G_init 65 = .ok (.new 52, 3) := by decide +kernel
theorem dd_G_init_68 : decode bb_G_init 68 = .ok (.dup, 1) := by decide +kernel
theorem dd_G_init_69 : decode bb_G_init 69 = .ok (.aload_n 2, 1) := by decide +kernel
theorem dd_G_init_70 : decode bb_G_init 70 = .ok (.invokespecial 54, 3) := by decide +kernel
theorem dd_G_init_73 : decode bb_G_init 73 = .ok (.putfield 57, 3) := by decide +kernel
theorem dd_G_init_76 : decode bb_G_init 76 = .ok (.return_, 1) := by decide +kernel
theorem dd_G_noteTogether_0 : decode bb_G_noteTogether 0 = .ok (.iconst 0, 1) := by decide +kernel
theorem dd_G_noteTogether_1 : decode bb_G_noteTogether 1 = .ok (.istore_n 2, 1) := by decide +kernel
theorem dd_G_noteTogether_2 : decode bb_G_noteTogether 2 = .ok (.iload_n 2, 1) := by decide +kernel
theorem dd_G_noteTogether_3 : decode bb_G_noteTogether 3 = .ok (.aload_n 0, 1) := by decide +kernel
theorem dd_G_noteTogether_4 : decode bb_G_noteTogether 4 = .ok (.getfield 24, 3) := by decide +kernel
theorem dd_G_noteTogether_7 : decode bb_G_noteTogether 7 = .ok (.if_icmp .ge 38, 3) := by decide +kernel
theorem dd_G_noteTogether_10 : decode bb_G_noteTogether 10 = .ok (.iload_n 1, 1) := by decide +kernel
theorem dd_G_noteTogether_11 : decode bb_G_noteTogether 11 = .ok (.aload_n 0, 1) := by decide +kernel
theorem dd_G_noteTogether_12 : decode bb_G_noteTogether 12 = .ok (.getfield 20, 3) := by decide +kernel
theorem dd_G_noteTogether_15 : decode bb_G_noteTogether 15 = .ok (.iload_n 2, 1) := by decide +kernel
theorem dd_G_noteTogether_16 : decode bb_G_noteTogether 16 = .ok (.aaload, 1) := by decide +kernel
theorem dd_G_noteTogether_17 : decode bb_G_noteTogether 17 = .ok (.invokevirtual 67, 3) := by decide +kernel
theorem dd_G_noteTogether_20 : decode bb_G_noteTogether 20 = .ok (.iand, 1) := by decide +kernel
theorem dd_G_noteTogether_21 : decode bb_G_noteTogether 21 = .ok (.ifCond .eq 18, 3) := by decide +kernel
theorem dd_G_noteTogether_24 : decode bb_G_noteTogether 24 = .ok (.aload_n 0, 1) := by decide +kernel
theorem dd_G_noteTogether_25 : decode bb_G_noteTogether 25 = .ok (.getfield 20, 3) := by decide +kernel
theorem dd_G_noteTogether_28 : decode bb_G_noteTogether 28 = .ok (.iload_n 2, 1) := by decide +kernel
theorem dd_G_noteTogether_29 : decode bb_G_noteTogether 29 = .ok (.aaload, 1) := by decide +kernel
theorem dd_G_noteTogether_30 : decode bb_G_noteTogether 30 = .ok (.dup, 1) := by decide +kernel
theorem dd_G_noteTogether_31 : decode bb_G_noteTogether 31 = .ok (.getfield 89, 3) := by decide +kernel
theorem dd_G_noteTogether_34 : decode bb_G_noteTogether 34 = .ok (.iload_n 1, 1) := by decide +kernel
theorem dd_G_noteTogether_35 : decode bb_G_noteTogether 35 = .ok (.iand, 1) := by decide +kernel
theorem dd_G_noteTogether_36 : decode bb_G_noteTogether 36 = .ok (.putfield 89, 3) := by decide +kernel
theorem dd_G_noteTogether_39 : decode bb_G_noteTogether 39 = .ok (.iinc 2 1, 3) := by decide +kernel
theorem dd_G_noteTogether_42 : decode bb_G_noteTogether 42 = .ok (.goto (-40), 3) := by decide +kernel
theorem dd_G_noteTogether_45 : decode bb_G_noteTogether 45 = .ok (.return_, 1) := by decide +kernel
theorem dd_G_outdate_0 : decode bb_G_outdate 0 = .ok (.aload_n 0, 1) := by decide +kernel
theorem dd_G_outdate_1 : decode bb_G_outdate 1 = .ok (.iconst 0, 1) := by decide +kernel
theorem dd_G_outdate_2 : decode bb_G_outdate 2 = .ok (.putfield 31, 3) := by decide +kernel
theorem dd_G_outdate_5 : decode bb_G_outdate 5 = .ok (.aload_n 0, 1) := by decide +kernel
theorem dd_G_outdate_6 : decode bb_G_outdate 6 = .ok (.getfield 12, 3) := by decide +kernel
theorem dd_G_outdate_9 : decode bb_G_outdate 9 = .ok (.invokevirtual 73, 3) := by decide +kernel
theorem dd_G_outdate_12 : decode bb_G_outdate 12 = .ok (.return_, 1) := by decide +kernel
theorem dd_G_pick_0 : decode bb_G_pick 0 = .ok (.iload_n 1, 1) := by decide +kernel
theorem dd_G_pick_1 : decode bb_G_pick 1 = .ok (.ifCond .ne 5, 3) := by decide +kernel
theorem dd_G_pick_4 : decode bb_G_pick 4 = .ok (.iconst (-1), 1) := by decide +kernel
theorem dd_G_pick_5 : decode bb_G_pick 5 = .ok (.ireturn, 1) := by decide +kernel
theorem dd_G_pick_6 : decode bb_G_pick 6 = .ok (.iconst 0, 1) := by decide +kernel
theorem dd_G_pick_7 : decode bb_G_pick 7 = .ok (.istore_n 2, 1) := by decide +kernel
theorem dd_G_pick_8 : decode bb_G_pick 8 = .ok (.iload_n 2, 1) := by decide +kernel
theorem dd_G_pick_9 : decode bb_G_pick 9 = .ok (.aload_n 0, 1) := by decide +kernel
theorem dd_G_pick_10 : decode bb_G_pick 10 = .ok (.getfield 24, 3) := by decide +kernel
theorem dd_G_pick_13 : decode bb_G_pick 13 = .ok (.if_icmp .ge 49, 3) := by decide +kernel
theorem dd_G_pick_16 : decode bb_G_pick 16 = .ok (.aload_n 0, 1) := by decide +kernel
theorem dd_G_pick_17 : decode bb_G_pick 17 = .ok (.getfield 20, 3) := by decide +kernel
theorem dd_G_pick_20 : decode bb_G_pick 20 = .ok (.iload_n 2, 1) := by decide +kernel
theorem dd_G_pick_21 : decode bb_G_pick 21 = .ok (.aaload, 1) := by decide +kernel
theorem dd_G_pick_22 : decode bb_G_pick 22 = .ok (.astore_n 3, 1) := by decide +kernel
theorem dd_G_pick_23 : decode bb_G_pick 23 = .ok (.iload_n 1, 1) := by decide +kernel
theorem dd_G_pick_24 : decode bb_G_pick 24 = .ok (.aload_n 3, 1) := by decide +kernel
theorem dd_G_pick_25 : decode bb_G_pick 25 = .ok (.invokevirtual 67, 3) := by decide +kernel
theorem dd_G_pick_28 : decode bb_G_pick 28 = .ok (.iconst (-1), 1) := by decide +kernel
theorem dd_G_pick_29 : decode bb_G_pick 29 = .ok (.ixor, 1) := by decide +kernel
theorem dd_G_pick_30 : decode bb_G_pick 30 = .ok (.iand, 1) := by decide +kernel
theorem dd_G_pick_31 : decode bb_G_pick 31 = .ok (.istore 4, 2) := by decide +kernel
theorem dd_G_pick_33 : decode bb_G_pick 33 = .ok (.iload 4, 2) := by decide +kernel
theorem dd_G_pick_35 : decode bb_G_pick 35 = .ok (.iload_n 1, 1) := by decide +kernel
theorem dd_G_pick_36 : decode bb_G_pick 36 = .ok (.if_icmp .eq 20, 3) := by decide +kernel
theorem dd_G_pick_39 : decode bb_G_pick 39 = .ok (.iload 4, 2) := by decide +kernel
theorem dd_G_pick_41 : decode bb_G_pick 41 = .ok (.aload_n 3, 1) := by decide +kernel
theorem dd_G_pick_42 : decode bb_G_pick 42 = .ok (.getfield 112, 3) := by decide +kernel
theorem dd_G_pick_45 : decode bb_G_pick 45 = .ok (.iconst (-1), 1) := by decide +kernel
theorem dd_G_pick_46 : decode bb_G_pick 46 = .ok (.ixor, 1) := by decide +kernel
theorem dd_G_pick_47 : decode bb_G_pick 47 = .ok (.iand, 1) := by decide +kernel
theorem dd_G_pick_48 : decode bb_G_pick 48 = .ok (.ifCond .ne 8, 3) := by decide +kernel
theorem dd_G_pick_51 : decode bb_G_pick 51 = .ok (.aload_n 3, 1) := by decide +kernel
theorem dd_G_pick_52 : decode bb_G_pick 52 = .ok (.getfield 119, 3) := by decide +kernel
theorem dd_G_pick_55 : decode bb_G_pick 55 = .ok (.ireturn, 1) := by decide +kernel
theorem dd_G_pick_56 : decode bb_G_pick 56 = .ok (.iinc 2 1, 3) := by decide +kernel
theorem dd_G_pick_59 : decode bb_G_pick 59 = .ok (.goto (-51), 3) := by decide +kernel
theorem dd_G_pick_62 : decode bb_G_pick 62 = .ok (.bipush (-2), 2) := by decide +kernel
theorem dd_G_pick_64 : decode bb_G_pick 64 = .ok (.ireturn, 1) := by decide +kernel
theorem dd_G_refresh_0 : decode bb_G_refresh 0 = .ok (.aload_n 0, 1) := by decide +kernel
theorem dd_G_refresh_1 : decode bb_G_refresh 1 = .ok (.getfield 31, 3) := by decide +kernel
theorem dd_G_refresh_4 : decode bb_G_refresh 4 = .ok (.ifCond .eq 4, 3) := by decide +kernel
theorem dd_G_refresh_7 : decode bb_G_refresh 7 = .ok (.return_, 1) := by decide +kernel
theorem dd_G_refresh_8 : decode bb_G_refresh 8 = .ok (.aload_n 0, 1) := by decide +kernel
theorem dd_G_refresh_9 : decode bb_G_refresh 9 = .ok (.getfield 57, 3) := by decide +kernel
theorem dd_G_refresh_12 : decode bb_G_refresh 12 = .ok (.invokevirtual 76, 3) := by decide +kernel
theorem dd_G_refresh_15 : decode bb_G_refresh 15 = .ok (.iconst 0, 1) := by decide +kernel
theorem dd_G_refresh_16 : decode bb_G_refresh 16 = .ok (.istore_n 1, 1) := by decide +kernel
theorem dd_G_refresh_17 : decode bb_G_refresh 17 = .ok (.iload_n 1, 1) := by decide +kernel
theorem dd_G_refresh_18 : decode bb_G_refresh 18 = .ok (.aload_n 0, 1) := by decide +kernel
theorem dd_G_refresh_19 : decode bb_G_refresh 19 = .ok (.getfield 24, 3) := by decide +kernel
theorem dd_G_refresh_22 : decode bb_G_refresh 22 = .ok (.if_icmp .ge 22, 3) := by decide +kernel
theorem dd_G_refresh_25 : decode bb_G_refresh 25 = .ok (.aload_n 0, 1) := by decide +kernel
theorem dd_G_refresh_26 : decode bb_G_refresh 26 = .ok (.getfield 20, 3) := by decide +kernel
theorem dd_G_refresh_29 : decode bb_G_refresh 29 = .ok (.iload_n 1, 1) := by decide +kernel
theorem dd_G_refresh_30 : decode bb_G_refresh 30 = .ok (.aaload, 1) := by decide +kernel
theorem dd_G_refresh_31 : decode bb_G_refresh 31 = .ok (.aload_n 0, 1) := by decide +kernel
theorem dd_G_refresh_32 : decode bb_G_refresh 32 = .ok (.getfield 57, 3) := by decide +kernel
theorem dd_G_refresh_35 : decode bb_G_refresh 35 = .ok (.invokevirtual 79, 3) := by decide +kernel
theorem dd_G_refresh_38 : decode bb_G_refresh 38 = .ok (.iinc 1 1, 3) := by decide +kernel
theorem dd_G_refresh_41 : decode bb_G_refresh 41 = .ok (.goto (-24), 3) := by decide +kernel
theorem dd_G_refresh_44 : decode bb_G_refresh 44 = .ok (.aload_n 0, 1) := by decide +kernel
theorem dd_G_refresh_45 : decode bb_G_refresh 45 = .ok (.invokevirtual 83, 3) := by decide +kernel
theorem dd_G_refresh_48 : decode bb_G_refresh 48 = .ok (.aload_n 0, 1) := by decide +kernel
theorem dd_G_refresh_49 : decode bb_G_refresh 49 = .ok (.invokevirtual 86, 3) := by decide +kernel
theorem dd_G_refresh_52 : decode bb_G_refresh 52 = .ok (.aload_n 0, 1) := by decide +kernel
theorem dd_G_refresh_53 : decode bb_G_refresh 53 = .ok (.iconst 0, 1) := by decide +kernel
theorem dd_G_refresh_54 : decode bb_G_refresh 54 = .ok (.putfield 35, 3) := by decide +kernel
theorem dd_G_refresh_57 : decode bb_G_refresh 57 = .ok (.aload_n 0, 1) := by decide +kernel
theorem dd_G_refresh_58 : decode bb_G_refresh 58 = .ok (.iconst 1, 1) := by decide +kernel
theorem dd_G_refresh_59 : decode bb_G_refresh 59 = .ok (.putfield 31, 3) := by decide +kernel
theorem dd_G_refresh_62 : decode bb_G_refresh 62 = .ok (.return_, 1) := by decide +kernel
theorem dd_G_secondCount_0 : decode bb_G_secondCount 0 = .ok (.aload_n 0, 1) := by decide +kernel
theorem dd_G_secondCount_1 : decode bb_G_secondCount 1 = .ok (.getfield 45, 3) := by decide +kernel
theorem dd_G_secondCount_4 : decode bb_G_secondCount 4 = .ok (.iconst 2, 1) := by decide +kernel
theorem dd_G_secondCount_5 : decode bb_G_secondCount 5 = .ok (.if_icmp .ne 13, 3) := by decide +kernel
theorem dd_G_secondCount_8 : decode bb_G_secondCount 8 = .ok (.aload_n 0, 1) := by decide +kernel
theorem dd_G_secondCount_9 : decode bb_G_secondCount 9 = .ok (.getfield 48, 3) := by decide +kernel
theorem dd_G_secondCount_12 : decode bb_G_secondCount 12 = .ok (.invokevirtual 63, 3) := by decide +kernel
theorem dd_G_secondCount_15 : decode bb_G_secondCount 15 = .ok (.goto 4, 3) := by decide +kernel
theorem dd_G_secondCount_18 : decode bb_G_secondCount 18 = .ok (.iconst 1, 1) := by decide +kernel
theorem dd_G_secondCount_19 : decode bb_G_secondCount 19 = .ok (.ireturn, 1) := by decide +kernel
theorem dd_G_secondOfRow_0 : decode bb_G_secondOfRow 0 = .ok (.iload_n 0, 1) := by decide +kernel
theorem dd_G_secondOfRow_1 : decode bb_G_secondOfRow 1 = .ok (.bipush 64, 2) := by decide +kernel
theorem dd_G_secondOfRow_3 : decode bb_G_secondOfRow 3 = .ok (.irem, 1) := by decide +kernel
theorem dd_G_secondOfRow_4 : decode bb_G_secondOfRow 4 = .ok (.ireturn, 1) := by decide +kernel
theorem dd_G_secondOrNone_0 : decode bb_G_secondOrNone 0 = .ok (.aload_n 0, 1) := by decide +kernel
theorem dd_G_secondOrNone_1 : decode bb_G_secondOrNone 1 = .ok (.getfield 45, 3) := by decide +kernel
theorem dd_G_secondOrNone_4 : decode bb_G_secondOrNone 4 = .ok (.iconst 2, 1) := by decide +kernel
theorem dd_G_secondOrNone_5 : decode bb_G_secondOrNone 5 = .ok (.if_icmp .ne 7, 3) := by decide +kernel
theorem dd_G_secondOrNone_8 : decode bb_G_secondOrNone 8 = .ok (.iload_n 1, 1) := by decide +kernel
theorem dd_G_secondOrNone_9 : decode bb_G_secondOrNone 9 = .ok (.goto 4, 3) := by decide +kernel
theorem dd_G_secondOrNone_12 : decode bb_G_secondOrNone 12 = .ok (.iconst 0, 1) := by decide +kernel
theorem dd_G_secondOrNone_13 : decode bb_G_secondOrNone 13 = .ok (.ireturn, 1) := by decide +kernel
theorem dd_D_atom_0 : decode bb_D_atom 0 = .ok (.aload_n 0, 1) := by decide +kernel
theorem dd_D_atom_1 : decode bb_D_atom 1 = .ok (.iload_n 1, 1) := by decide +kernel
theorem dd_D_atom_2 : decode bb_D_atom 2 = .ok (.invokevirtual 104, 3) := by decide +kernel
theorem dd_D_atom_5 : decode bb_D_atom 5 = .ok (.astore 6, 2) := by decide +kernel
theorem dd_D_atom_7 : decode bb_D_atom 7 = .ok (.aload_n 0, 1) := by decide +kernel
theorem dd_D_atom_8 : decode bb_D_atom 8 = .ok (.iload_n 2, 1) := by decide +kernel
theorem dd_D_atom_9 : decode bb_D_atom 9 = .ok (.iload_n 3, 1) := by decide +kernel
theorem dd_D_atom_10 : decode bb_D_atom 10 = .ok (.iload 4, 2) := by decide +kernel
theorem dd_D_atom_12 : decode bb_D_atom 12 = .ok (.aload 6, 2) := by decide +kernel
theorem dd_D_atom_14 : decode bb_D_atom 14 = .ok (.getfield 108, 3) := by decide +kernel
theorem dd_D_atom_17 : decode bb_D_atom 17 = .ok (.getfield 112, 3) := by decide +kernel
theorem dd_D_atom_20 : decode bb_D_atom 20 = .ok (.invokevirtual 115, 3) := by decide +kernel
theorem dd_D_atom_23 : decode bb_D_atom 23 = .ok (.ifCond .ne 13, 3) := by decide +kernel
theorem dd_D_atom_26 : decode bb_D_atom 26 = .ok (.new 62, 3) := by decide +kernel
theorem dd_D_atom_29 : decode bb_D_atom 29 = .ok (.dup, 1) := by decide +kernel
theorem dd_D_atom_30 : decode bb_D_atom 30 = .ok (.ldc 119, 2) := by decide +kernel
theorem dd_D_atom_32 : decode bb_D_atom 32 = .ok (.invokespecial 66, 3) := by decide +kernel
theorem dd_D_atom_35 : decode bb_D_atom 35 = .ok (.athrow, 1) := by decide +kernel
theorem dd_D_atom_36 : decode bb_D_atom 36 = .ok (.aload 6, 2) := by decide +kernel
theorem dd_D_atom_38 : decode bb_D_atom 38 = .ok (.getfield 121, 3) := by decide +kernel
theorem dd_D_atom_41 : decode bb_D_atom 41 = .ok (.iconst 4, 1) := by decide +kernel
theorem dd_D_atom_42 : decode bb_D_atom 42 = .ok (.if_icmp .lt 13, 3) := by decide +kernel
theorem dd_D_atom_45 : decode bb_D_atom 45 = .ok (.new 73, 3) := by decide +kernel
theorem dd_D_atom_48 : decode bb_D_atom 48 = .ok (.dup, 1) := by decide +kernel
theorem dd_D_atom_49 : decode bb_D_atom 49 = .ok (.ldc 124, 2) := by decide +kernel
theorem dd_D_atom_51 : decode bb_D_atom 51 = .ok (.invokespecial 77, 3) := by decide +kernel
theorem dd_D_atom_54 : decode bb_D_atom 54 = .ok (.athrow, 1) := by decide +kernel
theorem dd_D_atom_55 : decode bb_D_atom 55 = .ok (.aload 6, 2) := by decide +kernel
theorem dd_D_atom_57 : decode bb_D_atom 57 = .ok (.getfield 108, 3) := by decide +kernel
theorem dd_D_atom_60 : decode bb_D_atom 60 = .ok (.invokevirtual 78, 3) := by decide +kernel
theorem dd_D_atom_63 : decode bb_D_atom 63 = .ok (.aload_n 0, 1) := by decide +kernel
theorem dd_D_atom_64 : decode bb_D_atom 64 = .ok (.iconst 0, 1) := by decide +kernel
theorem dd_D_atom_65 : decode bb_D_atom 65 = .ok (.putfield 49, 3) := by decide +kernel
theorem dd_D_atom_68 : decode bb_D_atom 68 = .ok (.aload 6, 2) := by decide +kernel
theorem dd_D_atom_70 : decode bb_D_atom 70 = .ok (.iload_n 2, 1) := by decide +kernel
theorem dd_D_atom_71 : decode bb_D_atom 71 = .ok (.iload_n 3, 1) := by decide +kernel
theorem dd_D_atom_72 : decode bb_D_atom 72 = .ok (.iload 4, 2) := by decide +kernel
theorem dd_D_atom_74 : decode bb_D_atom 74 = .ok (.iload 5, 2) := by decide +kernel
theorem dd_D_atom_76 : decode bb_D_atom 76 = .ok (.invokestatic 126, 3) := by decide +kernel
theorem dd_D_atom_79 : decode bb_D_atom 79 = .ok (.invokevirtual 132, 3) := by decide +kernel
theorem dd_D_atom_82 : decode bb_D_atom 82 = .ok (.ireturn, 1) := by decide +kernel
theorem dd_D_best_0 : decode bb_D_best 0 = .ok (.aload_n 0, 1) := by decide +kernel
theorem dd_D_best_1 : decode bb_D_best 1 = .ok (.iload_n 1, 1) := by decide +kernel
theorem dd_D_best_2 : decode bb_D_best 2 = .ok (.invokevirtual 92, 3) := by decide +kernel
theorem dd_D_best_5 : decode bb_D_best 5 = .ok (.astore 4, 2) := by decide +kernel
theorem dd_D_best_7 : decode bb_D_best 7 = .ok (.aload_n 0, 1) := by decide +kernel
theorem dd_D_best_8 : decode bb_D_best 8 = .ok (.aload 4, 2) := by decide +kernel
theorem dd_D_best_10 : decode bb_D_best 10 = .ok (.iload_n 2, 1) := by decide +kernel
theorem dd_D_best_11 : decode bb_D_best 11 = .ok (.iload_n 3, 1) := by decide +kernel
theorem dd_D_best_12 : decode bb_D_best 12 = .ok (.invokevirtual 168, 3) := by decide +kernel
theorem dd_D_best_15 : decode bb_D_best 15 = .ok (.ifCond .ne 13, 3) := by decide +kernel
theorem dd_D_best_18 : decode bb_D_best 18 = .ok (.new 62, 3) := by decide +kernel
theorem dd_D_best_21 : decode bb_D_best 21 = .ok (.dup, 1) := by decide +kernel
theorem dd_D_best_22 : decode bb_D_best 22 = .ok (.ldc 172, 2) := by decide +kernel
theorem dd_D_best_24 : decode bb_D_best 24 = .ok (.invokespecial 66, 3) := by decide +kernel
theorem dd_D_best_27 : decode bb_D_best 27 = .ok (.athrow, 1) := by decide +kernel
theorem dd_D_best_28 : decode bb_D_best 28 = .ok (.aload 4, 2) := by decide +kernel
theorem dd_D_best_30 : decode bb_D_best 30 = .ok (.invokevirtual 158, 3) := by decide +kernel
theorem dd_D_best_33 : decode bb_D_best 33 = .ok (.aload 4, 2) := by decide +kernel
theorem dd_D_best_35 : decode bb_D_best 35 = .ok (.aload 4, 2) := by decide +kernel
theorem dd_D_best_37 : decode bb_D_best 37 = .ok (.getfield 174, 3) := by decide +kernel
theorem dd_D_best_40 : decode bb_D_best 40 = .ok (.iload_n 2, 1) := by decide +kernel
theorem dd_D_best_41 : decode bb_D_best 41 = .ok (.aload 4, 2) := by decide +kernel
theorem dd_D_best_43 : decode bb_D_best 43 = .ok (.iload_n 3, 1) := by decide +kernel
theorem dd_D_best_44 : decode bb_D_best 44 = .ok (.invokevirtual 178, 3) := by decide +kernel
theorem dd_D_best_47 : decode bb_D_best 47 = .ok (.invokevirtual 181, 3) := by decide +kernel
theorem dd_D_best_50 : decode bb_D_best 50 = .ok (.invokevirtual 187, 3) := by decide +kernel
theorem dd_D_best_53 : decode bb_D_best 53 = .ok (.ireturn, 1) := by decide +kernel
theorem dd_D_beyond_0 : decode bb_D_beyond 0 = .ok (.aload_n 0, 1) := by decide +kernel
theorem dd_D_beyond_1 : decode bb_D_beyond 1 = .ok (.iload_n 1, 1) := by decide +kernel
theorem dd_D_beyond_2 : decode bb_D_beyond 2 = .ok (.invokevirtual 104, 3) := by decide +kernel
theorem dd_D_beyond_5 : decode bb_D_beyond 5 = .ok (.astore_n 3, 1) := by decide +kernel
theorem dd_D_beyond_6 : decode bb_D_beyond 6 = .ok (.aload_n 0, 1) := by decide +kernel
theorem dd_D_beyond_7 : decode bb_D_beyond 7 = .ok (.iload_n 2, 1) := by decide +kernel
theorem dd_D_beyond_8 : decode bb_D_beyond 8 = .ok (.invokevirtual 104, 3) := by decide +kernel
theorem dd_D_beyond_11 : decode bb_D_beyond 11 = .ok (.astore 4, 2) := by decide +kernel
theorem dd_D_beyond_13 : decode bb_D_beyond 13 = .ok (.aload_n 3, 1) := by decide +kernel
theorem dd_D_beyond_14 : decode bb_D_beyond 14 = .ok (.getfield 108, 3) := by decide +kernel
theorem dd_D_beyond_17 : decode bb_D_beyond 17 = .ok (.aload 4, 2) := by decide +kernel
theorem dd_D_beyond_19 : decode bb_D_beyond 19 = .ok (.getfield 108, 3) := by decide +kernel
theorem dd_D_beyond_22 : decode bb_D_beyond 22 = .ok (.if_acmp .eq 13, 3) := by decide +kernel
theorem dd_D_beyond_25 : decode bb_D_beyond 25 = .ok (.new 62, 3) := by decide +kernel
theorem dd_D_beyond_28 : decode bb_D_beyond 28 = .ok (.dup, 1) := by decide +kernel
theorem dd_D_beyond_29 : decode bb_D_beyond 29 = .ok (.ldc 156, 2) := by decide +kernel
theorem dd_D_beyond_31 : decode bb_D_beyond 31 = .ok (.invokespecial 66, 3) := by decide +kernel
theorem dd_D_beyond_34 : decode bb_D_beyond 34 = .ok (.athrow, 1) := by decide +kernel
theorem dd_D_beyond_35 : decode bb_D_beyond 35 = .ok (.aload_n 3, 1) := by decide +kernel
theorem dd_D_beyond_36 : decode bb_D_beyond 36 = .ok (.getfield 108, 3) := by decide +kernel
theorem dd_D_beyond_39 : decode bb_D_beyond 39 = .ok (.invokevirtual 158, 3) := by decide +kernel
theorem dd_D_beyond_42 : decode bb_D_beyond 42 = .ok (.aload_n 3, 1) := by decide +kernel
theorem dd_D_beyond_43 : decode bb_D_beyond 43 = .ok (.getfield 161, 3) := by decide +kernel
theorem dd_D_beyond_46 : decode bb_D_beyond 46 = .ok (.aload 4, 2) := by decide +kernel
theorem dd_D_beyond_48 : decode bb_D_beyond 48 = .ok (.invokevirtual 164, 3) := by decide +kernel
theorem dd_D_beyond_51 : decode bb_D_beyond 51 = .ok (.iand, 1) := by decide +kernel
theorem dd_D_beyond_52 : decode bb_D_beyond 52 = .ok (.ifCond .eq 7, 3) := by decide +kernel
theorem dd_D_beyond_55 : decode bb_D_beyond 55 = .ok (.iconst 1, 1) := by decide +kernel
theorem dd_D_beyond_56 : decode bb_D_beyond 56 = .ok (.goto 4, 3) := by decide +kernel
theorem dd_D_beyond_59 : decode bb_D_beyond 59 = .ok (.iconst 0, 1) := by decide +kernel
theorem dd_D_beyond_60 : decode bb_D_beyond 60 = .ok (.ireturn, 1) := by decide +kernel
theorem dd_D_check_0 : decode bb_D_check 0 = .ok (.aload_n 0, 1) := by decide +kernel
theorem dd_D_check_1 : decode bb_D_check 1 = .ok (.iload_n 1, 1) := by decide +kernel
theorem dd_D_check_2 : decode bb_D_check 2 = .ok (.invokevirtual 92, 3) := by decide +kernel
theorem dd_D_check_5 : decode bb_D_check 5 = .ok (.astore_n 2, 1) := by decide +kernel
theorem dd_D_check_6 : decode bb_D_check 6 = .ok (.aload_n 2, 1) := by decide +kernel
theorem dd_D_check_7 : decode bb_D_check 7 = .ok (.invokevirtual 158, 3) := by decide +kernel
theorem dd_D_check_10 : decode bb_D_check 10 = .ok (.aload_n 2, 1) := by decide +kernel
theorem dd_D_check_11 : decode bb_D_check 11 = .ok (.invokevirtual 191, 3) := by decide +kernel
theorem dd_D_check_14 : decode bb_D_check 14 = .ok (.istore_n 3, 1) := by decide +kernel
theorem dd_D_check_15 : decode bb_D_check 15 = .ok (.iload_n 3, 1) := by decide +kernel
theorem dd_D_check_16 : decode bb_D_check 16 = .ok (.ifCond .ge 10, 3) := by decide +kernel
theorem dd_D_check_19 : decode bb_D_check 19 = .ok (.aload_n 0, 1) := by decide +kernel
theorem dd_D_check_20 : decode bb_D_check 20 = .ok (.iconst 0, 1) := by decide +kernel
theorem dd_D_check_21 : decode bb_D_check 21 = .ok (.putfield 49, 3) := by decide +kernel
theorem dd_D_check_24 : decode bb_D_check 24 = .ok (.iconst 0, 1) := by decide +kernel
theorem dd_D_check_25 : decode bb_D_check 25 = .ok (.ireturn, 1) := by decide +kernel
theorem dd_D_check_26 : decode bb_D_check 26 = .ok (.aload_n 0, 1) := by decide +kernel
theorem dd_D_check_27 : decode bb_D_check 27 = .ok (.aload_n 2, 1) := by decide +kernel
theorem dd_D_check_28 : decode bb_D_check 28 = .ok (.getfield 112, 3) := by decide +kernel
theorem dd_D_check_31 : decode bb_D_check 31 = .ok (.putfield 49, 3) := by decide +kernel
theorem dd_D_check_34 : decode bb_D_check 34 = .ok (.aload_n 0, 1) := by decide +kernel
theorem dd_D_check_35 : decode bb_D_check 35 = .ok (.iload_n 3, 1) := by decide +kernel
theorem dd_D_check_36 : decode bb_D_check 36 = .ok (.invokestatic 194, 3) := by decide +kernel
theorem dd_D_check_39 : decode bb_D_check 39 = .ok (.putfield 52, 3) := by decide +kernel
theorem dd_D_check_42 : decode bb_D_check 42 = .ok (.aload_n 0, 1) := by decide +kernel
theorem dd_D_check_43 : decode bb_D_check 43 = .ok (.iload_n 3, 1) := by decide +kernel
theorem dd_D_check_44 : decode bb_D_check 44 = .ok (.invokestatic 197, 3) := by decide +kernel
theorem dd_D_check_47 : decode bb_D_check 47 = .ok (.putfield 55, 3) := by decide +kernel
theorem dd_D_check_50 : decode bb_D_check 50 = .ok (.aload_n 2, 1) := by decide +kernel
theorem dd_D_check_51 : decode bb_D_check 51 = .ok (.aload_n 2, 1) := by decide +kernel
theorem dd_D_check_52 : decode bb_D_check 52 = .ok (.getfield 174, 3) := by decide +kernel
theorem dd_D_check_55 : decode bb_D_check 55 = .ok (.aload_n 0, 1) := by decide +kernel
theorem dd_D_check_56 : decode bb_D_check 56 = .ok (.getfield 52, 3) := by decide +kernel
theorem dd_D_check_59 : decode bb_D_check 59 = .ok (.aload_n 0, 1) := by decide +kernel
theorem dd_D_check_60 : decode bb_D_check 60 = .ok (.getfield 55, 3) := by decide +kernel
theorem dd_D_check_63 : decode bb_D_check 63 = .ok (.invokevirtual 181, 3) := by decide +kernel
theorem dd_D_check_66 : decode bb_D_check 66 = .ok (.invokevirtual 187, 3) := by decide +kernel
theorem dd_D_check_69 : decode bb_D_check 69 = .ok (.iconst (-1), 1) := by decide +kernel
theorem dd_D_check_70 : decode bb_D_check 70 = .ok (.if_icmp .ne 7, 3) := by decide +kernel
theorem dd_D_check_73 : decode bb_D_check 73 = .ok (.iconst 1, 1) := by decide +kernel
theorem dd_D_check_74 : decode bb_D_check 74 = .ok (.goto 4, 3) := by decide +kernel
theorem dd_D_check_77 : decode bb_D_check 77 = .ok (.iconst 2, 1) := by decide +kernel
theorem dd_D_check_78 : decode bb_D_check 78 = .ok (.ireturn, 1) := by decide +kernel
theorem dd_D_compile_0 : decode bb_D_compile 0 = .ok (.aload_n 0, 1) := by decide +kernel
theorem dd_D_compile_1 : decode bb_D_compile 1 = .ok (.iload_n 1, 1) := by decide +kernel
theorem dd_D_compile_2 : decode bb_D_compile 2 = .ok (.invokevirtual 92, 3) := by decide +kernel
theorem dd_D_compile_5 : decode bb_D_compile 5 = .ok (.astore_n 2, 1) := by decide +kernel
theorem dd_D_compile_6 : decode bb_D_compile 6 = .ok (.aload_n 2, 1) := by decide +kernel
theorem dd_D_compile_7 : decode bb_D_compile 7 = .ok (.invokevirtual 158, 3) := by decide +kernel
theorem dd_D_compile_10 : decode bb_D_compile 10 = .ok (.aload_n 0, 1) := by decide +kernel
theorem dd_D_compile_11 : decode bb_D_compile 11 = .ok (.getfield 38, 3) := by decide +kernel
theorem dd_D_compile_14 : decode bb_D_compile 14 = .ok (.aload_n 2, 1) := by decide +kernel
theorem dd_D_compile_15 : decode bb_D_compile 15 = .ok (.invokevirtual 205, 3) := by decide +kernel
theorem dd_D_compile_18 : decode bb_D_compile 18 = .ok (.ifCond .ne 13, 3) := by decide +kernel
theorem dd_D_compile_21 : decode bb_D_compile 21 = .ok (.new 73, 3) := by decide +kernel
theorem dd_D_compile_24 : decode bb_D_compile 24 = .ok (.dup, 1) := by decide +kernel
theorem dd_D_compile_25 : decode bb_D_compile 25 = .ok (.ldc 209, 2) := by decide +kernel
theorem dd_D_compile_27 : decode bb_D_compile 27 = .ok (.invokespecial 77, 3) := by decide +kernel
theorem dd_D_compile_30 : decode bb_D_compile 30 = .ok (.athrow, 1) := by decide +kernel
theorem dd_D_compile_31 : decode bb_D_compile 31 = .ok (.aload_n 2, 1) := by decide +kernel
theorem dd_D_compile_32 : decode bb_D_compile 32 = .ok (.getfield 211, 3) := by decide +kernel
theorem dd_D_compile_35 : decode bb_D_compile 35 = .ok (.invokevirtual 215, 3) := by decide +kernel
theorem dd_D_compile_38 : decode bb_D_compile 38 = .ok (.ireturn, 1) := by decide +kernel
theorem dd_D_compiledAt_0 : decode bb_D_compiledAt 0 = .ok (.aload_n 0, 1) := by decide +kernel
theorem dd_D_compiledAt_1 : decode bb_D_compiledAt 1 = .ok (.iload_n 1, 1) := by decide +kernel
theorem dd_D_compiledAt_2 : decode bb_D_compiledAt 2 = .ok (.invokevirtual 92, 3) := by decide +kernel
theorem dd_D_compiledAt_5 : decode bb_D_compiledAt 5 = .ok (.astore_n 3, 1) := by decide +kernel
theorem dd_D_compiledAt_6 : decode bb_D_compiledAt 6 = .ok (.iload_n 2, 1) := by decide +kernel
theorem dd_D_compiledAt_7 : decode bb_D_compiledAt 7 = .ok (.ifCond .lt 8, 3) := by decide +kernel
theorem dd_D_compiledAt_10 : decode bb_D_compiledAt 10 = .ok (.iload_n 2, 1) := by decide +kernel
theorem dd_D_compiledAt_11 : decode bb_D_compiledAt 11 = .ok (.iconst 2, 1) := by decide +kernel
theorem dd_D_compiledAt_12 : decode bb_D_compiledAt 12 = .ok (.if_icmp .le 13, 3) := by decide +kernel
theorem dd_D_compiledAt_15 : decode bb_D_compiledAt 15 = .ok (.new 62, 3) := by decide +kernel
theorem dd_D_compiledAt_18 : decode bb_D_compiledAt 18 = .ok (.dup, 1) := by decide +kernel
theorem dd_D_compiledAt_19 : decode bb_D_compiledAt 19 = .ok (.ldc 254, 2) := by decide +kernel
theorem dd_D_compiledAt_21 : decode bb_D_compiledAt 21 = .ok (.invokespecial 66, 3) := by decide +kernel
theorem dd_D_compiledAt_24 : decode bb_D_compiledAt 24 = .ok (.athrow, 1) := by decide +kernel
theorem dd_D_compiledAt_25 : decode bb_D_compiledAt 25 = .ok (.aload_n 3, 1) := by decide +kernel
theorem dd_D_compiledAt_26 : decode bb_D_compiledAt 26 = .ok (.getfield 211, 3) := by decide +kernel
theorem dd_D_compiledAt_29 : decode bb_D_compiledAt 29 = .ok (.invokevirtual 256, 3) := by decide +kernel
theorem dd_D_compiledAt_32 : decode bb_D_compiledAt 32 = .ok (.ifCond .eq 14, 3) := by decide +kernel
theorem dd_D_compiledAt_35 : decode bb_D_compiledAt 35 = .ok (.new 73, 3) := by decide +kernel
theorem dd_D_compiledAt_38 : decode bb_D_compiledAt 38 = .ok (.dup, 1) := by decide +kernel
theorem dd_D_compiledAt_39 : decode bb_D_compiledAt 39 = .ok (.ldc_w 259, 3) := by decide +kernel
theorem dd_D_compiledAt_42 : decode bb_D_compiledAt 42 = .ok (.invokespecial 77, 3) := by decide +kernel
theorem dd_D_compiledAt_45 : decode bb_D_compiledAt 45 = .ok (.athrow, 1) := by decide +kernel
theorem dd_D_compiledAt_46 : decode bb_D_compiledAt 46 = .ok (.aload_n 3, 1) := by decide +kernel
theorem dd_D_compiledAt_47 : decode bb_D_compiledAt 47 = .ok (.areturn, 1) := by decide +kernel
theorem dd_D_generic_0 : decode bb_D_generic 0 = .ok (.iload_n 1, 1) := by decide +kernel
theorem dd_D_generic_1 : decode bb_D_generic 1 = .ok (.iconst 1, 1) := by decide +kernel
theorem dd_D_generic_2 : decode bb_D_generic 2 = .ok (.if_icmp .lt 8, 3) := by decide +kernel
theorem dd_D_generic_5 : decode bb_D_generic 5 = .ok (.iload_n 1, 1) := by decide +kernel
theorem dd_D_generic_6 : decode bb_D_generic 6 = .ok (.iconst 2, 1) := by decide +kernel
theorem dd_D_generic_7 : decode bb_D_generic 7 = .ok (.if_icmp .le 13, 3) := by decide +kernel
theorem dd_D_generic_10 : decode bb_D_generic 10 = .ok (.new 62, 3) := by decide +kernel
theorem dd_D_generic_13 : decode bb_D_generic 13 = .ok (.dup, 1) := by decide +kernel
theorem dd_D_generic_14 : decode bb_D_generic 14 = .ok (.ldc 85, 2) := by decide +kernel
theorem dd_D_generic_16 : decode bb_D_generic 16 = .ok (.invokespecial 66, 3) := by decide +kernel
theorem dd_D_generic_19 : decode bb_D_generic 19 = .ok (.athrow, 1) := by decide +kernel
theorem dd_D_generic_20 : decode bb_D_generic 20 = .ok (.aload_n 0, 1) := by decide +kernel
theorem dd_D_generic_21 : decode bb_D_generic 21 = .ok (.getfield 22, 3) := by decide +kernel
theorem dd_D_generic_24 : decode bb_D_generic 24 = .ok (.iconst 4, 1) := by decide +kernel
theorem dd_D_generic_25 : decode bb_D_generic 25 = .ok (.if_icmp .lt 13, 3) := by decide +kernel
theorem dd_D_generic_28 : decode bb_D_generic 28 = .ok (.new 73, 3) := by decide +kernel
theorem dd_D_generic_31 : decode bb_D_generic 31 = .ok (.dup, 1) := by decide +kernel
theorem dd_D_generic_32 : decode bb_D_generic 32 = .ok (.ldc 87, 2) := by decide +kernel
theorem dd_D_generic_34 : decode bb_D_generic 34 = .ok (.invokespecial 77, 3) := by decide +kernel
theorem dd_D_generic_37 : decode bb_D_generic 37 = .ok (.athrow, 1) := by decide +kernel
theorem dd_D_generic_38 : decode bb_D_generic 38 = .ok (.aload_n 0, 1) := by decide +kernel
theorem dd_D_generic_39 : decode bb_D_generic 39 = .ok (.getfield 18, 3) := by decide +kernel
theorem dd_D_generic_42 : decode bb_D_generic 42 = .ok (.aload_n 0, 1) := by decide +kernel
theorem dd_D_generic_43 : decode bb_D_generic 43 = .ok (.getfield 22, 3) := by decide +kernel
theorem dd_D_generic_46 : decode bb_D_generic 46 = .ok (.new 16, 3) := by decide +kernel
theorem dd_D_generic_49 : decode bb_D_generic 49 = .ok (.dup, 1) := by decide +kernel
theorem dd_D_generic_50 : decode bb_D_generic 50 = .ok (.iload_n 1, 1) := by decide +kernel
theorem dd_D_generic_51 : decode bb_D_generic 51 = .ok (.aload_n 0, 1) := by decide +kernel
theorem dd_D_generic_52 : decode bb_D_generic 52 = .ok (.getfield 10, 3) := by decide +kernel
theorem dd_D_generic_55 : decode bb_D_generic 55 = .ok (.invokespecial 89, 3) := by decide +kernel
theorem dd_D_generic_58 : decode bb_D_generic 58 = .ok (.aastore, 1) := by decide +kernel
theorem dd_D_generic_59 : decode bb_D_generic 59 = .ok (.aload_n 0, 1) := by decide +kernel
theorem dd_D_generic_60 : decode bb_D_generic 60 = .ok (.dup, 1) := by decide +kernel
theorem dd_D_generic_61 : decode bb_D_generic 61 = .ok (.getfield 22, 3) := by decide +kernel
theorem dd_D_generic_64 : decode bb_D_generic 64 = .ok (.dup_x1, 1) := by decide +kernel
theorem dd_D_generic_65 : decode bb_D_generic 65 = .ok (.iconst 1, 1) := by decide +kernel
theorem dd_D_generic_66 : decode bb_D_generic 66 = .ok (.iadd, 1) := by decide +kernel
theorem dd_D_generic_67 : decode bb_D_generic 67 = .ok (.putfield 22, 3) := by decide +kernel
theorem dd_D_generic_70 : decode bb_D_generic 70 = .ok (.ireturn, 1) := by decide +kernel
theorem dd_D_genericAt_0 : decode bb_D_genericAt 0 = .ok (.iload_n 1, 1) := by decide +kernel
theorem dd_D_genericAt_1 : decode bb_D_genericAt 1 = .ok (.ifCond .lt 11, 3) := by decide +kernel
theorem dd_D_genericAt_4 : decode bb_D_genericAt 4 = .ok (.iload_n 1, 1) := by decide +kernel
theorem dd_D_genericAt_5 : decode bb_D_genericAt 5 = .ok (.aload_n 0, 1) := by decide +kernel
theorem dd_D_genericAt_6 : decode bb_D_genericAt 6 = .ok (.getfield 22, 3) := by decide +kernel
theorem dd_D_genericAt_9 : decode bb_D_genericAt 9 = .ok (.if_icmp .lt 13, 3) := by decide +kernel
theorem dd_D_genericAt_12 : decode bb_D_genericAt 12 = .ok (.new 62, 3) := by decide +kernel
theorem dd_D_genericAt_15 : decode bb_D_genericAt 15 = .ok (.dup, 1) := by decide +kernel
theorem dd_D_genericAt_16 : decode bb_D_genericAt 16 = .ok (.ldc 250, 2) := by decide +kernel
theorem dd_D_genericAt_18 : decode bb_D_genericAt 18 = .ok (.invokespecial 66, 3) := by decide +kernel
theorem dd_D_genericAt_21 : decode bb_D_genericAt 21 = .ok (.athrow, 1) := by decide +kernel
theorem dd_D_genericAt_22 : decode bb_D_genericAt 22 = .ok (.aload_n 0, 1) := by decide +kernel
theorem dd_D_genericAt_23 : decode bb_D_genericAt 23 = .ok (.getfield 18, 3) := by decide +kernel
theorem dd_D_genericAt_26 : decode bb_D_genericAt 26 = .ok (.iload_n 1, 1) := by decide +kernel
theorem dd_D_genericAt_27 : decode bb_D_genericAt 27 = .ok (.aaload, 1) := by decide +kernel
theorem dd_D_genericAt_28 : decode bb_D_genericAt 28 = .ok (.areturn, 1) := by decide +kernel
theorem dd_D_init_0 : decode bb_D_init 0 = .ok (.aload_n 0, 1) := by decide +kernel
theorem dd_D_init_1 : decode bb_D_init 1 = .ok (.invokespecial 1, 3) := by decide +kernel
theorem dd_D_init_4 : decode bb_D_init 4 = .ok (.aload_n 0, 1) := by decide +kernel
theorem dd_D_init_5 : decode bb_D_init 5 = .ok (.new 7, 3) := by decide +kernel
theorem dd_D_init_8 : decode bb_D_init 8 = .ok (.dup, 1) := by decide +kernel
theorem dd_D_init_9 : decode bb_D_init 9 = .ok (.invokespecial 9, 3) := by decide +kernel
theorem dd_D_init_12 : decode bb_D_init 12 = .ok (.putfield 10, 3) := by decide +kernel
theorem dd_D_init_15 : decode bb_D_init 15 = .ok (.aload_n 0, 1) := by decide +kernel
theorem dd_D_init_16 : decode bb_D_init 16 = .ok (.iconst 4, 1) := by decide +kernel
theorem dd_D_init_17 : decode bb_D_init 17 = .ok (.anewarray 16, 3) := by decide +kernel
theorem dd_D_init_20 : decode bb_D_init 20 = .ok (.putfield 18, 3) := by decide +kernel
theorem dd_D_init_23 : decode bb_D_init 23 = .ok (.aload_n 0, 1) := by decide +kernel
theorem dd_D_init_24 : decode bb_D_init 24 = .ok (.iconst 0, 1) := by decide +kernel
theorem dd_D_init_25 : decode bb_D_init 25 = .ok (.putfield 22, 3) := by decide +kernel
theorem dd_D_init_28 : decode bb_D_init 28 = .ok (.aload_n 0, 1) := by decide +kernel
theorem dd_D_init_29 : decode bb_D_init 29 = .ok (.bipush 12, 2) := by decide +kernel
theorem dd_D_init_31 : decode bb_D_init 31 = .ok (.anewarray 26, 3) := by decide +kernel
theorem dd_D_init_34 : decode bb_D_init 34 = .ok (.putfield 28, 3) := by decide +kernel
theorem dd_D_init_37 : decode bb_D_init 37 = .ok (.aload_n 0, 1) := by decide +kernel
theorem dd_D_init_38 : decode bb_D_init 38 = .ok (.iconst 0, 1) := by decide +kernel
theorem dd_D_init_39 : decode bb_D_init 39 = .ok (.putfield 32, 3) := by decide +kernel
theorem dd_D_init_42 : decode bb_D_init 42 = .ok (.aload_n 0, 1) := by decide +kernel
theorem dd_D_init_43 : decode bb_D_init 43 = .ok (.new 35, 3) := by decide +kernel
theorem dd_D_init_46 : decode bb_D_init 46 = .ok (.dup, 1) := by decide +kernel
theorem dd_D_init_47 : decode bb_D_init 47 = .ok (.invokespecial 37, 3) := by decide +kernel
theorem dd_D_init_50 : decode bb_D_init 50 = .ok (.putfield 38, 3) := by decide +kernel
theorem dd_D_init_53 : decode bb_D_init 53 = .ok (.aload_n 0, 1) := by decide +kernel
theorem dd_D_init_54 : decode bb_D_init 54 = .ok (.new 42, 3) := by decide +kernel
theorem dd_D_init_57 : decode bb_D_init 57 = .ok (.dup, 1) := by decide +kernel
theorem dd_D_init_58 : decode bb_D_init 58 = .ok (.invokespecial 44, 3) := by decide +kernel
theorem dd_D_init_61 : decode bb_D_init 61 = .ok (.putfield 45, 3) := by decide +kernel
theorem dd_D_init_64 : decode bb_D_init 64 = .ok (.aload_n 0, 1) := by decide +kernel
theorem dd_D_init_65 : decode bb_D_init 65 = .ok (.iconst 0, 1) := by decide +kernel
theorem dd_D_init_66 : decode bb_D_init 66 = .ok (.putfield 49, 3) := by decide +kernel
theorem dd_D_init_69 : decode bb_D_init 69 = .ok (.aload_n 0, 1) := by decide +kernel
theorem dd_D_init_70 : decode bb_D_init 70 = .ok (.iconst 0, 1) := by decide +kernel
theorem dd_D_init_71 : decode bb_D_init 71 = .ok (.putfield 52, 3) := by decide +kernel
theorem dd_D_init_74 : decode bb_D_init 74 = .ok (.aload_n 0, 1) := by decide +kernel
theorem dd_D_init_75 : decode bb_D_init 75 = .ok (.iconst 0, 1) := by decide +kernel
theorem dd_D_init_76 : decode bb_D_init 76 = .ok (.putfield 55, 3) := by decide +kernel
theorem dd_D_init_79 : decode bb_D_init 79 = .ok (.return_, 1) := by decide +kernel
theorem dd_D_isAtom_0 : decode bb_D_isAtom 0 = .ok (.iload_n 2, 1) := by decide +kernel
theorem dd_D_isAtom_1 : decode bb_D_isAtom 1 = .ok (.ifCond .lt 13, 3) := by decide +kernel
theorem dd_D_isAtom_4 : decode bb_D_isAtom 4 = .ok (.iload_n 2, 1) := by decide +kernel
theorem dd_D_isAtom_5 : decode bb_D_isAtom 5 = .ok (.iload 4, 2) := by decide +kernel
theorem dd_D_isAtom_7 : decode bb_D_isAtom 7 = .ok (.if_icmp .ge 7, 3) := by decide +kernel
theorem dd_D_isAtom_10 : decode bb_D_isAtom 10 = .ok (.iconst 1, 1) := by decide +kernel
theorem dd_D_isAtom_11 : decode bb_D_isAtom 11 = .ok (.goto 4, 3) := by decide +kernel
theorem dd_D_isAtom_14 : decode bb_D_isAtom 14 = .ok (.iconst 0, 1) := by decide +kernel
theorem dd_D_isAtom_15 : decode bb_D_isAtom 15 = .ok (.istore 5, 2) := by decide +kernel
theorem dd_D_isAtom_17 : decode bb_D_isAtom 17 = .ok (.iload_n 1, 1) := by decide +kernel
theorem dd_D_isAtom_18 : decode bb_D_isAtom 18 = .ok (.tableswitch 115 0 5 #[38, 60, 82, 100, 103, 103], 38) := by decide +kernel
theorem dd_D_isAtom_56 : decode bb_D_isAtom 56 = .ok (.iload 5, 2) := by decide +kernel
theorem dd_D_isAtom_58 : decode bb_D_isAtom 58 = .ok (.ifCond .eq 18, 3) := by decide +kernel
theorem dd_D_isAtom_61 : decode bb_D_isAtom 61 = .ok (.aload_n 0, 1) := by decide +kernel
theorem dd_D_isAtom_62 : decode bb_D_isAtom 62 = .ok (.getfield 10, 3) := by decide +kernel
theorem dd_D_isAtom_65 : decode bb_D_isAtom 65 = .ok (.iload_n 3, 1) := by decide +kernel
theorem dd_D_isAtom_66 : decode bb_D_isAtom 66 = .ok (.invokevirtual 58, 3) := by decide +kernel
theorem dd_D_isAtom_69 : decode bb_D_isAtom 69 = .ok (.ifCond .eq 7, 3) := by decide +kernel
theorem dd_D_isAtom_72 : decode bb_D_isAtom 72 = .ok (.iconst 1, 1) := by decide +kernel
theorem dd_D_isAtom_73 : decode bb_D_isAtom 73 = .ok (.goto 4, 3) := by decide +kernel
theorem dd_D_isAtom_76 : decode bb_D_isAtom 76 = .ok (.iconst 0, 1) := by decide +kernel
theorem dd_D_isAtom_77 : decode bb_D_isAtom 77 = .ok (.ireturn, 1) := by decide +kernel
theorem dd_D_isAtom_78 : decode bb_D_isAtom 78 = .ok (.iload 5, 2) := by decide +kernel
theorem dd_D_isAtom_80 : decode bb_D_isAtom 80 = .ok (.ifCond .eq 18, 3) := by decide +kernel
theorem dd_D_isAtom_83 : decode bb_D_isAtom 83 = .ok (.iload_n 3, 1) := by decide +kernel
theorem dd_D_isAtom_84 : decode bb_D_isAtom 84 = .ok (.bipush (-4), 2) := by decide +kernel
theorem dd_D_isAtom_86 : decode bb_D_isAtom 86 = .ok (.if_icmp .lt 12, 3) := by decide +kernel
theorem dd_D_isAtom_89 : decode bb_D_isAtom 89 = .ok (.iload_n 3, 1) := by decide +kernel
theorem dd_D_isAtom_90 : decode bb_D_isAtom 90 = .ok (.iconst 4, 1) := by decide +kernel
theorem dd_D_isAtom_91 : decode bb_D_isAtom 91 = .ok (.if_icmp .gt 7, 3) := by decide +kernel
theorem dd_D_isAtom_94 : decode bb_D_isAtom 94 = .ok (.iconst 1, 1) := by decide +kernel
theorem dd_D_isAtom_95 : decode bb_D_isAtom 95 = .ok (.goto 4, 3) := by decide +kernel
theorem dd_D_isAtom_98 : decode bb_D_isAtom 98 = .ok (.iconst 0, 1) := by decide +kernel
theorem dd_D_isAtom_99 : decode bb_D_isAtom 99 = .ok (.ireturn, 1) := by decide +kernel
theorem dd_D_isAtom_100 : decode bb_D_isAtom 100 = .ok (.iload 5, 2) := by decide +kernel
theorem dd_D_isAtom_102 : decode bb_D_isAtom 102 = .ok (.ifCond .eq 14, 3) := by decide +kernel
theorem dd_D_isAtom_105 : decode bb_D_isAtom 105 = .ok (.iload_n 3, 1) := by decide +kernel
theorem dd_D_isAtom_106 : decode bb_D_isAtom 106 = .ok (.invokestatic 266, 3) := by decide +kernel
theorem dd_D_isAtom_109 : decode bb_D_isAtom 109 = .ok (.ifCond .eq 7, 3) := by decide +kernel
theorem dd_D_isAtom_112 : decode bb_D_isAtom 112 = .ok (.iconst 1, 1) := by decide +kernel
theorem dd_D_isAtom_113 : decode bb_D_isAtom 113 = .ok (.goto 4, 3) := by decide +kernel
theorem dd_D_isAtom_116 : decode bb_D_isAtom 116 = .ok (.iconst 0, 1) := by decide +kernel
theorem dd_D_isAtom_117 : decode bb_D_isAtom 117 = .ok (.ireturn, 1) := by decide +kernel
theorem dd_D_isAtom_118 : decode bb_D_isAtom 118 = .ok (.iload 5, 2) := by decide +kernel
theorem dd_D_isAtom_120 : decode bb_D_isAtom 120 = .ok (.ireturn, 1) := by decide +kernel
theorem dd_D_isAtom_121 : decode bb_D_isAtom 121 = .ok (.iload 4, 2) := by decide +kernel
theorem dd_D_isAtom_123 : decode bb_D_isAtom 123 = .ok (.iconst 2, 1) := by decide +kernel
theorem dd_D_isAtom_124 : decode bb_D_isAtom 124 = .ok (.if_icmp .ne 7, 3) := by decide +kernel
theorem dd_D_isAtom_127 : decode bb_D_isAtom 127 = .ok (.iconst 1, 1) := by decide +kernel
theorem dd_D_isAtom_128 : decode bb_D_isAtom 128 = .ok (.goto 4, 3) := by decide +kernel
theorem dd_D_isAtom_131 : decode bb_D_isAtom 131 = .ok (.iconst 0, 1) := by decide +kernel
theorem dd_D_isAtom_132 : decode bb_D_isAtom 132 = .ok (.ireturn, 1) := by decide +kernel
theorem dd_D_isAtom_133 : decode bb_D_isAtom 133 = .ok (.iconst 0, 1) := by decide +kernel
theorem dd_D_isAtom_134 : decode bb_D_isAtom 134 = .ok (.ireturn, 1) := by decide +kernel
theorem dd_D_isOperation_0 : decode bb_D_isOperation 0 = .ok (.iload_n 1, 1) := by decide +kernel
theorem dd_D_isOperation_1 : decode bb_D_isOperation 1 = .ok (.tableswitch 92 0 6 #[43, 48, 90, 90, 63, 72, 90], 43) := by decide +kernel
theorem dd_D_isOperation_44 : decode bb_D_isOperation 44 = .ok (.iload_n 2, 1) := by decide +kernel
theorem dd_D_isOperation_45 : decode bb_D_isOperation 45 = .ok (.invokestatic 266, 3) := by decide +kernel
theorem dd_D_isOperation_48 : decode bb_D_isOperation 48 = .ok (.ireturn, 1) := by decide +kernel
theorem dd_D_isOperation_49 : decode bb_D_isOperation 49 = .ok (.iload_n 2, 1) := by decide +kernel
theorem dd_D_isOperation_50 : decode bb_D_isOperation 50 = .ok (.ifCond .lt 12, 3) := by decide +kernel
theorem dd_D_isOperation_53 : decode bb_D_isOperation 53 = .ok (.iload_n 2, 1) := by decide +kernel
theorem dd_D_isOperation_54 : decode bb_D_isOperation 54 = .ok (.iload_n 3, 1) := by decide +kernel
theorem dd_D_isOperation_55 : decode bb_D_isOperation 55 = .ok (.if_icmp .ge 7, 3) := by decide +kernel
theorem dd_D_isOperation_58 : decode bb_D_isOperation 58 = .ok (.iconst 1, 1) := by decide +kernel
theorem dd_D_isOperation_59 : decode bb_D_isOperation 59 = .ok (.goto 4, 3) := by decide +kernel
theorem dd_D_isOperation_62 : decode bb_D_isOperation 62 = .ok (.iconst 0, 1) := by decide +kernel
theorem dd_D_isOperation_63 : decode bb_D_isOperation 63 = .ok (.ireturn, 1) := by decide +kernel
theorem dd_D_isOperation_64 : decode bb_D_isOperation 64 = .ok (.aload_n 0, 1) := by decide +kernel
theorem dd_D_isOperation_65 : decode bb_D_isOperation 65 = .ok (.getfield 10, 3) := by decide +kernel
theorem dd_D_isOperation_68 : decode bb_D_isOperation 68 = .ok (.iload_n 2, 1) := by decide +kernel
theorem dd_D_isOperation_69 : decode bb_D_isOperation 69 = .ok (.invokevirtual 58, 3) := by decide +kernel
theorem dd_D_isOperation_72 : decode bb_D_isOperation 72 = .ok (.ireturn, 1) := by decide +kernel
theorem dd_D_isOperation_73 : decode bb_D_isOperation 73 = .ok (.iload_n 2, 1) := by decide +kernel
theorem dd_D_isOperation_74 : decode bb_D_isOperation 74 = .ok (.ifCond .lt 15, 3) := by decide +kernel
theorem dd_D_isOperation_77 : decode bb_D_isOperation 77 = .ok (.iload_n 2, 1) := by decide +kernel
theorem dd_D_isOperation_78 : decode bb_D_isOperation 78 = .ok (.aload_n 0, 1) := by decide +kernel
theorem dd_D_isOperation_79 : decode bb_D_isOperation 79 = .ok (.getfield 22, 3) := by decide +kernel
theorem dd_D_isOperation_82 : decode bb_D_isOperation 82 = .ok (.if_icmp .ge 7, 3) := by decide +kernel
theorem dd_D_isOperation_85 : decode bb_D_isOperation 85 = .ok (.iconst 1, 1) := by decide +kernel
theorem dd_D_isOperation_86 : decode bb_D_isOperation 86 = .ok (.goto 4, 3) := by decide +kernel
theorem dd_D_isOperation_89 : decode bb_D_isOperation 89 = .ok (.iconst 0, 1) := by decide +kernel
theorem dd_D_isOperation_90 : decode bb_D_isOperation 90 = .ok (.ireturn, 1) := by decide +kernel
theorem dd_D_isOperation_91 : decode bb_D_isOperation 91 = .ok (.iconst 1, 1) := by decide +kernel
theorem dd_D_isOperation_92 : decode bb_D_isOperation 92 = .ok (.ireturn, 1) := by decide +kernel
theorem dd_D_isOperation_93 : decode bb_D_isOperation 93 = .ok (.iconst 0, 1) := by decide +kernel
theorem dd_D_isOperation_94 : decode bb_D_isOperation 94 = .ok (.ireturn, 1) := by decide +kernel
theorem dd_D_isRow_0 : decode bb_D_isRow 0 = .ok (.aload_n 0, 1) := by decide +kernel
theorem dd_D_isRow_1 : decode bb_D_isRow 1 = .ok (.getfield 10, 3) := by decide +kernel
theorem dd_D_isRow_4 : decode bb_D_isRow 4 = .ok (.iload_n 2, 1) := by decide +kernel
theorem dd_D_isRow_5 : decode bb_D_isRow 5 = .ok (.invokevirtual 261, 3) := by decide +kernel
theorem dd_D_isRow_8 : decode bb_D_isRow 8 = .ok (.ifCond .eq 26, 3) := by decide +kernel
theorem dd_D_isRow_11 : decode bb_D_isRow 11 = .ok (.aload_n 1, 1) := by decide +kernel
theorem dd_D_isRow_12 : decode bb_D_isRow 12 = .ok (.getfield 112, 3) := by decide +kernel
theorem dd_D_isRow_15 : decode bb_D_isRow 15 = .ok (.iconst 1, 1) := by decide +kernel
theorem dd_D_isRow_16 : decode bb_D_isRow 16 = .ok (.if_icmp .eq 14, 3) := by decide +kernel
theorem dd_D_isRow_19 : decode bb_D_isRow 19 = .ok (.aload_n 0, 1) := by decide +kernel
theorem dd_D_isRow_20 : decode bb_D_isRow 20 = .ok (.getfield 10, 3) := by decide +kernel
theorem dd_D_isRow_23 : decode bb_D_isRow 23 = .ok (.iload_n 3, 1) := by decide +kernel
theorem dd_D_isRow_24 : decode bb_D_isRow 24 = .ok (.invokevirtual 261, 3) := by decide +kernel
theorem dd_D_isRow_27 : decode bb_D_isRow 27 = .ok (.ifCond .eq 7, 3) := by decide +kernel
theorem dd_D_isRow_30 : decode bb_D_isRow 30 = .ok (.iconst 1, 1) := by decide +kernel
theorem dd_D_isRow_31 : decode bb_D_isRow 31 = .ok (.goto 4, 3) := by decide +kernel
theorem dd_D_isRow_34 : decode bb_D_isRow 34 = .ok (.iconst 0, 1) := by decide +kernel
theorem dd_D_isRow_35 : decode bb_D_isRow 35 = .ok (.ireturn, 1) := by decide +kernel
theorem dd_D_klass_0 : decode bb_D_klass 0 = .ok (.aload_n 0, 1) := by decide +kernel
theorem dd_D_klass_1 : decode bb_D_klass 1 = .ok (.getfield 10, 3) := by decide +kernel
theorem dd_D_klass_4 : decode bb_D_klass 4 = .ok (.iload_n 1, 1) := by decide +kernel
theorem dd_D_klass_5 : decode bb_D_klass 5 = .ok (.invokevirtual 58, 3) := by decide +kernel
theorem dd_D_klass_8 : decode bb_D_klass 8 = .ok (.ifCond .ne 13, 3) := by decide +kernel
theorem dd_D_klass_11 : decode bb_D_klass 11 = .ok (.new 62, 3) := by decide +kernel
theorem dd_D_klass_14 : decode bb_D_klass 14 = .ok (.dup, 1) := by decide +kernel
theorem dd_D_klass_15 : decode bb_D_klass 15 = .ok (.ldc 64, 2) := by decide +kernel
theorem dd_D_klass_17 : decode bb_D_klass 17 = .ok (.invokespecial 66, 3) := by decide +kernel
theorem dd_D_klass_20 : decode bb_D_klass 20 = .ok (.athrow, 1) := by decide +kernel
theorem dd_D_klass_21 : decode bb_D_klass 21 = .ok (.aload_n 0, 1) := by decide +kernel
theorem dd_D_klass_22 : decode bb_D_klass 22 = .ok (.getfield 10, 3) := by decide +kernel
theorem dd_D_klass_25 : decode bb_D_klass 25 = .ok (.invokevirtual 69, 3) := by decide +kernel
theorem dd_D_klass_28 : decode bb_D_klass 28 = .ok (.ifCond .eq 13, 3) := by decide +kernel
theorem dd_D_klass_31 : decode bb_D_klass 31 = .ok (.new 73, 3) := by decide +kernel
theorem dd_D_klass_34 : decode bb_D_klass 34 = .ok (.dup, 1) := by decide +kernel
theorem dd_D_klass_35 : decode bb_D_klass 35 = .ok (.ldc 75, 2) := by decide +kernel
theorem dd_D_klass_37 : decode bb_D_klass 37 = .ok (.invokespecial 77, 3) := by decide +kernel
theorem dd_D_klass_40 : decode bb_D_klass 40 = .ok (.athrow, 1) := by decide +kernel
theorem dd_D_klass_41 : decode bb_D_klass 41 = .ok (.iconst 0, 1) := by decide +kernel
theorem dd_D_klass_42 : decode bb_D_klass 42 = .ok (.istore_n 2, 1) := by decide +kernel
theorem dd_D_klass_43 : decode bb_D_klass 43 = .ok (.iload_n 2, 1) := by decide +kernel
theorem dd_D_klass_44 : decode bb_D_klass 44 = .ok (.aload_n 0, 1) := by decide +kernel
theorem dd_D_klass_45 : decode bb_D_klass 45 = .ok (.getfield 22, 3) := by decide +kernel
theorem dd_D_klass_48 : decode bb_D_klass 48 = .ok (.if_icmp .ge 18, 3) := by decide +kernel
theorem dd_D_klass_51 : decode bb_D_klass 51 = .ok (.aload_n 0, 1) := by decide +kernel
theorem dd_D_klass_52 : decode bb_D_klass 52 = .ok (.getfield 18, 3) := by decide +kernel
theorem dd_D_klass_55 : decode bb_D_klass 55 = .ok (.iload_n 2, 1) := by decide +kernel
theorem dd_D_klass_56 : decode bb_D_klass 56 = .ok (.aaload, 1) := by decide +kernel
theorem dd_D_klass_57 : decode bb_D_klass 57 = .ok (.invokevirtual 78, 3) := by decide +kernel
theorem dd_D_klass_60 : decode bb_D_klass 60 = .ok (.iinc 2 1, 3) := by decide +kernel
theorem dd_D_klass_63 : decode bb_D_klass 63 = .ok (.goto (-20), 3) := by decide +kernel
theorem dd_D_klass_66 : decode bb_D_klass 66 = .ok (.aload_n 0, 1) := by decide +kernel
theorem dd_D_klass_67 : decode bb_D_klass 67 = .ok (.iconst 0, 1) := by decide +kernel
theorem dd_D_klass_68 : decode bb_D_klass 68 = .ok (.putfield 49, 3) := by decide +kernel
theorem dd_D_klass_71 : decode bb_D_klass 71 = .ok (.aload_n 0, 1) := by decide +kernel
theorem dd_D_klass_72 : decode bb_D_klass 72 = .ok (.getfield 10, 3) := by decide +kernel
theorem dd_D_klass_75 : decode bb_D_klass 75 = .ok (.iload_n 1, 1) := by decide +kernel
theorem dd_D_klass_76 : decode bb_D_klass 76 = .ok (.invokevirtual 81, 3) := by decide +kernel
theorem dd_D_klass_79 : decode bb_D_klass 79 = .ok (.ireturn, 1) := by decide +kernel
theorem dd_D_left_0 : decode bb_D_left 0 = .ok (.aload_n 0, 1) := by decide +kernel
theorem dd_D_left_1 : decode bb_D_left 1 = .ok (.getfield 45, 3) := by decide +kernel
theorem dd_D_left_4 : decode bb_D_left 4 = .ok (.getfield 244, 3) := by decide +kernel
theorem dd_D_left_7 : decode bb_D_left 7 = .ok (.ireturn, 1) := by decide +kernel
theorem dd_D_method_0 : decode bb_D_method 0 = .ok (.aload_n 0, 1) := by decide +kernel
theorem dd_D_method_1 : decode bb_D_method 1 = .ok (.iload_n 1, 1) := by decide +kernel
theorem dd_D_method_2 : decode bb_D_method 2 = .ok (.invokevirtual 92, 3) := by decide +kernel
theorem dd_D_method_5 : decode bb_D_method 5 = .ok (.astore_n 2, 1) := by decide +kernel
theorem dd_D_method_6 : decode bb_D_method 6 = .ok (.aload_n 0, 1) := by decide +kernel
theorem dd_D_method_7 : decode bb_D_method 7 = .ok (.getfield 32, 3) := by decide +kernel
theorem dd_D_method_10 : decode bb_D_method 10 = .ok (.bipush 12, 2) := by decide +kernel
theorem dd_D_method_12 : decode bb_D_method 12 = .ok (.if_icmp .lt 13, 3) := by decide +kernel
theorem dd_D_method_15 : decode bb_D_method 15 = .ok (.new 73, 3) := by decide +kernel
theorem dd_D_method_18 : decode bb_D_method 18 = .ok (.dup, 1) := by decide +kernel
theorem dd_D_method_19 : decode bb_D_method 19 = .ok (.ldc 96, 2) := by decide +kernel
theorem dd_D_method_21 : decode bb_D_method 21 = .ok (.invokespecial 77, 3) := by decide +kernel
theorem dd_D_method_24 : decode bb_D_method 24 = .ok (.athrow, 1) := by decide +kernel
theorem dd_D_method_25 : decode bb_D_method 25 = .ok (.new 26, 3) := by decide +kernel
theorem dd_D_method_28 : decode bb_D_method 28 = .ok (.dup, 1) := by decide +kernel
theorem dd_D_method_29 : decode bb_D_method 29 = .ok (.aload_n 0, 1) := by decide +kernel
theorem dd_D_method_30 : decode bb_D_method 30 = .ok (.getfield 32, 3) := by decide +kernel
theorem dd_D_method_33 : decode bb_D_method 33 = .ok (.aload_n 2, 1) := by decide +kernel
theorem dd_D_method_34 : decode bb_D_method 34 = .ok (.invokespecial 98, 3) := by decide +kernel
theorem dd_D_method_37 : decode bb_D_method 37 = .ok (.astore_n 3, 1) := by decide +kernel
theorem dd_D_method_38 : decode bb_D_method 38 = .ok (.aload_n 0, 1) := by decide +kernel
theorem dd_D_method_39 : decode bb_D_method 39 = .ok (.getfield 28, 3) := by decide +kernel
theorem dd_D_method_42 : decode bb_D_method 42 = .ok (.aload_n 0, 1) := by decide +kernel
theorem dd_D_method_43 : decode bb_D_method 43 = .ok (.getfield 32, 3) := by decide +kernel
theorem dd_D_method_46 : decode bb_D_method 46 = .ok (.aload_n 3, 1) := by decide +kernel
theorem dd_D_method_47 : decode bb_D_method 47 = .ok (.aastore, 1) := by decide +kernel
theorem dd_D_method_48 : decode bb_D_method 48 = .ok (.aload_n 2, 1) := by decide +kernel
theorem dd_D_method_49 : decode bb_D_method 49 = .ok (.aload_n 3, 1) := by decide +kernel
theorem dd_D_method_50 : decode bb_D_method 50 = .ok (.invokevirtual 101, 3) := by decide +kernel
theorem dd_D_method_53 : decode bb_D_method 53 = .ok (.aload_n 0, 1) := by decide +kernel
theorem dd_D_method_54 : decode bb_D_method 54 = .ok (.iconst 0, 1) := by decide +kernel
theorem dd_D_method_55 : decode bb_D_method 55 = .ok (.putfield 49, 3) := by decide +kernel
theorem dd_D_method_58 : decode bb_D_method 58 = .ok (.aload_n 0, 1) := by decide +kernel
theorem dd_D_method_59 : decode bb_D_method 59 = .ok (.dup, 1) := by decide +kernel
theorem dd_D_method_60 : decode bb_D_method 60 = .ok (.getfield 32, 3) := by decide +kernel
theorem dd_D_method_63 : decode bb_D_method 63 = .ok (.dup_x1, 1) := by decide +kernel
theorem dd_D_method_64 : decode bb_D_method 64 = .ok (.iconst 1, 1) := by decide +kernel
theorem dd_D_method_65 : decode bb_D_method 65 = .ok (.iadd, 1) := by decide +kernel
theorem dd_D_method_66 : decode bb_D_method 66 = .ok (.putfield 32, 3) := by decide +kernel
theorem dd_D_method_69 : decode bb_D_method 69 = .ok (.ireturn, 1) := by decide +kernel
theorem dd_D_methodAt_0 : decode bb_D_methodAt 0 = .ok (.iload_n 1, 1) := by decide +kernel
theorem dd_D_methodAt_1 : decode bb_D_methodAt 1 = .ok (.ifCond .lt 11, 3) := by decide +kernel
theorem dd_D_methodAt_4 : decode bb_D_methodAt 4 = .ok (.iload_n 1, 1) := by decide +kernel
theorem dd_D_methodAt_5 : decode bb_D_methodAt 5 = .ok (.aload_n 0, 1) := by decide +kernel
theorem dd_D_methodAt_6 : decode bb_D_methodAt 6 = .ok (.getfield 32, 3) := by decide +kernel
theorem dd_D_methodAt_9 : decode bb_D_methodAt 9 = .ok (.if_icmp .lt 13, 3) := by decide +kernel
theorem dd_D_methodAt_12 : decode bb_D_methodAt 12 = .ok (.new 62, 3) := by decide +kernel
theorem dd_D_methodAt_15 : decode bb_D_methodAt 15 = .ok (.dup, 1) := by decide +kernel
theorem dd_D_methodAt_16 : decode bb_D_methodAt 16 = .ok (.ldc 252, 2) := by decide +kernel
theorem dd_D_methodAt_18 : decode bb_D_methodAt 18 = .ok (.invokespecial 66, 3) := by decide +kernel
theorem dd_D_methodAt_21 : decode bb_D_methodAt 21 = .ok (.athrow, 1) := by decide +kernel
theorem dd_D_methodAt_22 : decode bb_D_methodAt 22 = .ok (.aload_n 0, 1) := by decide +kernel
theorem dd_D_methodAt_23 : decode bb_D_methodAt 23 = .ok (.getfield 28, 3) := by decide +kernel
theorem dd_D_methodAt_26 : decode bb_D_methodAt 26 = .ok (.iload_n 1, 1) := by decide +kernel
theorem dd_D_methodAt_27 : decode bb_D_methodAt 27 = .ok (.aaload, 1) := by decide +kernel
theorem dd_D_methodAt_28 : decode bb_D_methodAt 28 = .ok (.areturn, 1) := by decide +kernel
theorem dd_D_node_0 : decode bb_D_node 0 = .ok (.aload_n 0, 1) := by decide +kernel
theorem dd_D_node_1 : decode bb_D_node 1 = .ok (.iload_n 1, 1) := by decide +kernel
theorem dd_D_node_2 : decode bb_D_node 2 = .ok (.iload_n 3, 1) := by decide +kernel
theorem dd_D_node_3 : decode bb_D_node 3 = .ok (.invokevirtual 220, 3) := by decide +kernel
theorem dd_D_node_6 : decode bb_D_node 6 = .ok (.astore 4, 2) := by decide +kernel
theorem dd_D_node_8 : decode bb_D_node 8 = .ok (.iload_n 2, 1) := by decide +kernel
theorem dd_D_node_9 : decode bb_D_node 9 = .ok (.ifCond .lt 15, 3) := by decide +kernel
theorem dd_D_node_12 : decode bb_D_node 12 = .ok (.iload_n 2, 1) := by decide +kernel
theorem dd_D_node_13 : decode bb_D_node 13 = .ok (.aload 4, 2) := by decide +kernel
theorem dd_D_node_15 : decode bb_D_node 15 = .ok (.getfield 211, 3) := by decide +kernel
theorem dd_D_node_18 : decode bb_D_node 18 = .ok (.invokevirtual 215, 3) := by decide +kernel
theorem dd_D_node_21 : decode bb_D_node 21 = .ok (.if_icmp .lt 13, 3) := by decide +kernel
theorem dd_D_node_24 : decode bb_D_node 24 = .ok (.new 200, 3) := by decide +kernel
theorem dd_D_node_27 : decode bb_D_node 27 = .ok (.dup, 1) := by decide +kernel
theorem dd_D_node_28 : decode bb_D_node 28 = .ok (.ldc 224, 2) := by decide +kernel
theorem dd_D_node_30 : decode bb_D_node 30 = .ok (.invokespecial 204, 3) := by decide +kernel
theorem dd_D_node_33 : decode bb_D_node 33 = .ok (.athrow, 1) := by decide +kernel
theorem dd_D_node_34 : decode bb_D_node 34 = .ok (.aload 4, 2) := by decide +kernel
theorem dd_D_node_36 : decode bb_D_node 36 = .ok (.getfield 211, 3) := by decide +kernel
theorem dd_D_node_39 : decode bb_D_node 39 = .ok (.iload_n 2, 1) := by decide +kernel
theorem dd_D_node_40 : decode bb_D_node 40 = .ok (.iload_n 3, 1) := by decide +kernel
theorem dd_D_node_41 : decode bb_D_node 41 = .ok (.invokevirtual 226, 3) := by decide +kernel
theorem dd_D_node_44 : decode bb_D_node 44 = .ok (.ireturn, 1) := by decide +kernel
theorem dd_D_operation_0 : decode bb_D_operation 0 = .ok (.aload_n 0, 1) := by decide +kernel
theorem dd_D_operation_1 : decode bb_D_operation 1 = .ok (.iload_n 1, 1) := by decide +kernel
theorem dd_D_operation_2 : decode bb_D_operation 2 = .ok (.invokevirtual 104, 3) := by decide +kernel
theorem dd_D_operation_5 : decode bb_D_operation 5 = .ok (.astore 4, 2) := by decide +kernel
theorem dd_D_operation_7 : decode bb_D_operation 7 = .ok (.aload_n 0, 1) := by decide +kernel
theorem dd_D_operation_8 : decode bb_D_operation 8 = .ok (.iload_n 2, 1) := by decide +kernel
theorem dd_D_operation_9 : decode bb_D_operation 9 = .ok (.iload_n 3, 1) := by decide +kernel
theorem dd_D_operation_10 : decode bb_D_operation 10 = .ok (.aload 4, 2) := by decide +kernel
theorem dd_D_operation_12 : decode bb_D_operation 12 = .ok (.getfield 108, 3) := by decide +kernel
theorem dd_D_operation_15 : decode bb_D_operation 15 = .ok (.getfield 112, 3) := by decide +kernel
theorem dd_D_operation_18 : decode bb_D_operation 18 = .ok (.invokevirtual 136, 3) := by decide +kernel
theorem dd_D_operation_21 : decode bb_D_operation 21 = .ok (.ifCond .ne 13, 3) := by decide +kernel
theorem dd_D_operation_24 : decode bb_D_operation 24 = .ok (.new 62, 3) := by decide +kernel
theorem dd_D_operation_27 : decode bb_D_operation 27 = .ok (.dup, 1) := by decide +kernel
theorem dd_D_operation_28 : decode bb_D_operation 28 = .ok (.ldc 140, 2) := by decide +kernel
theorem dd_D_operation_30 : decode bb_D_operation 30 = .ok (.invokespecial 66, 3) := by decide +kernel
theorem dd_D_operation_33 : decode bb_D_operation 33 = .ok (.athrow, 1) := by decide +kernel
theorem dd_D_operation_34 : decode bb_D_operation 34 = .ok (.aload 4, 2) := by decide +kernel
theorem dd_D_operation_36 : decode bb_D_operation 36 = .ok (.getfield 142, 3) := by decide +kernel
theorem dd_D_operation_39 : decode bb_D_operation 39 = .ok (.bipush 8, 2) := by decide +kernel
theorem dd_D_operation_41 : decode bb_D_operation 41 = .ok (.if_icmp .lt 13, 3) := by decide +kernel
theorem dd_D_operation_44 : decode bb_D_operation 44 = .ok (.new 73, 3) := by decide +kernel
theorem dd_D_operation_47 : decode bb_D_operation 47 = .ok (.dup, 1) := by decide +kernel
theorem dd_D_operation_48 : decode bb_D_operation 48 = .ok (.ldc 145, 2) := by decide +kernel
theorem dd_D_operation_50 : decode bb_D_operation 50 = .ok (.invokespecial 77, 3) := by decide +kernel
theorem dd_D_operation_53 : decode bb_D_operation 53 = .ok (.athrow, 1) := by decide +kernel
theorem dd_D_operation_54 : decode bb_D_operation 54 = .ok (.aload 4, 2) := by decide +kernel
theorem dd_D_operation_56 : decode bb_D_operation 56 = .ok (.new 147, 3) := by decide +kernel
theorem dd_D_operation_59 : decode bb_D_operation 59 = .ok (.dup, 1) := by decide +kernel
theorem dd_D_operation_60 : decode bb_D_operation 60 = .ok (.iload_n 2, 1) := by decide +kernel
theorem dd_D_operation_61 : decode bb_D_operation 61 = .ok (.iload_n 3, 1) := by decide +kernel
theorem dd_D_operation_62 : decode bb_D_operation 62 = .ok (.invokespecial 149, 3) := by decide +kernel
theorem dd_D_operation_65 : decode bb_D_operation 65 = .ok (.invokevirtual 152, 3) := by decide +kernel
theorem dd_D_operation_68 : decode bb_D_operation 68 = .ok (.ireturn, 1) := by decide +kernel
theorem dd_D_run_0 : decode bb_D_run 0 = .ok (.aload_n 0, 1) := by decide +kernel
theorem dd_D_run_1 : decode bb_D_run 1 = .ok (.iload_n 1, 1) := by decide +kernel
theorem dd_D_run_2 : decode bb_D_run 2 = .ok (.invokevirtual 92, 3) := by decide +kernel
theorem dd_D_run_5 : decode bb_D_run 5 = .ok (.astore 5, 2) := by decide +kernel
theorem dd_D_run_7 : decode bb_D_run 7 = .ok (.aload_n 0, 1) := by decide +kernel
theorem dd_D_run_8 : decode bb_D_run 8 = .ok (.aload 5, 2) := by decide +kernel
theorem dd_D_run_10 : decode bb_D_run 10 = .ok (.iload_n 2, 1) := by decide +kernel
theorem dd_D_run_11 : decode bb_D_run 11 = .ok (.iload_n 3, 1) := by decide +kernel
theorem dd_D_run_12 : decode bb_D_run 12 = .ok (.invokevirtual 168, 3) := by decide +kernel
theorem dd_D_run_15 : decode bb_D_run 15 = .ok (.ifCond .ne 13, 3) := by decide +kernel
theorem dd_D_run_18 : decode bb_D_run 18 = .ok (.new 62, 3) := by decide +kernel
theorem dd_D_run_21 : decode bb_D_run 21 = .ok (.dup, 1) := by decide +kernel
theorem dd_D_run_22 : decode bb_D_run 22 = .ok (.ldc 172, 2) := by decide +kernel
theorem dd_D_run_24 : decode bb_D_run 24 = .ok (.invokespecial 66, 3) := by decide +kernel
theorem dd_D_run_27 : decode bb_D_run 27 = .ok (.athrow, 1) := by decide +kernel
theorem dd_D_run_28 : decode bb_D_run 28 = .ok (.iload 4, 2) := by decide +kernel
theorem dd_D_run_30 : decode bb_D_run 30 = .ok (.ifCond .lt 11, 3) := by decide +kernel
theorem dd_D_run_33 : decode bb_D_run 33 = .ok (.iload 4, 2) := by decide +kernel
theorem dd_D_run_35 : decode bb_D_run 35 = .ok (.sipush 200, 3) := by decide +kernel
theorem dd_D_run_38 : decode bb_D_run 38 = .ok (.if_icmp .le 13, 3) := by decide +kernel
theorem dd_D_run_41 : decode bb_D_run 41 = .ok (.new 62, 3) := by decide +kernel
theorem dd_D_run_44 : decode bb_D_run 44 = .ok (.dup, 1) := by decide +kernel
theorem dd_D_run_45 : decode bb_D_run 45 = .ok (.ldc 234, 2) := by decide +kernel
theorem dd_D_run_47 : decode bb_D_run 47 = .ok (.invokespecial 66, 3) := by decide +kernel
theorem dd_D_run_50 : decode bb_D_run 50 = .ok (.athrow, 1) := by decide +kernel
theorem dd_D_run_51 : decode bb_D_run 51 = .ok (.iconst 0, 1) := by decide +kernel
theorem dd_D_run_52 : decode bb_D_run 52 = .ok (.istore 6, 2) := by decide +kernel
theorem dd_D_run_54 : decode bb_D_run 54 = .ok (.iload 6, 2) := by decide +kernel
theorem dd_D_run_56 : decode bb_D_run 56 = .ok (.aload_n 0, 1) := by decide +kernel
theorem dd_D_run_57 : decode bb_D_run 57 = .ok (.getfield 22, 3) := by decide +kernel
theorem dd_D_run_60 : decode bb_D_run 60 = .ok (.if_icmp .ge 19, 3) := by decide +kernel
theorem dd_D_run_63 : decode bb_D_run 63 = .ok (.aload_n 0, 1) := by decide +kernel
theorem dd_D_run_64 : decode bb_D_run 64 = .ok (.getfield 18, 3) := by decide +kernel
theorem dd_D_run_67 : decode bb_D_run 67 = .ok (.iload 6, 2) := by decide +kernel
theorem dd_D_run_69 : decode bb_D_run 69 = .ok (.aaload, 1) := by decide +kernel
theorem dd_D_run_70 : decode bb_D_run 70 = .ok (.invokevirtual 158, 3) := by decide +kernel
theorem dd_D_run_73 : decode bb_D_run 73 = .ok (.iinc 6 1, 3) := by decide +kernel
theorem dd_D_run_76 : decode bb_D_run 76 = .ok (.goto (-22), 3) := by decide +kernel
theorem dd_D_run_79 : decode bb_D_run 79 = .ok (.aload_n 0, 1) := by decide +kernel
theorem dd_D_run_80 : decode bb_D_run 80 = .ok (.getfield 45, 3) := by decide +kernel
theorem dd_D_run_83 : decode bb_D_run 83 = .ok (.aload_n 0, 1) := by decide +kernel
theorem dd_D_run_84 : decode bb_D_run 84 = .ok (.getfield 18, 3) := by decide +kernel
theorem dd_D_run_87 : decode bb_D_run 87 = .ok (.aload_n 0, 1) := by decide +kernel
theorem dd_D_run_88 : decode bb_D_run 88 = .ok (.getfield 28, 3) := by decide +kernel
theorem dd_D_run_91 : decode bb_D_run 91 = .ok (.iload 4, 2) := by decide +kernel
theorem dd_D_run_93 : decode bb_D_run 93 = .ok (.invokevirtual 236, 3) := by decide +kernel
theorem dd_D_run_96 : decode bb_D_run 96 = .ok (.aload_n 0, 1) := by decide +kernel
theorem dd_D_run_97 : decode bb_D_run 97 = .ok (.getfield 45, 3) := by decide +kernel
theorem dd_D_run_100 : decode bb_D_run 100 = .ok (.aload 5, 2) := by decide +kernel
theorem dd_D_run_102 : decode bb_D_run 102 = .ok (.iload_n 2, 1) := by decide +kernel
theorem dd_D_run_103 : decode bb_D_run 103 = .ok (.aload 5, 2) := by decide +kernel
theorem dd_D_run_105 : decode bb_D_run 105 = .ok (.iload_n 3, 1) := by decide +kernel
theorem dd_D_run_106 : decode bb_D_run 106 = .ok (.invokevirtual 178, 3) := by decide +kernel
theorem dd_D_run_109 : decode bb_D_run 109 = .ok (.iconst 0, 1) := by decide +kernel
theorem dd_D_run_110 : decode bb_D_run 110 = .ok (.invokevirtual 240, 3) := by decide +kernel
theorem dd_D_run_113 : decode bb_D_run 113 = .ok (.ireturn, 1) := by decide +kernel
theorem dd_D_test_0 : decode bb_D_test 0 = .ok (.aload_n 0, 1) := by decide +kernel
theorem dd_D_test_1 : decode bb_D_test 1 = .ok (.iload_n 1, 1) := by decide +kernel
theorem dd_D_test_2 : decode bb_D_test 2 = .ok (.iload_n 3, 1) := by decide +kernel
theorem dd_D_test_3 : decode bb_D_test 3 = .ok (.invokevirtual 220, 3) := by decide +kernel
theorem dd_D_test_6 : decode bb_D_test 6 = .ok (.astore 4, 2) := by decide +kernel
theorem dd_D_test_8 : decode bb_D_test 8 = .ok (.iload_n 2, 1) := by decide +kernel
theorem dd_D_test_9 : decode bb_D_test 9 = .ok (.ifCond .lt 15, 3) := by decide +kernel
theorem dd_D_test_12 : decode bb_D_test 12 = .ok (.iload_n 2, 1) := by decide +kernel
theorem dd_D_test_13 : decode bb_D_test 13 = .ok (.aload 4, 2) := by decide +kernel
theorem dd_D_test_15 : decode bb_D_test 15 = .ok (.getfield 174, 3) := by decide +kernel
theorem dd_D_test_18 : decode bb_D_test 18 = .ok (.invokevirtual 230, 3) := by decide +kernel
theorem dd_D_test_21 : decode bb_D_test 21 = .ok (.if_icmp .lt 13, 3) := by decide +kernel
theorem dd_D_test_24 : decode bb_D_test 24 = .ok (.new 200, 3) := by decide +kernel
theorem dd_D_test_27 : decode bb_D_test 27 = .ok (.dup, 1) := by decide +kernel
theorem dd_D_test_28 : decode bb_D_test 28 = .ok (.ldc 231, 2) := by decide +kernel
theorem dd_D_test_30 : decode bb_D_test 30 = .ok (.invokespecial 204, 3) := by decide +kernel
theorem dd_D_test_33 : decode bb_D_test 33 = .ok (.athrow, 1) := by decide +kernel
theorem dd_D_test_34 : decode bb_D_test 34 = .ok (.aload 4, 2) := by decide +kernel
theorem dd_D_test_36 : decode bb_D_test 36 = .ok (.getfield 174, 3) := by decide +kernel
theorem dd_D_test_39 : decode bb_D_test 39 = .ok (.iload_n 2, 1) := by decide +kernel
theorem dd_D_test_40 : decode bb_D_test 40 = .ok (.iload_n 3, 1) := by decide +kernel
theorem dd_D_test_41 : decode bb_D_test 41 = .ok (.invokevirtual 233, 3) := by decide +kernel
theorem dd_D_test_44 : decode bb_D_test 44 = .ok (.ireturn, 1) := by decide +kernel
theorem dd_D_tests_0 : decode bb_D_tests 0 = .ok (.aload_n 0, 1) := by decide +kernel
theorem dd_D_tests_1 : decode bb_D_tests 1 = .ok (.getfield 45, 3) := by decide +kernel
theorem dd_D_tests_4 : decode bb_D_tests 4 = .ok (.getfield 247, 3) := by decide +kernel
theorem dd_D_tests_7 : decode bb_D_tests 7 = .ok (.ireturn, 1) := by decide +kernel
theorem dd_D_witness_0 : decode bb_D_witness 0 = .ok (.iload_n 1, 1) := by decide +kernel
theorem dd_D_witness_1 : decode bb_D_witness 1 = .ok (.ifCond .lt 11, 3) := by decide +kernel
theorem dd_D_witness_4 : decode bb_D_witness 4 = .ok (.iload_n 1, 1) := by decide +kernel
theorem dd_D_witness_5 : decode bb_D_witness 5 = .ok (.aload_n 0, 1) := by decide +kernel
theorem dd_D_witness_6 : decode bb_D_witness 6 = .ok (.getfield 49, 3) := by decide +kernel
theorem dd_D_witness_9 : decode bb_D_witness 9 = .ok (.if_icmp .lt 13, 3) := by decide +kernel
theorem dd_D_witness_12 : decode bb_D_witness 12 = .ok (.new 200, 3) := by decide +kernel
theorem dd_D_witness_15 : decode bb_D_witness 15 = .ok (.dup, 1) := by decide +kernel
theorem dd_D_witness_16 : decode bb_D_witness 16 = .ok (.ldc 202, 2) := by decide +kernel
theorem dd_D_witness_18 : decode bb_D_witness 18 = .ok (.invokespecial 204, 3) := by decide +kernel
theorem dd_D_witness_21 : decode bb_D_witness 21 = .ok (.athrow, 1) := by decide +kernel
theorem dd_D_witness_22 : decode bb_D_witness 22 = .ok (.iload_n 1, 1) := by decide +kernel
theorem dd_D_witness_23 : decode bb_D_witness 23 = .ok (.ifCond .ne 10, 3) := by decide +kernel
theorem dd_D_witness_26 : decode bb_D_witness 26 = .ok (.aload_n 0, 1) := by decide +kernel
theorem dd_D_witness_27 : decode bb_D_witness 27 = .ok (.getfield 52, 3) := by decide +kernel
theorem dd_D_witness_30 : decode bb_D_witness 30 = .ok (.goto 7, 3) := by decide +kernel
theorem dd_D_witness_33 : decode bb_D_witness 33 = .ok (.aload_n 0, 1) := by decide +kernel
theorem dd_D_witness_34 : decode bb_D_witness 34 = .ok (.getfield 55, 3) := by decide +kernel
theorem dd_D_witness_37 : decode bb_D_witness 37 = .ok (.ireturn, 1) := by decide +kernel
