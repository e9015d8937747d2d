theorem dM_init_0 : decode cM_init 0 = .ok (.aload_n 0, 1) := by decide +kernel
theorem dM_init_1 : decode cM_init 1 = .ok (.invokespecial 1, 3) := by decide +kernel
theorem dM_init_4 : decode cM_init 4 = .ok (.aload_n 0, 1) := by decide +kernel
theorem dM_init_5 : decode cM_init 5 = .ok (.sipush 400, 3) := by decide +kernel
theorem dM_init_8 : decode cM_init 8 = .ok (.newarray .int, 2) := by decide +kernel
theorem dM_init_10 : decode cM_init 10 = .ok (.putfield 7, 3) := by decide +kernel
theorem dM_init_13 : decode cM_init 13 = .ok (.aload_n 0, 1) := by decide +kernel
theorem dM_init_14 : decode cM_init 14 = .ok (.sipush 400, 3) := by decide +kernel
theorem dM_init_17 : decode cM_init 17 = .ok (.newarray .int, 2) := by decide +kernel
theorem dM_init_19 : decode cM_init 19 = .ok (.putfield 13, 3) := by decide +kernel
theorem dM_init_22 : decode cM_init 22 = .ok (.aload_n 0, 1) := by decide +kernel
theorem dM_init_23 : decode cM_init 23 = .ok (.sipush 400, 3) := by decide +kernel
theorem dM_init_26 : decode cM_init 26 = .ok (.newarray .int, 2) := by decide +kernel
theorem dM_init_28 : decode cM_init 28 = .ok (.putfield 16, 3) := by decide +kernel
theorem dM_init_31 : decode cM_init 31 = .ok (.aload_n 0, 1) := by decide +kernel
theorem dM_init_32 : decode cM_init 32 = .ok (.bipush 90, 2) := by decide +kernel
theorem dM_init_34 : decode cM_init 34 = .ok (.newarray .int, 2) := by decide +kernel
theorem dM_init_36 : decode cM_init 36 = .ok (.putfield 19, 3) := by decide +kernel
theorem dM_init_39 : decode cM_init 39 = .ok (.aload_n 0, 1) := by decide +kernel
theorem dM_init_40 : decode cM_init 40 = .ok (.sipush 320, 3) := by decide +kernel
theorem dM_init_43 : decode cM_init 43 = .ok (.newarray .int, 2) := by decide +kernel
theorem dM_init_45 : decode cM_init 45 = .ok (.putfield 22, 3) := by decide +kernel
theorem dM_init_48 : decode cM_init 48 = .ok (.aload_n 0, 1) := by decide +kernel
theorem dM_init_49 : decode cM_init 49 = .ok (.sipush 256, 3) := by decide +kernel
theorem dM_init_52 : decode cM_init 52 = .ok (.newarray .boolean, 2) := by decide +kernel
theorem dM_init_54 : decode cM_init 54 = .ok (.putfield 25, 3) := by decide +kernel
theorem dM_init_57 : decode cM_init 57 = .ok (.return_, 1) := by decide +kernel
theorem dM_isTerm_0 : decode cM_isTerm 0 = .ok (.iload_n 0, 1) := by decide +kernel
theorem dM_isTerm_1 : decode cM_isTerm 1 = .ok (.ifCond .lt 14, 3) := by decide +kernel
theorem dM_isTerm_4 : decode cM_isTerm 4 = .ok (.iload_n 0, 1) := by decide +kernel
theorem dM_isTerm_5 : decode cM_isTerm 5 = .ok (.sipush 256, 3) := by decide +kernel
theorem dM_isTerm_8 : decode cM_isTerm 8 = .ok (.if_icmp .ge 7, 3) := by decide +kernel
theorem dM_isTerm_11 : decode cM_isTerm 11 = .ok (.iconst 1, 1) := by decide +kernel
theorem dM_isTerm_12 : decode cM_isTerm 12 = .ok (.goto 4, 3) := by decide +kernel
theorem dM_isTerm_15 : decode cM_isTerm 15 = .ok (.iconst 0, 1) := by decide +kernel
theorem dM_isTerm_16 : decode cM_isTerm 16 = .ok (.ireturn, 1) := by decide +kernel
theorem dM_isPredicate_0 : decode cM_isPredicate 0 = .ok (.iload_n 0, 1) := by decide +kernel
theorem dM_isPredicate_1 : decode cM_isPredicate 1 = .ok (.ifCond .lt 13, 3) := by decide +kernel
theorem dM_isPredicate_4 : decode cM_isPredicate 4 = .ok (.iload_n 0, 1) := by decide +kernel
theorem dM_isPredicate_5 : decode cM_isPredicate 5 = .ok (.bipush 8, 2) := by decide +kernel
theorem dM_isPredicate_7 : decode cM_isPredicate 7 = .ok (.if_icmp .ge 7, 3) := by decide +kernel
theorem dM_isPredicate_10 : decode cM_isPredicate 10 = .ok (.iconst 1, 1) := by decide +kernel
theorem dM_isPredicate_11 : decode cM_isPredicate 11 = .ok (.goto 4, 3) := by decide +kernel
theorem dM_isPredicate_14 : decode cM_isPredicate 14 = .ok (.iconst 0, 1) := by decide +kernel
theorem dM_isPredicate_15 : decode cM_isPredicate 15 = .ok (.ireturn, 1) := by decide +kernel
theorem dM_find_0 : decode cM_find 0 = .ok (.iconst (-1), 1) := by decide +kernel
theorem dM_find_1 : decode cM_find 1 = .ok (.istore 4, 2) := by decide +kernel
theorem dM_find_3 : decode cM_find 3 = .ok (.iconst 0, 1) := by decide +kernel
theorem dM_find_4 : decode cM_find 4 = .ok (.istore 5, 2) := by decide +kernel
theorem dM_find_6 : decode cM_find 6 = .ok (.iload 5, 2) := by decide +kernel
theorem dM_find_8 : decode cM_find 8 = .ok (.aload_n 0, 1) := by decide +kernel
theorem dM_find_9 : decode cM_find 9 = .ok (.getfield 29, 3) := by decide +kernel
theorem dM_find_12 : decode cM_find 12 = .ok (.if_icmp .ge 51, 3) := by decide +kernel
theorem dM_find_15 : decode cM_find 15 = .ok (.aload_n 0, 1) := by decide +kernel
theorem dM_find_16 : decode cM_find 16 = .ok (.getfield 7, 3) := by decide +kernel
theorem dM_find_19 : decode cM_find 19 = .ok (.iload 5, 2) := by decide +kernel
theorem dM_find_21 : decode cM_find 21 = .ok (.iaload, 1) := by decide +kernel
theorem dM_find_22 : decode cM_find 22 = .ok (.iload_n 1, 1) := by decide +kernel
theorem dM_find_23 : decode cM_find 23 = .ok (.if_icmp .ne 30, 3) := by decide +kernel
theorem dM_find_26 : decode cM_find 26 = .ok (.aload_n 0, 1) := by decide +kernel
theorem dM_find_27 : decode cM_find 27 = .ok (.getfield 13, 3) := by decide +kernel
theorem dM_find_30 : decode cM_find 30 = .ok (.iload 5, 2) := by decide +kernel
theorem dM_find_32 : decode cM_find 32 = .ok (.iaload, 1) := by decide +kernel
theorem dM_find_33 : decode cM_find 33 = .ok (.iload_n 2, 1) := by decide +kernel
theorem dM_find_34 : decode cM_find 34 = .ok (.if_icmp .ne 19, 3) := by decide +kernel
theorem dM_find_37 : decode cM_find 37 = .ok (.aload_n 0, 1) := by decide +kernel
theorem dM_find_38 : decode cM_find 38 = .ok (.getfield 16, 3) := by decide +kernel
theorem dM_find_41 : decode cM_find 41 = .ok (.iload 5, 2) := by decide +kernel
theorem dM_find_43 : decode cM_find 43 = .ok (.iaload, 1) := by decide +kernel
theorem dM_find_44 : decode cM_find 44 = .ok (.iload_n 3, 1) := by decide +kernel
theorem dM_find_45 : decode cM_find 45 = .ok (.if_icmp .ne 8, 3) := by decide +kernel
theorem dM_find_48 : decode cM_find 48 = .ok (.iload 5, 2) := by decide +kernel
theorem dM_find_50 : decode cM_find 50 = .ok (.goto 5, 3) := by decide +kernel
theorem dM_find_53 : decode cM_find 53 = .ok (.iload 4, 2) := by decide +kernel
theorem dM_find_55 : decode cM_find 55 = .ok (.istore 4, 2) := by decide +kernel
theorem dM_find_57 : decode cM_find 57 = .ok (.iinc 5 1, 3) := by decide +kernel
theorem dM_find_60 : decode cM_find 60 = .ok (.goto (-54), 3) := by decide +kernel
theorem dM_find_63 : decode cM_find 63 = .ok (.iload 4, 2) := by decide +kernel
theorem dM_find_65 : decode cM_find 65 = .ok (.ireturn, 1) := by decide +kernel
theorem dM_triple_0 : decode cM_triple 0 = .ok (.iload_n 1, 1) := by decide +kernel
theorem dM_triple_1 : decode cM_triple 1 = .ok (.invokestatic 33, 3) := by decide +kernel
theorem dM_triple_4 : decode cM_triple 4 = .ok (.ifCond .eq 17, 3) := by decide +kernel
theorem dM_triple_7 : decode cM_triple 7 = .ok (.iload_n 2, 1) := by decide +kernel
theorem dM_triple_8 : decode cM_triple 8 = .ok (.invokestatic 37, 3) := by decide +kernel
theorem dM_triple_11 : decode cM_triple 11 = .ok (.ifCond .eq 10, 3) := by decide +kernel
theorem dM_triple_14 : decode cM_triple 14 = .ok (.iload_n 3, 1) := by decide +kernel
theorem dM_triple_15 : decode cM_triple 15 = .ok (.invokestatic 33, 3) := by decide +kernel
theorem dM_triple_18 : decode cM_triple 18 = .ok (.ifCond .ne 5, 3) := by decide +kernel
theorem dM_triple_21 : decode cM_triple 21 = .ok (.iconst (-1), 1) := by decide +kernel
theorem dM_triple_22 : decode cM_triple 22 = .ok (.ireturn, 1) := by decide +kernel
theorem dM_triple_23 : decode cM_triple 23 = .ok (.aload_n 0, 1) := by decide +kernel
theorem dM_triple_24 : decode cM_triple 24 = .ok (.iload_n 1, 1) := by decide +kernel
theorem dM_triple_25 : decode cM_triple 25 = .ok (.iload_n 2, 1) := by decide +kernel
theorem dM_triple_26 : decode cM_triple 26 = .ok (.iload_n 3, 1) := by decide +kernel
theorem dM_triple_27 : decode cM_triple 27 = .ok (.invokevirtual 40, 3) := by decide +kernel
theorem dM_triple_30 : decode cM_triple 30 = .ok (.ifCond .lt 5, 3) := by decide +kernel
theorem dM_triple_33 : decode cM_triple 33 = .ok (.iconst 0, 1) := by decide +kernel
theorem dM_triple_34 : decode cM_triple 34 = .ok (.ireturn, 1) := by decide +kernel
theorem dM_triple_35 : decode cM_triple 35 = .ok (.aload_n 0, 1) := by decide +kernel
theorem dM_triple_36 : decode cM_triple 36 = .ok (.getfield 29, 3) := by decide +kernel
theorem dM_triple_39 : decode cM_triple 39 = .ok (.sipush 400, 3) := by decide +kernel
theorem dM_triple_42 : decode cM_triple 42 = .ok (.if_icmp .ne 6, 3) := by decide +kernel
theorem dM_triple_45 : decode cM_triple 45 = .ok (.bipush (-3), 2) := by decide +kernel
theorem dM_triple_47 : decode cM_triple 47 = .ok (.ireturn, 1) := by decide +kernel
theorem dM_triple_48 : decode cM_triple 48 = .ok (.aload_n 0, 1) := by decide +kernel
theorem dM_triple_49 : decode cM_triple 49 = .ok (.getfield 7, 3) := by decide +kernel
theorem dM_triple_52 : decode cM_triple 52 = .ok (.aload_n 0, 1) := by decide +kernel
theorem dM_triple_53 : decode cM_triple 53 = .ok (.getfield 29, 3) := by decide +kernel
theorem dM_triple_56 : decode cM_triple 56 = .ok (.iload_n 1, 1) := by decide +kernel
theorem dM_triple_57 : decode cM_triple 57 = .ok (.iastore, 1) := by decide +kernel
theorem dM_triple_58 : decode cM_triple 58 = .ok (.aload_n 0, 1) := by decide +kernel
theorem dM_triple_59 : decode cM_triple 59 = .ok (.getfield 13, 3) := by decide +kernel
theorem dM_triple_62 : decode cM_triple 62 = .ok (.aload_n 0, 1) := by decide +kernel
theorem dM_triple_63 : decode cM_triple 63 = .ok (.getfield 29, 3) := by decide +kernel
theorem dM_triple_66 : decode cM_triple 66 = .ok (.iload_n 2, 1) := by decide +kernel
theorem dM_triple_67 : decode cM_triple 67 = .ok (.iastore, 1) := by decide +kernel
theorem dM_triple_68 : decode cM_triple 68 = .ok (.aload_n 0, 1) := by decide +kernel
theorem dM_triple_69 : decode cM_triple 69 = .ok (.getfield 16, 3) := by decide +kernel
theorem dM_triple_72 : decode cM_triple 72 = .ok (.aload_n 0, 1) := by decide +kernel
theorem dM_triple_73 : decode cM_triple 73 = .ok (.getfield 29, 3) := by decide +kernel
theorem dM_triple_76 : decode cM_triple 76 = .ok (.iload_n 3, 1) := by decide +kernel
theorem dM_triple_77 : decode cM_triple 77 = .ok (.iastore, 1) := by decide +kernel
theorem dM_triple_78 : decode cM_triple 78 = .ok (.aload_n 0, 1) := by decide +kernel
theorem dM_triple_79 : decode cM_triple 79 = .ok (.dup, 1) := by decide +kernel
theorem dM_triple_80 : decode cM_triple 80 = .ok (.getfield 29, 3) := by decide +kernel
theorem dM_triple_83 : decode cM_triple 83 = .ok (.iconst 1, 1) := by decide +kernel
theorem dM_triple_84 : decode cM_triple 84 = .ok (.iadd, 1) := by decide +kernel
theorem dM_triple_85 : decode cM_triple 85 = .ok (.putfield 29, 3) := by decide +kernel
theorem dM_triple_88 : decode cM_triple 88 = .ok (.iconst 1, 1) := by decide +kernel
theorem dM_triple_89 : decode cM_triple 89 = .ok (.ireturn, 1) := by decide +kernel
theorem dM_drop_0 : decode cM_drop 0 = .ok (.iload_n 1, 1) := by decide +kernel
theorem dM_drop_1 : decode cM_drop 1 = .ok (.invokestatic 33, 3) := by decide +kernel
theorem dM_drop_4 : decode cM_drop 4 = .ok (.ifCond .eq 17, 3) := by decide +kernel
theorem dM_drop_7 : decode cM_drop 7 = .ok (.iload_n 2, 1) := by decide +kernel
theorem dM_drop_8 : decode cM_drop 8 = .ok (.invokestatic 37, 3) := by decide +kernel
theorem dM_drop_11 : decode cM_drop 11 = .ok (.ifCond .eq 10, 3) := by decide +kernel
theorem dM_drop_14 : decode cM_drop 14 = .ok (.iload_n 3, 1) := by decide +kernel
theorem dM_drop_15 : decode cM_drop 15 = .ok (.invokestatic 33, 3) := by decide +kernel
theorem dM_drop_18 : decode cM_drop 18 = .ok (.ifCond .ne 5, 3) := by decide +kernel
theorem dM_drop_21 : decode cM_drop 21 = .ok (.iconst (-1), 1) := by decide +kernel
theorem dM_drop_22 : decode cM_drop 22 = .ok (.ireturn, 1) := by decide +kernel
theorem dM_drop_23 : decode cM_drop 23 = .ok (.aload_n 0, 1) := by decide +kernel
theorem dM_drop_24 : decode cM_drop 24 = .ok (.iload_n 1, 1) := by decide +kernel
theorem dM_drop_25 : decode cM_drop 25 = .ok (.iload_n 2, 1) := by decide +kernel
theorem dM_drop_26 : decode cM_drop 26 = .ok (.iload_n 3, 1) := by decide +kernel
theorem dM_drop_27 : decode cM_drop 27 = .ok (.invokevirtual 40, 3) := by decide +kernel
theorem dM_drop_30 : decode cM_drop 30 = .ok (.istore 4, 2) := by decide +kernel
theorem dM_drop_32 : decode cM_drop 32 = .ok (.iload 4, 2) := by decide +kernel
theorem dM_drop_34 : decode cM_drop 34 = .ok (.ifCond .ge 5, 3) := by decide +kernel
theorem dM_drop_37 : decode cM_drop 37 = .ok (.iconst 0, 1) := by decide +kernel
theorem dM_drop_38 : decode cM_drop 38 = .ok (.ireturn, 1) := by decide +kernel
theorem dM_drop_39 : decode cM_drop 39 = .ok (.aload_n 0, 1) := by decide +kernel
theorem dM_drop_40 : decode cM_drop 40 = .ok (.dup, 1) := by decide +kernel
theorem dM_drop_41 : decode cM_drop 41 = .ok (.getfield 29, 3) := by decide +kernel
theorem dM_drop_44 : decode cM_drop 44 = .ok (.iconst 1, 1) := by decide +kernel
theorem dM_drop_45 : decode cM_drop 45 = .ok (.isub, 1) := by decide +kernel
theorem dM_drop_46 : decode cM_drop 46 = .ok (.putfield 29, 3) := by decide +kernel
theorem dM_drop_49 : decode cM_drop 49 = .ok (.aload_n 0, 1) := by decide +kernel
theorem dM_drop_50 : decode cM_drop 50 = .ok (.getfield 7, 3) := by decide +kernel
theorem dM_drop_53 : decode cM_drop 53 = .ok (.iload 4, 2) := by decide +kernel
theorem dM_drop_55 : decode cM_drop 55 = .ok (.aload_n 0, 1) := by decide +kernel
theorem dM_drop_56 : decode cM_drop 56 = .ok (.getfield 7, 3) := by decide +kernel
theorem dM_drop_59 : decode cM_drop 59 = .ok (.aload_n 0, 1) := by decide +kernel
theorem dM_drop_60 : decode cM_drop 60 = .ok (.getfield 29, 3) := by decide +kernel
theorem dM_drop_63 : decode cM_drop 63 = .ok (.iaload, 1) := by decide +kernel
theorem dM_drop_64 : decode cM_drop 64 = .ok (.iastore, 1) := by decide +kernel
theorem dM_drop_65 : decode cM_drop 65 = .ok (.aload_n 0, 1) := by decide +kernel
theorem dM_drop_66 : decode cM_drop 66 = .ok (.getfield 13, 3) := by decide +kernel
theorem dM_drop_69 : decode cM_drop 69 = .ok (.iload 4, 2) := by decide +kernel
theorem dM_drop_71 : decode cM_drop 71 = .ok (.aload_n 0, 1) := by decide +kernel
theorem dM_drop_72 : decode cM_drop 72 = .ok (.getfield 13, 3) := by decide +kernel
theorem dM_drop_75 : decode cM_drop 75 = .ok (.aload_n 0, 1) := by decide +kernel
theorem dM_drop_76 : decode cM_drop 76 = .ok (.getfield 29, 3) := by decide +kernel
theorem dM_drop_79 : decode cM_drop 79 = .ok (.iaload, 1) := by decide +kernel
theorem dM_drop_80 : decode cM_drop 80 = .ok (.iastore, 1) := by decide +kernel
theorem dM_drop_81 : decode cM_drop 81 = .ok (.aload_n 0, 1) := by decide +kernel
theorem dM_drop_82 : decode cM_drop 82 = .ok (.getfield 16, 3) := by decide +kernel
theorem dM_drop_85 : decode cM_drop 85 = .ok (.iload 4, 2) := by decide +kernel
theorem dM_drop_87 : decode cM_drop 87 = .ok (.aload_n 0, 1) := by decide +kernel
theorem dM_drop_88 : decode cM_drop 88 = .ok (.getfield 16, 3) := by decide +kernel
theorem dM_drop_91 : decode cM_drop 91 = .ok (.aload_n 0, 1) := by decide +kernel
theorem dM_drop_92 : decode cM_drop 92 = .ok (.getfield 29, 3) := by decide +kernel
theorem dM_drop_95 : decode cM_drop 95 = .ok (.iaload, 1) := by decide +kernel
theorem dM_drop_96 : decode cM_drop 96 = .ok (.iastore, 1) := by decide +kernel
theorem dM_drop_97 : decode cM_drop 97 = .ok (.iconst 1, 1) := by decide +kernel
theorem dM_drop_98 : decode cM_drop 98 = .ok (.ireturn, 1) := by decide +kernel
theorem dM_countOf_0 : decode cM_countOf 0 = .ok (.iconst 0, 1) := by decide +kernel
theorem dM_countOf_1 : decode cM_countOf 1 = .ok (.istore_n 2, 1) := by decide +kernel
theorem dM_countOf_2 : decode cM_countOf 2 = .ok (.iconst 0, 1) := by decide +kernel
theorem dM_countOf_3 : decode cM_countOf 3 = .ok (.istore_n 3, 1) := by decide +kernel
theorem dM_countOf_4 : decode cM_countOf 4 = .ok (.iload_n 3, 1) := by decide +kernel
theorem dM_countOf_5 : decode cM_countOf 5 = .ok (.aload_n 0, 1) := by decide +kernel
theorem dM_countOf_6 : decode cM_countOf 6 = .ok (.getfield 29, 3) := by decide +kernel
theorem dM_countOf_9 : decode cM_countOf 9 = .ok (.if_icmp .ge 27, 3) := by decide +kernel
theorem dM_countOf_12 : decode cM_countOf 12 = .ok (.aload_n 0, 1) := by decide +kernel
theorem dM_countOf_13 : decode cM_countOf 13 = .ok (.getfield 13, 3) := by decide +kernel
theorem dM_countOf_16 : decode cM_countOf 16 = .ok (.iload_n 3, 1) := by decide +kernel
theorem dM_countOf_17 : decode cM_countOf 17 = .ok (.iaload, 1) := by decide +kernel
theorem dM_countOf_18 : decode cM_countOf 18 = .ok (.iload_n 1, 1) := by decide +kernel
theorem dM_countOf_19 : decode cM_countOf 19 = .ok (.if_icmp .ne 9, 3) := by decide +kernel
theorem dM_countOf_22 : decode cM_countOf 22 = .ok (.iload_n 2, 1) := by decide +kernel
theorem dM_countOf_23 : decode cM_countOf 23 = .ok (.iconst 1, 1) := by decide +kernel
theorem dM_countOf_24 : decode cM_countOf 24 = .ok (.iadd, 1) := by decide +kernel
theorem dM_countOf_25 : decode cM_countOf 25 = .ok (.goto 4, 3) := by decide +kernel
theorem dM_countOf_28 : decode cM_countOf 28 = .ok (.iload_n 2, 1) := by decide +kernel
theorem dM_countOf_29 : decode cM_countOf 29 = .ok (.istore_n 2, 1) := by decide +kernel
theorem dM_countOf_30 : decode cM_countOf 30 = .ok (.iinc 3 1, 3) := by decide +kernel
theorem dM_countOf_33 : decode cM_countOf 33 = .ok (.goto (-29), 3) := by decide +kernel
theorem dM_countOf_36 : decode cM_countOf 36 = .ok (.iload_n 2, 1) := by decide +kernel
theorem dM_countOf_37 : decode cM_countOf 37 = .ok (.ireturn, 1) := by decide +kernel
theorem dM_different_0 : decode cM_different 0 = .ok (.iconst 0, 1) := by decide +kernel
theorem dM_different_1 : decode cM_different 1 = .ok (.istore_n 3, 1) := by decide +kernel
theorem dM_different_2 : decode cM_different 2 = .ok (.iload_n 3, 1) := by decide +kernel
theorem dM_different_3 : decode cM_different 3 = .ok (.sipush 256, 3) := by decide +kernel
theorem dM_different_6 : decode cM_different 6 = .ok (.if_icmp .ge 16, 3) := by decide +kernel
theorem dM_different_9 : decode cM_different 9 = .ok (.aload_n 0, 1) := by decide +kernel
theorem dM_different_10 : decode cM_different 10 = .ok (.getfield 25, 3) := by decide +kernel
theorem dM_different_13 : decode cM_different 13 = .ok (.iload_n 3, 1) := by decide +kernel
theorem dM_different_14 : decode cM_different 14 = .ok (.iconst 0, 1) := by decide +kernel
theorem dM_different_15 : decode cM_different 15 = .ok (.bastore, 1) := by decide +kernel
theorem dM_different_16 : decode cM_different 16 = .ok (.iinc 3 1, 3) := by decide +kernel
theorem dM_different_19 : decode cM_different 19 = .ok (.goto (-17), 3) := by decide +kernel
theorem dM_different_22 : decode cM_different 22 = .ok (.iconst 0, 1) := by decide +kernel
theorem dM_different_23 : decode cM_different 23 = .ok (.istore_n 3, 1) := by decide +kernel
theorem dM_different_24 : decode cM_different 24 = .ok (.iconst 0, 1) := by decide +kernel
theorem dM_different_25 : decode cM_different 25 = .ok (.istore 4, 2) := by decide +kernel
theorem dM_different_27 : decode cM_different 27 = .ok (.iload 4, 2) := by decide +kernel
theorem dM_different_29 : decode cM_different 29 = .ok (.aload_n 0, 1) := by decide +kernel
theorem dM_different_30 : decode cM_different 30 = .ok (.getfield 29, 3) := by decide +kernel
theorem dM_different_33 : decode cM_different 33 = .ok (.if_icmp .ge 68, 3) := by decide +kernel
theorem dM_different_36 : decode cM_different 36 = .ok (.iload_n 2, 1) := by decide +kernel
theorem dM_different_37 : decode cM_different 37 = .ok (.ifCond .eq 13, 3) := by decide +kernel
theorem dM_different_40 : decode cM_different 40 = .ok (.aload_n 0, 1) := by decide +kernel
theorem dM_different_41 : decode cM_different 41 = .ok (.getfield 7, 3) := by decide +kernel
theorem dM_different_44 : decode cM_different 44 = .ok (.iload 4, 2) := by decide +kernel
theorem dM_different_46 : decode cM_different 46 = .ok (.iaload, 1) := by decide +kernel
theorem dM_different_47 : decode cM_different 47 = .ok (.goto 10, 3) := by decide +kernel
theorem dM_different_50 : decode cM_different 50 = .ok (.aload_n 0, 1) := by decide +kernel
theorem dM_different_51 : decode cM_different 51 = .ok (.getfield 16, 3) := by decide +kernel
theorem dM_different_54 : decode cM_different 54 = .ok (.iload 4, 2) := by decide +kernel
theorem dM_different_56 : decode cM_different 56 = .ok (.iaload, 1) := by decide +kernel
theorem dM_different_57 : decode cM_different 57 = .ok (.istore 5, 2) := by decide +kernel
theorem dM_different_59 : decode cM_different 59 = .ok (.iload_n 1, 1) := by decide +kernel
theorem dM_different_60 : decode cM_different 60 = .ok (.aload_n 0, 1) := by decide +kernel
theorem dM_different_61 : decode cM_different 61 = .ok (.getfield 13, 3) := by decide +kernel
theorem dM_different_64 : decode cM_different 64 = .ok (.iload 4, 2) := by decide +kernel
theorem dM_different_66 : decode cM_different 66 = .ok (.iaload, 1) := by decide +kernel
theorem dM_different_67 : decode cM_different 67 = .ok (.ishr, 1) := by decide +kernel
theorem dM_different_68 : decode cM_different 68 = .ok (.iconst 1, 1) := by decide +kernel
theorem dM_different_69 : decode cM_different 69 = .ok (.iand, 1) := by decide +kernel
theorem dM_different_70 : decode cM_different 70 = .ok (.iconst 1, 1) := by decide +kernel
theorem dM_different_71 : decode cM_different 71 = .ok (.if_icmp .ne 24, 3) := by decide +kernel
theorem dM_different_74 : decode cM_different 74 = .ok (.aload_n 0, 1) := by decide +kernel
theorem dM_different_75 : decode cM_different 75 = .ok (.getfield 25, 3) := by decide +kernel
theorem dM_different_78 : decode cM_different 78 = .ok (.iload 5, 2) := by decide +kernel
theorem dM_different_80 : decode cM_different 80 = .ok (.baload, 1) := by decide +kernel
theorem dM_different_81 : decode cM_different 81 = .ok (.ifCond .ne 14, 3) := by decide +kernel
theorem dM_different_84 : decode cM_different 84 = .ok (.aload_n 0, 1) := by decide +kernel
theorem dM_different_85 : decode cM_different 85 = .ok (.getfield 25, 3) := by decide +kernel
theorem dM_different_88 : decode cM_different 88 = .ok (.iload 5, 2) := by decide +kernel
theorem dM_different_90 : decode cM_different 90 = .ok (.iconst 1, 1) := by decide +kernel
theorem dM_different_91 : decode cM_different 91 = .ok (.bastore, 1) := by decide +kernel
theorem dM_different_92 : decode cM_different 92 = .ok (.iinc 3 1, 3) := by decide +kernel
theorem dM_different_95 : decode cM_different 95 = .ok (.iinc 4 1, 3) := by decide +kernel
theorem dM_different_98 : decode cM_different 98 = .ok (.goto (-71), 3) := by decide +kernel
theorem dM_different_101 : decode cM_different 101 = .ok (.iload_n 3, 1) := by decide +kernel
theorem dM_different_102 : decode cM_different 102 = .ok (.ireturn, 1) := by decide +kernel
theorem dM_count_0 : decode cM_count 0 = .ok (.iload_n 1, 1) := by decide +kernel
theorem dM_count_1 : decode cM_count 1 = .ok (.invokestatic 37, 3) := by decide +kernel
theorem dM_count_4 : decode cM_count 4 = .ok (.ifCond .eq 12, 3) := by decide +kernel
theorem dM_count_7 : decode cM_count 7 = .ok (.iload_n 2, 1) := by decide +kernel
theorem dM_count_8 : decode cM_count 8 = .ok (.ifCond .lt 8, 3) := by decide +kernel
theorem dM_count_11 : decode cM_count 11 = .ok (.iload_n 2, 1) := by decide +kernel
theorem dM_count_12 : decode cM_count 12 = .ok (.iconst 2, 1) := by decide +kernel
theorem dM_count_13 : decode cM_count 13 = .ok (.if_icmp .le 5, 3) := by decide +kernel
theorem dM_count_16 : decode cM_count 16 = .ok (.iconst (-1), 1) := by decide +kernel
theorem dM_count_17 : decode cM_count 17 = .ok (.ireturn, 1) := by decide +kernel
theorem dM_count_18 : decode cM_count 18 = .ok (.iload_n 2, 1) := by decide +kernel
theorem dM_count_19 : decode cM_count 19 = .ok (.ifCond .ne 11, 3) := by decide +kernel
theorem dM_count_22 : decode cM_count 22 = .ok (.aload_n 0, 1) := by decide +kernel
theorem dM_count_23 : decode cM_count 23 = .ok (.iload_n 1, 1) := by decide +kernel
theorem dM_count_24 : decode cM_count 24 = .ok (.invokevirtual 44, 3) := by decide +kernel
theorem dM_count_27 : decode cM_count 27 = .ok (.goto 20, 3) := by decide +kernel
theorem dM_count_30 : decode cM_count 30 = .ok (.aload_n 0, 1) := by decide +kernel
theorem dM_count_31 : decode cM_count 31 = .ok (.iconst 1, 1) := by decide +kernel
theorem dM_count_32 : decode cM_count 32 = .ok (.iload_n 1, 1) := by decide +kernel
theorem dM_count_33 : decode cM_count 33 = .ok (.ishl, 1) := by decide +kernel
theorem dM_count_34 : decode cM_count 34 = .ok (.iload_n 2, 1) := by decide +kernel
theorem dM_count_35 : decode cM_count 35 = .ok (.iconst 1, 1) := by decide +kernel
theorem dM_count_36 : decode cM_count 36 = .ok (.if_icmp .ne 7, 3) := by decide +kernel
theorem dM_count_39 : decode cM_count 39 = .ok (.iconst 1, 1) := by decide +kernel
theorem dM_count_40 : decode cM_count 40 = .ok (.goto 4, 3) := by decide +kernel
theorem dM_count_43 : decode cM_count 43 = .ok (.iconst 0, 1) := by decide +kernel
theorem dM_count_44 : decode cM_count 44 = .ok (.invokevirtual 48, 3) := by decide +kernel
theorem dM_count_47 : decode cM_count 47 = .ok (.ireturn, 1) := by decide +kernel
theorem dM_hash_0 : decode cM_hash 0 = .ok (.iload_n 0, 1) := by decide +kernel
theorem dM_hash_1 : decode cM_hash 1 = .ok (.iconst 1, 1) := by decide +kernel
theorem dM_hash_2 : decode cM_hash 2 = .ok (.iadd, 1) := by decide +kernel
theorem dM_hash_3 : decode cM_hash 3 = .ok (.ldc 52, 2) := by decide +kernel
theorem dM_hash_5 : decode cM_hash 5 = .ok (.imul, 1) := by decide +kernel
theorem dM_hash_6 : decode cM_hash 6 = .ok (.istore_n 1, 1) := by decide +kernel
theorem dM_hash_7 : decode cM_hash 7 = .ok (.iload_n 1, 1) := by decide +kernel
theorem dM_hash_8 : decode cM_hash 8 = .ok (.iload_n 1, 1) := by decide +kernel
theorem dM_hash_9 : decode cM_hash 9 = .ok (.bipush 15, 2) := by decide +kernel
theorem dM_hash_11 : decode cM_hash 11 = .ok (.iushr, 1) := by decide +kernel
theorem dM_hash_12 : decode cM_hash 12 = .ok (.ixor, 1) := by decide +kernel
theorem dM_hash_13 : decode cM_hash 13 = .ok (.istore_n 1, 1) := by decide +kernel
theorem dM_hash_14 : decode cM_hash 14 = .ok (.iload_n 1, 1) := by decide +kernel
theorem dM_hash_15 : decode cM_hash 15 = .ok (.ldc 53, 2) := by decide +kernel
theorem dM_hash_17 : decode cM_hash 17 = .ok (.imul, 1) := by decide +kernel
theorem dM_hash_18 : decode cM_hash 18 = .ok (.istore_n 1, 1) := by decide +kernel
theorem dM_hash_19 : decode cM_hash 19 = .ok (.iload_n 1, 1) := by decide +kernel
theorem dM_hash_20 : decode cM_hash 20 = .ok (.iload_n 1, 1) := by decide +kernel
theorem dM_hash_21 : decode cM_hash 21 = .ok (.bipush 13, 2) := by decide +kernel
theorem dM_hash_23 : decode cM_hash 23 = .ok (.iushr, 1) := by decide +kernel
theorem dM_hash_24 : decode cM_hash 24 = .ok (.ixor, 1) := by decide +kernel
theorem dM_hash_25 : decode cM_hash 25 = .ok (.ireturn, 1) := by decide +kernel
theorem dM_isSampled_0 : decode cM_isSampled 0 = .ok (.sipush 256, 3) := by decide +kernel
theorem dM_isSampled_3 : decode cM_isSampled 3 = .ok (.aload_n 0, 1) := by decide +kernel
theorem dM_isSampled_4 : decode cM_isSampled 4 = .ok (.getfield 7, 3) := by decide +kernel
theorem dM_isSampled_7 : decode cM_isSampled 7 = .ok (.iload_n 1, 1) := by decide +kernel
theorem dM_isSampled_8 : decode cM_isSampled 8 = .ok (.iaload, 1) := by decide +kernel
theorem dM_isSampled_9 : decode cM_isSampled 9 = .ok (.imul, 1) := by decide +kernel
theorem dM_isSampled_10 : decode cM_isSampled 10 = .ok (.aload_n 0, 1) := by decide +kernel
theorem dM_isSampled_11 : decode cM_isSampled 11 = .ok (.getfield 16, 3) := by decide +kernel
theorem dM_isSampled_14 : decode cM_isSampled 14 = .ok (.iload_n 1, 1) := by decide +kernel
theorem dM_isSampled_15 : decode cM_isSampled 15 = .ok (.iaload, 1) := by decide +kernel
theorem dM_isSampled_16 : decode cM_isSampled 16 = .ok (.iadd, 1) := by decide +kernel
theorem dM_isSampled_17 : decode cM_isSampled 17 = .ok (.invokestatic 54, 3) := by decide +kernel
theorem dM_isSampled_20 : decode cM_isSampled 20 = .ok (.iconst 3, 1) := by decide +kernel
theorem dM_isSampled_21 : decode cM_isSampled 21 = .ok (.iand, 1) := by decide +kernel
theorem dM_isSampled_22 : decode cM_isSampled 22 = .ok (.ifCond .ne 7, 3) := by decide +kernel
theorem dM_isSampled_25 : decode cM_isSampled 25 = .ok (.iconst 1, 1) := by decide +kernel
theorem dM_isSampled_26 : decode cM_isSampled 26 = .ok (.goto 4, 3) := by decide +kernel
theorem dM_isSampled_29 : decode cM_isSampled 29 = .ok (.iconst 0, 1) := by decide +kernel
theorem dM_isSampled_30 : decode cM_isSampled 30 = .ok (.ireturn, 1) := by decide +kernel
theorem dM_pairs_0 : decode cM_pairs 0 = .ok (.lconst 0, 1) := by decide +kernel
theorem dM_pairs_1 : decode cM_pairs 1 = .ok (.lstore 5, 2) := by decide +kernel
theorem dM_pairs_3 : decode cM_pairs 3 = .ok (.iconst 0, 1) := by decide +kernel
theorem dM_pairs_4 : decode cM_pairs 4 = .ok (.istore 7, 2) := by decide +kernel
theorem dM_pairs_6 : decode cM_pairs 6 = .ok (.iload 7, 2) := by decide +kernel
theorem dM_pairs_8 : decode cM_pairs 8 = .ok (.aload_n 0, 1) := by decide +kernel
theorem dM_pairs_9 : decode cM_pairs 9 = .ok (.getfield 29, 3) := by decide +kernel
theorem dM_pairs_12 : decode cM_pairs 12 = .ok (.if_icmp .ge 130, 3) := by decide +kernel
theorem dM_pairs_15 : decode cM_pairs 15 = .ok (.iload_n 3, 1) := by decide +kernel
theorem dM_pairs_16 : decode cM_pairs 16 = .ok (.ifCond .eq 13, 3) := by decide +kernel
theorem dM_pairs_19 : decode cM_pairs 19 = .ok (.aload_n 0, 1) := by decide +kernel
theorem dM_pairs_20 : decode cM_pairs 20 = .ok (.getfield 16, 3) := by decide +kernel
theorem dM_pairs_23 : decode cM_pairs 23 = .ok (.iload 7, 2) := by decide +kernel
theorem dM_pairs_25 : decode cM_pairs 25 = .ok (.iaload, 1) := by decide +kernel
theorem dM_pairs_26 : decode cM_pairs 26 = .ok (.goto 10, 3) := by decide +kernel
theorem dM_pairs_29 : decode cM_pairs 29 = .ok (.aload_n 0, 1) := by decide +kernel
theorem dM_pairs_30 : decode cM_pairs 30 = .ok (.getfield 7, 3) := by decide +kernel
theorem dM_pairs_33 : decode cM_pairs 33 = .ok (.iload 7, 2) := by decide +kernel
theorem dM_pairs_35 : decode cM_pairs 35 = .ok (.iaload, 1) := by decide +kernel
theorem dM_pairs_36 : decode cM_pairs 36 = .ok (.istore 8, 2) := by decide +kernel
theorem dM_pairs_38 : decode cM_pairs 38 = .ok (.iconst 0, 1) := by decide +kernel
theorem dM_pairs_39 : decode cM_pairs 39 = .ok (.istore 9, 2) := by decide +kernel
theorem dM_pairs_41 : decode cM_pairs 41 = .ok (.iload 9, 2) := by decide +kernel
theorem dM_pairs_43 : decode cM_pairs 43 = .ok (.aload_n 0, 1) := by decide +kernel
theorem dM_pairs_44 : decode cM_pairs 44 = .ok (.getfield 29, 3) := by decide +kernel
theorem dM_pairs_47 : decode cM_pairs 47 = .ok (.if_icmp .ge 89, 3) := by decide +kernel
theorem dM_pairs_50 : decode cM_pairs 50 = .ok (.aload_n 0, 1) := by decide +kernel
theorem dM_pairs_51 : decode cM_pairs 51 = .ok (.getfield 13, 3) := by decide +kernel
theorem dM_pairs_54 : decode cM_pairs 54 = .ok (.iload 7, 2) := by decide +kernel
theorem dM_pairs_56 : decode cM_pairs 56 = .ok (.iaload, 1) := by decide +kernel
theorem dM_pairs_57 : decode cM_pairs 57 = .ok (.iload_n 1, 1) := by decide +kernel
theorem dM_pairs_58 : decode cM_pairs 58 = .ok (.if_icmp .ne 78, 3) := by decide +kernel
theorem dM_pairs_61 : decode cM_pairs 61 = .ok (.aload_n 0, 1) := by decide +kernel
theorem dM_pairs_62 : decode cM_pairs 62 = .ok (.getfield 13, 3) := by decide +kernel
theorem dM_pairs_65 : decode cM_pairs 65 = .ok (.iload 9, 2) := by decide +kernel
theorem dM_pairs_67 : decode cM_pairs 67 = .ok (.iaload, 1) := by decide +kernel
theorem dM_pairs_68 : decode cM_pairs 68 = .ok (.iload_n 2, 1) := by decide +kernel
theorem dM_pairs_69 : decode cM_pairs 69 = .ok (.if_icmp .ne 42, 3) := by decide +kernel
theorem dM_pairs_72 : decode cM_pairs 72 = .ok (.aload_n 0, 1) := by decide +kernel
theorem dM_pairs_73 : decode cM_pairs 73 = .ok (.getfield 7, 3) := by decide +kernel
theorem dM_pairs_76 : decode cM_pairs 76 = .ok (.iload 9, 2) := by decide +kernel
theorem dM_pairs_78 : decode cM_pairs 78 = .ok (.iaload, 1) := by decide +kernel
theorem dM_pairs_79 : decode cM_pairs 79 = .ok (.iload 8, 2) := by decide +kernel
theorem dM_pairs_81 : decode cM_pairs 81 = .ok (.if_icmp .ne 30, 3) := by decide +kernel
theorem dM_pairs_84 : decode cM_pairs 84 = .ok (.iload 4, 2) := by decide +kernel
theorem dM_pairs_86 : decode cM_pairs 86 = .ok (.ifCond .eq 21, 3) := by decide +kernel
theorem dM_pairs_89 : decode cM_pairs 89 = .ok (.aload_n 0, 1) := by decide +kernel
theorem dM_pairs_90 : decode cM_pairs 90 = .ok (.iload 7, 2) := by decide +kernel
theorem dM_pairs_92 : decode cM_pairs 92 = .ok (.invokevirtual 57, 3) := by decide +kernel
theorem dM_pairs_95 : decode cM_pairs 95 = .ok (.ifCond .eq 16, 3) := by decide +kernel
theorem dM_pairs_98 : decode cM_pairs 98 = .ok (.aload_n 0, 1) := by decide +kernel
theorem dM_pairs_99 : decode cM_pairs 99 = .ok (.iload 9, 2) := by decide +kernel
theorem dM_pairs_101 : decode cM_pairs 101 = .ok (.invokevirtual 57, 3) := by decide +kernel
theorem dM_pairs_104 : decode cM_pairs 104 = .ok (.ifCond .eq 7, 3) := by decide +kernel
theorem dM_pairs_107 : decode cM_pairs 107 = .ok (.iconst 1, 1) := by decide +kernel
theorem dM_pairs_108 : decode cM_pairs 108 = .ok (.goto 4, 3) := by decide +kernel
theorem dM_pairs_111 : decode cM_pairs 111 = .ok (.iconst 0, 1) := by decide +kernel
theorem dM_pairs_112 : decode cM_pairs 112 = .ok (.istore 10, 2) := by decide +kernel
theorem dM_pairs_114 : decode cM_pairs 114 = .ok (.iload 10, 2) := by decide +kernel
theorem dM_pairs_116 : decode cM_pairs 116 = .ok (.ifCond .eq 10, 3) := by decide +kernel
theorem dM_pairs_119 : decode cM_pairs 119 = .ok (.lload 5, 2) := by decide +kernel
theorem dM_pairs_121 : decode cM_pairs 121 = .ok (.lconst 1, 1) := by decide +kernel
theorem dM_pairs_122 : decode cM_pairs 122 = .ok (.ladd, 1) := by decide +kernel
theorem dM_pairs_123 : decode cM_pairs 123 = .ok (.goto 5, 3) := by decide +kernel
theorem dM_pairs_126 : decode cM_pairs 126 = .ok (.lload 5, 2) := by decide +kernel
theorem dM_pairs_128 : decode cM_pairs 128 = .ok (.lstore 5, 2) := by decide +kernel
theorem dM_pairs_130 : decode cM_pairs 130 = .ok (.iinc 9 1, 3) := by decide +kernel
theorem dM_pairs_133 : decode cM_pairs 133 = .ok (.goto (-92), 3) := by decide +kernel
theorem dM_pairs_136 : decode cM_pairs 136 = .ok (.iinc 7 1, 3) := by decide +kernel
theorem dM_pairs_139 : decode cM_pairs 139 = .ok (.goto (-133), 3) := by decide +kernel
theorem dM_pairs_142 : decode cM_pairs 142 = .ok (.lload 5, 2) := by decide +kernel
theorem dM_pairs_144 : decode cM_pairs 144 = .ok (.lreturn, 1) := by decide +kernel
theorem dM_chain_0 : decode cM_chain 0 = .ok (.iload_n 1, 1) := by decide +kernel
theorem dM_chain_1 : decode cM_chain 1 = .ok (.invokestatic 37, 3) := by decide +kernel
theorem dM_chain_4 : decode cM_chain 4 = .ok (.ifCond .eq 21, 3) := by decide +kernel
theorem dM_chain_7 : decode cM_chain 7 = .ok (.iload_n 2, 1) := by decide +kernel
theorem dM_chain_8 : decode cM_chain 8 = .ok (.invokestatic 37, 3) := by decide +kernel
theorem dM_chain_11 : decode cM_chain 11 = .ok (.ifCond .eq 14, 3) := by decide +kernel
theorem dM_chain_14 : decode cM_chain 14 = .ok (.aload_n 0, 1) := by decide +kernel
theorem dM_chain_15 : decode cM_chain 15 = .ok (.iload_n 1, 1) := by decide +kernel
theorem dM_chain_16 : decode cM_chain 16 = .ok (.iload_n 2, 1) := by decide +kernel
theorem dM_chain_17 : decode cM_chain 17 = .ok (.iconst 1, 1) := by decide +kernel
theorem dM_chain_18 : decode cM_chain 18 = .ok (.iconst 0, 1) := by decide +kernel
theorem dM_chain_19 : decode cM_chain 19 = .ok (.invokevirtual 60, 3) := by decide +kernel
theorem dM_chain_22 : decode cM_chain 22 = .ok (.goto 6, 3) := by decide +kernel
theorem dM_chain_25 : decode cM_chain 25 = .ok (.ldc2_w 64, 3) := by decide +kernel
theorem dM_chain_28 : decode cM_chain 28 = .ok (.lreturn, 1) := by decide +kernel
theorem dM_star_0 : decode cM_star 0 = .ok (.iload_n 1, 1) := by decide +kernel
theorem dM_star_1 : decode cM_star 1 = .ok (.invokestatic 37, 3) := by decide +kernel
theorem dM_star_4 : decode cM_star 4 = .ok (.ifCond .eq 21, 3) := by decide +kernel
theorem dM_star_7 : decode cM_star 7 = .ok (.iload_n 2, 1) := by decide +kernel
theorem dM_star_8 : decode cM_star 8 = .ok (.invokestatic 37, 3) := by decide +kernel
theorem dM_star_11 : decode cM_star 11 = .ok (.ifCond .eq 14, 3) := by decide +kernel
theorem dM_star_14 : decode cM_star 14 = .ok (.aload_n 0, 1) := by decide +kernel
theorem dM_star_15 : decode cM_star 15 = .ok (.iload_n 1, 1) := by decide +kernel
theorem dM_star_16 : decode cM_star 16 = .ok (.iload_n 2, 1) := by decide +kernel
theorem dM_star_17 : decode cM_star 17 = .ok (.iconst 0, 1) := by decide +kernel
theorem dM_star_18 : decode cM_star 18 = .ok (.iconst 0, 1) := by decide +kernel
theorem dM_star_19 : decode cM_star 19 = .ok (.invokevirtual 60, 3) := by decide +kernel
theorem dM_star_22 : decode cM_star 22 = .ok (.goto 6, 3) := by decide +kernel
theorem dM_star_25 : decode cM_star 25 = .ok (.ldc2_w 64, 3) := by decide +kernel
theorem dM_star_28 : decode cM_star 28 = .ok (.lreturn, 1) := by decide +kernel
theorem dM_between_0 : decode cM_between 0 = .ok (.iconst 0, 1) := by decide +kernel
theorem dM_between_1 : decode cM_between 1 = .ok (.istore 4, 2) := by decide +kernel
theorem dM_between_3 : decode cM_between 3 = .ok (.iconst 0, 1) := by decide +kernel
theorem dM_between_4 : decode cM_between 4 = .ok (.istore 5, 2) := by decide +kernel
theorem dM_between_6 : decode cM_between 6 = .ok (.iload 5, 2) := by decide +kernel
theorem dM_between_8 : decode cM_between 8 = .ok (.aload_n 0, 1) := by decide +kernel
theorem dM_between_9 : decode cM_between 9 = .ok (.getfield 29, 3) := by decide +kernel
theorem dM_between_12 : decode cM_between 12 = .ok (.if_icmp .ge 53, 3) := by decide +kernel
theorem dM_between_15 : decode cM_between 15 = .ok (.aload_n 0, 1) := by decide +kernel
theorem dM_between_16 : decode cM_between 16 = .ok (.getfield 13, 3) := by decide +kernel
theorem dM_between_19 : decode cM_between 19 = .ok (.iload 5, 2) := by decide +kernel
theorem dM_between_21 : decode cM_between 21 = .ok (.iaload, 1) := by decide +kernel
theorem dM_between_22 : decode cM_between 22 = .ok (.iload_n 1, 1) := by decide +kernel
theorem dM_between_23 : decode cM_between 23 = .ok (.if_icmp .ne 32, 3) := by decide +kernel
theorem dM_between_26 : decode cM_between 26 = .ok (.aload_n 0, 1) := by decide +kernel
theorem dM_between_27 : decode cM_between 27 = .ok (.getfield 16, 3) := by decide +kernel
theorem dM_between_30 : decode cM_between 30 = .ok (.iload 5, 2) := by decide +kernel
theorem dM_between_32 : decode cM_between 32 = .ok (.iaload, 1) := by decide +kernel
theorem dM_between_33 : decode cM_between 33 = .ok (.iload_n 2, 1) := by decide +kernel
theorem dM_between_34 : decode cM_between 34 = .ok (.if_icmp .lt 21, 3) := by decide +kernel
theorem dM_between_37 : decode cM_between 37 = .ok (.aload_n 0, 1) := by decide +kernel
theorem dM_between_38 : decode cM_between 38 = .ok (.getfield 16, 3) := by decide +kernel
theorem dM_between_41 : decode cM_between 41 = .ok (.iload 5, 2) := by decide +kernel
theorem dM_between_43 : decode cM_between 43 = .ok (.iaload, 1) := by decide +kernel
theorem dM_between_44 : decode cM_between 44 = .ok (.iload_n 3, 1) := by decide +kernel
theorem dM_between_45 : decode cM_between 45 = .ok (.if_icmp .gt 10, 3) := by decide +kernel
theorem dM_between_48 : decode cM_between 48 = .ok (.iload 4, 2) := by decide +kernel
theorem dM_between_50 : decode cM_between 50 = .ok (.iconst 1, 1) := by decide +kernel
theorem dM_between_51 : decode cM_between 51 = .ok (.iadd, 1) := by decide +kernel
theorem dM_between_52 : decode cM_between 52 = .ok (.goto 5, 3) := by decide +kernel
theorem dM_between_55 : decode cM_between 55 = .ok (.iload 4, 2) := by decide +kernel
theorem dM_between_57 : decode cM_between 57 = .ok (.istore 4, 2) := by decide +kernel
theorem dM_between_59 : decode cM_between 59 = .ok (.iinc 5 1, 3) := by decide +kernel
theorem dM_between_62 : decode cM_between 62 = .ok (.goto (-56), 3) := by decide +kernel
theorem dM_between_65 : decode cM_between 65 = .ok (.iload 4, 2) := by decide +kernel
theorem dM_between_67 : decode cM_between 67 = .ok (.ireturn, 1) := by decide +kernel
theorem dM_bucket_0 : decode cM_bucket 0 = .ok (.iload_n 1, 1) := by decide +kernel
theorem dM_bucket_1 : decode cM_bucket 1 = .ok (.invokestatic 37, 3) := by decide +kernel
theorem dM_bucket_4 : decode cM_bucket 4 = .ok (.ifCond .eq 13, 3) := by decide +kernel
theorem dM_bucket_7 : decode cM_bucket 7 = .ok (.aload_n 0, 1) := by decide +kernel
theorem dM_bucket_8 : decode cM_bucket 8 = .ok (.iload_n 1, 1) := by decide +kernel
theorem dM_bucket_9 : decode cM_bucket 9 = .ok (.iload_n 2, 1) := by decide +kernel
theorem dM_bucket_10 : decode cM_bucket 10 = .ok (.iload_n 3, 1) := by decide +kernel
theorem dM_bucket_11 : decode cM_bucket 11 = .ok (.invokevirtual 66, 3) := by decide +kernel
theorem dM_bucket_14 : decode cM_bucket 14 = .ok (.goto 4, 3) := by decide +kernel
theorem dM_bucket_17 : decode cM_bucket 17 = .ok (.iconst (-1), 1) := by decide +kernel
theorem dM_bucket_18 : decode cM_bucket 18 = .ok (.ireturn, 1) := by decide +kernel
theorem dM_quantile_0 : decode cM_quantile 0 = .ok (.iload_n 1, 1) := by decide +kernel
theorem dM_quantile_1 : decode cM_quantile 1 = .ok (.invokestatic 37, 3) := by decide +kernel
theorem dM_quantile_4 : decode cM_quantile 4 = .ok (.ifCond .eq 14, 3) := by decide +kernel
theorem dM_quantile_7 : decode cM_quantile 7 = .ok (.iload_n 2, 1) := by decide +kernel
theorem dM_quantile_8 : decode cM_quantile 8 = .ok (.iconst 1, 1) := by decide +kernel
theorem dM_quantile_9 : decode cM_quantile 9 = .ok (.if_icmp .lt 9, 3) := by decide +kernel
theorem dM_quantile_12 : decode cM_quantile 12 = .ok (.iload_n 2, 1) := by decide +kernel
theorem dM_quantile_13 : decode cM_quantile 13 = .ok (.bipush 8, 2) := by decide +kernel
theorem dM_quantile_15 : decode cM_quantile 15 = .ok (.if_icmp .le 5, 3) := by decide +kernel
theorem dM_quantile_18 : decode cM_quantile 18 = .ok (.iconst (-1), 1) := by decide +kernel
theorem dM_quantile_19 : decode cM_quantile 19 = .ok (.ireturn, 1) := by decide +kernel
theorem dM_quantile_20 : decode cM_quantile 20 = .ok (.aload_n 0, 1) := by decide +kernel
theorem dM_quantile_21 : decode cM_quantile 21 = .ok (.iload_n 1, 1) := by decide +kernel
theorem dM_quantile_22 : decode cM_quantile 22 = .ok (.invokevirtual 44, 3) := by decide +kernel
theorem dM_quantile_25 : decode cM_quantile 25 = .ok (.istore_n 3, 1) := by decide +kernel
theorem dM_quantile_26 : decode cM_quantile 26 = .ok (.iload_n 3, 1) := by decide +kernel
theorem dM_quantile_27 : decode cM_quantile 27 = .ok (.ifCond .ne 6, 3) := by decide +kernel
theorem dM_quantile_30 : decode cM_quantile 30 = .ok (.bipush (-2), 2) := by decide +kernel
theorem dM_quantile_32 : decode cM_quantile 32 = .ok (.ireturn, 1) := by decide +kernel
theorem dM_quantile_33 : decode cM_quantile 33 = .ok (.iconst 0, 1) := by decide +kernel
theorem dM_quantile_34 : decode cM_quantile 34 = .ok (.istore 4, 2) := by decide +kernel
theorem dM_quantile_36 : decode cM_quantile 36 = .ok (.bipush 8, 2) := by decide +kernel
theorem dM_quantile_38 : decode cM_quantile 38 = .ok (.aload_n 0, 1) := by decide +kernel
theorem dM_quantile_39 : decode cM_quantile 39 = .ok (.iload_n 1, 1) := by decide +kernel
theorem dM_quantile_40 : decode cM_quantile 40 = .ok (.iconst 0, 1) := by decide +kernel
theorem dM_quantile_41 : decode cM_quantile 41 = .ok (.iload 4, 2) := by decide +kernel
theorem dM_quantile_43 : decode cM_quantile 43 = .ok (.invokevirtual 66, 3) := by decide +kernel
theorem dM_quantile_46 : decode cM_quantile 46 = .ok (.imul, 1) := by decide +kernel
theorem dM_quantile_47 : decode cM_quantile 47 = .ok (.iload_n 2, 1) := by decide +kernel
theorem dM_quantile_48 : decode cM_quantile 48 = .ok (.iload_n 3, 1) := by decide +kernel
theorem dM_quantile_49 : decode cM_quantile 49 = .ok (.imul, 1) := by decide +kernel
theorem dM_quantile_50 : decode cM_quantile 50 = .ok (.if_icmp .ge 9, 3) := by decide +kernel
theorem dM_quantile_53 : decode cM_quantile 53 = .ok (.iinc 4 1, 3) := by decide +kernel
theorem dM_quantile_56 : decode cM_quantile 56 = .ok (.goto (-20), 3) := by decide +kernel
theorem dM_quantile_59 : decode cM_quantile 59 = .ok (.iload 4, 2) := by decide +kernel
theorem dM_quantile_61 : decode cM_quantile 61 = .ok (.ireturn, 1) := by decide +kernel
theorem dM_registerOf_0 : decode cM_registerOf 0 = .ok (.iconst 0, 1) := by decide +kernel
theorem dM_registerOf_1 : decode cM_registerOf 1 = .ok (.istore_n 3, 1) := by decide +kernel
theorem dM_registerOf_2 : decode cM_registerOf 2 = .ok (.iconst 0, 1) := by decide +kernel
theorem dM_registerOf_3 : decode cM_registerOf 3 = .ok (.istore 4, 2) := by decide +kernel
theorem dM_registerOf_5 : decode cM_registerOf 5 = .ok (.iload 4, 2) := by decide +kernel
theorem dM_registerOf_7 : decode cM_registerOf 7 = .ok (.aload_n 0, 1) := by decide +kernel
theorem dM_registerOf_8 : decode cM_registerOf 8 = .ok (.getfield 29, 3) := by decide +kernel
theorem dM_registerOf_11 : decode cM_registerOf 11 = .ok (.if_icmp .ge 86, 3) := by decide +kernel
theorem dM_registerOf_14 : decode cM_registerOf 14 = .ok (.aload_n 0, 1) := by decide +kernel
theorem dM_registerOf_15 : decode cM_registerOf 15 = .ok (.getfield 7, 3) := by decide +kernel
theorem dM_registerOf_18 : decode cM_registerOf 18 = .ok (.iload 4, 2) := by decide +kernel
theorem dM_registerOf_20 : decode cM_registerOf 20 = .ok (.iaload, 1) := by decide +kernel
theorem dM_registerOf_21 : decode cM_registerOf 21 = .ok (.invokestatic 54, 3) := by decide +kernel
theorem dM_registerOf_24 : decode cM_registerOf 24 = .ok (.istore 5, 2) := by decide +kernel
theorem dM_registerOf_26 : decode cM_registerOf 26 = .ok (.iload_n 1, 1) := by decide +kernel
theorem dM_registerOf_27 : decode cM_registerOf 27 = .ok (.aload_n 0, 1) := by decide +kernel
theorem dM_registerOf_28 : decode cM_registerOf 28 = .ok (.getfield 13, 3) := by decide +kernel
theorem dM_registerOf_31 : decode cM_registerOf 31 = .ok (.iload 4, 2) := by decide +kernel
theorem dM_registerOf_33 : decode cM_registerOf 33 = .ok (.iaload, 1) := by decide +kernel
theorem dM_registerOf_34 : decode cM_registerOf 34 = .ok (.ishr, 1) := by decide +kernel
theorem dM_registerOf_35 : decode cM_registerOf 35 = .ok (.iconst 1, 1) := by decide +kernel
theorem dM_registerOf_36 : decode cM_registerOf 36 = .ok (.iand, 1) := by decide +kernel
theorem dM_registerOf_37 : decode cM_registerOf 37 = .ok (.iconst 1, 1) := by decide +kernel
theorem dM_registerOf_38 : decode cM_registerOf 38 = .ok (.if_icmp .ne 53, 3) := by decide +kernel
theorem dM_registerOf_41 : decode cM_registerOf 41 = .ok (.iload 5, 2) := by decide +kernel
theorem dM_registerOf_43 : decode cM_registerOf 43 = .ok (.bipush 15, 2) := by decide +kernel
theorem dM_registerOf_45 : decode cM_registerOf 45 = .ok (.iand, 1) := by decide +kernel
theorem dM_registerOf_46 : decode cM_registerOf 46 = .ok (.iload_n 2, 1) := by decide +kernel
theorem dM_registerOf_47 : decode cM_registerOf 47 = .ok (.if_icmp .ne 44, 3) := by decide +kernel
theorem dM_registerOf_50 : decode cM_registerOf 50 = .ok (.iconst 1, 1) := by decide +kernel
theorem dM_registerOf_51 : decode cM_registerOf 51 = .ok (.istore 6, 2) := by decide +kernel
theorem dM_registerOf_53 : decode cM_registerOf 53 = .ok (.iload 6, 2) := by decide +kernel
theorem dM_registerOf_55 : decode cM_registerOf 55 = .ok (.bipush 29, 2) := by decide +kernel
theorem dM_registerOf_57 : decode cM_registerOf 57 = .ok (.if_icmp .ge 21, 3) := by decide +kernel
theorem dM_registerOf_60 : decode cM_registerOf 60 = .ok (.iload 5, 2) := by decide +kernel
theorem dM_registerOf_62 : decode cM_registerOf 62 = .ok (.iconst 3, 1) := by decide +kernel
theorem dM_registerOf_63 : decode cM_registerOf 63 = .ok (.iload 6, 2) := by decide +kernel
theorem dM_registerOf_65 : decode cM_registerOf 65 = .ok (.iadd, 1) := by decide +kernel
theorem dM_registerOf_66 : decode cM_registerOf 66 = .ok (.iushr, 1) := by decide +kernel
theorem dM_registerOf_67 : decode cM_registerOf 67 = .ok (.iconst 1, 1) := by decide +kernel
theorem dM_registerOf_68 : decode cM_registerOf 68 = .ok (.iand, 1) := by decide +kernel
theorem dM_registerOf_69 : decode cM_registerOf 69 = .ok (.ifCond .ne 9, 3) := by decide +kernel
theorem dM_registerOf_72 : decode cM_registerOf 72 = .ok (.iinc 6 1, 3) := by decide +kernel
theorem dM_registerOf_75 : decode cM_registerOf 75 = .ok (.goto (-22), 3) := by decide +kernel
theorem dM_registerOf_78 : decode cM_registerOf 78 = .ok (.iload 6, 2) := by decide +kernel
theorem dM_registerOf_80 : decode cM_registerOf 80 = .ok (.iload_n 3, 1) := by decide +kernel
theorem dM_registerOf_81 : decode cM_registerOf 81 = .ok (.if_icmp .le 8, 3) := by decide +kernel
theorem dM_registerOf_84 : decode cM_registerOf 84 = .ok (.iload 6, 2) := by decide +kernel
theorem dM_registerOf_86 : decode cM_registerOf 86 = .ok (.goto 4, 3) := by decide +kernel
theorem dM_registerOf_89 : decode cM_registerOf 89 = .ok (.iload_n 3, 1) := by decide +kernel
theorem dM_registerOf_90 : decode cM_registerOf 90 = .ok (.istore_n 3, 1) := by decide +kernel
theorem dM_registerOf_91 : decode cM_registerOf 91 = .ok (.iinc 4 1, 3) := by decide +kernel
theorem dM_registerOf_94 : decode cM_registerOf 94 = .ok (.goto (-89), 3) := by decide +kernel
theorem dM_registerOf_97 : decode cM_registerOf 97 = .ok (.iload_n 3, 1) := by decide +kernel
theorem dM_registerOf_98 : decode cM_registerOf 98 = .ok (.ireturn, 1) := by decide +kernel
theorem dM_areBits_0 : decode cM_areBits 0 = .ok (.iload_n 0, 1) := by decide +kernel
theorem dM_areBits_1 : decode cM_areBits 1 = .ok (.ifCond .lt 14, 3) := by decide +kernel
theorem dM_areBits_4 : decode cM_areBits 4 = .ok (.iload_n 0, 1) := by decide +kernel
theorem dM_areBits_5 : decode cM_areBits 5 = .ok (.sipush 256, 3) := by decide +kernel
theorem dM_areBits_8 : decode cM_areBits 8 = .ok (.if_icmp .ge 7, 3) := by decide +kernel
theorem dM_areBits_11 : decode cM_areBits 11 = .ok (.iconst 1, 1) := by decide +kernel
theorem dM_areBits_12 : decode cM_areBits 12 = .ok (.goto 4, 3) := by decide +kernel
theorem dM_areBits_15 : decode cM_areBits 15 = .ok (.iconst 0, 1) := by decide +kernel
theorem dM_areBits_16 : decode cM_areBits 16 = .ok (.ireturn, 1) := by decide +kernel
theorem dM_register_0 : decode cM_register 0 = .ok (.iload_n 1, 1) := by decide +kernel
theorem dM_register_1 : decode cM_register 1 = .ok (.invokestatic 69, 3) := by decide +kernel
theorem dM_register_4 : decode cM_register 4 = .ok (.ifCond .eq 13, 3) := by decide +kernel
theorem dM_register_7 : decode cM_register 7 = .ok (.iload_n 2, 1) := by decide +kernel
theorem dM_register_8 : decode cM_register 8 = .ok (.ifCond .lt 9, 3) := by decide +kernel
theorem dM_register_11 : decode cM_register 11 = .ok (.iload_n 2, 1) := by decide +kernel
theorem dM_register_12 : decode cM_register 12 = .ok (.bipush 15, 2) := by decide +kernel
theorem dM_register_14 : decode cM_register 14 = .ok (.if_icmp .le 7, 3) := by decide +kernel
theorem dM_register_17 : decode cM_register 17 = .ok (.iconst (-1), 1) := by decide +kernel
theorem dM_register_18 : decode cM_register 18 = .ok (.goto 9, 3) := by decide +kernel
theorem dM_register_21 : decode cM_register 21 = .ok (.aload_n 0, 1) := by decide +kernel
theorem dM_register_22 : decode cM_register 22 = .ok (.iload_n 1, 1) := by decide +kernel
theorem dM_register_23 : decode cM_register 23 = .ok (.iload_n 2, 1) := by decide +kernel
theorem dM_register_24 : decode cM_register 24 = .ok (.invokevirtual 72, 3) := by decide +kernel
theorem dM_register_27 : decode cM_register 27 = .ok (.ireturn, 1) := by decide +kernel
theorem dM_aboutFew_0 : decode cM_aboutFew 0 = .ok (.iload_n 0, 1) := by decide +kernel
theorem dM_aboutFew_1 : decode cM_aboutFew 1 = .ok (.tableswitch 115 1 15 #[75, 78, 81, 84, 87, 90, 93, 96, 99, 102, 105, 107, 109, 111, 113], 75) := by decide +kernel
theorem dM_aboutFew_76 : decode cM_aboutFew 76 = .ok (.bipush 44, 2) := by decide +kernel
theorem dM_aboutFew_78 : decode cM_aboutFew 78 = .ok (.ireturn, 1) := by decide +kernel
theorem dM_aboutFew_79 : decode cM_aboutFew 79 = .ok (.bipush 33, 2) := by decide +kernel
theorem dM_aboutFew_81 : decode cM_aboutFew 81 = .ok (.ireturn, 1) := by decide +kernel
theorem dM_aboutFew_82 : decode cM_aboutFew 82 = .ok (.bipush 26, 2) := by decide +kernel
theorem dM_aboutFew_84 : decode cM_aboutFew 84 = .ok (.ireturn, 1) := by decide +kernel
theorem dM_aboutFew_85 : decode cM_aboutFew 85 = .ok (.bipush 22, 2) := by decide +kernel
theorem dM_aboutFew_87 : decode cM_aboutFew 87 = .ok (.ireturn, 1) := by decide +kernel
theorem dM_aboutFew_88 : decode cM_aboutFew 88 = .ok (.bipush 18, 2) := by decide +kernel
theorem dM_aboutFew_90 : decode cM_aboutFew 90 = .ok (.ireturn, 1) := by decide +kernel
theorem dM_aboutFew_91 : decode cM_aboutFew 91 = .ok (.bipush 15, 2) := by decide +kernel
theorem dM_aboutFew_93 : decode cM_aboutFew 93 = .ok (.ireturn, 1) := by decide +kernel
theorem dM_aboutFew_94 : decode cM_aboutFew 94 = .ok (.bipush 13, 2) := by decide +kernel
theorem dM_aboutFew_96 : decode cM_aboutFew 96 = .ok (.ireturn, 1) := by decide +kernel
theorem dM_aboutFew_97 : decode cM_aboutFew 97 = .ok (.bipush 11, 2) := by decide +kernel
theorem dM_aboutFew_99 : decode cM_aboutFew 99 = .ok (.ireturn, 1) := by decide +kernel
theorem dM_aboutFew_100 : decode cM_aboutFew 100 = .ok (.bipush 9, 2) := by decide +kernel
theorem dM_aboutFew_102 : decode cM_aboutFew 102 = .ok (.ireturn, 1) := by decide +kernel
theorem dM_aboutFew_103 : decode cM_aboutFew 103 = .ok (.bipush 7, 2) := by decide +kernel
theorem dM_aboutFew_105 : decode cM_aboutFew 105 = .ok (.ireturn, 1) := by decide +kernel
theorem dM_aboutFew_106 : decode cM_aboutFew 106 = .ok (.iconst 5, 1) := by decide +kernel
theorem dM_aboutFew_107 : decode cM_aboutFew 107 = .ok (.ireturn, 1) := by decide +kernel
theorem dM_aboutFew_108 : decode cM_aboutFew 108 = .ok (.iconst 4, 1) := by decide +kernel
theorem dM_aboutFew_109 : decode cM_aboutFew 109 = .ok (.ireturn, 1) := by decide +kernel
theorem dM_aboutFew_110 : decode cM_aboutFew 110 = .ok (.iconst 3, 1) := by decide +kernel
theorem dM_aboutFew_111 : decode cM_aboutFew 111 = .ok (.ireturn, 1) := by decide +kernel
theorem dM_aboutFew_112 : decode cM_aboutFew 112 = .ok (.iconst 2, 1) := by decide +kernel
theorem dM_aboutFew_113 : decode cM_aboutFew 113 = .ok (.ireturn, 1) := by decide +kernel
theorem dM_aboutFew_114 : decode cM_aboutFew 114 = .ok (.iconst 1, 1) := by decide +kernel
theorem dM_aboutFew_115 : decode cM_aboutFew 115 = .ok (.ireturn, 1) := by decide +kernel
theorem dM_aboutFew_116 : decode cM_aboutFew 116 = .ok (.iconst 0, 1) := by decide +kernel
theorem dM_aboutFew_117 : decode cM_aboutFew 117 = .ok (.ireturn, 1) := by decide +kernel
theorem dM_distinct_0 : decode cM_distinct 0 = .ok (.iload_n 1, 1) := by decide +kernel
theorem dM_distinct_1 : decode cM_distinct 1 = .ok (.invokestatic 69, 3) := by decide +kernel
theorem dM_distinct_4 : decode cM_distinct 4 = .ok (.ifCond .eq 7, 3) := by decide +kernel
theorem dM_distinct_7 : decode cM_distinct 7 = .ok (.iload_n 2, 1) := by decide +kernel
theorem dM_distinct_8 : decode cM_distinct 8 = .ok (.ifCond .ge 7, 3) := by decide +kernel
theorem dM_distinct_11 : decode cM_distinct 11 = .ok (.ldc2_w 64, 3) := by decide +kernel
theorem dM_distinct_14 : decode cM_distinct 14 = .ok (.lreturn, 1) := by decide +kernel
theorem dM_distinct_15 : decode cM_distinct 15 = .ok (.aload_n 0, 1) := by decide +kernel
theorem dM_distinct_16 : decode cM_distinct 16 = .ok (.iload_n 1, 1) := by decide +kernel
theorem dM_distinct_17 : decode cM_distinct 17 = .ok (.iconst 1, 1) := by decide +kernel
theorem dM_distinct_18 : decode cM_distinct 18 = .ok (.invokevirtual 48, 3) := by decide +kernel
theorem dM_distinct_21 : decode cM_distinct 21 = .ok (.istore_n 3, 1) := by decide +kernel
theorem dM_distinct_22 : decode cM_distinct 22 = .ok (.iload_n 3, 1) := by decide +kernel
theorem dM_distinct_23 : decode cM_distinct 23 = .ok (.iload_n 2, 1) := by decide +kernel
theorem dM_distinct_24 : decode cM_distinct 24 = .ok (.if_icmp .gt 6, 3) := by decide +kernel
theorem dM_distinct_27 : decode cM_distinct 27 = .ok (.iload_n 3, 1) := by decide +kernel
theorem dM_distinct_28 : decode cM_distinct 28 = .ok (.i2l, 1) := by decide +kernel
theorem dM_distinct_29 : decode cM_distinct 29 = .ok (.lreturn, 1) := by decide +kernel
theorem dM_distinct_30 : decode cM_distinct 30 = .ok (.iconst 0, 1) := by decide +kernel
theorem dM_distinct_31 : decode cM_distinct 31 = .ok (.istore 4, 2) := by decide +kernel
theorem dM_distinct_33 : decode cM_distinct 33 = .ok (.lconst 0, 1) := by decide +kernel
theorem dM_distinct_34 : decode cM_distinct 34 = .ok (.lstore 5, 2) := by decide +kernel
theorem dM_distinct_36 : decode cM_distinct 36 = .ok (.iconst 0, 1) := by decide +kernel
theorem dM_distinct_37 : decode cM_distinct 37 = .ok (.istore 7, 2) := by decide +kernel
theorem dM_distinct_39 : decode cM_distinct 39 = .ok (.iload 7, 2) := by decide +kernel
theorem dM_distinct_41 : decode cM_distinct 41 = .ok (.bipush 16, 2) := by decide +kernel
theorem dM_distinct_43 : decode cM_distinct 43 = .ok (.if_icmp .ge 46, 3) := by decide +kernel
theorem dM_distinct_46 : decode cM_distinct 46 = .ok (.aload_n 0, 1) := by decide +kernel
theorem dM_distinct_47 : decode cM_distinct 47 = .ok (.iload_n 1, 1) := by decide +kernel
theorem dM_distinct_48 : decode cM_distinct 48 = .ok (.iload 7, 2) := by decide +kernel
theorem dM_distinct_50 : decode cM_distinct 50 = .ok (.invokevirtual 72, 3) := by decide +kernel
theorem dM_distinct_53 : decode cM_distinct 53 = .ok (.istore 8, 2) := by decide +kernel
theorem dM_distinct_55 : decode cM_distinct 55 = .ok (.iload 8, 2) := by decide +kernel
theorem dM_distinct_57 : decode cM_distinct 57 = .ok (.ifCond .ne 10, 3) := by decide +kernel
theorem dM_distinct_60 : decode cM_distinct 60 = .ok (.iload 4, 2) := by decide +kernel
theorem dM_distinct_62 : decode cM_distinct 62 = .ok (.iconst 1, 1) := by decide +kernel
theorem dM_distinct_63 : decode cM_distinct 63 = .ok (.iadd, 1) := by decide +kernel
theorem dM_distinct_64 : decode cM_distinct 64 = .ok (.goto 5, 3) := by decide +kernel
theorem dM_distinct_67 : decode cM_distinct 67 = .ok (.iload 4, 2) := by decide +kernel
theorem dM_distinct_69 : decode cM_distinct 69 = .ok (.istore 4, 2) := by decide +kernel
theorem dM_distinct_71 : decode cM_distinct 71 = .ok (.lload 5, 2) := by decide +kernel
theorem dM_distinct_73 : decode cM_distinct 73 = .ok (.lconst 1, 1) := by decide +kernel
theorem dM_distinct_74 : decode cM_distinct 74 = .ok (.bipush 30, 2) := by decide +kernel
theorem dM_distinct_76 : decode cM_distinct 76 = .ok (.iload 8, 2) := by decide +kernel
theorem dM_distinct_78 : decode cM_distinct 78 = .ok (.isub, 1) := by decide +kernel
theorem dM_distinct_79 : decode cM_distinct 79 = .ok (.lshl, 1) := by decide +kernel
theorem dM_distinct_80 : decode cM_distinct 80 = .ok (.ladd, 1) := by decide +kernel
theorem dM_distinct_81 : decode cM_distinct 81 = .ok (.lstore 5, 2) := by decide +kernel
theorem dM_distinct_83 : decode cM_distinct 83 = .ok (.iinc 7 1, 3) := by decide +kernel
theorem dM_distinct_86 : decode cM_distinct 86 = .ok (.goto (-47), 3) := by decide +kernel
theorem dM_distinct_89 : decode cM_distinct 89 = .ok (.iload 4, 2) := by decide +kernel
theorem dM_distinct_91 : decode cM_distinct 91 = .ok (.ifCond .le 12, 3) := by decide +kernel
theorem dM_distinct_94 : decode cM_distinct 94 = .ok (.iload 4, 2) := by decide +kernel
theorem dM_distinct_96 : decode cM_distinct 96 = .ok (.invokestatic 76, 3) := by decide +kernel
theorem dM_distinct_99 : decode cM_distinct 99 = .ok (.i2l, 1) := by decide +kernel
theorem dM_distinct_100 : decode cM_distinct 100 = .ok (.goto 13, 3) := by decide +kernel
theorem dM_distinct_103 : decode cM_distinct 103 = .ok (.ldc2_w 79, 3) := by decide +kernel
theorem dM_distinct_106 : decode cM_distinct 106 = .ok (.ldc2_w 81, 3) := by decide +kernel
theorem dM_distinct_109 : decode cM_distinct 109 = .ok (.lload 5, 2) := by decide +kernel
theorem dM_distinct_111 : decode cM_distinct 111 = .ok (.lmul, 1) := by decide +kernel
theorem dM_distinct_112 : decode cM_distinct 112 = .ok (.ldiv, 1) := by decide +kernel
theorem dM_distinct_113 : decode cM_distinct 113 = .ok (.lreturn, 1) := by decide +kernel
theorem dM_greatest_0 : decode cM_greatest 0 = .ok (.iload_n 0, 1) := by decide +kernel
theorem dM_greatest_1 : decode cM_greatest 1 = .ok (.iload_n 1, 1) := by decide +kernel
theorem dM_greatest_2 : decode cM_greatest 2 = .ok (.if_icmp .le 7, 3) := by decide +kernel
theorem dM_greatest_5 : decode cM_greatest 5 = .ok (.iload_n 0, 1) := by decide +kernel
theorem dM_greatest_6 : decode cM_greatest 6 = .ok (.goto 4, 3) := by decide +kernel
theorem dM_greatest_9 : decode cM_greatest 9 = .ok (.iload_n 1, 1) := by decide +kernel
theorem dM_greatest_10 : decode cM_greatest 10 = .ok (.istore_n 2, 1) := by decide +kernel
theorem dM_greatest_11 : decode cM_greatest 11 = .ok (.iload_n 2, 1) := by decide +kernel
theorem dM_greatest_12 : decode cM_greatest 12 = .ok (.iconst 1, 1) := by decide +kernel
theorem dM_greatest_13 : decode cM_greatest 13 = .ok (.if_icmp .le 7, 3) := by decide +kernel
theorem dM_greatest_16 : decode cM_greatest 16 = .ok (.iload_n 2, 1) := by decide +kernel
theorem dM_greatest_17 : decode cM_greatest 17 = .ok (.goto 4, 3) := by decide +kernel
theorem dM_greatest_20 : decode cM_greatest 20 = .ok (.iconst 1, 1) := by decide +kernel
theorem dM_greatest_21 : decode cM_greatest 21 = .ok (.ireturn, 1) := by decide +kernel
theorem dM_estimate_0 : decode cM_estimate 0 = .ok (.iload_n 1, 1) := by decide +kernel
theorem dM_estimate_1 : decode cM_estimate 1 = .ok (.ifCond .lt 27, 3) := by decide +kernel
theorem dM_estimate_4 : decode cM_estimate 4 = .ok (.iload_n 1, 1) := by decide +kernel
theorem dM_estimate_5 : decode cM_estimate 5 = .ok (.iconst 4, 1) := by decide +kernel
theorem dM_estimate_6 : decode cM_estimate 6 = .ok (.if_icmp .gt 22, 3) := by decide +kernel
theorem dM_estimate_9 : decode cM_estimate 9 = .ok (.iload_n 2, 1) := by decide +kernel
theorem dM_estimate_10 : decode cM_estimate 10 = .ok (.invokestatic 37, 3) := by decide +kernel
theorem dM_estimate_13 : decode cM_estimate 13 = .ok (.ifCond .eq 15, 3) := by decide +kernel
theorem dM_estimate_16 : decode cM_estimate 16 = .ok (.iload_n 1, 1) := by decide +kernel
theorem dM_estimate_17 : decode cM_estimate 17 = .ok (.iconst 3, 1) := by decide +kernel
theorem dM_estimate_18 : decode cM_estimate 18 = .ok (.if_icmp .eq 14, 3) := by decide +kernel
theorem dM_estimate_21 : decode cM_estimate 21 = .ok (.iload_n 3, 1) := by decide +kernel
theorem dM_estimate_22 : decode cM_estimate 22 = .ok (.invokestatic 37, 3) := by decide +kernel
theorem dM_estimate_25 : decode cM_estimate 25 = .ok (.ifCond .ne 7, 3) := by decide +kernel
theorem dM_estimate_28 : decode cM_estimate 28 = .ok (.ldc2_w 64, 3) := by decide +kernel
theorem dM_estimate_31 : decode cM_estimate 31 = .ok (.lreturn, 1) := by decide +kernel
theorem dM_estimate_32 : decode cM_estimate 32 = .ok (.iload_n 1, 1) := by decide +kernel
theorem dM_estimate_33 : decode cM_estimate 33 = .ok (.iconst 3, 1) := by decide +kernel
theorem dM_estimate_34 : decode cM_estimate 34 = .ok (.if_icmp .ne 12, 3) := by decide +kernel
theorem dM_estimate_37 : decode cM_estimate 37 = .ok (.aload_n 0, 1) := by decide +kernel
theorem dM_estimate_38 : decode cM_estimate 38 = .ok (.iload_n 2, 1) := by decide +kernel
theorem dM_estimate_39 : decode cM_estimate 39 = .ok (.invokevirtual 44, 3) := by decide +kernel
theorem dM_estimate_42 : decode cM_estimate 42 = .ok (.iconst 3, 1) := by decide +kernel
theorem dM_estimate_43 : decode cM_estimate 43 = .ok (.idiv, 1) := by decide +kernel
theorem dM_estimate_44 : decode cM_estimate 44 = .ok (.i2l, 1) := by decide +kernel
theorem dM_estimate_45 : decode cM_estimate 45 = .ok (.lreturn, 1) := by decide +kernel
theorem dM_estimate_46 : decode cM_estimate 46 = .ok (.iload_n 1, 1) := by decide +kernel
theorem dM_estimate_47 : decode cM_estimate 47 = .ok (.iconst 4, 1) := by decide +kernel
theorem dM_estimate_48 : decode cM_estimate 48 = .ok (.if_icmp .ne 16, 3) := by decide +kernel
theorem dM_estimate_51 : decode cM_estimate 51 = .ok (.ldc2_w 83, 3) := by decide +kernel
theorem dM_estimate_54 : decode cM_estimate 54 = .ok (.aload_n 0, 1) := by decide +kernel
theorem dM_estimate_55 : decode cM_estimate 55 = .ok (.iload_n 2, 1) := by decide +kernel
theorem dM_estimate_56 : decode cM_estimate 56 = .ok (.iload_n 3, 1) := by decide +kernel
theorem dM_estimate_57 : decode cM_estimate 57 = .ok (.iconst 1, 1) := by decide +kernel
theorem dM_estimate_58 : decode cM_estimate 58 = .ok (.iconst 1, 1) := by decide +kernel
theorem dM_estimate_59 : decode cM_estimate 59 = .ok (.invokevirtual 60, 3) := by decide +kernel
theorem dM_estimate_62 : decode cM_estimate 62 = .ok (.lmul, 1) := by decide +kernel
theorem dM_estimate_63 : decode cM_estimate 63 = .ok (.lreturn, 1) := by decide +kernel
theorem dM_estimate_64 : decode cM_estimate 64 = .ok (.aload_n 0, 1) := by decide +kernel
theorem dM_estimate_65 : decode cM_estimate 65 = .ok (.iload_n 2, 1) := by decide +kernel
theorem dM_estimate_66 : decode cM_estimate 66 = .ok (.invokevirtual 44, 3) := by decide +kernel
theorem dM_estimate_69 : decode cM_estimate 69 = .ok (.i2l, 1) := by decide +kernel
theorem dM_estimate_70 : decode cM_estimate 70 = .ok (.aload_n 0, 1) := by decide +kernel
theorem dM_estimate_71 : decode cM_estimate 71 = .ok (.iload_n 3, 1) := by decide +kernel
theorem dM_estimate_72 : decode cM_estimate 72 = .ok (.invokevirtual 44, 3) := by decide +kernel
theorem dM_estimate_75 : decode cM_estimate 75 = .ok (.i2l, 1) := by decide +kernel
theorem dM_estimate_76 : decode cM_estimate 76 = .ok (.lmul, 1) := by decide +kernel
theorem dM_estimate_77 : decode cM_estimate 77 = .ok (.lstore 4, 2) := by decide +kernel
theorem dM_estimate_79 : decode cM_estimate 79 = .ok (.lload 4, 2) := by decide +kernel
theorem dM_estimate_81 : decode cM_estimate 81 = .ok (.aload_n 0, 1) := by decide +kernel
theorem dM_estimate_82 : decode cM_estimate 82 = .ok (.iconst 1, 1) := by decide +kernel
theorem dM_estimate_83 : decode cM_estimate 83 = .ok (.iload_n 2, 1) := by decide +kernel
theorem dM_estimate_84 : decode cM_estimate 84 = .ok (.ishl, 1) := by decide +kernel
theorem dM_estimate_85 : decode cM_estimate 85 = .ok (.iconst 0, 1) := by decide +kernel
theorem dM_estimate_86 : decode cM_estimate 86 = .ok (.invokevirtual 48, 3) := by decide +kernel
theorem dM_estimate_89 : decode cM_estimate 89 = .ok (.aload_n 0, 1) := by decide +kernel
theorem dM_estimate_90 : decode cM_estimate 90 = .ok (.iconst 1, 1) := by decide +kernel
theorem dM_estimate_91 : decode cM_estimate 91 = .ok (.iload_n 3, 1) := by decide +kernel
theorem dM_estimate_92 : decode cM_estimate 92 = .ok (.ishl, 1) := by decide +kernel
theorem dM_estimate_93 : decode cM_estimate 93 = .ok (.iconst 1, 1) := by decide +kernel
theorem dM_estimate_94 : decode cM_estimate 94 = .ok (.invokevirtual 48, 3) := by decide +kernel
theorem dM_estimate_97 : decode cM_estimate 97 = .ok (.invokestatic 85, 3) := by decide +kernel
theorem dM_estimate_100 : decode cM_estimate 100 = .ok (.i2l, 1) := by decide +kernel
theorem dM_estimate_101 : decode cM_estimate 101 = .ok (.ldiv, 1) := by decide +kernel
theorem dM_estimate_102 : decode cM_estimate 102 = .ok (.lstore 6, 2) := by decide +kernel
theorem dM_estimate_104 : decode cM_estimate 104 = .ok (.lload 4, 2) := by decide +kernel
theorem dM_estimate_106 : decode cM_estimate 106 = .ok (.aload_n 0, 1) := by decide +kernel
theorem dM_estimate_107 : decode cM_estimate 107 = .ok (.iconst 1, 1) := by decide +kernel
theorem dM_estimate_108 : decode cM_estimate 108 = .ok (.iload_n 2, 1) := by decide +kernel
theorem dM_estimate_109 : decode cM_estimate 109 = .ok (.ishl, 1) := by decide +kernel
theorem dM_estimate_110 : decode cM_estimate 110 = .ok (.iconst 1, 1) := by decide +kernel
theorem dM_estimate_111 : decode cM_estimate 111 = .ok (.invokevirtual 48, 3) := by decide +kernel
theorem dM_estimate_114 : decode cM_estimate 114 = .ok (.aload_n 0, 1) := by decide +kernel
theorem dM_estimate_115 : decode cM_estimate 115 = .ok (.iconst 1, 1) := by decide +kernel
theorem dM_estimate_116 : decode cM_estimate 116 = .ok (.iload_n 3, 1) := by decide +kernel
theorem dM_estimate_117 : decode cM_estimate 117 = .ok (.ishl, 1) := by decide +kernel
theorem dM_estimate_118 : decode cM_estimate 118 = .ok (.iconst 1, 1) := by decide +kernel
theorem dM_estimate_119 : decode cM_estimate 119 = .ok (.invokevirtual 48, 3) := by decide +kernel
theorem dM_estimate_122 : decode cM_estimate 122 = .ok (.invokestatic 85, 3) := by decide +kernel
theorem dM_estimate_125 : decode cM_estimate 125 = .ok (.i2l, 1) := by decide +kernel
theorem dM_estimate_126 : decode cM_estimate 126 = .ok (.ldiv, 1) := by decide +kernel
theorem dM_estimate_127 : decode cM_estimate 127 = .ok (.lstore 8, 2) := by decide +kernel
theorem dM_estimate_129 : decode cM_estimate 129 = .ok (.iload_n 1, 1) := by decide +kernel
theorem dM_estimate_130 : decode cM_estimate 130 = .ok (.ifCond .ne 8, 3) := by decide +kernel
theorem dM_estimate_133 : decode cM_estimate 133 = .ok (.lload 6, 2) := by decide +kernel
theorem dM_estimate_135 : decode cM_estimate 135 = .ok (.goto 25, 3) := by decide +kernel
theorem dM_estimate_138 : decode cM_estimate 138 = .ok (.iload_n 1, 1) := by decide +kernel
theorem dM_estimate_139 : decode cM_estimate 139 = .ok (.iconst 1, 1) := by decide +kernel
theorem dM_estimate_140 : decode cM_estimate 140 = .ok (.if_icmp .ne 8, 3) := by decide +kernel
theorem dM_estimate_143 : decode cM_estimate 143 = .ok (.lload 8, 2) := by decide +kernel
theorem dM_estimate_145 : decode cM_estimate 145 = .ok (.goto 15, 3) := by decide +kernel
theorem dM_estimate_148 : decode cM_estimate 148 = .ok (.aload_n 0, 1) := by decide +kernel
theorem dM_estimate_149 : decode cM_estimate 149 = .ok (.iload_n 2, 1) := by decide +kernel
theorem dM_estimate_150 : decode cM_estimate 150 = .ok (.invokevirtual 44, 3) := by decide +kernel
theorem dM_estimate_153 : decode cM_estimate 153 = .ok (.aload_n 0, 1) := by decide +kernel
theorem dM_estimate_154 : decode cM_estimate 154 = .ok (.iload_n 3, 1) := by decide +kernel
theorem dM_estimate_155 : decode cM_estimate 155 = .ok (.invokevirtual 44, 3) := by decide +kernel
theorem dM_estimate_158 : decode cM_estimate 158 = .ok (.iadd, 1) := by decide +kernel
theorem dM_estimate_159 : decode cM_estimate 159 = .ok (.i2l, 1) := by decide +kernel
theorem dM_estimate_160 : decode cM_estimate 160 = .ok (.lreturn, 1) := by decide +kernel
theorem dM_range_0 : decode cM_range 0 = .ok (.iload_n 1, 1) := by decide +kernel
theorem dM_range_1 : decode cM_range 1 = .ok (.invokestatic 37, 3) := by decide +kernel
theorem dM_range_4 : decode cM_range 4 = .ok (.ifCond .ne 5, 3) := by decide +kernel
theorem dM_range_7 : decode cM_range 7 = .ok (.iconst (-1), 1) := by decide +kernel
theorem dM_range_8 : decode cM_range 8 = .ok (.ireturn, 1) := by decide +kernel
theorem dM_range_9 : decode cM_range 9 = .ok (.iconst 0, 1) := by decide +kernel
theorem dM_range_10 : decode cM_range 10 = .ok (.istore 4, 2) := by decide +kernel
theorem dM_range_12 : decode cM_range 12 = .ok (.iconst 0, 1) := by decide +kernel
theorem dM_range_13 : decode cM_range 13 = .ok (.istore 5, 2) := by decide +kernel
theorem dM_range_15 : decode cM_range 15 = .ok (.iload 5, 2) := by decide +kernel
theorem dM_range_17 : decode cM_range 17 = .ok (.bipush 8, 2) := by decide +kernel
theorem dM_range_19 : decode cM_range 19 = .ok (.if_icmp .ge 90, 3) := by decide +kernel
theorem dM_range_22 : decode cM_range 22 = .ok (.iconst 0, 1) := by decide +kernel
theorem dM_range_23 : decode cM_range 23 = .ok (.istore 6, 2) := by decide +kernel
theorem dM_range_25 : decode cM_range 25 = .ok (.bipush 32, 2) := by decide +kernel
theorem dM_range_27 : decode cM_range 27 = .ok (.iload 5, 2) := by decide +kernel
theorem dM_range_29 : decode cM_range 29 = .ok (.imul, 1) := by decide +kernel
theorem dM_range_30 : decode cM_range 30 = .ok (.istore 7, 2) := by decide +kernel
theorem dM_range_32 : decode cM_range 32 = .ok (.iload 7, 2) := by decide +kernel
theorem dM_range_34 : decode cM_range 34 = .ok (.bipush 32, 2) := by decide +kernel
theorem dM_range_36 : decode cM_range 36 = .ok (.iload 5, 2) := by decide +kernel
theorem dM_range_38 : decode cM_range 38 = .ok (.imul, 1) := by decide +kernel
theorem dM_range_39 : decode cM_range 39 = .ok (.bipush 32, 2) := by decide +kernel
theorem dM_range_41 : decode cM_range 41 = .ok (.iadd, 1) := by decide +kernel
theorem dM_range_42 : decode cM_range 42 = .ok (.if_icmp .ge 32, 3) := by decide +kernel
theorem dM_range_45 : decode cM_range 45 = .ok (.iload 7, 2) := by decide +kernel
theorem dM_range_47 : decode cM_range 47 = .ok (.iload_n 2, 1) := by decide +kernel
theorem dM_range_48 : decode cM_range 48 = .ok (.if_icmp .lt 16, 3) := by decide +kernel
theorem dM_range_51 : decode cM_range 51 = .ok (.iload 7, 2) := by decide +kernel
theorem dM_range_53 : decode cM_range 53 = .ok (.iload_n 3, 1) := by decide +kernel
theorem dM_range_54 : decode cM_range 54 = .ok (.if_icmp .gt 10, 3) := by decide +kernel
theorem dM_range_57 : decode cM_range 57 = .ok (.iload 6, 2) := by decide +kernel
theorem dM_range_59 : decode cM_range 59 = .ok (.iconst 1, 1) := by decide +kernel
theorem dM_range_60 : decode cM_range 60 = .ok (.iadd, 1) := by decide +kernel
theorem dM_range_61 : decode cM_range 61 = .ok (.goto 5, 3) := by decide +kernel
theorem dM_range_64 : decode cM_range 64 = .ok (.iload 6, 2) := by decide +kernel
theorem dM_range_66 : decode cM_range 66 = .ok (.istore 6, 2) := by decide +kernel
theorem dM_range_68 : decode cM_range 68 = .ok (.iinc 7 1, 3) := by decide +kernel
theorem dM_range_71 : decode cM_range 71 = .ok (.goto (-39), 3) := by decide +kernel
theorem dM_range_74 : decode cM_range 74 = .ok (.iload 4, 2) := by decide +kernel
theorem dM_range_76 : decode cM_range 76 = .ok (.aload_n 0, 1) := by decide +kernel
theorem dM_range_77 : decode cM_range 77 = .ok (.iload_n 1, 1) := by decide +kernel
theorem dM_range_78 : decode cM_range 78 = .ok (.bipush 32, 2) := by decide +kernel
theorem dM_range_80 : decode cM_range 80 = .ok (.iload 5, 2) := by decide +kernel
theorem dM_range_82 : decode cM_range 82 = .ok (.imul, 1) := by decide +kernel
theorem dM_range_83 : decode cM_range 83 = .ok (.bipush 32, 2) := by decide +kernel
theorem dM_range_85 : decode cM_range 85 = .ok (.iload 5, 2) := by decide +kernel
theorem dM_range_87 : decode cM_range 87 = .ok (.imul, 1) := by decide +kernel
theorem dM_range_88 : decode cM_range 88 = .ok (.bipush 31, 2) := by decide +kernel
theorem dM_range_90 : decode cM_range 90 = .ok (.iadd, 1) := by decide +kernel
theorem dM_range_91 : decode cM_range 91 = .ok (.invokevirtual 66, 3) := by decide +kernel
theorem dM_range_94 : decode cM_range 94 = .ok (.iload 6, 2) := by decide +kernel
theorem dM_range_96 : decode cM_range 96 = .ok (.imul, 1) := by decide +kernel
theorem dM_range_97 : decode cM_range 97 = .ok (.bipush 32, 2) := by decide +kernel
theorem dM_range_99 : decode cM_range 99 = .ok (.idiv, 1) := by decide +kernel
theorem dM_range_100 : decode cM_range 100 = .ok (.iadd, 1) := by decide +kernel
theorem dM_range_101 : decode cM_range 101 = .ok (.istore 4, 2) := by decide +kernel
theorem dM_range_103 : decode cM_range 103 = .ok (.iinc 5 1, 3) := by decide +kernel
theorem dM_range_106 : decode cM_range 106 = .ok (.goto (-91), 3) := by decide +kernel
theorem dM_range_109 : decode cM_range 109 = .ok (.iload 4, 2) := by decide +kernel
theorem dM_range_111 : decode cM_range 111 = .ok (.ireturn, 1) := by decide +kernel
theorem dM_sample_0 : decode cM_sample 0 = .ok (.iload_n 1, 1) := by decide +kernel
theorem dM_sample_1 : decode cM_sample 1 = .ok (.invokestatic 37, 3) := by decide +kernel
theorem dM_sample_4 : decode cM_sample 4 = .ok (.ifCond .ne 5, 3) := by decide +kernel
theorem dM_sample_7 : decode cM_sample 7 = .ok (.iconst (-1), 1) := by decide +kernel
theorem dM_sample_8 : decode cM_sample 8 = .ok (.ireturn, 1) := by decide +kernel
theorem dM_sample_9 : decode cM_sample 9 = .ok (.iconst (-1), 1) := by decide +kernel
theorem dM_sample_10 : decode cM_sample 10 = .ok (.istore_n 3, 1) := by decide +kernel
theorem dM_sample_11 : decode cM_sample 11 = .ok (.iconst 0, 1) := by decide +kernel
theorem dM_sample_12 : decode cM_sample 12 = .ok (.istore 4, 2) := by decide +kernel
theorem dM_sample_14 : decode cM_sample 14 = .ok (.iload 4, 2) := by decide +kernel
theorem dM_sample_16 : decode cM_sample 16 = .ok (.iload_n 2, 1) := by decide +kernel
theorem dM_sample_17 : decode cM_sample 17 = .ok (.if_icmp .gt 107, 3) := by decide +kernel
theorem dM_sample_20 : decode cM_sample 20 = .ok (.ldc 88, 2) := by decide +kernel
theorem dM_sample_22 : decode cM_sample 22 = .ok (.istore 5, 2) := by decide +kernel
theorem dM_sample_24 : decode cM_sample 24 = .ok (.iconst 0, 1) := by decide +kernel
theorem dM_sample_25 : decode cM_sample 25 = .ok (.istore 6, 2) := by decide +kernel
theorem dM_sample_27 : decode cM_sample 27 = .ok (.iload 6, 2) := by decide +kernel
theorem dM_sample_29 : decode cM_sample 29 = .ok (.aload_n 0, 1) := by decide +kernel
theorem dM_sample_30 : decode cM_sample 30 = .ok (.getfield 29, 3) := by decide +kernel
theorem dM_sample_33 : decode cM_sample 33 = .ok (.if_icmp .ge 72, 3) := by decide +kernel
theorem dM_sample_36 : decode cM_sample 36 = .ok (.sipush 256, 3) := by decide +kernel
theorem dM_sample_39 : decode cM_sample 39 = .ok (.aload_n 0, 1) := by decide +kernel
theorem dM_sample_40 : decode cM_sample 40 = .ok (.getfield 7, 3) := by decide +kernel
theorem dM_sample_43 : decode cM_sample 43 = .ok (.iload 6, 2) := by decide +kernel
theorem dM_sample_45 : decode cM_sample 45 = .ok (.iaload, 1) := by decide +kernel
theorem dM_sample_46 : decode cM_sample 46 = .ok (.imul, 1) := by decide +kernel
theorem dM_sample_47 : decode cM_sample 47 = .ok (.aload_n 0, 1) := by decide +kernel
theorem dM_sample_48 : decode cM_sample 48 = .ok (.getfield 16, 3) := by decide +kernel
theorem dM_sample_51 : decode cM_sample 51 = .ok (.iload 6, 2) := by decide +kernel
theorem dM_sample_53 : decode cM_sample 53 = .ok (.iaload, 1) := by decide +kernel
theorem dM_sample_54 : decode cM_sample 54 = .ok (.iadd, 1) := by decide +kernel
theorem dM_sample_55 : decode cM_sample 55 = .ok (.istore 7, 2) := by decide +kernel
theorem dM_sample_57 : decode cM_sample 57 = .ok (.aload_n 0, 1) := by decide +kernel
theorem dM_sample_58 : decode cM_sample 58 = .ok (.getfield 13, 3) := by decide +kernel
theorem dM_sample_61 : decode cM_sample 61 = .ok (.iload 6, 2) := by decide +kernel
theorem dM_sample_63 : decode cM_sample 63 = .ok (.iaload, 1) := by decide +kernel
theorem dM_sample_64 : decode cM_sample 64 = .ok (.iload_n 1, 1) := by decide +kernel
theorem dM_sample_65 : decode cM_sample 65 = .ok (.if_icmp .ne 30, 3) := by decide +kernel
theorem dM_sample_68 : decode cM_sample 68 = .ok (.aload_n 0, 1) := by decide +kernel
theorem dM_sample_69 : decode cM_sample 69 = .ok (.iload 6, 2) := by decide +kernel
theorem dM_sample_71 : decode cM_sample 71 = .ok (.invokevirtual 57, 3) := by decide +kernel
theorem dM_sample_74 : decode cM_sample 74 = .ok (.ifCond .eq 21, 3) := by decide +kernel
theorem dM_sample_77 : decode cM_sample 77 = .ok (.iload 7, 2) := by decide +kernel
theorem dM_sample_79 : decode cM_sample 79 = .ok (.iload_n 3, 1) := by decide +kernel
theorem dM_sample_80 : decode cM_sample 80 = .ok (.if_icmp .le 15, 3) := by decide +kernel
theorem dM_sample_83 : decode cM_sample 83 = .ok (.iload 7, 2) := by decide +kernel
theorem dM_sample_85 : decode cM_sample 85 = .ok (.iload 5, 2) := by decide +kernel
theorem dM_sample_87 : decode cM_sample 87 = .ok (.if_icmp .ge 8, 3) := by decide +kernel
theorem dM_sample_90 : decode cM_sample 90 = .ok (.iload 7, 2) := by decide +kernel
theorem dM_sample_92 : decode cM_sample 92 = .ok (.goto 5, 3) := by decide +kernel
theorem dM_sample_95 : decode cM_sample 95 = .ok (.iload 5, 2) := by decide +kernel
theorem dM_sample_97 : decode cM_sample 97 = .ok (.istore 5, 2) := by decide +kernel
theorem dM_sample_99 : decode cM_sample 99 = .ok (.iinc 6 1, 3) := by decide +kernel
theorem dM_sample_102 : decode cM_sample 102 = .ok (.goto (-75), 3) := by decide +kernel
theorem dM_sample_105 : decode cM_sample 105 = .ok (.iload 5, 2) := by decide +kernel
theorem dM_sample_107 : decode cM_sample 107 = .ok (.ldc 88, 2) := by decide +kernel
theorem dM_sample_109 : decode cM_sample 109 = .ok (.if_icmp .ne 6, 3) := by decide +kernel
theorem dM_sample_112 : decode cM_sample 112 = .ok (.bipush (-2), 2) := by decide +kernel
theorem dM_sample_114 : decode cM_sample 114 = .ok (.ireturn, 1) := by decide +kernel
theorem dM_sample_115 : decode cM_sample 115 = .ok (.iload 5, 2) := by decide +kernel
theorem dM_sample_117 : decode cM_sample 117 = .ok (.istore_n 3, 1) := by decide +kernel
theorem dM_sample_118 : decode cM_sample 118 = .ok (.iinc 4 1, 3) := by decide +kernel
theorem dM_sample_121 : decode cM_sample 121 = .ok (.goto (-107), 3) := by decide +kernel
theorem dM_sample_124 : decode cM_sample 124 = .ok (.iload_n 2, 1) := by decide +kernel
theorem dM_sample_125 : decode cM_sample 125 = .ok (.ifCond .ge 8, 3) := by decide +kernel
theorem dM_sample_128 : decode cM_sample 128 = .ok (.bipush (-2), 2) := by decide +kernel
theorem dM_sample_130 : decode cM_sample 130 = .ok (.goto 4, 3) := by decide +kernel
theorem dM_sample_133 : decode cM_sample 133 = .ok (.iload_n 3, 1) := by decide +kernel
theorem dM_sample_134 : decode cM_sample 134 = .ok (.ireturn, 1) := by decide +kernel
theorem dM_pattern_0 : decode cM_pattern 0 = .ok (.iload_n 1, 1) := by decide +kernel
theorem dM_pattern_1 : decode cM_pattern 1 = .ok (.iconst (-1), 1) := by decide +kernel
theorem dM_pattern_2 : decode cM_pattern 2 = .ok (.if_icmp .lt 33, 3) := by decide +kernel
theorem dM_pattern_5 : decode cM_pattern 5 = .ok (.iload_n 1, 1) := by decide +kernel
theorem dM_pattern_6 : decode cM_pattern 6 = .ok (.sipush 255, 3) := by decide +kernel
theorem dM_pattern_9 : decode cM_pattern 9 = .ok (.if_icmp .gt 26, 3) := by decide +kernel
theorem dM_pattern_12 : decode cM_pattern 12 = .ok (.iload_n 2, 1) := by decide +kernel
theorem dM_pattern_13 : decode cM_pattern 13 = .ok (.iconst (-1), 1) := by decide +kernel
theorem dM_pattern_14 : decode cM_pattern 14 = .ok (.if_icmp .lt 21, 3) := by decide +kernel
theorem dM_pattern_17 : decode cM_pattern 17 = .ok (.iload_n 2, 1) := by decide +kernel
theorem dM_pattern_18 : decode cM_pattern 18 = .ok (.bipush 7, 2) := by decide +kernel
theorem dM_pattern_20 : decode cM_pattern 20 = .ok (.if_icmp .gt 15, 3) := by decide +kernel
theorem dM_pattern_23 : decode cM_pattern 23 = .ok (.iload_n 3, 1) := by decide +kernel
theorem dM_pattern_24 : decode cM_pattern 24 = .ok (.iconst (-1), 1) := by decide +kernel
theorem dM_pattern_25 : decode cM_pattern 25 = .ok (.if_icmp .lt 10, 3) := by decide +kernel
theorem dM_pattern_28 : decode cM_pattern 28 = .ok (.iload_n 3, 1) := by decide +kernel
theorem dM_pattern_29 : decode cM_pattern 29 = .ok (.sipush 255, 3) := by decide +kernel
theorem dM_pattern_32 : decode cM_pattern 32 = .ok (.if_icmp .le 5, 3) := by decide +kernel
theorem dM_pattern_35 : decode cM_pattern 35 = .ok (.iconst (-1), 1) := by decide +kernel
theorem dM_pattern_36 : decode cM_pattern 36 = .ok (.ireturn, 1) := by decide +kernel
theorem dM_pattern_37 : decode cM_pattern 37 = .ok (.iconst 0, 1) := by decide +kernel
theorem dM_pattern_38 : decode cM_pattern 38 = .ok (.istore 4, 2) := by decide +kernel
theorem dM_pattern_40 : decode cM_pattern 40 = .ok (.iload 4, 2) := by decide +kernel
theorem dM_pattern_42 : decode cM_pattern 42 = .ok (.aload_n 0, 1) := by decide +kernel
theorem dM_pattern_43 : decode cM_pattern 43 = .ok (.getfield 89, 3) := by decide +kernel
theorem dM_pattern_46 : decode cM_pattern 46 = .ok (.if_icmp .ge 55, 3) := by decide +kernel
theorem dM_pattern_49 : decode cM_pattern 49 = .ok (.aload_n 0, 1) := by decide +kernel
theorem dM_pattern_50 : decode cM_pattern 50 = .ok (.getfield 19, 3) := by decide +kernel
theorem dM_pattern_53 : decode cM_pattern 53 = .ok (.iconst 3, 1) := by decide +kernel
theorem dM_pattern_54 : decode cM_pattern 54 = .ok (.iload 4, 2) := by decide +kernel
theorem dM_pattern_56 : decode cM_pattern 56 = .ok (.imul, 1) := by decide +kernel
theorem dM_pattern_57 : decode cM_pattern 57 = .ok (.iaload, 1) := by decide +kernel
theorem dM_pattern_58 : decode cM_pattern 58 = .ok (.iload_n 1, 1) := by decide +kernel
theorem dM_pattern_59 : decode cM_pattern 59 = .ok (.if_icmp .ne 36, 3) := by decide +kernel
theorem dM_pattern_62 : decode cM_pattern 62 = .ok (.aload_n 0, 1) := by decide +kernel
theorem dM_pattern_63 : decode cM_pattern 63 = .ok (.getfield 19, 3) := by decide +kernel
theorem dM_pattern_66 : decode cM_pattern 66 = .ok (.iconst 3, 1) := by decide +kernel
theorem dM_pattern_67 : decode cM_pattern 67 = .ok (.iload 4, 2) := by decide +kernel
theorem dM_pattern_69 : decode cM_pattern 69 = .ok (.imul, 1) := by decide +kernel
theorem dM_pattern_70 : decode cM_pattern 70 = .ok (.iconst 1, 1) := by decide +kernel
theorem dM_pattern_71 : decode cM_pattern 71 = .ok (.iadd, 1) := by decide +kernel
theorem dM_pattern_72 : decode cM_pattern 72 = .ok (.iaload, 1) := by decide +kernel
theorem dM_pattern_73 : decode cM_pattern 73 = .ok (.iload_n 2, 1) := by decide +kernel
theorem dM_pattern_74 : decode cM_pattern 74 = .ok (.if_icmp .ne 21, 3) := by decide +kernel
theorem dM_pattern_77 : decode cM_pattern 77 = .ok (.aload_n 0, 1) := by decide +kernel
theorem dM_pattern_78 : decode cM_pattern 78 = .ok (.getfield 19, 3) := by decide +kernel
theorem dM_pattern_81 : decode cM_pattern 81 = .ok (.iconst 3, 1) := by decide +kernel
theorem dM_pattern_82 : decode cM_pattern 82 = .ok (.iload 4, 2) := by decide +kernel
theorem dM_pattern_84 : decode cM_pattern 84 = .ok (.imul, 1) := by decide +kernel
theorem dM_pattern_85 : decode cM_pattern 85 = .ok (.iconst 2, 1) := by decide +kernel
theorem dM_pattern_86 : decode cM_pattern 86 = .ok (.iadd, 1) := by decide +kernel
theorem dM_pattern_87 : decode cM_pattern 87 = .ok (.iaload, 1) := by decide +kernel
theorem dM_pattern_88 : decode cM_pattern 88 = .ok (.iload_n 3, 1) := by decide +kernel
theorem dM_pattern_89 : decode cM_pattern 89 = .ok (.if_icmp .ne 6, 3) := by decide +kernel
theorem dM_pattern_92 : decode cM_pattern 92 = .ok (.iload 4, 2) := by decide +kernel
theorem dM_pattern_94 : decode cM_pattern 94 = .ok (.ireturn, 1) := by decide +kernel
theorem dM_pattern_95 : decode cM_pattern 95 = .ok (.iinc 4 1, 3) := by decide +kernel
theorem dM_pattern_98 : decode cM_pattern 98 = .ok (.goto (-58), 3) := by decide +kernel
theorem dM_pattern_101 : decode cM_pattern 101 = .ok (.aload_n 0, 1) := by decide +kernel
theorem dM_pattern_102 : decode cM_pattern 102 = .ok (.getfield 89, 3) := by decide +kernel
theorem dM_pattern_105 : decode cM_pattern 105 = .ok (.bipush 30, 2) := by decide +kernel
theorem dM_pattern_107 : decode cM_pattern 107 = .ok (.if_icmp .ne 6, 3) := by decide +kernel
theorem dM_pattern_110 : decode cM_pattern 110 = .ok (.bipush (-3), 2) := by decide +kernel
theorem dM_pattern_112 : decode cM_pattern 112 = .ok (.ireturn, 1) := by decide +kernel
theorem dM_pattern_113 : decode cM_pattern 113 = .ok (.aload_n 0, 1) := by decide +kernel
theorem dM_pattern_114 : decode cM_pattern 114 = .ok (.getfield 19, 3) := by decide +kernel
theorem dM_pattern_117 : decode cM_pattern 117 = .ok (.iconst 3, 1) := by decide +kernel
theorem dM_pattern_118 : decode cM_pattern 118 = .ok (.aload_n 0, 1) := by decide +kernel
theorem dM_pattern_119 : decode cM_pattern 119 = .ok (.getfield 89, 3) := by decide +kernel
theorem dM_pattern_122 : decode cM_pattern 122 = .ok (.imul, 1) := by decide +kernel
theorem dM_pattern_123 : decode cM_pattern 123 = .ok (.iload_n 1, 1) := by decide +kernel
theorem dM_pattern_124 : decode cM_pattern 124 = .ok (.iastore, 1) := by decide +kernel
theorem dM_pattern_125 : decode cM_pattern 125 = .ok (.aload_n 0, 1) := by decide +kernel
theorem dM_pattern_126 : decode cM_pattern 126 = .ok (.getfield 19, 3) := by decide +kernel
theorem dM_pattern_129 : decode cM_pattern 129 = .ok (.iconst 3, 1) := by decide +kernel
theorem dM_pattern_130 : decode cM_pattern 130 = .ok (.aload_n 0, 1) := by decide +kernel
theorem dM_pattern_131 : decode cM_pattern 131 = .ok (.getfield 89, 3) := by decide +kernel
theorem dM_pattern_134 : decode cM_pattern 134 = .ok (.imul, 1) := by decide +kernel
theorem dM_pattern_135 : decode cM_pattern 135 = .ok (.iconst 1, 1) := by decide +kernel
theorem dM_pattern_136 : decode cM_pattern 136 = .ok (.iadd, 1) := by decide +kernel
theorem dM_pattern_137 : decode cM_pattern 137 = .ok (.iload_n 2, 1) := by decide +kernel
theorem dM_pattern_138 : decode cM_pattern 138 = .ok (.iastore, 1) := by decide +kernel
theorem dM_pattern_139 : decode cM_pattern 139 = .ok (.aload_n 0, 1) := by decide +kernel
theorem dM_pattern_140 : decode cM_pattern 140 = .ok (.getfield 19, 3) := by decide +kernel
theorem dM_pattern_143 : decode cM_pattern 143 = .ok (.iconst 3, 1) := by decide +kernel
theorem dM_pattern_144 : decode cM_pattern 144 = .ok (.aload_n 0, 1) := by decide +kernel
theorem dM_pattern_145 : decode cM_pattern 145 = .ok (.getfield 89, 3) := by decide +kernel
theorem dM_pattern_148 : decode cM_pattern 148 = .ok (.imul, 1) := by decide +kernel
theorem dM_pattern_149 : decode cM_pattern 149 = .ok (.iconst 2, 1) := by decide +kernel
theorem dM_pattern_150 : decode cM_pattern 150 = .ok (.iadd, 1) := by decide +kernel
theorem dM_pattern_151 : decode cM_pattern 151 = .ok (.iload_n 3, 1) := by decide +kernel
theorem dM_pattern_152 : decode cM_pattern 152 = .ok (.iastore, 1) := by decide +kernel
theorem dM_pattern_153 : decode cM_pattern 153 = .ok (.aload_n 0, 1) := by decide +kernel
theorem dM_pattern_154 : decode cM_pattern 154 = .ok (.dup, 1) := by decide +kernel
theorem dM_pattern_155 : decode cM_pattern 155 = .ok (.getfield 89, 3) := by decide +kernel
theorem dM_pattern_158 : decode cM_pattern 158 = .ok (.iconst 1, 1) := by decide +kernel
theorem dM_pattern_159 : decode cM_pattern 159 = .ok (.iadd, 1) := by decide +kernel
theorem dM_pattern_160 : decode cM_pattern 160 = .ok (.putfield 89, 3) := by decide +kernel
theorem dM_pattern_163 : decode cM_pattern 163 = .ok (.aload_n 0, 1) := by decide +kernel
theorem dM_pattern_164 : decode cM_pattern 164 = .ok (.getfield 89, 3) := by decide +kernel
theorem dM_pattern_167 : decode cM_pattern 167 = .ok (.iconst 1, 1) := by decide +kernel
theorem dM_pattern_168 : decode cM_pattern 168 = .ok (.isub, 1) := by decide +kernel
theorem dM_pattern_169 : decode cM_pattern 169 = .ok (.ireturn, 1) := by decide +kernel
theorem dM_fits_0 : decode cM_fits 0 = .ok (.iload_n 0, 1) := by decide +kernel
theorem dM_fits_1 : decode cM_fits 1 = .ok (.ifCond .lt 8, 3) := by decide +kernel
theorem dM_fits_4 : decode cM_fits 4 = .ok (.iload_n 0, 1) := by decide +kernel
theorem dM_fits_5 : decode cM_fits 5 = .ok (.iload_n 1, 1) := by decide +kernel
theorem dM_fits_6 : decode cM_fits 6 = .ok (.if_icmp .ne 7, 3) := by decide +kernel
theorem dM_fits_9 : decode cM_fits 9 = .ok (.iconst 1, 1) := by decide +kernel
theorem dM_fits_10 : decode cM_fits 10 = .ok (.goto 4, 3) := by decide +kernel
theorem dM_fits_13 : decode cM_fits 13 = .ok (.iconst 0, 1) := by decide +kernel
theorem dM_fits_14 : decode cM_fits 14 = .ok (.ireturn, 1) := by decide +kernel
theorem dM_matches_0 : decode cM_matches 0 = .ok (.iload_n 1, 1) := by decide +kernel
theorem dM_matches_1 : decode cM_matches 1 = .ok (.ifCond .lt 11, 3) := by decide +kernel
theorem dM_matches_4 : decode cM_matches 4 = .ok (.iload_n 1, 1) := by decide +kernel
theorem dM_matches_5 : decode cM_matches 5 = .ok (.aload_n 0, 1) := by decide +kernel
theorem dM_matches_6 : decode cM_matches 6 = .ok (.getfield 89, 3) := by decide +kernel
theorem dM_matches_9 : decode cM_matches 9 = .ok (.if_icmp .lt 5, 3) := by decide +kernel
theorem dM_matches_12 : decode cM_matches 12 = .ok (.iconst (-1), 1) := by decide +kernel
theorem dM_matches_13 : decode cM_matches 13 = .ok (.ireturn, 1) := by decide +kernel
theorem dM_matches_14 : decode cM_matches 14 = .ok (.iconst 0, 1) := by decide +kernel
theorem dM_matches_15 : decode cM_matches 15 = .ok (.istore_n 2, 1) := by decide +kernel
theorem dM_matches_16 : decode cM_matches 16 = .ok (.iconst 0, 1) := by decide +kernel
theorem dM_matches_17 : decode cM_matches 17 = .ok (.istore_n 3, 1) := by decide +kernel
theorem dM_matches_18 : decode cM_matches 18 = .ok (.iload_n 3, 1) := by decide +kernel
theorem dM_matches_19 : decode cM_matches 19 = .ok (.aload_n 0, 1) := by decide +kernel
theorem dM_matches_20 : decode cM_matches 20 = .ok (.getfield 29, 3) := by decide +kernel
theorem dM_matches_23 : decode cM_matches 23 = .ok (.if_icmp .ge 81, 3) := by decide +kernel
theorem dM_matches_26 : decode cM_matches 26 = .ok (.aload_n 0, 1) := by decide +kernel
theorem dM_matches_27 : decode cM_matches 27 = .ok (.getfield 19, 3) := by decide +kernel
theorem dM_matches_30 : decode cM_matches 30 = .ok (.iconst 3, 1) := by decide +kernel
theorem dM_matches_31 : decode cM_matches 31 = .ok (.iload_n 1, 1) := by decide +kernel
theorem dM_matches_32 : decode cM_matches 32 = .ok (.imul, 1) := by decide +kernel
theorem dM_matches_33 : decode cM_matches 33 = .ok (.iaload, 1) := by decide +kernel
theorem dM_matches_34 : decode cM_matches 34 = .ok (.aload_n 0, 1) := by decide +kernel
theorem dM_matches_35 : decode cM_matches 35 = .ok (.getfield 7, 3) := by decide +kernel
theorem dM_matches_38 : decode cM_matches 38 = .ok (.iload_n 3, 1) := by decide +kernel
theorem dM_matches_39 : decode cM_matches 39 = .ok (.iaload, 1) := by decide +kernel
theorem dM_matches_40 : decode cM_matches 40 = .ok (.invokestatic 92, 3) := by decide +kernel
theorem dM_matches_43 : decode cM_matches 43 = .ok (.ifCond .eq 53, 3) := by decide +kernel
theorem dM_matches_46 : decode cM_matches 46 = .ok (.aload_n 0, 1) := by decide +kernel
theorem dM_matches_47 : decode cM_matches 47 = .ok (.getfield 19, 3) := by decide +kernel
theorem dM_matches_50 : decode cM_matches 50 = .ok (.iconst 3, 1) := by decide +kernel
theorem dM_matches_51 : decode cM_matches 51 = .ok (.iload_n 1, 1) := by decide +kernel
theorem dM_matches_52 : decode cM_matches 52 = .ok (.imul, 1) := by decide +kernel
theorem dM_matches_53 : decode cM_matches 53 = .ok (.iconst 1, 1) := by decide +kernel
theorem dM_matches_54 : decode cM_matches 54 = .ok (.iadd, 1) := by decide +kernel
theorem dM_matches_55 : decode cM_matches 55 = .ok (.iaload, 1) := by decide +kernel
theorem dM_matches_56 : decode cM_matches 56 = .ok (.aload_n 0, 1) := by decide +kernel
theorem dM_matches_57 : decode cM_matches 57 = .ok (.getfield 13, 3) := by decide +kernel
theorem dM_matches_60 : decode cM_matches 60 = .ok (.iload_n 3, 1) := by decide +kernel
theorem dM_matches_61 : decode cM_matches 61 = .ok (.iaload, 1) := by decide +kernel
theorem dM_matches_62 : decode cM_matches 62 = .ok (.invokestatic 92, 3) := by decide +kernel
theorem dM_matches_65 : decode cM_matches 65 = .ok (.ifCond .eq 31, 3) := by decide +kernel
theorem dM_matches_68 : decode cM_matches 68 = .ok (.aload_n 0, 1) := by decide +kernel
theorem dM_matches_69 : decode cM_matches 69 = .ok (.getfield 19, 3) := by decide +kernel
theorem dM_matches_72 : decode cM_matches 72 = .ok (.iconst 3, 1) := by decide +kernel
theorem dM_matches_73 : decode cM_matches 73 = .ok (.iload_n 1, 1) := by decide +kernel
theorem dM_matches_74 : decode cM_matches 74 = .ok (.imul, 1) := by decide +kernel
theorem dM_matches_75 : decode cM_matches 75 = .ok (.iconst 2, 1) := by decide +kernel
theorem dM_matches_76 : decode cM_matches 76 = .ok (.iadd, 1) := by decide +kernel
theorem dM_matches_77 : decode cM_matches 77 = .ok (.iaload, 1) := by decide +kernel
theorem dM_matches_78 : decode cM_matches 78 = .ok (.aload_n 0, 1) := by decide +kernel
theorem dM_matches_79 : decode cM_matches 79 = .ok (.getfield 16, 3) := by decide +kernel
theorem dM_matches_82 : decode cM_matches 82 = .ok (.iload_n 3, 1) := by decide +kernel
theorem dM_matches_83 : decode cM_matches 83 = .ok (.iaload, 1) := by decide +kernel
theorem dM_matches_84 : decode cM_matches 84 = .ok (.invokestatic 92, 3) := by decide +kernel
theorem dM_matches_87 : decode cM_matches 87 = .ok (.ifCond .eq 9, 3) := by decide +kernel
theorem dM_matches_90 : decode cM_matches 90 = .ok (.iload_n 2, 1) := by decide +kernel
theorem dM_matches_91 : decode cM_matches 91 = .ok (.iconst 1, 1) := by decide +kernel
theorem dM_matches_92 : decode cM_matches 92 = .ok (.iadd, 1) := by decide +kernel
theorem dM_matches_93 : decode cM_matches 93 = .ok (.goto 4, 3) := by decide +kernel
theorem dM_matches_96 : decode cM_matches 96 = .ok (.iload_n 2, 1) := by decide +kernel
theorem dM_matches_97 : decode cM_matches 97 = .ok (.istore_n 2, 1) := by decide +kernel
theorem dM_matches_98 : decode cM_matches 98 = .ok (.iinc 3 1, 3) := by decide +kernel
theorem dM_matches_101 : decode cM_matches 101 = .ok (.goto (-83), 3) := by decide +kernel
theorem dM_matches_104 : decode cM_matches 104 = .ok (.iload_n 2, 1) := by decide +kernel
theorem dM_matches_105 : decode cM_matches 105 = .ok (.ireturn, 1) := by decide +kernel
theorem dM_version_0 : decode cM_version 0 = .ok (.aload_n 0, 1) := by decide +kernel
theorem dM_version_1 : decode cM_version 1 = .ok (.getfield 96, 3) := by decide +kernel
theorem dM_version_4 : decode cM_version 4 = .ok (.aload_n 0, 1) := by decide +kernel
theorem dM_version_5 : decode cM_version 5 = .ok (.getfield 99, 3) := by decide +kernel
theorem dM_version_8 : decode cM_version 8 = .ok (.isub, 1) := by decide +kernel
theorem dM_version_9 : decode cM_version 9 = .ok (.bipush 40, 2) := by decide +kernel
theorem dM_version_11 : decode cM_version 11 = .ok (.if_icmp .ne 6, 3) := by decide +kernel
theorem dM_version_14 : decode cM_version 14 = .ok (.bipush (-3), 2) := by decide +kernel
theorem dM_version_16 : decode cM_version 16 = .ok (.ireturn, 1) := by decide +kernel
theorem dM_version_17 : decode cM_version 17 = .ok (.iconst 0, 1) := by decide +kernel
theorem dM_version_18 : decode cM_version 18 = .ok (.istore_n 1, 1) := by decide +kernel
theorem dM_version_19 : decode cM_version 19 = .ok (.iload_n 1, 1) := by decide +kernel
theorem dM_version_20 : decode cM_version 20 = .ok (.bipush 8, 2) := by decide +kernel
theorem dM_version_22 : decode cM_version 22 = .ok (.if_icmp .ge 31, 3) := by decide +kernel
theorem dM_version_25 : decode cM_version 25 = .ok (.aload_n 0, 1) := by decide +kernel
theorem dM_version_26 : decode cM_version 26 = .ok (.getfield 22, 3) := by decide +kernel
theorem dM_version_29 : decode cM_version 29 = .ok (.bipush 8, 2) := by decide +kernel
theorem dM_version_31 : decode cM_version 31 = .ok (.aload_n 0, 1) := by decide +kernel
theorem dM_version_32 : decode cM_version 32 = .ok (.getfield 96, 3) := by decide +kernel
theorem dM_version_35 : decode cM_version 35 = .ok (.bipush 40, 2) := by decide +kernel
theorem dM_version_37 : decode cM_version 37 = .ok (.irem, 1) := by decide +kernel
theorem dM_version_38 : decode cM_version 38 = .ok (.imul, 1) := by decide +kernel
theorem dM_version_39 : decode cM_version 39 = .ok (.iload_n 1, 1) := by decide +kernel
theorem dM_version_40 : decode cM_version 40 = .ok (.iadd, 1) := by decide +kernel
theorem dM_version_41 : decode cM_version 41 = .ok (.aload_n 0, 1) := by decide +kernel
theorem dM_version_42 : decode cM_version 42 = .ok (.iload_n 1, 1) := by decide +kernel
theorem dM_version_43 : decode cM_version 43 = .ok (.invokevirtual 44, 3) := by decide +kernel
theorem dM_version_46 : decode cM_version 46 = .ok (.iastore, 1) := by decide +kernel
theorem dM_version_47 : decode cM_version 47 = .ok (.iinc 1 1, 3) := by decide +kernel
theorem dM_version_50 : decode cM_version 50 = .ok (.goto (-31), 3) := by decide +kernel
theorem dM_version_53 : decode cM_version 53 = .ok (.aload_n 0, 1) := by decide +kernel
theorem dM_version_54 : decode cM_version 54 = .ok (.dup, 1) := by decide +kernel
theorem dM_version_55 : decode cM_version 55 = .ok (.getfield 96, 3) := by decide +kernel
theorem dM_version_58 : decode cM_version 58 = .ok (.iconst 1, 1) := by decide +kernel
theorem dM_version_59 : decode cM_version 59 = .ok (.iadd, 1) := by decide +kernel
theorem dM_version_60 : decode cM_version 60 = .ok (.putfield 96, 3) := by decide +kernel
theorem dM_version_63 : decode cM_version 63 = .ok (.aload_n 0, 1) := by decide +kernel
theorem dM_version_64 : decode cM_version 64 = .ok (.getfield 96, 3) := by decide +kernel
theorem dM_version_67 : decode cM_version 67 = .ok (.iconst 1, 1) := by decide +kernel
theorem dM_version_68 : decode cM_version 68 = .ok (.isub, 1) := by decide +kernel
theorem dM_version_69 : decode cM_version 69 = .ok (.ireturn, 1) := by decide +kernel
theorem dM_countAt_0 : decode cM_countAt 0 = .ok (.iload_n 1, 1) := by decide +kernel
theorem dM_countAt_1 : decode cM_countAt 1 = .ok (.invokestatic 37, 3) := by decide +kernel
theorem dM_countAt_4 : decode cM_countAt 4 = .ok (.ifCond .eq 15, 3) := by decide +kernel
theorem dM_countAt_7 : decode cM_countAt 7 = .ok (.iload_n 2, 1) := by decide +kernel
theorem dM_countAt_8 : decode cM_countAt 8 = .ok (.ifCond .lt 11, 3) := by decide +kernel
theorem dM_countAt_11 : decode cM_countAt 11 = .ok (.iload_n 2, 1) := by decide +kernel
theorem dM_countAt_12 : decode cM_countAt 12 = .ok (.aload_n 0, 1) := by decide +kernel
theorem dM_countAt_13 : decode cM_countAt 13 = .ok (.getfield 96, 3) := by decide +kernel
theorem dM_countAt_16 : decode cM_countAt 16 = .ok (.if_icmp .lt 5, 3) := by decide +kernel
theorem dM_countAt_19 : decode cM_countAt 19 = .ok (.iconst (-1), 1) := by decide +kernel
theorem dM_countAt_20 : decode cM_countAt 20 = .ok (.ireturn, 1) := by decide +kernel
theorem dM_countAt_21 : decode cM_countAt 21 = .ok (.iload_n 2, 1) := by decide +kernel
theorem dM_countAt_22 : decode cM_countAt 22 = .ok (.aload_n 0, 1) := by decide +kernel
theorem dM_countAt_23 : decode cM_countAt 23 = .ok (.getfield 99, 3) := by decide +kernel
theorem dM_countAt_26 : decode cM_countAt 26 = .ok (.if_icmp .ge 8, 3) := by decide +kernel
theorem dM_countAt_29 : decode cM_countAt 29 = .ok (.bipush (-2), 2) := by decide +kernel
theorem dM_countAt_31 : decode cM_countAt 31 = .ok (.goto 17, 3) := by decide +kernel
theorem dM_countAt_34 : decode cM_countAt 34 = .ok (.aload_n 0, 1) := by decide +kernel
theorem dM_countAt_35 : decode cM_countAt 35 = .ok (.getfield 22, 3) := by decide +kernel
theorem dM_countAt_38 : decode cM_countAt 38 = .ok (.bipush 8, 2) := by decide +kernel
theorem dM_countAt_40 : decode cM_countAt 40 = .ok (.iload_n 2, 1) := by decide +kernel
theorem dM_countAt_41 : decode cM_countAt 41 = .ok (.bipush 40, 2) := by decide +kernel
theorem dM_countAt_43 : decode cM_countAt 43 = .ok (.irem, 1) := by decide +kernel
theorem dM_countAt_44 : decode cM_countAt 44 = .ok (.imul, 1) := by decide +kernel
theorem dM_countAt_45 : decode cM_countAt 45 = .ok (.iload_n 1, 1) := by decide +kernel
theorem dM_countAt_46 : decode cM_countAt 46 = .ok (.iadd, 1) := by decide +kernel
theorem dM_countAt_47 : decode cM_countAt 47 = .ok (.iaload, 1) := by decide +kernel
theorem dM_countAt_48 : decode cM_countAt 48 = .ok (.ireturn, 1) := by decide +kernel
theorem dM_forget_0 : decode cM_forget 0 = .ok (.iload_n 1, 1) := by decide +kernel
theorem dM_forget_1 : decode cM_forget 1 = .ok (.ifCond .lt 11, 3) := by decide +kernel
theorem dM_forget_4 : decode cM_forget 4 = .ok (.iload_n 1, 1) := by decide +kernel
theorem dM_forget_5 : decode cM_forget 5 = .ok (.aload_n 0, 1) := by decide +kernel
theorem dM_forget_6 : decode cM_forget 6 = .ok (.getfield 96, 3) := by decide +kernel
theorem dM_forget_9 : decode cM_forget 9 = .ok (.if_icmp .lt 5, 3) := by decide +kernel
theorem dM_forget_12 : decode cM_forget 12 = .ok (.iconst (-1), 1) := by decide +kernel
theorem dM_forget_13 : decode cM_forget 13 = .ok (.ireturn, 1) := by decide +kernel
theorem dM_forget_14 : decode cM_forget 14 = .ok (.iload_n 1, 1) := by decide +kernel
theorem dM_forget_15 : decode cM_forget 15 = .ok (.aload_n 0, 1) := by decide +kernel
theorem dM_forget_16 : decode cM_forget 16 = .ok (.getfield 99, 3) := by decide +kernel
theorem dM_forget_19 : decode cM_forget 19 = .ok (.if_icmp .le 12, 3) := by decide +kernel
theorem dM_forget_22 : decode cM_forget 22 = .ok (.iload_n 1, 1) := by decide +kernel
theorem dM_forget_23 : decode cM_forget 23 = .ok (.aload_n 0, 1) := by decide +kernel
theorem dM_forget_24 : decode cM_forget 24 = .ok (.getfield 99, 3) := by decide +kernel
theorem dM_forget_27 : decode cM_forget 27 = .ok (.isub, 1) := by decide +kernel
theorem dM_forget_28 : decode cM_forget 28 = .ok (.goto 4, 3) := by decide +kernel
theorem dM_forget_31 : decode cM_forget 31 = .ok (.iconst 0, 1) := by decide +kernel
theorem dM_forget_32 : decode cM_forget 32 = .ok (.istore_n 2, 1) := by decide +kernel
theorem dM_forget_33 : decode cM_forget 33 = .ok (.aload_n 0, 1) := by decide +kernel
theorem dM_forget_34 : decode cM_forget 34 = .ok (.aload_n 0, 1) := by decide +kernel
theorem dM_forget_35 : decode cM_forget 35 = .ok (.getfield 99, 3) := by decide +kernel
theorem dM_forget_38 : decode cM_forget 38 = .ok (.iload_n 2, 1) := by decide +kernel
theorem dM_forget_39 : decode cM_forget 39 = .ok (.iadd, 1) := by decide +kernel
theorem dM_forget_40 : decode cM_forget 40 = .ok (.putfield 99, 3) := by decide +kernel
theorem dM_forget_43 : decode cM_forget 43 = .ok (.iload_n 2, 1) := by decide +kernel
theorem dM_forget_44 : decode cM_forget 44 = .ok (.ireturn, 1) := by decide +kernel
theorem dM_told_0 : decode cM_told 0 = .ok (.iload_n 1, 1) := by decide +kernel
theorem dM_told_1 : decode cM_told 1 = .ok (.ifCond .ne 10, 3) := by decide +kernel
theorem dM_told_4 : decode cM_told 4 = .ok (.aload_n 0, 1) := by decide +kernel
theorem dM_told_5 : decode cM_told 5 = .ok (.getfield 29, 3) := by decide +kernel
theorem dM_told_8 : decode cM_told 8 = .ok (.goto 45, 3) := by decide +kernel
theorem dM_told_11 : decode cM_told 11 = .ok (.iload_n 1, 1) := by decide +kernel
theorem dM_told_12 : decode cM_told 12 = .ok (.iconst 1, 1) := by decide +kernel
theorem dM_told_13 : decode cM_told 13 = .ok (.if_icmp .ne 10, 3) := by decide +kernel
theorem dM_told_16 : decode cM_told 16 = .ok (.aload_n 0, 1) := by decide +kernel
theorem dM_told_17 : decode cM_told 17 = .ok (.getfield 89, 3) := by decide +kernel
theorem dM_told_20 : decode cM_told 20 = .ok (.goto 33, 3) := by decide +kernel
theorem dM_told_23 : decode cM_told 23 = .ok (.iload_n 1, 1) := by decide +kernel
theorem dM_told_24 : decode cM_told 24 = .ok (.iconst 2, 1) := by decide +kernel
theorem dM_told_25 : decode cM_told 25 = .ok (.if_icmp .ne 10, 3) := by decide +kernel
theorem dM_told_28 : decode cM_told 28 = .ok (.aload_n 0, 1) := by decide +kernel
theorem dM_told_29 : decode cM_told 29 = .ok (.getfield 96, 3) := by decide +kernel
theorem dM_told_32 : decode cM_told 32 = .ok (.goto 21, 3) := by decide +kernel
theorem dM_told_35 : decode cM_told 35 = .ok (.iload_n 1, 1) := by decide +kernel
theorem dM_told_36 : decode cM_told 36 = .ok (.iconst 3, 1) := by decide +kernel
theorem dM_told_37 : decode cM_told 37 = .ok (.if_icmp .ne 15, 3) := by decide +kernel
theorem dM_told_40 : decode cM_told 40 = .ok (.aload_n 0, 1) := by decide +kernel
theorem dM_told_41 : decode cM_told 41 = .ok (.getfield 96, 3) := by decide +kernel
theorem dM_told_44 : decode cM_told 44 = .ok (.aload_n 0, 1) := by decide +kernel
theorem dM_told_45 : decode cM_told 45 = .ok (.getfield 99, 3) := by decide +kernel
theorem dM_told_48 : decode cM_told 48 = .ok (.isub, 1) := by decide +kernel
theorem dM_told_49 : decode cM_told 49 = .ok (.goto 4, 3) := by decide +kernel
theorem dM_told_52 : decode cM_told 52 = .ok (.iconst (-1), 1) := by decide +kernel
theorem dM_told_53 : decode cM_told 53 = .ok (.ireturn, 1) := by decide +kernel
