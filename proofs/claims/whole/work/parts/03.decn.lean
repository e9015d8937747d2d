theorem dP_init_0 : decode cP_init 0 = .ok (.aload_n 0, 1) := by decide +kernel
theorem dP_init_1 : decode cP_init 1 = .ok (.invokespecial 3, 3) := by decide +kernel
theorem dP_init_4 : decode cP_init 4 = .ok (.aload_n 0, 1) := by decide +kernel
theorem dP_init_5 : decode cP_init 5 = .ok (.bipush 30, 2) := by decide +kernel
theorem dP_init_7 : decode cP_init 7 = .ok (.newarray .int, 2) := by decide +kernel
theorem dP_init_9 : decode cP_init 9 = .ok (.putfield 11, 3) := by decide +kernel
theorem dP_init_12 : decode cP_init 12 = .ok (.aload_n 0, 1) := by decide +kernel
theorem dP_init_13 : decode cP_init 13 = .ok (.bipush 30, 2) := by decide +kernel
theorem dP_init_15 : decode cP_init 15 = .ok (.newarray .int, 2) := by decide +kernel
theorem dP_init_17 : decode cP_init 17 = .ok (.putfield 15, 3) := by decide +kernel
theorem dP_init_20 : decode cP_init 20 = .ok (.aload_n 0, 1) := by decide +kernel
theorem dP_init_21 : decode cP_init 21 = .ok (.bipush 30, 2) := by decide +kernel
theorem dP_init_23 : decode cP_init 23 = .ok (.newarray .int, 2) := by decide +kernel
theorem dP_init_25 : decode cP_init 25 = .ok (.putfield 18, 3) := by decide +kernel
theorem dP_init_28 : decode cP_init 28 = .ok (.aload_n 0, 1) := by decide +kernel
theorem dP_init_29 : decode cP_init 29 = .ok (.iconst 0, 1) := by decide +kernel
theorem dP_init_30 : decode cP_init 30 = .ok (.putfield 21, 3) := by decide +kernel
theorem dP_init_33 : decode cP_init 33 = .ok (.return_, 1) := by decide +kernel
theorem dP_size_0 : decode cP_size 0 = .ok (.aload_n 0, 1) := by decide +kernel
theorem dP_size_1 : decode cP_size 1 = .ok (.getfield 21, 3) := by decide +kernel
theorem dP_size_4 : decode cP_size 4 = .ok (.ireturn, 1) := by decide +kernel
theorem dP_has_0 : decode cP_has 0 = .ok (.iload_n 1, 1) := by decide +kernel
theorem dP_has_1 : decode cP_has 1 = .ok (.ifCond .lt 15, 3) := by decide +kernel
theorem dP_has_4 : decode cP_has 4 = .ok (.iload_n 1, 1) := by decide +kernel
theorem dP_has_5 : decode cP_has 5 = .ok (.aload_n 0, 1) := by decide +kernel
theorem dP_has_6 : decode cP_has 6 = .ok (.getfield 21, 3) := by decide +kernel
theorem dP_has_9 : decode cP_has 9 = .ok (.if_icmp .ge 7, 3) := by decide +kernel
theorem dP_has_12 : decode cP_has 12 = .ok (.iconst 1, 1) := by decide +kernel
theorem dP_has_13 : decode cP_has 13 = .ok (.goto 4, 3) := by decide +kernel
theorem dP_has_16 : decode cP_has 16 = .ok (.iconst 0, 1) := by decide +kernel
theorem dP_has_17 : decode cP_has 17 = .ok (.ireturn, 1) := by decide +kernel
theorem dP_rowOf_0 : decode cP_rowOf 0 = .ok (.iconst 0, 1) := by decide +kernel
theorem dP_rowOf_1 : decode cP_rowOf 1 = .ok (.istore 4, 2) := by decide +kernel
theorem dP_rowOf_3 : decode cP_rowOf 3 = .ok (.iload 4, 2) := by decide +kernel
theorem dP_rowOf_5 : decode cP_rowOf 5 = .ok (.aload_n 0, 1) := by decide +kernel
theorem dP_rowOf_6 : decode cP_rowOf 6 = .ok (.getfield 21, 3) := by decide +kernel
theorem dP_rowOf_9 : decode cP_rowOf 9 = .ok (.if_icmp .ge 45, 3) := by decide +kernel
theorem dP_rowOf_12 : decode cP_rowOf 12 = .ok (.aload_n 0, 1) := by decide +kernel
theorem dP_rowOf_13 : decode cP_rowOf 13 = .ok (.getfield 11, 3) := by decide +kernel
theorem dP_rowOf_16 : decode cP_rowOf 16 = .ok (.iload 4, 2) := by decide +kernel
theorem dP_rowOf_18 : decode cP_rowOf 18 = .ok (.iaload, 1) := by decide +kernel
theorem dP_rowOf_19 : decode cP_rowOf 19 = .ok (.iload_n 1, 1) := by decide +kernel
theorem dP_rowOf_20 : decode cP_rowOf 20 = .ok (.if_icmp .ne 28, 3) := by decide +kernel
theorem dP_rowOf_23 : decode cP_rowOf 23 = .ok (.aload_n 0, 1) := by decide +kernel
theorem dP_rowOf_24 : decode cP_rowOf 24 = .ok (.getfield 15, 3) := by decide +kernel
theorem dP_rowOf_27 : decode cP_rowOf 27 = .ok (.iload 4, 2) := by decide +kernel
theorem dP_rowOf_29 : decode cP_rowOf 29 = .ok (.iaload, 1) := by decide +kernel
theorem dP_rowOf_30 : decode cP_rowOf 30 = .ok (.iload_n 2, 1) := by decide +kernel
theorem dP_rowOf_31 : decode cP_rowOf 31 = .ok (.if_icmp .ne 17, 3) := by decide +kernel
theorem dP_rowOf_34 : decode cP_rowOf 34 = .ok (.aload_n 0, 1) := by decide +kernel
theorem dP_rowOf_35 : decode cP_rowOf 35 = .ok (.getfield 18, 3) := by decide +kernel
theorem dP_rowOf_38 : decode cP_rowOf 38 = .ok (.iload 4, 2) := by decide +kernel
theorem dP_rowOf_40 : decode cP_rowOf 40 = .ok (.iaload, 1) := by decide +kernel
theorem dP_rowOf_41 : decode cP_rowOf 41 = .ok (.iload_n 3, 1) := by decide +kernel
theorem dP_rowOf_42 : decode cP_rowOf 42 = .ok (.if_icmp .ne 6, 3) := by decide +kernel
theorem dP_rowOf_45 : decode cP_rowOf 45 = .ok (.iload 4, 2) := by decide +kernel
theorem dP_rowOf_47 : decode cP_rowOf 47 = .ok (.ireturn, 1) := by decide +kernel
theorem dP_rowOf_48 : decode cP_rowOf 48 = .ok (.iinc 4 1, 3) := by decide +kernel
theorem dP_rowOf_51 : decode cP_rowOf 51 = .ok (.goto (-48), 3) := by decide +kernel
theorem dP_rowOf_54 : decode cP_rowOf 54 = .ok (.aload_n 0, 1) := by decide +kernel
theorem dP_rowOf_55 : decode cP_rowOf 55 = .ok (.getfield 21, 3) := by decide +kernel
theorem dP_rowOf_58 : decode cP_rowOf 58 = .ok (.bipush 30, 2) := by decide +kernel
theorem dP_rowOf_60 : decode cP_rowOf 60 = .ok (.if_icmp .lt 6, 3) := by decide +kernel
theorem dP_rowOf_63 : decode cP_rowOf 63 = .ok (.bipush (-3), 2) := by decide +kernel
theorem dP_rowOf_65 : decode cP_rowOf 65 = .ok (.ireturn, 1) := by decide +kernel
theorem dP_rowOf_66 : decode cP_rowOf 66 = .ok (.aload_n 0, 1) := by decide +kernel
theorem dP_rowOf_67 : decode cP_rowOf 67 = .ok (.getfield 11, 3) := by decide +kernel
theorem dP_rowOf_70 : decode cP_rowOf 70 = .ok (.aload_n 0, 1) := by decide +kernel
theorem dP_rowOf_71 : decode cP_rowOf 71 = .ok (.getfield 21, 3) := by decide +kernel
theorem dP_rowOf_74 : decode cP_rowOf 74 = .ok (.iload_n 1, 1) := by decide +kernel
theorem dP_rowOf_75 : decode cP_rowOf 75 = .ok (.iastore, 1) := by decide +kernel
theorem dP_rowOf_76 : decode cP_rowOf 76 = .ok (.aload_n 0, 1) := by decide +kernel
theorem dP_rowOf_77 : decode cP_rowOf 77 = .ok (.getfield 15, 3) := by decide +kernel
theorem dP_rowOf_80 : decode cP_rowOf 80 = .ok (.aload_n 0, 1) := by decide +kernel
theorem dP_rowOf_81 : decode cP_rowOf 81 = .ok (.getfield 21, 3) := by decide +kernel
theorem dP_rowOf_84 : decode cP_rowOf 84 = .ok (.iload_n 2, 1) := by decide +kernel
theorem dP_rowOf_85 : decode cP_rowOf 85 = .ok (.iastore, 1) := by decide +kernel
theorem dP_rowOf_86 : decode cP_rowOf 86 = .ok (.aload_n 0, 1) := by decide +kernel
theorem dP_rowOf_87 : decode cP_rowOf 87 = .ok (.getfield 18, 3) := by decide +kernel
theorem dP_rowOf_90 : decode cP_rowOf 90 = .ok (.aload_n 0, 1) := by decide +kernel
theorem dP_rowOf_91 : decode cP_rowOf 91 = .ok (.getfield 21, 3) := by decide +kernel
theorem dP_rowOf_94 : decode cP_rowOf 94 = .ok (.iload_n 3, 1) := by decide +kernel
theorem dP_rowOf_95 : decode cP_rowOf 95 = .ok (.iastore, 1) := by decide +kernel
theorem dP_rowOf_96 : decode cP_rowOf 96 = .ok (.aload_n 0, 1) := by decide +kernel
theorem dP_rowOf_97 : decode cP_rowOf 97 = .ok (.dup, 1) := by decide +kernel
theorem dP_rowOf_98 : decode cP_rowOf 98 = .ok (.getfield 21, 3) := by decide +kernel
theorem dP_rowOf_101 : decode cP_rowOf 101 = .ok (.iconst 1, 1) := by decide +kernel
theorem dP_rowOf_102 : decode cP_rowOf 102 = .ok (.iadd, 1) := by decide +kernel
theorem dP_rowOf_103 : decode cP_rowOf 103 = .ok (.putfield 21, 3) := by decide +kernel
theorem dP_rowOf_106 : decode cP_rowOf 106 = .ok (.aload_n 0, 1) := by decide +kernel
theorem dP_rowOf_107 : decode cP_rowOf 107 = .ok (.getfield 21, 3) := by decide +kernel
theorem dP_rowOf_110 : decode cP_rowOf 110 = .ok (.iconst 1, 1) := by decide +kernel
theorem dP_rowOf_111 : decode cP_rowOf 111 = .ok (.isub, 1) := by decide +kernel
theorem dP_rowOf_112 : decode cP_rowOf 112 = .ok (.ireturn, 1) := by decide +kernel
theorem dP_goesWith_0 : decode cP_goesWith 0 = .ok (.aload_n 0, 1) := by decide +kernel
theorem dP_goesWith_1 : decode cP_goesWith 1 = .ok (.getfield 11, 3) := by decide +kernel
theorem dP_goesWith_4 : decode cP_goesWith 4 = .ok (.iload_n 1, 1) := by decide +kernel
theorem dP_goesWith_5 : decode cP_goesWith 5 = .ok (.iaload, 1) := by decide +kernel
theorem dP_goesWith_6 : decode cP_goesWith 6 = .ok (.iload_n 2, 1) := by decide +kernel
theorem dP_goesWith_7 : decode cP_goesWith 7 = .ok (.invokestatic 25, 3) := by decide +kernel
theorem dP_goesWith_10 : decode cP_goesWith 10 = .ok (.ifCond .eq 34, 3) := by decide +kernel
theorem dP_goesWith_13 : decode cP_goesWith 13 = .ok (.aload_n 0, 1) := by decide +kernel
theorem dP_goesWith_14 : decode cP_goesWith 14 = .ok (.getfield 15, 3) := by decide +kernel
theorem dP_goesWith_17 : decode cP_goesWith 17 = .ok (.iload_n 1, 1) := by decide +kernel
theorem dP_goesWith_18 : decode cP_goesWith 18 = .ok (.iaload, 1) := by decide +kernel
theorem dP_goesWith_19 : decode cP_goesWith 19 = .ok (.iload_n 3, 1) := by decide +kernel
theorem dP_goesWith_20 : decode cP_goesWith 20 = .ok (.invokestatic 25, 3) := by decide +kernel
theorem dP_goesWith_23 : decode cP_goesWith 23 = .ok (.ifCond .eq 21, 3) := by decide +kernel
theorem dP_goesWith_26 : decode cP_goesWith 26 = .ok (.aload_n 0, 1) := by decide +kernel
theorem dP_goesWith_27 : decode cP_goesWith 27 = .ok (.getfield 18, 3) := by decide +kernel
theorem dP_goesWith_30 : decode cP_goesWith 30 = .ok (.iload_n 1, 1) := by decide +kernel
theorem dP_goesWith_31 : decode cP_goesWith 31 = .ok (.iaload, 1) := by decide +kernel
theorem dP_goesWith_32 : decode cP_goesWith 32 = .ok (.iload 4, 2) := by decide +kernel
theorem dP_goesWith_34 : decode cP_goesWith 34 = .ok (.invokestatic 25, 3) := by decide +kernel
theorem dP_goesWith_37 : decode cP_goesWith 37 = .ok (.ifCond .eq 7, 3) := by decide +kernel
theorem dP_goesWith_40 : decode cP_goesWith 40 = .ok (.iconst 1, 1) := by decide +kernel
theorem dP_goesWith_41 : decode cP_goesWith 41 = .ok (.goto 4, 3) := by decide +kernel
theorem dP_goesWith_44 : decode cP_goesWith 44 = .ok (.iconst 0, 1) := by decide +kernel
theorem dP_goesWith_45 : decode cP_goesWith 45 = .ok (.ireturn, 1) := by decide +kernel
theorem dP_allows_0 : decode cP_allows 0 = .ok (.iload_n 0, 1) := by decide +kernel
theorem dP_allows_1 : decode cP_allows 1 = .ok (.iconst (-1), 1) := by decide +kernel
theorem dP_allows_2 : decode cP_allows 2 = .ok (.if_icmp .eq 8, 3) := by decide +kernel
theorem dP_allows_5 : decode cP_allows 5 = .ok (.iload_n 0, 1) := by decide +kernel
theorem dP_allows_6 : decode cP_allows 6 = .ok (.iload_n 1, 1) := by decide +kernel
theorem dP_allows_7 : decode cP_allows 7 = .ok (.if_icmp .ne 7, 3) := by decide +kernel
theorem dP_allows_10 : decode cP_allows 10 = .ok (.iconst 1, 1) := by decide +kernel
theorem dP_allows_11 : decode cP_allows 11 = .ok (.goto 4, 3) := by decide +kernel
theorem dP_allows_14 : decode cP_allows 14 = .ok (.iconst 0, 1) := by decide +kernel
theorem dP_allows_15 : decode cP_allows 15 = .ok (.ireturn, 1) := by decide +kernel
theorem dG_init_0 : decode cG_init 0 = .ok (.aload_n 0, 1) := by decide +kernel
theorem dG_init_1 : decode cG_init 1 = .ok (.invokespecial 1, 3) := by decide +kernel
theorem dG_init_4 : decode cG_init 4 = .ok (.aload_n 0, 1) := by decide +kernel
theorem dG_init_5 : decode cG_init 5 = .ok (.bipush 16, 2) := by decide +kernel
theorem dG_init_7 : decode cG_init 7 = .ok (.newarray .int, 2) := by decide +kernel
theorem dG_init_9 : decode cG_init 9 = .ok (.putfield 9, 3) := by decide +kernel
theorem dG_init_12 : decode cG_init 12 = .ok (.return_, 1) := by decide +kernel
theorem dG_rank_0 : decode cG_rank 0 = .ok (.aload_n 0, 1) := by decide +kernel
theorem dG_rank_1 : decode cG_rank 1 = .ok (.getfield 9, 3) := by decide +kernel
theorem dG_rank_4 : decode cG_rank 4 = .ok (.iload_n 1, 1) := by decide +kernel
theorem dG_rank_5 : decode cG_rank 5 = .ok (.iaload, 1) := by decide +kernel
theorem dG_rank_6 : decode cG_rank 6 = .ok (.ireturn, 1) := by decide +kernel
theorem dG_tellAll_0 : decode cG_tellAll 0 = .ok (.aload_n 0, 1) := by decide +kernel
theorem dG_tellAll_1 : decode cG_tellAll 1 = .ok (.getfield 9, 3) := by decide +kernel
theorem dG_tellAll_4 : decode cG_tellAll 4 = .ok (.iconst 0, 1) := by decide +kernel
theorem dG_tellAll_5 : decode cG_tellAll 5 = .ok (.invokestatic 13, 3) := by decide +kernel
theorem dG_tellAll_8 : decode cG_tellAll 8 = .ok (.iconst 0, 1) := by decide +kernel
theorem dG_tellAll_9 : decode cG_tellAll 9 = .ok (.istore_n 2, 1) := by decide +kernel
theorem dG_tellAll_10 : decode cG_tellAll 10 = .ok (.iload_n 2, 1) := by decide +kernel
theorem dG_tellAll_11 : decode cG_tellAll 11 = .ok (.aload_n 1, 1) := by decide +kernel
theorem dG_tellAll_12 : decode cG_tellAll 12 = .ok (.arraylength, 1) := by decide +kernel
theorem dG_tellAll_13 : decode cG_tellAll 13 = .ok (.if_icmp .ge 23, 3) := by decide +kernel
theorem dG_tellAll_16 : decode cG_tellAll 16 = .ok (.aload_n 1, 1) := by decide +kernel
theorem dG_tellAll_17 : decode cG_tellAll 17 = .ok (.iload_n 2, 1) := by decide +kernel
theorem dG_tellAll_18 : decode cG_tellAll 18 = .ok (.iaload, 1) := by decide +kernel
theorem dG_tellAll_19 : decode cG_tellAll 19 = .ok (.ifCond .le 11, 3) := by decide +kernel
theorem dG_tellAll_22 : decode cG_tellAll 22 = .ok (.aload_n 0, 1) := by decide +kernel
theorem dG_tellAll_23 : decode cG_tellAll 23 = .ok (.iload_n 2, 1) := by decide +kernel
theorem dG_tellAll_24 : decode cG_tellAll 24 = .ok (.invokestatic 19, 3) := by decide +kernel
theorem dG_tellAll_27 : decode cG_tellAll 27 = .ok (.invokevirtual 25, 3) := by decide +kernel
theorem dG_tellAll_30 : decode cG_tellAll 30 = .ok (.iinc 2 1, 3) := by decide +kernel
theorem dG_tellAll_33 : decode cG_tellAll 33 = .ok (.goto (-23), 3) := by decide +kernel
theorem dG_tellAll_36 : decode cG_tellAll 36 = .ok (.return_, 1) := by decide +kernel
theorem dG_about_0 : decode cG_about 0 = .ok (.iconst 0, 1) := by decide +kernel
theorem dG_about_1 : decode cG_about 1 = .ok (.istore_n 1, 1) := by decide +kernel
theorem dG_about_2 : decode cG_about 2 = .ok (.lconst 0, 1) := by decide +kernel
theorem dG_about_3 : decode cG_about 3 = .ok (.lstore_n 2, 1) := by decide +kernel
theorem dG_about_4 : decode cG_about 4 = .ok (.iconst 0, 1) := by decide +kernel
theorem dG_about_5 : decode cG_about 5 = .ok (.istore 4, 2) := by decide +kernel
theorem dG_about_7 : decode cG_about 7 = .ok (.iload 4, 2) := by decide +kernel
theorem dG_about_9 : decode cG_about 9 = .ok (.bipush 16, 2) := by decide +kernel
theorem dG_about_11 : decode cG_about 11 = .ok (.if_icmp .ge 37, 3) := by decide +kernel
theorem dG_about_14 : decode cG_about 14 = .ok (.aload_n 0, 1) := by decide +kernel
theorem dG_about_15 : decode cG_about 15 = .ok (.getfield 9, 3) := by decide +kernel
theorem dG_about_18 : decode cG_about 18 = .ok (.iload 4, 2) := by decide +kernel
theorem dG_about_20 : decode cG_about 20 = .ok (.iaload, 1) := by decide +kernel
theorem dG_about_21 : decode cG_about 21 = .ok (.ifCond .ne 6, 3) := by decide +kernel
theorem dG_about_24 : decode cG_about 24 = .ok (.iinc 1 1, 3) := by decide +kernel
theorem dG_about_27 : decode cG_about 27 = .ok (.lload_n 2, 1) := by decide +kernel
theorem dG_about_28 : decode cG_about 28 = .ok (.lconst 1, 1) := by decide +kernel
theorem dG_about_29 : decode cG_about 29 = .ok (.bipush 30, 2) := by decide +kernel
theorem dG_about_31 : decode cG_about 31 = .ok (.aload_n 0, 1) := by decide +kernel
theorem dG_about_32 : decode cG_about 32 = .ok (.getfield 9, 3) := by decide +kernel
theorem dG_about_35 : decode cG_about 35 = .ok (.iload 4, 2) := by decide +kernel
theorem dG_about_37 : decode cG_about 37 = .ok (.iaload, 1) := by decide +kernel
theorem dG_about_38 : decode cG_about 38 = .ok (.isub, 1) := by decide +kernel
theorem dG_about_39 : decode cG_about 39 = .ok (.lshl, 1) := by decide +kernel
theorem dG_about_40 : decode cG_about 40 = .ok (.ladd, 1) := by decide +kernel
theorem dG_about_41 : decode cG_about 41 = .ok (.lstore_n 2, 1) := by decide +kernel
theorem dG_about_42 : decode cG_about 42 = .ok (.iinc 4 1, 3) := by decide +kernel
theorem dG_about_45 : decode cG_about 45 = .ok (.goto (-38), 3) := by decide +kernel
theorem dG_about_48 : decode cG_about 48 = .ok (.iload_n 1, 1) := by decide +kernel
theorem dG_about_49 : decode cG_about 49 = .ok (.ifCond .le 10, 3) := by decide +kernel
theorem dG_about_52 : decode cG_about 52 = .ok (.getstatic 29, 3) := by decide +kernel
theorem dG_about_55 : decode cG_about 55 = .ok (.iload_n 1, 1) := by decide +kernel
theorem dG_about_56 : decode cG_about 56 = .ok (.iaload, 1) := by decide +kernel
theorem dG_about_57 : decode cG_about 57 = .ok (.i2l, 1) := by decide +kernel
theorem dG_about_58 : decode cG_about 58 = .ok (.lreturn, 1) := by decide +kernel
theorem dG_about_59 : decode cG_about 59 = .ok (.ldc2_w 32, 3) := by decide +kernel
theorem dG_about_62 : decode cG_about 62 = .ok (.ldc2_w 34, 3) := by decide +kernel
theorem dG_about_65 : decode cG_about 65 = .ok (.lload_n 2, 1) := by decide +kernel
theorem dG_about_66 : decode cG_about 66 = .ok (.lmul, 1) := by decide +kernel
theorem dG_about_67 : decode cG_about 67 = .ok (.ldiv, 1) := by decide +kernel
theorem dG_about_68 : decode cG_about 68 = .ok (.lreturn, 1) := by decide +kernel
theorem dG_tell_0 : decode cG_tell 0 = .ok (.iload_n 1, 1) := by decide +kernel
theorem dG_tell_1 : decode cG_tell 1 = .ok (.bipush 15, 2) := by decide +kernel
theorem dG_tell_3 : decode cG_tell 3 = .ok (.iand, 1) := by decide +kernel
theorem dG_tell_4 : decode cG_tell 4 = .ok (.istore_n 2, 1) := by decide +kernel
theorem dG_tell_5 : decode cG_tell 5 = .ok (.aload_n 0, 1) := by decide +kernel
theorem dG_tell_6 : decode cG_tell 6 = .ok (.getfield 9, 3) := by decide +kernel
theorem dG_tell_9 : decode cG_tell 9 = .ok (.iload_n 2, 1) := by decide +kernel
theorem dG_tell_10 : decode cG_tell 10 = .ok (.aload_n 0, 1) := by decide +kernel
theorem dG_tell_11 : decode cG_tell 11 = .ok (.getfield 9, 3) := by decide +kernel
theorem dG_tell_14 : decode cG_tell 14 = .ok (.iload_n 2, 1) := by decide +kernel
theorem dG_tell_15 : decode cG_tell 15 = .ok (.iaload, 1) := by decide +kernel
theorem dG_tell_16 : decode cG_tell 16 = .ok (.iload_n 1, 1) := by decide +kernel
theorem dG_tell_17 : decode cG_tell 17 = .ok (.iconst 4, 1) := by decide +kernel
theorem dG_tell_18 : decode cG_tell 18 = .ok (.iushr, 1) := by decide +kernel
theorem dG_tell_19 : decode cG_tell 19 = .ok (.invokestatic 36, 3) := by decide +kernel
theorem dG_tell_22 : decode cG_tell 22 = .ok (.invokestatic 39, 3) := by decide +kernel
theorem dG_tell_25 : decode cG_tell 25 = .ok (.iastore, 1) := by decide +kernel
theorem dG_tell_26 : decode cG_tell 26 = .ok (.return_, 1) := by decide +kernel
theorem dG_rankOf_0 : decode cG_rankOf 0 = .ok (.iconst 0, 1) := by decide +kernel
theorem dG_rankOf_1 : decode cG_rankOf 1 = .ok (.istore_n 1, 1) := by decide +kernel
theorem dG_rankOf_2 : decode cG_rankOf 2 = .ok (.iload_n 1, 1) := by decide +kernel
theorem dG_rankOf_3 : decode cG_rankOf 3 = .ok (.bipush 28, 2) := by decide +kernel
theorem dG_rankOf_5 : decode cG_rankOf 5 = .ok (.if_icmp .ge 17, 3) := by decide +kernel
theorem dG_rankOf_8 : decode cG_rankOf 8 = .ok (.iload_n 0, 1) := by decide +kernel
theorem dG_rankOf_9 : decode cG_rankOf 9 = .ok (.iload_n 1, 1) := by decide +kernel
theorem dG_rankOf_10 : decode cG_rankOf 10 = .ok (.iushr, 1) := by decide +kernel
theorem dG_rankOf_11 : decode cG_rankOf 11 = .ok (.iconst 1, 1) := by decide +kernel
theorem dG_rankOf_12 : decode cG_rankOf 12 = .ok (.iand, 1) := by decide +kernel
theorem dG_rankOf_13 : decode cG_rankOf 13 = .ok (.ifCond .ne 9, 3) := by decide +kernel
theorem dG_rankOf_16 : decode cG_rankOf 16 = .ok (.iinc 1 1, 3) := by decide +kernel
theorem dG_rankOf_19 : decode cG_rankOf 19 = .ok (.goto (-17), 3) := by decide +kernel
theorem dG_rankOf_22 : decode cG_rankOf 22 = .ok (.iload_n 1, 1) := by decide +kernel
theorem dG_rankOf_23 : decode cG_rankOf 23 = .ok (.iconst 1, 1) := by decide +kernel
theorem dG_rankOf_24 : decode cG_rankOf 24 = .ok (.iadd, 1) := by decide +kernel
theorem dG_rankOf_25 : decode cG_rankOf 25 = .ok (.ireturn, 1) := by decide +kernel
theorem dT_init_0 : decode cT_init 0 = .ok (.aload_n 0, 1) := by decide +kernel
theorem dT_init_1 : decode cT_init 1 = .ok (.invokespecial 3, 3) := by decide +kernel
theorem dT_init_4 : decode cT_init 4 = .ok (.aload_n 0, 1) := by decide +kernel
theorem dT_init_5 : decode cT_init 5 = .ok (.sipush 400, 3) := by decide +kernel
theorem dT_init_8 : decode cT_init 8 = .ok (.newarray .int, 2) := by decide +kernel
theorem dT_init_10 : decode cT_init 10 = .ok (.putfield 11, 3) := by decide +kernel
theorem dT_init_13 : decode cT_init 13 = .ok (.aload_n 0, 1) := by decide +kernel
theorem dT_init_14 : decode cT_init 14 = .ok (.bipush 9, 2) := by decide +kernel
theorem dT_init_16 : decode cT_init 16 = .ok (.newarray .int, 2) := by decide +kernel
theorem dT_init_18 : decode cT_init 18 = .ok (.putfield 15, 3) := by decide +kernel
theorem dT_init_21 : decode cT_init 21 = .ok (.return_, 1) := by decide +kernel
theorem dT_start_0 : decode cT_start 0 = .ok (.aload_n 0, 1) := by decide +kernel
theorem dT_start_1 : decode cT_start 1 = .ok (.getfield 15, 3) := by decide +kernel
theorem dT_start_4 : decode cT_start 4 = .ok (.iload_n 1, 1) := by decide +kernel
theorem dT_start_5 : decode cT_start 5 = .ok (.iaload, 1) := by decide +kernel
theorem dT_start_6 : decode cT_start 6 = .ok (.ireturn, 1) := by decide +kernel
theorem dT_end_0 : decode cT_end 0 = .ok (.aload_n 0, 1) := by decide +kernel
theorem dT_end_1 : decode cT_end 1 = .ok (.getfield 15, 3) := by decide +kernel
theorem dT_end_4 : decode cT_end 4 = .ok (.iload_n 1, 1) := by decide +kernel
theorem dT_end_5 : decode cT_end 5 = .ok (.iconst 1, 1) := by decide +kernel
theorem dT_end_6 : decode cT_end 6 = .ok (.iadd, 1) := by decide +kernel
theorem dT_end_7 : decode cT_end 7 = .ok (.iaload, 1) := by decide +kernel
theorem dT_end_8 : decode cT_end 8 = .ok (.ireturn, 1) := by decide +kernel
theorem dT_sizeOf_0 : decode cT_sizeOf 0 = .ok (.aload_n 0, 1) := by decide +kernel
theorem dT_sizeOf_1 : decode cT_sizeOf 1 = .ok (.iload_n 1, 1) := by decide +kernel
theorem dT_sizeOf_2 : decode cT_sizeOf 2 = .ok (.invokevirtual 18, 3) := by decide +kernel
theorem dT_sizeOf_5 : decode cT_sizeOf 5 = .ok (.aload_n 0, 1) := by decide +kernel
theorem dT_sizeOf_6 : decode cT_sizeOf 6 = .ok (.iload_n 1, 1) := by decide +kernel
theorem dT_sizeOf_7 : decode cT_sizeOf 7 = .ok (.invokevirtual 22, 3) := by decide +kernel
theorem dT_sizeOf_10 : decode cT_sizeOf 10 = .ok (.isub, 1) := by decide +kernel
theorem dT_sizeOf_11 : decode cT_sizeOf 11 = .ok (.ireturn, 1) := by decide +kernel
theorem dT_size_0 : decode cT_size 0 = .ok (.aload_n 0, 1) := by decide +kernel
theorem dT_size_1 : decode cT_size 1 = .ok (.getfield 15, 3) := by decide +kernel
theorem dT_size_4 : decode cT_size 4 = .ok (.bipush 8, 2) := by decide +kernel
theorem dT_size_6 : decode cT_size 6 = .ok (.iaload, 1) := by decide +kernel
theorem dT_size_7 : decode cT_size 7 = .ok (.ireturn, 1) := by decide +kernel
theorem dT_pairAt_0 : decode cT_pairAt 0 = .ok (.aload_n 0, 1) := by decide +kernel
theorem dT_pairAt_1 : decode cT_pairAt 1 = .ok (.getfield 11, 3) := by decide +kernel
theorem dT_pairAt_4 : decode cT_pairAt 4 = .ok (.iload_n 1, 1) := by decide +kernel
theorem dT_pairAt_5 : decode cT_pairAt 5 = .ok (.iaload, 1) := by decide +kernel
theorem dT_pairAt_6 : decode cT_pairAt 6 = .ok (.ireturn, 1) := by decide +kernel
theorem dT_subjectAt_0 : decode cT_subjectAt 0 = .ok (.aload_n 0, 1) := by decide +kernel
theorem dT_subjectAt_1 : decode cT_subjectAt 1 = .ok (.getfield 11, 3) := by decide +kernel
theorem dT_subjectAt_4 : decode cT_subjectAt 4 = .ok (.iload_n 1, 1) := by decide +kernel
theorem dT_subjectAt_5 : decode cT_subjectAt 5 = .ok (.iaload, 1) := by decide +kernel
theorem dT_subjectAt_6 : decode cT_subjectAt 6 = .ok (.bipush 8, 2) := by decide +kernel
theorem dT_subjectAt_8 : decode cT_subjectAt 8 = .ok (.ishr, 1) := by decide +kernel
theorem dT_subjectAt_9 : decode cT_subjectAt 9 = .ok (.sipush 255, 3) := by decide +kernel
theorem dT_subjectAt_12 : decode cT_subjectAt 12 = .ok (.iand, 1) := by decide +kernel
theorem dT_subjectAt_13 : decode cT_subjectAt 13 = .ok (.ireturn, 1) := by decide +kernel
theorem dT_objectAt_0 : decode cT_objectAt 0 = .ok (.aload_n 0, 1) := by decide +kernel
theorem dT_objectAt_1 : decode cT_objectAt 1 = .ok (.getfield 11, 3) := by decide +kernel
theorem dT_objectAt_4 : decode cT_objectAt 4 = .ok (.iload_n 1, 1) := by decide +kernel
theorem dT_objectAt_5 : decode cT_objectAt 5 = .ok (.iaload, 1) := by decide +kernel
theorem dT_objectAt_6 : decode cT_objectAt 6 = .ok (.sipush 255, 3) := by decide +kernel
theorem dT_objectAt_9 : decode cT_objectAt 9 = .ok (.iand, 1) := by decide +kernel
theorem dT_objectAt_10 : decode cT_objectAt 10 = .ok (.ireturn, 1) := by decide +kernel
theorem dT_isSampled_0 : decode cT_isSampled 0 = .ok (.aload_n 0, 1) := by decide +kernel
theorem dT_isSampled_1 : decode cT_isSampled 1 = .ok (.getfield 11, 3) := by decide +kernel
theorem dT_isSampled_4 : decode cT_isSampled 4 = .ok (.iload_n 1, 1) := by decide +kernel
theorem dT_isSampled_5 : decode cT_isSampled 5 = .ok (.iaload, 1) := by decide +kernel
theorem dT_isSampled_6 : decode cT_isSampled 6 = .ok (.invokestatic 25, 3) := by decide +kernel
theorem dT_isSampled_9 : decode cT_isSampled 9 = .ok (.iconst 3, 1) := by decide +kernel
theorem dT_isSampled_10 : decode cT_isSampled 10 = .ok (.iand, 1) := by decide +kernel
theorem dT_isSampled_11 : decode cT_isSampled 11 = .ok (.ifCond .ne 7, 3) := by decide +kernel
theorem dT_isSampled_14 : decode cT_isSampled 14 = .ok (.iconst 1, 1) := by decide +kernel
theorem dT_isSampled_15 : decode cT_isSampled 15 = .ok (.goto 4, 3) := by decide +kernel
theorem dT_isSampled_18 : decode cT_isSampled 18 = .ok (.iconst 0, 1) := by decide +kernel
theorem dT_isSampled_19 : decode cT_isSampled 19 = .ok (.ireturn, 1) := by decide +kernel
theorem dT_put_0 : decode cT_put 0 = .ok (.aload_n 0, 1) := by decide +kernel
theorem dT_put_1 : decode cT_put 1 = .ok (.iload_n 1, 1) := by decide +kernel
theorem dT_put_2 : decode cT_put 2 = .ok (.iload_n 2, 1) := by decide +kernel
theorem dT_put_3 : decode cT_put 3 = .ok (.invokevirtual 28, 3) := by decide +kernel
theorem dT_put_6 : decode cT_put 6 = .ok (.istore_n 3, 1) := by decide +kernel
theorem dT_put_7 : decode cT_put 7 = .ok (.aload_n 0, 1) := by decide +kernel
theorem dT_put_8 : decode cT_put 8 = .ok (.iload_n 3, 1) := by decide +kernel
theorem dT_put_9 : decode cT_put 9 = .ok (.iload_n 1, 1) := by decide +kernel
theorem dT_put_10 : decode cT_put 10 = .ok (.iload_n 2, 1) := by decide +kernel
theorem dT_put_11 : decode cT_put 11 = .ok (.invokevirtual 32, 3) := by decide +kernel
theorem dT_put_14 : decode cT_put 14 = .ok (.ifCond .eq 5, 3) := by decide +kernel
theorem dT_put_17 : decode cT_put 17 = .ok (.iconst 0, 1) := by decide +kernel
theorem dT_put_18 : decode cT_put 18 = .ok (.ireturn, 1) := by decide +kernel
theorem dT_put_19 : decode cT_put 19 = .ok (.aload_n 0, 1) := by decide +kernel
theorem dT_put_20 : decode cT_put 20 = .ok (.invokevirtual 36, 3) := by decide +kernel
theorem dT_put_23 : decode cT_put 23 = .ok (.sipush 400, 3) := by decide +kernel
theorem dT_put_26 : decode cT_put 26 = .ok (.if_icmp .lt 6, 3) := by decide +kernel
theorem dT_put_29 : decode cT_put 29 = .ok (.bipush (-3), 2) := by decide +kernel
theorem dT_put_31 : decode cT_put 31 = .ok (.ireturn, 1) := by decide +kernel
theorem dT_put_32 : decode cT_put 32 = .ok (.aload_n 0, 1) := by decide +kernel
theorem dT_put_33 : decode cT_put 33 = .ok (.getfield 11, 3) := by decide +kernel
theorem dT_put_36 : decode cT_put 36 = .ok (.iload_n 3, 1) := by decide +kernel
theorem dT_put_37 : decode cT_put 37 = .ok (.aload_n 0, 1) := by decide +kernel
theorem dT_put_38 : decode cT_put 38 = .ok (.getfield 11, 3) := by decide +kernel
theorem dT_put_41 : decode cT_put 41 = .ok (.iload_n 3, 1) := by decide +kernel
theorem dT_put_42 : decode cT_put 42 = .ok (.iconst 1, 1) := by decide +kernel
theorem dT_put_43 : decode cT_put 43 = .ok (.iadd, 1) := by decide +kernel
theorem dT_put_44 : decode cT_put 44 = .ok (.aload_n 0, 1) := by decide +kernel
theorem dT_put_45 : decode cT_put 45 = .ok (.invokevirtual 36, 3) := by decide +kernel
theorem dT_put_48 : decode cT_put 48 = .ok (.iload_n 3, 1) := by decide +kernel
theorem dT_put_49 : decode cT_put 49 = .ok (.isub, 1) := by decide +kernel
theorem dT_put_50 : decode cT_put 50 = .ok (.invokestatic 40, 3) := by decide +kernel
theorem dT_put_53 : decode cT_put 53 = .ok (.aload_n 0, 1) := by decide +kernel
theorem dT_put_54 : decode cT_put 54 = .ok (.getfield 11, 3) := by decide +kernel
theorem dT_put_57 : decode cT_put 57 = .ok (.iload_n 3, 1) := by decide +kernel
theorem dT_put_58 : decode cT_put 58 = .ok (.iload_n 2, 1) := by decide +kernel
theorem dT_put_59 : decode cT_put 59 = .ok (.iastore, 1) := by decide +kernel
theorem dT_put_60 : decode cT_put 60 = .ok (.aload_n 0, 1) := by decide +kernel
theorem dT_put_61 : decode cT_put 61 = .ok (.iload_n 1, 1) := by decide +kernel
theorem dT_put_62 : decode cT_put 62 = .ok (.iconst 1, 1) := by decide +kernel
theorem dT_put_63 : decode cT_put 63 = .ok (.invokevirtual 46, 3) := by decide +kernel
theorem dT_put_66 : decode cT_put 66 = .ok (.iconst 1, 1) := by decide +kernel
theorem dT_put_67 : decode cT_put 67 = .ok (.ireturn, 1) := by decide +kernel
theorem dT_remove_0 : decode cT_remove 0 = .ok (.aload_n 0, 1) := by decide +kernel
theorem dT_remove_1 : decode cT_remove 1 = .ok (.iload_n 1, 1) := by decide +kernel
theorem dT_remove_2 : decode cT_remove 2 = .ok (.iload_n 2, 1) := by decide +kernel
theorem dT_remove_3 : decode cT_remove 3 = .ok (.invokevirtual 28, 3) := by decide +kernel
theorem dT_remove_6 : decode cT_remove 6 = .ok (.istore_n 3, 1) := by decide +kernel
theorem dT_remove_7 : decode cT_remove 7 = .ok (.aload_n 0, 1) := by decide +kernel
theorem dT_remove_8 : decode cT_remove 8 = .ok (.iload_n 3, 1) := by decide +kernel
theorem dT_remove_9 : decode cT_remove 9 = .ok (.iload_n 1, 1) := by decide +kernel
theorem dT_remove_10 : decode cT_remove 10 = .ok (.iload_n 2, 1) := by decide +kernel
theorem dT_remove_11 : decode cT_remove 11 = .ok (.invokevirtual 32, 3) := by decide +kernel
theorem dT_remove_14 : decode cT_remove 14 = .ok (.ifCond .ne 5, 3) := by decide +kernel
theorem dT_remove_17 : decode cT_remove 17 = .ok (.iconst 0, 1) := by decide +kernel
theorem dT_remove_18 : decode cT_remove 18 = .ok (.ireturn, 1) := by decide +kernel
theorem dT_remove_19 : decode cT_remove 19 = .ok (.aload_n 0, 1) := by decide +kernel
theorem dT_remove_20 : decode cT_remove 20 = .ok (.getfield 11, 3) := by decide +kernel
theorem dT_remove_23 : decode cT_remove 23 = .ok (.iload_n 3, 1) := by decide +kernel
theorem dT_remove_24 : decode cT_remove 24 = .ok (.iconst 1, 1) := by decide +kernel
theorem dT_remove_25 : decode cT_remove 25 = .ok (.iadd, 1) := by decide +kernel
theorem dT_remove_26 : decode cT_remove 26 = .ok (.aload_n 0, 1) := by decide +kernel
theorem dT_remove_27 : decode cT_remove 27 = .ok (.getfield 11, 3) := by decide +kernel
theorem dT_remove_30 : decode cT_remove 30 = .ok (.iload_n 3, 1) := by decide +kernel
theorem dT_remove_31 : decode cT_remove 31 = .ok (.aload_n 0, 1) := by decide +kernel
theorem dT_remove_32 : decode cT_remove 32 = .ok (.invokevirtual 36, 3) := by decide +kernel
theorem dT_remove_35 : decode cT_remove 35 = .ok (.iload_n 3, 1) := by decide +kernel
theorem dT_remove_36 : decode cT_remove 36 = .ok (.isub, 1) := by decide +kernel
theorem dT_remove_37 : decode cT_remove 37 = .ok (.iconst 1, 1) := by decide +kernel
theorem dT_remove_38 : decode cT_remove 38 = .ok (.isub, 1) := by decide +kernel
theorem dT_remove_39 : decode cT_remove 39 = .ok (.invokestatic 40, 3) := by decide +kernel
theorem dT_remove_42 : decode cT_remove 42 = .ok (.aload_n 0, 1) := by decide +kernel
theorem dT_remove_43 : decode cT_remove 43 = .ok (.iload_n 1, 1) := by decide +kernel
theorem dT_remove_44 : decode cT_remove 44 = .ok (.iconst (-1), 1) := by decide +kernel
theorem dT_remove_45 : decode cT_remove 45 = .ok (.invokevirtual 46, 3) := by decide +kernel
theorem dT_remove_48 : decode cT_remove 48 = .ok (.iconst 1, 1) := by decide +kernel
theorem dT_remove_49 : decode cT_remove 49 = .ok (.ireturn, 1) := by decide +kernel
theorem dT_placeOf_0 : decode cT_placeOf 0 = .ok (.aload_n 0, 1) := by decide +kernel
theorem dT_placeOf_1 : decode cT_placeOf 1 = .ok (.iload_n 1, 1) := by decide +kernel
theorem dT_placeOf_2 : decode cT_placeOf 2 = .ok (.invokevirtual 18, 3) := by decide +kernel
theorem dT_placeOf_5 : decode cT_placeOf 5 = .ok (.istore_n 3, 1) := by decide +kernel
theorem dT_placeOf_6 : decode cT_placeOf 6 = .ok (.aload_n 0, 1) := by decide +kernel
theorem dT_placeOf_7 : decode cT_placeOf 7 = .ok (.iload_n 1, 1) := by decide +kernel
theorem dT_placeOf_8 : decode cT_placeOf 8 = .ok (.invokevirtual 22, 3) := by decide +kernel
theorem dT_placeOf_11 : decode cT_placeOf 11 = .ok (.istore 4, 2) := by decide +kernel
theorem dT_placeOf_13 : decode cT_placeOf 13 = .ok (.iload 4, 2) := by decide +kernel
theorem dT_placeOf_15 : decode cT_placeOf 15 = .ok (.iload_n 3, 1) := by decide +kernel
theorem dT_placeOf_16 : decode cT_placeOf 16 = .ok (.if_icmp .ge 23, 3) := by decide +kernel
theorem dT_placeOf_19 : decode cT_placeOf 19 = .ok (.aload_n 0, 1) := by decide +kernel
theorem dT_placeOf_20 : decode cT_placeOf 20 = .ok (.getfield 11, 3) := by decide +kernel
theorem dT_placeOf_23 : decode cT_placeOf 23 = .ok (.iload 4, 2) := by decide +kernel
theorem dT_placeOf_25 : decode cT_placeOf 25 = .ok (.iaload, 1) := by decide +kernel
theorem dT_placeOf_26 : decode cT_placeOf 26 = .ok (.iload_n 2, 1) := by decide +kernel
theorem dT_placeOf_27 : decode cT_placeOf 27 = .ok (.if_icmp .lt 6, 3) := by decide +kernel
theorem dT_placeOf_30 : decode cT_placeOf 30 = .ok (.iload 4, 2) := by decide +kernel
theorem dT_placeOf_32 : decode cT_placeOf 32 = .ok (.ireturn, 1) := by decide +kernel
theorem dT_placeOf_33 : decode cT_placeOf 33 = .ok (.iinc 4 1, 3) := by decide +kernel
theorem dT_placeOf_36 : decode cT_placeOf 36 = .ok (.goto (-23), 3) := by decide +kernel
theorem dT_placeOf_39 : decode cT_placeOf 39 = .ok (.iload_n 3, 1) := by decide +kernel
theorem dT_placeOf_40 : decode cT_placeOf 40 = .ok (.ireturn, 1) := by decide +kernel
theorem dT_isAt_0 : decode cT_isAt 0 = .ok (.iload_n 1, 1) := by decide +kernel
theorem dT_isAt_1 : decode cT_isAt 1 = .ok (.aload_n 0, 1) := by decide +kernel
theorem dT_isAt_2 : decode cT_isAt 2 = .ok (.iload_n 2, 1) := by decide +kernel
theorem dT_isAt_3 : decode cT_isAt 3 = .ok (.invokevirtual 18, 3) := by decide +kernel
theorem dT_isAt_6 : decode cT_isAt 6 = .ok (.if_icmp .ge 17, 3) := by decide +kernel
theorem dT_isAt_9 : decode cT_isAt 9 = .ok (.aload_n 0, 1) := by decide +kernel
theorem dT_isAt_10 : decode cT_isAt 10 = .ok (.getfield 11, 3) := by decide +kernel
theorem dT_isAt_13 : decode cT_isAt 13 = .ok (.iload_n 1, 1) := by decide +kernel
theorem dT_isAt_14 : decode cT_isAt 14 = .ok (.iaload, 1) := by decide +kernel
theorem dT_isAt_15 : decode cT_isAt 15 = .ok (.iload_n 3, 1) := by decide +kernel
theorem dT_isAt_16 : decode cT_isAt 16 = .ok (.if_icmp .ne 7, 3) := by decide +kernel
theorem dT_isAt_19 : decode cT_isAt 19 = .ok (.iconst 1, 1) := by decide +kernel
theorem dT_isAt_20 : decode cT_isAt 20 = .ok (.goto 4, 3) := by decide +kernel
theorem dT_isAt_23 : decode cT_isAt 23 = .ok (.iconst 0, 1) := by decide +kernel
theorem dT_isAt_24 : decode cT_isAt 24 = .ok (.ireturn, 1) := by decide +kernel
theorem dT_moveStartsAfter_0 : decode cT_moveStartsAfter 0 = .ok (.iload_n 1, 1) := by decide +kernel
theorem dT_moveStartsAfter_1 : decode cT_moveStartsAfter 1 = .ok (.iconst 1, 1) := by decide +kernel
theorem dT_moveStartsAfter_2 : decode cT_moveStartsAfter 2 = .ok (.iadd, 1) := by decide +kernel
theorem dT_moveStartsAfter_3 : decode cT_moveStartsAfter 3 = .ok (.istore_n 3, 1) := by decide +kernel
theorem dT_moveStartsAfter_4 : decode cT_moveStartsAfter 4 = .ok (.iload_n 3, 1) := by decide +kernel
theorem dT_moveStartsAfter_5 : decode cT_moveStartsAfter 5 = .ok (.bipush 8, 2) := by decide +kernel
theorem dT_moveStartsAfter_7 : decode cT_moveStartsAfter 7 = .ok (.if_icmp .gt 19, 3) := by decide +kernel
theorem dT_moveStartsAfter_10 : decode cT_moveStartsAfter 10 = .ok (.aload_n 0, 1) := by decide +kernel
theorem dT_moveStartsAfter_11 : decode cT_moveStartsAfter 11 = .ok (.getfield 15, 3) := by decide +kernel
theorem dT_moveStartsAfter_14 : decode cT_moveStartsAfter 14 = .ok (.iload_n 3, 1) := by decide +kernel
theorem dT_moveStartsAfter_15 : decode cT_moveStartsAfter 15 = .ok (.dup2, 1) := by decide +kernel
theorem dT_moveStartsAfter_16 : decode cT_moveStartsAfter 16 = .ok (.iaload, 1) := by decide +kernel
theorem dT_moveStartsAfter_17 : decode cT_moveStartsAfter 17 = .ok (.iload_n 2, 1) := by decide +kernel
theorem dT_moveStartsAfter_18 : decode cT_moveStartsAfter 18 = .ok (.iadd, 1) := by decide +kernel
theorem dT_moveStartsAfter_19 : decode cT_moveStartsAfter 19 = .ok (.iastore, 1) := by decide +kernel
theorem dT_moveStartsAfter_20 : decode cT_moveStartsAfter 20 = .ok (.iinc 3 1, 3) := by decide +kernel
theorem dT_moveStartsAfter_23 : decode cT_moveStartsAfter 23 = .ok (.goto (-19), 3) := by decide +kernel
theorem dT_moveStartsAfter_26 : decode cT_moveStartsAfter 26 = .ok (.return_, 1) := by decide +kernel
theorem dV_init_0 : decode cV_init 0 = .ok (.aload_n 0, 1) := by decide +kernel
theorem dV_init_1 : decode cV_init 1 = .ok (.invokespecial 3, 3) := by decide +kernel
theorem dV_init_4 : decode cV_init 4 = .ok (.aload_n 0, 1) := by decide +kernel
theorem dV_init_5 : decode cV_init 5 = .ok (.sipush 320, 3) := by decide +kernel
theorem dV_init_8 : decode cV_init 8 = .ok (.newarray .int, 2) := by decide +kernel
theorem dV_init_10 : decode cV_init 10 = .ok (.putfield 11, 3) := by decide +kernel
theorem dV_init_13 : decode cV_init 13 = .ok (.aload_n 0, 1) := by decide +kernel
theorem dV_init_14 : decode cV_init 14 = .ok (.iconst 0, 1) := by decide +kernel
theorem dV_init_15 : decode cV_init 15 = .ok (.putfield 15, 3) := by decide +kernel
theorem dV_init_18 : decode cV_init 18 = .ok (.aload_n 0, 1) := by decide +kernel
theorem dV_init_19 : decode cV_init 19 = .ok (.iconst 0, 1) := by decide +kernel
theorem dV_init_20 : decode cV_init 20 = .ok (.putfield 19, 3) := by decide +kernel
theorem dV_init_23 : decode cV_init 23 = .ok (.return_, 1) := by decide +kernel
theorem dV_ended_0 : decode cV_ended 0 = .ok (.aload_n 0, 1) := by decide +kernel
theorem dV_ended_1 : decode cV_ended 1 = .ok (.getfield 19, 3) := by decide +kernel
theorem dV_ended_4 : decode cV_ended 4 = .ok (.ireturn, 1) := by decide +kernel
theorem dV_kept_0 : decode cV_kept 0 = .ok (.aload_n 0, 1) := by decide +kernel
theorem dV_kept_1 : decode cV_kept 1 = .ok (.getfield 19, 3) := by decide +kernel
theorem dV_kept_4 : decode cV_kept 4 = .ok (.aload_n 0, 1) := by decide +kernel
theorem dV_kept_5 : decode cV_kept 5 = .ok (.getfield 15, 3) := by decide +kernel
theorem dV_kept_8 : decode cV_kept 8 = .ok (.isub, 1) := by decide +kernel
theorem dV_kept_9 : decode cV_kept 9 = .ok (.ireturn, 1) := by decide +kernel
theorem dV_finish_0 : decode cV_finish 0 = .ok (.aload_n 0, 1) := by decide +kernel
theorem dV_finish_1 : decode cV_finish 1 = .ok (.invokevirtual 22, 3) := by decide +kernel
theorem dV_finish_4 : decode cV_finish 4 = .ok (.bipush 40, 2) := by decide +kernel
theorem dV_finish_6 : decode cV_finish 6 = .ok (.if_icmp .ge 12, 3) := by decide +kernel
theorem dV_finish_9 : decode cV_finish 9 = .ok (.aload_n 0, 1) := by decide +kernel
theorem dV_finish_10 : decode cV_finish 10 = .ok (.getfield 19, 3) := by decide +kernel
theorem dV_finish_13 : decode cV_finish 13 = .ok (.ldc 28, 2) := by decide +kernel
theorem dV_finish_15 : decode cV_finish 15 = .ok (.if_icmp .ne 6, 3) := by decide +kernel
theorem dV_finish_18 : decode cV_finish 18 = .ok (.bipush (-3), 2) := by decide +kernel
theorem dV_finish_20 : decode cV_finish 20 = .ok (.ireturn, 1) := by decide +kernel
theorem dV_finish_21 : decode cV_finish 21 = .ok (.iconst 0, 1) := by decide +kernel
theorem dV_finish_22 : decode cV_finish 22 = .ok (.istore_n 2, 1) := by decide +kernel
theorem dV_finish_23 : decode cV_finish 23 = .ok (.iload_n 2, 1) := by decide +kernel
theorem dV_finish_24 : decode cV_finish 24 = .ok (.bipush 8, 2) := by decide +kernel
theorem dV_finish_26 : decode cV_finish 26 = .ok (.if_icmp .ge 27, 3) := by decide +kernel
theorem dV_finish_29 : decode cV_finish 29 = .ok (.aload_n 0, 1) := by decide +kernel
theorem dV_finish_30 : decode cV_finish 30 = .ok (.getfield 11, 3) := by decide +kernel
theorem dV_finish_33 : decode cV_finish 33 = .ok (.iload_n 2, 1) := by decide +kernel
theorem dV_finish_34 : decode cV_finish 34 = .ok (.aload_n 0, 1) := by decide +kernel
theorem dV_finish_35 : decode cV_finish 35 = .ok (.getfield 19, 3) := by decide +kernel
theorem dV_finish_38 : decode cV_finish 38 = .ok (.invokestatic 29, 3) := by decide +kernel
theorem dV_finish_41 : decode cV_finish 41 = .ok (.aload_n 1, 1) := by decide +kernel
theorem dV_finish_42 : decode cV_finish 42 = .ok (.iload_n 2, 1) := by decide +kernel
theorem dV_finish_43 : decode cV_finish 43 = .ok (.invokevirtual 33, 3) := by decide +kernel
theorem dV_finish_46 : decode cV_finish 46 = .ok (.iastore, 1) := by decide +kernel
theorem dV_finish_47 : decode cV_finish 47 = .ok (.iinc 2 1, 3) := by decide +kernel
theorem dV_finish_50 : decode cV_finish 50 = .ok (.goto (-27), 3) := by decide +kernel
theorem dV_finish_53 : decode cV_finish 53 = .ok (.aload_n 0, 1) := by decide +kernel
theorem dV_finish_54 : decode cV_finish 54 = .ok (.dup, 1) := by decide +kernel
theorem dV_finish_55 : decode cV_finish 55 = .ok (.getfield 19, 3) := by decide +kernel
theorem dV_finish_58 : decode cV_finish 58 = .ok (.iconst 1, 1) := by decide +kernel
theorem dV_finish_59 : decode cV_finish 59 = .ok (.iadd, 1) := by decide +kernel
theorem dV_finish_60 : decode cV_finish 60 = .ok (.putfield 19, 3) := by decide +kernel
theorem dV_finish_63 : decode cV_finish 63 = .ok (.aload_n 0, 1) := by decide +kernel
theorem dV_finish_64 : decode cV_finish 64 = .ok (.getfield 19, 3) := by decide +kernel
theorem dV_finish_67 : decode cV_finish 67 = .ok (.iconst 1, 1) := by decide +kernel
theorem dV_finish_68 : decode cV_finish 68 = .ok (.isub, 1) := by decide +kernel
theorem dV_finish_69 : decode cV_finish 69 = .ok (.ireturn, 1) := by decide +kernel
theorem dV_sizeAt_0 : decode cV_sizeAt 0 = .ok (.aload_n 0, 1) := by decide +kernel
theorem dV_sizeAt_1 : decode cV_sizeAt 1 = .ok (.iload_n 2, 1) := by decide +kernel
theorem dV_sizeAt_2 : decode cV_sizeAt 2 = .ok (.invokevirtual 39, 3) := by decide +kernel
theorem dV_sizeAt_5 : decode cV_sizeAt 5 = .ok (.ifCond .ne 5, 3) := by decide +kernel
theorem dV_sizeAt_8 : decode cV_sizeAt 8 = .ok (.iconst (-1), 1) := by decide +kernel
theorem dV_sizeAt_9 : decode cV_sizeAt 9 = .ok (.ireturn, 1) := by decide +kernel
theorem dV_sizeAt_10 : decode cV_sizeAt 10 = .ok (.iload_n 2, 1) := by decide +kernel
theorem dV_sizeAt_11 : decode cV_sizeAt 11 = .ok (.aload_n 0, 1) := by decide +kernel
theorem dV_sizeAt_12 : decode cV_sizeAt 12 = .ok (.getfield 15, 3) := by decide +kernel
theorem dV_sizeAt_15 : decode cV_sizeAt 15 = .ok (.if_icmp .ge 8, 3) := by decide +kernel
theorem dV_sizeAt_18 : decode cV_sizeAt 18 = .ok (.bipush (-2), 2) := by decide +kernel
theorem dV_sizeAt_20 : decode cV_sizeAt 20 = .ok (.goto 13, 3) := by decide +kernel
theorem dV_sizeAt_23 : decode cV_sizeAt 23 = .ok (.aload_n 0, 1) := by decide +kernel
theorem dV_sizeAt_24 : decode cV_sizeAt 24 = .ok (.getfield 11, 3) := by decide +kernel
theorem dV_sizeAt_27 : decode cV_sizeAt 27 = .ok (.iload_n 1, 1) := by decide +kernel
theorem dV_sizeAt_28 : decode cV_sizeAt 28 = .ok (.iload_n 2, 1) := by decide +kernel
theorem dV_sizeAt_29 : decode cV_sizeAt 29 = .ok (.invokestatic 29, 3) := by decide +kernel
theorem dV_sizeAt_32 : decode cV_sizeAt 32 = .ok (.iaload, 1) := by decide +kernel
theorem dV_sizeAt_33 : decode cV_sizeAt 33 = .ok (.ireturn, 1) := by decide +kernel
theorem dV_forgetBelow_0 : decode cV_forgetBelow 0 = .ok (.aload_n 0, 1) := by decide +kernel
theorem dV_forgetBelow_1 : decode cV_forgetBelow 1 = .ok (.iload_n 1, 1) := by decide +kernel
theorem dV_forgetBelow_2 : decode cV_forgetBelow 2 = .ok (.invokevirtual 39, 3) := by decide +kernel
theorem dV_forgetBelow_5 : decode cV_forgetBelow 5 = .ok (.ifCond .ne 5, 3) := by decide +kernel
theorem dV_forgetBelow_8 : decode cV_forgetBelow 8 = .ok (.iconst (-1), 1) := by decide +kernel
theorem dV_forgetBelow_9 : decode cV_forgetBelow 9 = .ok (.ireturn, 1) := by decide +kernel
theorem dV_forgetBelow_10 : decode cV_forgetBelow 10 = .ok (.iconst 0, 1) := by decide +kernel
theorem dV_forgetBelow_11 : decode cV_forgetBelow 11 = .ok (.iload_n 1, 1) := by decide +kernel
theorem dV_forgetBelow_12 : decode cV_forgetBelow 12 = .ok (.aload_n 0, 1) := by decide +kernel
theorem dV_forgetBelow_13 : decode cV_forgetBelow 13 = .ok (.getfield 15, 3) := by decide +kernel
theorem dV_forgetBelow_16 : decode cV_forgetBelow 16 = .ok (.isub, 1) := by decide +kernel
theorem dV_forgetBelow_17 : decode cV_forgetBelow 17 = .ok (.invokestatic 43, 3) := by decide +kernel
theorem dV_forgetBelow_20 : decode cV_forgetBelow 20 = .ok (.istore_n 2, 1) := by decide +kernel
theorem dV_forgetBelow_21 : decode cV_forgetBelow 21 = .ok (.aload_n 0, 1) := by decide +kernel
theorem dV_forgetBelow_22 : decode cV_forgetBelow 22 = .ok (.dup, 1) := by decide +kernel
theorem dV_forgetBelow_23 : decode cV_forgetBelow 23 = .ok (.getfield 15, 3) := by decide +kernel
theorem dV_forgetBelow_26 : decode cV_forgetBelow 26 = .ok (.iload_n 2, 1) := by decide +kernel
theorem dV_forgetBelow_27 : decode cV_forgetBelow 27 = .ok (.iadd, 1) := by decide +kernel
theorem dV_forgetBelow_28 : decode cV_forgetBelow 28 = .ok (.putfield 15, 3) := by decide +kernel
theorem dV_forgetBelow_31 : decode cV_forgetBelow 31 = .ok (.iload_n 2, 1) := by decide +kernel
theorem dV_forgetBelow_32 : decode cV_forgetBelow 32 = .ok (.ireturn, 1) := by decide +kernel
theorem dV_hasEnded_0 : decode cV_hasEnded 0 = .ok (.iload_n 1, 1) := by decide +kernel
theorem dV_hasEnded_1 : decode cV_hasEnded 1 = .ok (.ifCond .lt 15, 3) := by decide +kernel
theorem dV_hasEnded_4 : decode cV_hasEnded 4 = .ok (.iload_n 1, 1) := by decide +kernel
theorem dV_hasEnded_5 : decode cV_hasEnded 5 = .ok (.aload_n 0, 1) := by decide +kernel
theorem dV_hasEnded_6 : decode cV_hasEnded 6 = .ok (.getfield 19, 3) := by decide +kernel
theorem dV_hasEnded_9 : decode cV_hasEnded 9 = .ok (.if_icmp .ge 7, 3) := by decide +kernel
theorem dV_hasEnded_12 : decode cV_hasEnded 12 = .ok (.iconst 1, 1) := by decide +kernel
theorem dV_hasEnded_13 : decode cV_hasEnded 13 = .ok (.goto 4, 3) := by decide +kernel
theorem dV_hasEnded_16 : decode cV_hasEnded 16 = .ok (.iconst 0, 1) := by decide +kernel
theorem dV_hasEnded_17 : decode cV_hasEnded 17 = .ok (.ireturn, 1) := by decide +kernel
theorem dV_place_0 : decode cV_place 0 = .ok (.iload_n 1, 1) := by decide +kernel
theorem dV_place_1 : decode cV_place 1 = .ok (.bipush 40, 2) := by decide +kernel
theorem dV_place_3 : decode cV_place 3 = .ok (.irem, 1) := by decide +kernel
theorem dV_place_4 : decode cV_place 4 = .ok (.bipush 8, 2) := by decide +kernel
theorem dV_place_6 : decode cV_place 6 = .ok (.imul, 1) := by decide +kernel
theorem dV_place_7 : decode cV_place 7 = .ok (.iload_n 0, 1) := by decide +kernel
theorem dV_place_8 : decode cV_place 8 = .ok (.iadd, 1) := by decide +kernel
theorem dV_place_9 : decode cV_place 9 = .ok (.ireturn, 1) := by decide +kernel
theorem dJM_max_0 : decode cJM_max 0 = .ok (.iload_n 0, 1) := by decide +kernel
theorem dJM_max_1 : decode cJM_max 1 = .ok (.iload_n 1, 1) := by decide +kernel
theorem dJM_max_2 : decode cJM_max 2 = .ok (.if_icmp .lt 7, 3) := by decide +kernel
theorem dJM_max_5 : decode cJM_max 5 = .ok (.iload_n 0, 1) := by decide +kernel
theorem dJM_max_6 : decode cJM_max 6 = .ok (.goto 4, 3) := by decide +kernel
theorem dJM_max_9 : decode cJM_max 9 = .ok (.iload_n 1, 1) := by decide +kernel
theorem dJM_max_10 : decode cJM_max 10 = .ok (.ireturn, 1) := by decide +kernel
theorem dJM_min_0 : decode cJM_min 0 = .ok (.iload_n 0, 1) := by decide +kernel
theorem dJM_min_1 : decode cJM_min 1 = .ok (.iload_n 1, 1) := by decide +kernel
theorem dJM_min_2 : decode cJM_min 2 = .ok (.if_icmp .gt 7, 3) := by decide +kernel
theorem dJM_min_5 : decode cJM_min 5 = .ok (.iload_n 0, 1) := by decide +kernel
theorem dJM_min_6 : decode cJM_min 6 = .ok (.goto 4, 3) := by decide +kernel
theorem dJM_min_9 : decode cJM_min 9 = .ok (.iload_n 1, 1) := by decide +kernel
theorem dJM_min_10 : decode cJM_min 10 = .ok (.ireturn, 1) := by decide +kernel
theorem dJA_fill_0 : decode cJA_fill 0 = .ok (.iconst 0, 1) := by decide +kernel
theorem dJA_fill_1 : decode cJA_fill 1 = .ok (.istore_n 2, 1) := by decide +kernel
theorem dJA_fill_2 : decode cJA_fill 2 = .ok (.aload_n 0, 1) := by decide +kernel
theorem dJA_fill_3 : decode cJA_fill 3 = .ok (.arraylength, 1) := by decide +kernel
theorem dJA_fill_4 : decode cJA_fill 4 = .ok (.istore_n 3, 1) := by decide +kernel
theorem dJA_fill_5 : decode cJA_fill 5 = .ok (.iload_n 2, 1) := by decide +kernel
theorem dJA_fill_6 : decode cJA_fill 6 = .ok (.iload_n 3, 1) := by decide +kernel
theorem dJA_fill_7 : decode cJA_fill 7 = .ok (.if_icmp .ge 13, 3) := by decide +kernel
theorem dJA_fill_10 : decode cJA_fill 10 = .ok (.aload_n 0, 1) := by decide +kernel
theorem dJA_fill_11 : decode cJA_fill 11 = .ok (.iload_n 2, 1) := by decide +kernel
theorem dJA_fill_12 : decode cJA_fill 12 = .ok (.iload_n 1, 1) := by decide +kernel
theorem dJA_fill_13 : decode cJA_fill 13 = .ok (.iastore, 1) := by decide +kernel
theorem dJA_fill_14 : decode cJA_fill 14 = .ok (.iinc 2 1, 3) := by decide +kernel
theorem dJA_fill_17 : decode cJA_fill 17 = .ok (.goto (-12), 3) := by decide +kernel
theorem dJA_fill_20 : decode cJA_fill 20 = .ok (.return_, 1) := by decide +kernel
