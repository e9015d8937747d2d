theorem dX_init_0 : decode cX_init 0 = .ok (.aload_n 0, 1) := by decide +kernel
theorem dX_init_1 : decode cX_init 1 = .ok (.invokespecial 1, 3) := by decide +kernel
theorem dX_init_4 : decode cX_init 4 = .ok (.aload_n 0, 1) := by decide +kernel
theorem dX_init_5 : decode cX_init 5 = .ok (.new 7, 3) := by decide +kernel
theorem dX_init_8 : decode cX_init 8 = .ok (.dup, 1) := by decide +kernel
theorem dX_init_9 : decode cX_init 9 = .ok (.invokespecial 9, 3) := by decide +kernel
theorem dX_init_12 : decode cX_init 12 = .ok (.putfield 10, 3) := by decide +kernel
theorem dX_init_15 : decode cX_init 15 = .ok (.aload_n 0, 1) := by decide +kernel
theorem dX_init_16 : decode cX_init 16 = .ok (.new 16, 3) := by decide +kernel
theorem dX_init_19 : decode cX_init 19 = .ok (.dup, 1) := by decide +kernel
theorem dX_init_20 : decode cX_init 20 = .ok (.invokespecial 18, 3) := by decide +kernel
theorem dX_init_23 : decode cX_init 23 = .ok (.putfield 19, 3) := by decide +kernel
theorem dX_init_26 : decode cX_init 26 = .ok (.aload_n 0, 1) := by decide +kernel
theorem dX_init_27 : decode cX_init 27 = .ok (.new 23, 3) := by decide +kernel
theorem dX_init_30 : decode cX_init 30 = .ok (.dup, 1) := by decide +kernel
theorem dX_init_31 : decode cX_init 31 = .ok (.invokespecial 25, 3) := by decide +kernel
theorem dX_init_34 : decode cX_init 34 = .ok (.putfield 26, 3) := by decide +kernel
theorem dX_init_37 : decode cX_init 37 = .ok (.aload_n 0, 1) := by decide +kernel
theorem dX_init_38 : decode cX_init 38 = .ok (.new 30, 3) := by decide +kernel
theorem dX_init_41 : decode cX_init 41 = .ok (.dup, 1) := by decide +kernel
theorem dX_init_42 : decode cX_init 42 = .ok (.invokespecial 32, 3) := by decide +kernel
theorem dX_init_45 : decode cX_init 45 = .ok (.putfield 33, 3) := by decide +kernel
theorem dX_init_48 : decode cX_init 48 = .ok (.aload_n 0, 1) := by decide +kernel
theorem dX_init_49 : decode cX_init 49 = .ok (.sipush 256, 3) := by decide +kernel
theorem dX_init_52 : decode cX_init 52 = .ok (.newarray .int, 2) := by decide +kernel
theorem dX_init_54 : decode cX_init 54 = .ok (.putfield 37, 3) := by decide +kernel
theorem dX_init_57 : decode cX_init 57 = .ok (.return_, 1) := by decide +kernel
theorem dX_triple_0 : decode cX_triple 0 = .ok (.iload_n 1, 1) := by decide +kernel
theorem dX_triple_1 : decode cX_triple 1 = .ok (.iload_n 2, 1) := by decide +kernel
theorem dX_triple_2 : decode cX_triple 2 = .ok (.iload_n 3, 1) := by decide +kernel
theorem dX_triple_3 : decode cX_triple 3 = .ok (.invokestatic 41, 3) := by decide +kernel
theorem dX_triple_6 : decode cX_triple 6 = .ok (.ifCond .ne 5, 3) := by decide +kernel
theorem dX_triple_9 : decode cX_triple 9 = .ok (.iconst (-1), 1) := by decide +kernel
theorem dX_triple_10 : decode cX_triple 10 = .ok (.ireturn, 1) := by decide +kernel
theorem dX_triple_11 : decode cX_triple 11 = .ok (.aload_n 0, 1) := by decide +kernel
theorem dX_triple_12 : decode cX_triple 12 = .ok (.getfield 10, 3) := by decide +kernel
theorem dX_triple_15 : decode cX_triple 15 = .ok (.iload_n 2, 1) := by decide +kernel
theorem dX_triple_16 : decode cX_triple 16 = .ok (.iload_n 1, 1) := by decide +kernel
theorem dX_triple_17 : decode cX_triple 17 = .ok (.iload_n 3, 1) := by decide +kernel
theorem dX_triple_18 : decode cX_triple 18 = .ok (.invokestatic 45, 3) := by decide +kernel
theorem dX_triple_21 : decode cX_triple 21 = .ok (.invokevirtual 49, 3) := by decide +kernel
theorem dX_triple_24 : decode cX_triple 24 = .ok (.ireturn, 1) := by decide +kernel
theorem dX_drop_0 : decode cX_drop 0 = .ok (.iload_n 1, 1) := by decide +kernel
theorem dX_drop_1 : decode cX_drop 1 = .ok (.iload_n 2, 1) := by decide +kernel
theorem dX_drop_2 : decode cX_drop 2 = .ok (.iload_n 3, 1) := by decide +kernel
theorem dX_drop_3 : decode cX_drop 3 = .ok (.invokestatic 41, 3) := by decide +kernel
theorem dX_drop_6 : decode cX_drop 6 = .ok (.ifCond .ne 5, 3) := by decide +kernel
theorem dX_drop_9 : decode cX_drop 9 = .ok (.iconst (-1), 1) := by decide +kernel
theorem dX_drop_10 : decode cX_drop 10 = .ok (.ireturn, 1) := by decide +kernel
theorem dX_drop_11 : decode cX_drop 11 = .ok (.aload_n 0, 1) := by decide +kernel
theorem dX_drop_12 : decode cX_drop 12 = .ok (.getfield 10, 3) := by decide +kernel
theorem dX_drop_15 : decode cX_drop 15 = .ok (.iload_n 2, 1) := by decide +kernel
theorem dX_drop_16 : decode cX_drop 16 = .ok (.iload_n 1, 1) := by decide +kernel
theorem dX_drop_17 : decode cX_drop 17 = .ok (.iload_n 3, 1) := by decide +kernel
theorem dX_drop_18 : decode cX_drop 18 = .ok (.invokestatic 45, 3) := by decide +kernel
theorem dX_drop_21 : decode cX_drop 21 = .ok (.invokevirtual 52, 3) := by decide +kernel
theorem dX_drop_24 : decode cX_drop 24 = .ok (.ireturn, 1) := by decide +kernel
theorem dX_count_0 : decode cX_count 0 = .ok (.iload_n 1, 1) := by decide +kernel
theorem dX_count_1 : decode cX_count 1 = .ok (.invokestatic 55, 3) := by decide +kernel
theorem dX_count_4 : decode cX_count 4 = .ok (.ifCond .ne 5, 3) := by decide +kernel
theorem dX_count_7 : decode cX_count 7 = .ok (.iconst (-1), 1) := by decide +kernel
theorem dX_count_8 : decode cX_count 8 = .ok (.ireturn, 1) := by decide +kernel
theorem dX_count_9 : decode cX_count 9 = .ok (.iload_n 2, 1) := by decide +kernel
theorem dX_count_10 : decode cX_count 10 = .ok (.tableswitch 47 0 2 #[26, 35, 41], 26) := by decide +kernel
theorem dX_count_36 : decode cX_count 36 = .ok (.aload_n 0, 1) := by decide +kernel
theorem dX_count_37 : decode cX_count 37 = .ok (.getfield 10, 3) := by decide +kernel
theorem dX_count_40 : decode cX_count 40 = .ok (.iload_n 1, 1) := by decide +kernel
theorem dX_count_41 : decode cX_count 41 = .ok (.invokevirtual 59, 3) := by decide +kernel
theorem dX_count_44 : decode cX_count 44 = .ok (.ireturn, 1) := by decide +kernel
theorem dX_count_45 : decode cX_count 45 = .ok (.aload_n 0, 1) := by decide +kernel
theorem dX_count_46 : decode cX_count 46 = .ok (.iload_n 1, 1) := by decide +kernel
theorem dX_count_47 : decode cX_count 47 = .ok (.invokevirtual 63, 3) := by decide +kernel
theorem dX_count_50 : decode cX_count 50 = .ok (.ireturn, 1) := by decide +kernel
theorem dX_count_51 : decode cX_count 51 = .ok (.aload_n 0, 1) := by decide +kernel
theorem dX_count_52 : decode cX_count 52 = .ok (.iload_n 1, 1) := by decide +kernel
theorem dX_count_53 : decode cX_count 53 = .ok (.invokevirtual 66, 3) := by decide +kernel
theorem dX_count_56 : decode cX_count 56 = .ok (.ireturn, 1) := by decide +kernel
theorem dX_count_57 : decode cX_count 57 = .ok (.iconst (-1), 1) := by decide +kernel
theorem dX_count_58 : decode cX_count 58 = .ok (.ireturn, 1) := by decide +kernel
theorem dX_chain_0 : decode cX_chain 0 = .ok (.iload_n 1, 1) := by decide +kernel
theorem dX_chain_1 : decode cX_chain 1 = .ok (.invokestatic 55, 3) := by decide +kernel
theorem dX_chain_4 : decode cX_chain 4 = .ok (.ifCond .eq 10, 3) := by decide +kernel
theorem dX_chain_7 : decode cX_chain 7 = .ok (.iload_n 2, 1) := by decide +kernel
theorem dX_chain_8 : decode cX_chain 8 = .ok (.invokestatic 55, 3) := by decide +kernel
theorem dX_chain_11 : decode cX_chain 11 = .ok (.ifCond .ne 7, 3) := by decide +kernel
theorem dX_chain_14 : decode cX_chain 14 = .ok (.ldc2_w 69, 3) := by decide +kernel
theorem dX_chain_17 : decode cX_chain 17 = .ok (.lreturn, 1) := by decide +kernel
theorem dX_chain_18 : decode cX_chain 18 = .ok (.aload_n 0, 1) := by decide +kernel
theorem dX_chain_19 : decode cX_chain 19 = .ok (.iload_n 1, 1) := by decide +kernel
theorem dX_chain_20 : decode cX_chain 20 = .ok (.iconst 0, 1) := by decide +kernel
theorem dX_chain_21 : decode cX_chain 21 = .ok (.invokevirtual 71, 3) := by decide +kernel
theorem dX_chain_24 : decode cX_chain 24 = .ok (.aload_n 0, 1) := by decide +kernel
theorem dX_chain_25 : decode cX_chain 25 = .ok (.iload_n 2, 1) := by decide +kernel
theorem dX_chain_26 : decode cX_chain 26 = .ok (.iconst 0, 1) := by decide +kernel
theorem dX_chain_27 : decode cX_chain 27 = .ok (.invokevirtual 75, 3) := by decide +kernel
theorem dX_chain_30 : decode cX_chain 30 = .ok (.lreturn, 1) := by decide +kernel
theorem dX_star_0 : decode cX_star 0 = .ok (.iload_n 1, 1) := by decide +kernel
theorem dX_star_1 : decode cX_star 1 = .ok (.invokestatic 55, 3) := by decide +kernel
theorem dX_star_4 : decode cX_star 4 = .ok (.ifCond .eq 10, 3) := by decide +kernel
theorem dX_star_7 : decode cX_star 7 = .ok (.iload_n 2, 1) := by decide +kernel
theorem dX_star_8 : decode cX_star 8 = .ok (.invokestatic 55, 3) := by decide +kernel
theorem dX_star_11 : decode cX_star 11 = .ok (.ifCond .ne 7, 3) := by decide +kernel
theorem dX_star_14 : decode cX_star 14 = .ok (.ldc2_w 69, 3) := by decide +kernel
theorem dX_star_17 : decode cX_star 17 = .ok (.lreturn, 1) := by decide +kernel
theorem dX_star_18 : decode cX_star 18 = .ok (.aload_n 0, 1) := by decide +kernel
theorem dX_star_19 : decode cX_star 19 = .ok (.invokevirtual 79, 3) := by decide +kernel
theorem dX_star_22 : decode cX_star 22 = .ok (.aload_n 0, 1) := by decide +kernel
theorem dX_star_23 : decode cX_star 23 = .ok (.iload_n 1, 1) := by decide +kernel
theorem dX_star_24 : decode cX_star 24 = .ok (.invokevirtual 82, 3) := by decide +kernel
theorem dX_star_27 : decode cX_star 27 = .ok (.aload_n 0, 1) := by decide +kernel
theorem dX_star_28 : decode cX_star 28 = .ok (.iload_n 2, 1) := by decide +kernel
theorem dX_star_29 : decode cX_star 29 = .ok (.iconst 0, 1) := by decide +kernel
theorem dX_star_30 : decode cX_star 30 = .ok (.invokevirtual 75, 3) := by decide +kernel
theorem dX_star_33 : decode cX_star 33 = .ok (.lreturn, 1) := by decide +kernel
theorem dX_bucket_0 : decode cX_bucket 0 = .ok (.iload_n 1, 1) := by decide +kernel
theorem dX_bucket_1 : decode cX_bucket 1 = .ok (.invokestatic 55, 3) := by decide +kernel
theorem dX_bucket_4 : decode cX_bucket 4 = .ok (.ifCond .ne 5, 3) := by decide +kernel
theorem dX_bucket_7 : decode cX_bucket 7 = .ok (.iconst (-1), 1) := by decide +kernel
theorem dX_bucket_8 : decode cX_bucket 8 = .ok (.ireturn, 1) := by decide +kernel
theorem dX_bucket_9 : decode cX_bucket 9 = .ok (.aload_n 0, 1) := by decide +kernel
theorem dX_bucket_10 : decode cX_bucket 10 = .ok (.iload_n 1, 1) := by decide +kernel
theorem dX_bucket_11 : decode cX_bucket 11 = .ok (.iload_n 2, 1) := by decide +kernel
theorem dX_bucket_12 : decode cX_bucket 12 = .ok (.iload_n 3, 1) := by decide +kernel
theorem dX_bucket_13 : decode cX_bucket 13 = .ok (.invokevirtual 86, 3) := by decide +kernel
theorem dX_bucket_16 : decode cX_bucket 16 = .ok (.ireturn, 1) := by decide +kernel
theorem dX_quantile_0 : decode cX_quantile 0 = .ok (.iload_n 1, 1) := by decide +kernel
theorem dX_quantile_1 : decode cX_quantile 1 = .ok (.invokestatic 55, 3) := by decide +kernel
theorem dX_quantile_4 : decode cX_quantile 4 = .ok (.ifCond .eq 14, 3) := by decide +kernel
theorem dX_quantile_7 : decode cX_quantile 7 = .ok (.iload_n 2, 1) := by decide +kernel
theorem dX_quantile_8 : decode cX_quantile 8 = .ok (.iconst 1, 1) := by decide +kernel
theorem dX_quantile_9 : decode cX_quantile 9 = .ok (.if_icmp .lt 9, 3) := by decide +kernel
theorem dX_quantile_12 : decode cX_quantile 12 = .ok (.iload_n 2, 1) := by decide +kernel
theorem dX_quantile_13 : decode cX_quantile 13 = .ok (.bipush 8, 2) := by decide +kernel
theorem dX_quantile_15 : decode cX_quantile 15 = .ok (.if_icmp .le 5, 3) := by decide +kernel
theorem dX_quantile_18 : decode cX_quantile 18 = .ok (.iconst (-1), 1) := by decide +kernel
theorem dX_quantile_19 : decode cX_quantile 19 = .ok (.ireturn, 1) := by decide +kernel
theorem dX_quantile_20 : decode cX_quantile 20 = .ok (.iload_n 2, 1) := by decide +kernel
theorem dX_quantile_21 : decode cX_quantile 21 = .ok (.aload_n 0, 1) := by decide +kernel
theorem dX_quantile_22 : decode cX_quantile 22 = .ok (.getfield 10, 3) := by decide +kernel
theorem dX_quantile_25 : decode cX_quantile 25 = .ok (.iload_n 1, 1) := by decide +kernel
theorem dX_quantile_26 : decode cX_quantile 26 = .ok (.invokevirtual 59, 3) := by decide +kernel
theorem dX_quantile_29 : decode cX_quantile 29 = .ok (.imul, 1) := by decide +kernel
theorem dX_quantile_30 : decode cX_quantile 30 = .ok (.istore_n 3, 1) := by decide +kernel
theorem dX_quantile_31 : decode cX_quantile 31 = .ok (.iload_n 3, 1) := by decide +kernel
theorem dX_quantile_32 : decode cX_quantile 32 = .ok (.ifCond .ne 6, 3) := by decide +kernel
theorem dX_quantile_35 : decode cX_quantile 35 = .ok (.bipush (-2), 2) := by decide +kernel
theorem dX_quantile_37 : decode cX_quantile 37 = .ok (.ireturn, 1) := by decide +kernel
theorem dX_quantile_38 : decode cX_quantile 38 = .ok (.aload_n 0, 1) := by decide +kernel
theorem dX_quantile_39 : decode cX_quantile 39 = .ok (.iload_n 1, 1) := by decide +kernel
theorem dX_quantile_40 : decode cX_quantile 40 = .ok (.iconst 0, 1) := by decide +kernel
theorem dX_quantile_41 : decode cX_quantile 41 = .ok (.invokevirtual 71, 3) := by decide +kernel
theorem dX_quantile_44 : decode cX_quantile 44 = .ok (.iconst 0, 1) := by decide +kernel
theorem dX_quantile_45 : decode cX_quantile 45 = .ok (.istore 4, 2) := by decide +kernel
theorem dX_quantile_47 : decode cX_quantile 47 = .ok (.iconst 0, 1) := by decide +kernel
theorem dX_quantile_48 : decode cX_quantile 48 = .ok (.istore 5, 2) := by decide +kernel
theorem dX_quantile_50 : decode cX_quantile 50 = .ok (.iload 5, 2) := by decide +kernel
theorem dX_quantile_52 : decode cX_quantile 52 = .ok (.sipush 256, 3) := by decide +kernel
theorem dX_quantile_55 : decode cX_quantile 55 = .ok (.if_icmp .ge 33, 3) := by decide +kernel
theorem dX_quantile_58 : decode cX_quantile 58 = .ok (.iload 4, 2) := by decide +kernel
theorem dX_quantile_60 : decode cX_quantile 60 = .ok (.aload_n 0, 1) := by decide +kernel
theorem dX_quantile_61 : decode cX_quantile 61 = .ok (.getfield 37, 3) := by decide +kernel
theorem dX_quantile_64 : decode cX_quantile 64 = .ok (.iload 5, 2) := by decide +kernel
theorem dX_quantile_66 : decode cX_quantile 66 = .ok (.iaload, 1) := by decide +kernel
theorem dX_quantile_67 : decode cX_quantile 67 = .ok (.iadd, 1) := by decide +kernel
theorem dX_quantile_68 : decode cX_quantile 68 = .ok (.istore 4, 2) := by decide +kernel
theorem dX_quantile_70 : decode cX_quantile 70 = .ok (.bipush 8, 2) := by decide +kernel
theorem dX_quantile_72 : decode cX_quantile 72 = .ok (.iload 4, 2) := by decide +kernel
theorem dX_quantile_74 : decode cX_quantile 74 = .ok (.imul, 1) := by decide +kernel
theorem dX_quantile_75 : decode cX_quantile 75 = .ok (.iload_n 3, 1) := by decide +kernel
theorem dX_quantile_76 : decode cX_quantile 76 = .ok (.if_icmp .lt 6, 3) := by decide +kernel
theorem dX_quantile_79 : decode cX_quantile 79 = .ok (.iload 5, 2) := by decide +kernel
theorem dX_quantile_81 : decode cX_quantile 81 = .ok (.ireturn, 1) := by decide +kernel
theorem dX_quantile_82 : decode cX_quantile 82 = .ok (.iinc 5 1, 3) := by decide +kernel
theorem dX_quantile_85 : decode cX_quantile 85 = .ok (.goto (-35), 3) := by decide +kernel
theorem dX_quantile_88 : decode cX_quantile 88 = .ok (.bipush (-2), 2) := by decide +kernel
theorem dX_quantile_90 : decode cX_quantile 90 = .ok (.ireturn, 1) := by decide +kernel
theorem dX_register_0 : decode cX_register 0 = .ok (.iload_n 1, 1) := by decide +kernel
theorem dX_register_1 : decode cX_register 1 = .ok (.invokestatic 90, 3) := by decide +kernel
theorem dX_register_4 : decode cX_register 4 = .ok (.ifCond .eq 13, 3) := by decide +kernel
theorem dX_register_7 : decode cX_register 7 = .ok (.iload_n 2, 1) := by decide +kernel
theorem dX_register_8 : decode cX_register 8 = .ok (.ifCond .lt 9, 3) := by decide +kernel
theorem dX_register_11 : decode cX_register 11 = .ok (.iload_n 2, 1) := by decide +kernel
theorem dX_register_12 : decode cX_register 12 = .ok (.bipush 16, 2) := by decide +kernel
theorem dX_register_14 : decode cX_register 14 = .ok (.if_icmp .lt 5, 3) := by decide +kernel
theorem dX_register_17 : decode cX_register 17 = .ok (.iconst (-1), 1) := by decide +kernel
theorem dX_register_18 : decode cX_register 18 = .ok (.ireturn, 1) := by decide +kernel
theorem dX_register_19 : decode cX_register 19 = .ok (.aload_n 0, 1) := by decide +kernel
theorem dX_register_20 : decode cX_register 20 = .ok (.iload_n 1, 1) := by decide +kernel
theorem dX_register_21 : decode cX_register 21 = .ok (.invokevirtual 93, 3) := by decide +kernel
theorem dX_register_24 : decode cX_register 24 = .ok (.aload_n 0, 1) := by decide +kernel
theorem dX_register_25 : decode cX_register 25 = .ok (.getfield 33, 3) := by decide +kernel
theorem dX_register_28 : decode cX_register 28 = .ok (.aload_n 0, 1) := by decide +kernel
theorem dX_register_29 : decode cX_register 29 = .ok (.getfield 37, 3) := by decide +kernel
theorem dX_register_32 : decode cX_register 32 = .ok (.invokevirtual 96, 3) := by decide +kernel
theorem dX_register_35 : decode cX_register 35 = .ok (.aload_n 0, 1) := by decide +kernel
theorem dX_register_36 : decode cX_register 36 = .ok (.getfield 33, 3) := by decide +kernel
theorem dX_register_39 : decode cX_register 39 = .ok (.iload_n 2, 1) := by decide +kernel
theorem dX_register_40 : decode cX_register 40 = .ok (.invokevirtual 100, 3) := by decide +kernel
theorem dX_register_43 : decode cX_register 43 = .ok (.ireturn, 1) := by decide +kernel
theorem dX_distinct_0 : decode cX_distinct 0 = .ok (.iload_n 1, 1) := by decide +kernel
theorem dX_distinct_1 : decode cX_distinct 1 = .ok (.invokestatic 90, 3) := by decide +kernel
theorem dX_distinct_4 : decode cX_distinct 4 = .ok (.ifCond .eq 7, 3) := by decide +kernel
theorem dX_distinct_7 : decode cX_distinct 7 = .ok (.iload_n 2, 1) := by decide +kernel
theorem dX_distinct_8 : decode cX_distinct 8 = .ok (.ifCond .ge 7, 3) := by decide +kernel
theorem dX_distinct_11 : decode cX_distinct 11 = .ok (.ldc2_w 69, 3) := by decide +kernel
theorem dX_distinct_14 : decode cX_distinct 14 = .ok (.lreturn, 1) := by decide +kernel
theorem dX_distinct_15 : decode cX_distinct 15 = .ok (.aload_n 0, 1) := by decide +kernel
theorem dX_distinct_16 : decode cX_distinct 16 = .ok (.iload_n 1, 1) := by decide +kernel
theorem dX_distinct_17 : decode cX_distinct 17 = .ok (.invokevirtual 93, 3) := by decide +kernel
theorem dX_distinct_20 : decode cX_distinct 20 = .ok (.aload_n 0, 1) := by decide +kernel
theorem dX_distinct_21 : decode cX_distinct 21 = .ok (.invokevirtual 103, 3) := by decide +kernel
theorem dX_distinct_24 : decode cX_distinct 24 = .ok (.istore_n 3, 1) := by decide +kernel
theorem dX_distinct_25 : decode cX_distinct 25 = .ok (.iload_n 3, 1) := by decide +kernel
theorem dX_distinct_26 : decode cX_distinct 26 = .ok (.iload_n 2, 1) := by decide +kernel
theorem dX_distinct_27 : decode cX_distinct 27 = .ok (.if_icmp .gt 6, 3) := by decide +kernel
theorem dX_distinct_30 : decode cX_distinct 30 = .ok (.iload_n 3, 1) := by decide +kernel
theorem dX_distinct_31 : decode cX_distinct 31 = .ok (.i2l, 1) := by decide +kernel
theorem dX_distinct_32 : decode cX_distinct 32 = .ok (.lreturn, 1) := by decide +kernel
theorem dX_distinct_33 : decode cX_distinct 33 = .ok (.aload_n 0, 1) := by decide +kernel
theorem dX_distinct_34 : decode cX_distinct 34 = .ok (.getfield 33, 3) := by decide +kernel
theorem dX_distinct_37 : decode cX_distinct 37 = .ok (.aload_n 0, 1) := by decide +kernel
theorem dX_distinct_38 : decode cX_distinct 38 = .ok (.getfield 37, 3) := by decide +kernel
theorem dX_distinct_41 : decode cX_distinct 41 = .ok (.invokevirtual 96, 3) := by decide +kernel
theorem dX_distinct_44 : decode cX_distinct 44 = .ok (.aload_n 0, 1) := by decide +kernel
theorem dX_distinct_45 : decode cX_distinct 45 = .ok (.getfield 33, 3) := by decide +kernel
theorem dX_distinct_48 : decode cX_distinct 48 = .ok (.invokevirtual 107, 3) := by decide +kernel
theorem dX_distinct_51 : decode cX_distinct 51 = .ok (.lreturn, 1) := by decide +kernel
theorem dX_estimate_0 : decode cX_estimate 0 = .ok (.iload_n 2, 1) := by decide +kernel
theorem dX_estimate_1 : decode cX_estimate 1 = .ok (.invokestatic 55, 3) := by decide +kernel
theorem dX_estimate_4 : decode cX_estimate 4 = .ok (.ifCond .ne 7, 3) := by decide +kernel
theorem dX_estimate_7 : decode cX_estimate 7 = .ok (.ldc2_w 69, 3) := by decide +kernel
theorem dX_estimate_10 : decode cX_estimate 10 = .ok (.lreturn, 1) := by decide +kernel
theorem dX_estimate_11 : decode cX_estimate 11 = .ok (.iload_n 1, 1) := by decide +kernel
theorem dX_estimate_12 : decode cX_estimate 12 = .ok (.iconst 3, 1) := by decide +kernel
theorem dX_estimate_13 : decode cX_estimate 13 = .ok (.if_icmp .ne 15, 3) := by decide +kernel
theorem dX_estimate_16 : decode cX_estimate 16 = .ok (.aload_n 0, 1) := by decide +kernel
theorem dX_estimate_17 : decode cX_estimate 17 = .ok (.getfield 10, 3) := by decide +kernel
theorem dX_estimate_20 : decode cX_estimate 20 = .ok (.iload_n 2, 1) := by decide +kernel
theorem dX_estimate_21 : decode cX_estimate 21 = .ok (.invokevirtual 59, 3) := by decide +kernel
theorem dX_estimate_24 : decode cX_estimate 24 = .ok (.iconst 3, 1) := by decide +kernel
theorem dX_estimate_25 : decode cX_estimate 25 = .ok (.idiv, 1) := by decide +kernel
theorem dX_estimate_26 : decode cX_estimate 26 = .ok (.i2l, 1) := by decide +kernel
theorem dX_estimate_27 : decode cX_estimate 27 = .ok (.lreturn, 1) := by decide +kernel
theorem dX_estimate_28 : decode cX_estimate 28 = .ok (.iload_n 3, 1) := by decide +kernel
theorem dX_estimate_29 : decode cX_estimate 29 = .ok (.invokestatic 55, 3) := by decide +kernel
theorem dX_estimate_32 : decode cX_estimate 32 = .ok (.ifCond .ne 7, 3) := by decide +kernel
theorem dX_estimate_35 : decode cX_estimate 35 = .ok (.ldc2_w 69, 3) := by decide +kernel
theorem dX_estimate_38 : decode cX_estimate 38 = .ok (.lreturn, 1) := by decide +kernel
theorem dX_estimate_39 : decode cX_estimate 39 = .ok (.iload_n 1, 1) := by decide +kernel
theorem dX_estimate_40 : decode cX_estimate 40 = .ok (.tableswitch 87 0 4 #[36, 48, 60, 87, 80], 36) := by decide +kernel
theorem dX_estimate_76 : decode cX_estimate 76 = .ok (.aload_n 0, 1) := by decide +kernel
theorem dX_estimate_77 : decode cX_estimate 77 = .ok (.iload_n 2, 1) := by decide +kernel
theorem dX_estimate_78 : decode cX_estimate 78 = .ok (.iload_n 3, 1) := by decide +kernel
theorem dX_estimate_79 : decode cX_estimate 79 = .ok (.aload_n 0, 1) := by decide +kernel
theorem dX_estimate_80 : decode cX_estimate 80 = .ok (.iload_n 2, 1) := by decide +kernel
theorem dX_estimate_81 : decode cX_estimate 81 = .ok (.invokevirtual 66, 3) := by decide +kernel
theorem dX_estimate_84 : decode cX_estimate 84 = .ok (.invokevirtual 111, 3) := by decide +kernel
theorem dX_estimate_87 : decode cX_estimate 87 = .ok (.lreturn, 1) := by decide +kernel
theorem dX_estimate_88 : decode cX_estimate 88 = .ok (.aload_n 0, 1) := by decide +kernel
theorem dX_estimate_89 : decode cX_estimate 89 = .ok (.iload_n 2, 1) := by decide +kernel
theorem dX_estimate_90 : decode cX_estimate 90 = .ok (.iload_n 3, 1) := by decide +kernel
theorem dX_estimate_91 : decode cX_estimate 91 = .ok (.aload_n 0, 1) := by decide +kernel
theorem dX_estimate_92 : decode cX_estimate 92 = .ok (.iload_n 2, 1) := by decide +kernel
theorem dX_estimate_93 : decode cX_estimate 93 = .ok (.invokevirtual 63, 3) := by decide +kernel
theorem dX_estimate_96 : decode cX_estimate 96 = .ok (.invokevirtual 111, 3) := by decide +kernel
theorem dX_estimate_99 : decode cX_estimate 99 = .ok (.lreturn, 1) := by decide +kernel
theorem dX_estimate_100 : decode cX_estimate 100 = .ok (.aload_n 0, 1) := by decide +kernel
theorem dX_estimate_101 : decode cX_estimate 101 = .ok (.getfield 10, 3) := by decide +kernel
theorem dX_estimate_104 : decode cX_estimate 104 = .ok (.iload_n 2, 1) := by decide +kernel
theorem dX_estimate_105 : decode cX_estimate 105 = .ok (.invokevirtual 59, 3) := by decide +kernel
theorem dX_estimate_108 : decode cX_estimate 108 = .ok (.i2l, 1) := by decide +kernel
theorem dX_estimate_109 : decode cX_estimate 109 = .ok (.aload_n 0, 1) := by decide +kernel
theorem dX_estimate_110 : decode cX_estimate 110 = .ok (.getfield 10, 3) := by decide +kernel
theorem dX_estimate_113 : decode cX_estimate 113 = .ok (.iload_n 3, 1) := by decide +kernel
theorem dX_estimate_114 : decode cX_estimate 114 = .ok (.invokevirtual 59, 3) := by decide +kernel
theorem dX_estimate_117 : decode cX_estimate 117 = .ok (.i2l, 1) := by decide +kernel
theorem dX_estimate_118 : decode cX_estimate 118 = .ok (.ladd, 1) := by decide +kernel
theorem dX_estimate_119 : decode cX_estimate 119 = .ok (.lreturn, 1) := by decide +kernel
theorem dX_estimate_120 : decode cX_estimate 120 = .ok (.aload_n 0, 1) := by decide +kernel
theorem dX_estimate_121 : decode cX_estimate 121 = .ok (.iload_n 2, 1) := by decide +kernel
theorem dX_estimate_122 : decode cX_estimate 122 = .ok (.iload_n 3, 1) := by decide +kernel
theorem dX_estimate_123 : decode cX_estimate 123 = .ok (.invokevirtual 115, 3) := by decide +kernel
theorem dX_estimate_126 : decode cX_estimate 126 = .ok (.lreturn, 1) := by decide +kernel
theorem dX_estimate_127 : decode cX_estimate 127 = .ok (.ldc2_w 69, 3) := by decide +kernel
theorem dX_estimate_130 : decode cX_estimate 130 = .ok (.lreturn, 1) := by decide +kernel
theorem dX_range_0 : decode cX_range 0 = .ok (.iload_n 1, 1) := by decide +kernel
theorem dX_range_1 : decode cX_range 1 = .ok (.invokestatic 55, 3) := by decide +kernel
theorem dX_range_4 : decode cX_range 4 = .ok (.ifCond .ne 5, 3) := by decide +kernel
theorem dX_range_7 : decode cX_range 7 = .ok (.iconst (-1), 1) := by decide +kernel
theorem dX_range_8 : decode cX_range 8 = .ok (.ireturn, 1) := by decide +kernel
theorem dX_range_9 : decode cX_range 9 = .ok (.iconst 0, 1) := by decide +kernel
theorem dX_range_10 : decode cX_range 10 = .ok (.istore 4, 2) := by decide +kernel
theorem dX_range_12 : decode cX_range 12 = .ok (.iconst 0, 1) := by decide +kernel
theorem dX_range_13 : decode cX_range 13 = .ok (.istore 5, 2) := by decide +kernel
theorem dX_range_15 : decode cX_range 15 = .ok (.iload 5, 2) := by decide +kernel
theorem dX_range_17 : decode cX_range 17 = .ok (.bipush 8, 2) := by decide +kernel
theorem dX_range_19 : decode cX_range 19 = .ok (.if_icmp .ge 56, 3) := by decide +kernel
theorem dX_range_22 : decode cX_range 22 = .ok (.bipush 32, 2) := by decide +kernel
theorem dX_range_24 : decode cX_range 24 = .ok (.iload 5, 2) := by decide +kernel
theorem dX_range_26 : decode cX_range 26 = .ok (.imul, 1) := by decide +kernel
theorem dX_range_27 : decode cX_range 27 = .ok (.istore 6, 2) := by decide +kernel
theorem dX_range_29 : decode cX_range 29 = .ok (.iload 6, 2) := by decide +kernel
theorem dX_range_31 : decode cX_range 31 = .ok (.bipush 32, 2) := by decide +kernel
theorem dX_range_33 : decode cX_range 33 = .ok (.iadd, 1) := by decide +kernel
theorem dX_range_34 : decode cX_range 34 = .ok (.iconst 1, 1) := by decide +kernel
theorem dX_range_35 : decode cX_range 35 = .ok (.isub, 1) := by decide +kernel
theorem dX_range_36 : decode cX_range 36 = .ok (.istore 7, 2) := by decide +kernel
theorem dX_range_38 : decode cX_range 38 = .ok (.aload_n 0, 1) := by decide +kernel
theorem dX_range_39 : decode cX_range 39 = .ok (.iload_n 1, 1) := by decide +kernel
theorem dX_range_40 : decode cX_range 40 = .ok (.iload 6, 2) := by decide +kernel
theorem dX_range_42 : decode cX_range 42 = .ok (.iload 7, 2) := by decide +kernel
theorem dX_range_44 : decode cX_range 44 = .ok (.invokevirtual 86, 3) := by decide +kernel
theorem dX_range_47 : decode cX_range 47 = .ok (.istore 8, 2) := by decide +kernel
theorem dX_range_49 : decode cX_range 49 = .ok (.iload 4, 2) := by decide +kernel
theorem dX_range_51 : decode cX_range 51 = .ok (.iload 8, 2) := by decide +kernel
theorem dX_range_53 : decode cX_range 53 = .ok (.iload 6, 2) := by decide +kernel
theorem dX_range_55 : decode cX_range 55 = .ok (.iload 7, 2) := by decide +kernel
theorem dX_range_57 : decode cX_range 57 = .ok (.iload_n 2, 1) := by decide +kernel
theorem dX_range_58 : decode cX_range 58 = .ok (.iload_n 3, 1) := by decide +kernel
theorem dX_range_59 : decode cX_range 59 = .ok (.invokestatic 119, 3) := by decide +kernel
theorem dX_range_62 : decode cX_range 62 = .ok (.imul, 1) := by decide +kernel
theorem dX_range_63 : decode cX_range 63 = .ok (.bipush 32, 2) := by decide +kernel
theorem dX_range_65 : decode cX_range 65 = .ok (.idiv, 1) := by decide +kernel
theorem dX_range_66 : decode cX_range 66 = .ok (.iadd, 1) := by decide +kernel
theorem dX_range_67 : decode cX_range 67 = .ok (.istore 4, 2) := by decide +kernel
theorem dX_range_69 : decode cX_range 69 = .ok (.iinc 5 1, 3) := by decide +kernel
theorem dX_range_72 : decode cX_range 72 = .ok (.goto (-57), 3) := by decide +kernel
theorem dX_range_75 : decode cX_range 75 = .ok (.iload 4, 2) := by decide +kernel
theorem dX_range_77 : decode cX_range 77 = .ok (.ireturn, 1) := by decide +kernel
theorem dX_sample_0 : decode cX_sample 0 = .ok (.iload_n 1, 1) := by decide +kernel
theorem dX_sample_1 : decode cX_sample 1 = .ok (.invokestatic 55, 3) := by decide +kernel
theorem dX_sample_4 : decode cX_sample 4 = .ok (.ifCond .ne 5, 3) := by decide +kernel
theorem dX_sample_7 : decode cX_sample 7 = .ok (.iconst (-1), 1) := by decide +kernel
theorem dX_sample_8 : decode cX_sample 8 = .ok (.ireturn, 1) := by decide +kernel
theorem dX_sample_9 : decode cX_sample 9 = .ok (.aload_n 0, 1) := by decide +kernel
theorem dX_sample_10 : decode cX_sample 10 = .ok (.getfield 10, 3) := by decide +kernel
theorem dX_sample_13 : decode cX_sample 13 = .ok (.iload_n 1, 1) := by decide +kernel
theorem dX_sample_14 : decode cX_sample 14 = .ok (.invokevirtual 123, 3) := by decide +kernel
theorem dX_sample_17 : decode cX_sample 17 = .ok (.istore_n 3, 1) := by decide +kernel
theorem dX_sample_18 : decode cX_sample 18 = .ok (.iconst 0, 1) := by decide +kernel
theorem dX_sample_19 : decode cX_sample 19 = .ok (.istore 4, 2) := by decide +kernel
theorem dX_sample_21 : decode cX_sample 21 = .ok (.aload_n 0, 1) := by decide +kernel
theorem dX_sample_22 : decode cX_sample 22 = .ok (.getfield 10, 3) := by decide +kernel
theorem dX_sample_25 : decode cX_sample 25 = .ok (.iload_n 1, 1) := by decide +kernel
theorem dX_sample_26 : decode cX_sample 26 = .ok (.invokevirtual 126, 3) := by decide +kernel
theorem dX_sample_29 : decode cX_sample 29 = .ok (.istore 5, 2) := by decide +kernel
theorem dX_sample_31 : decode cX_sample 31 = .ok (.iload 5, 2) := by decide +kernel
theorem dX_sample_33 : decode cX_sample 33 = .ok (.iload_n 3, 1) := by decide +kernel
theorem dX_sample_34 : decode cX_sample 34 = .ok (.if_icmp .ge 40, 3) := by decide +kernel
theorem dX_sample_37 : decode cX_sample 37 = .ok (.aload_n 0, 1) := by decide +kernel
theorem dX_sample_38 : decode cX_sample 38 = .ok (.getfield 10, 3) := by decide +kernel
theorem dX_sample_41 : decode cX_sample 41 = .ok (.iload 5, 2) := by decide +kernel
theorem dX_sample_43 : decode cX_sample 43 = .ok (.invokevirtual 129, 3) := by decide +kernel
theorem dX_sample_46 : decode cX_sample 46 = .ok (.ifCond .eq 22, 3) := by decide +kernel
theorem dX_sample_49 : decode cX_sample 49 = .ok (.iload 4, 2) := by decide +kernel
theorem dX_sample_51 : decode cX_sample 51 = .ok (.iload_n 2, 1) := by decide +kernel
theorem dX_sample_52 : decode cX_sample 52 = .ok (.if_icmp .ne 13, 3) := by decide +kernel
theorem dX_sample_55 : decode cX_sample 55 = .ok (.aload_n 0, 1) := by decide +kernel
theorem dX_sample_56 : decode cX_sample 56 = .ok (.getfield 10, 3) := by decide +kernel
theorem dX_sample_59 : decode cX_sample 59 = .ok (.iload 5, 2) := by decide +kernel
theorem dX_sample_61 : decode cX_sample 61 = .ok (.invokevirtual 132, 3) := by decide +kernel
theorem dX_sample_64 : decode cX_sample 64 = .ok (.ireturn, 1) := by decide +kernel
theorem dX_sample_65 : decode cX_sample 65 = .ok (.iinc 4 1, 3) := by decide +kernel
theorem dX_sample_68 : decode cX_sample 68 = .ok (.iinc 5 1, 3) := by decide +kernel
theorem dX_sample_71 : decode cX_sample 71 = .ok (.goto (-40), 3) := by decide +kernel
theorem dX_sample_74 : decode cX_sample 74 = .ok (.bipush (-2), 2) := by decide +kernel
theorem dX_sample_76 : decode cX_sample 76 = .ok (.ireturn, 1) := by decide +kernel
theorem dX_pattern_0 : decode cX_pattern 0 = .ok (.iload_n 1, 1) := by decide +kernel
theorem dX_pattern_1 : decode cX_pattern 1 = .ok (.invokestatic 135, 3) := by decide +kernel
theorem dX_pattern_4 : decode cX_pattern 4 = .ok (.ifCond .eq 17, 3) := by decide +kernel
theorem dX_pattern_7 : decode cX_pattern 7 = .ok (.iload_n 2, 1) := by decide +kernel
theorem dX_pattern_8 : decode cX_pattern 8 = .ok (.invokestatic 138, 3) := by decide +kernel
theorem dX_pattern_11 : decode cX_pattern 11 = .ok (.ifCond .eq 10, 3) := by decide +kernel
theorem dX_pattern_14 : decode cX_pattern 14 = .ok (.iload_n 3, 1) := by decide +kernel
theorem dX_pattern_15 : decode cX_pattern 15 = .ok (.invokestatic 135, 3) := by decide +kernel
theorem dX_pattern_18 : decode cX_pattern 18 = .ok (.ifCond .ne 5, 3) := by decide +kernel
theorem dX_pattern_21 : decode cX_pattern 21 = .ok (.iconst (-1), 1) := by decide +kernel
theorem dX_pattern_22 : decode cX_pattern 22 = .ok (.ireturn, 1) := by decide +kernel
theorem dX_pattern_23 : decode cX_pattern 23 = .ok (.aload_n 0, 1) := by decide +kernel
theorem dX_pattern_24 : decode cX_pattern 24 = .ok (.getfield 19, 3) := by decide +kernel
theorem dX_pattern_27 : decode cX_pattern 27 = .ok (.iload_n 1, 1) := by decide +kernel
theorem dX_pattern_28 : decode cX_pattern 28 = .ok (.iload_n 2, 1) := by decide +kernel
theorem dX_pattern_29 : decode cX_pattern 29 = .ok (.iload_n 3, 1) := by decide +kernel
theorem dX_pattern_30 : decode cX_pattern 30 = .ok (.invokevirtual 141, 3) := by decide +kernel
theorem dX_pattern_33 : decode cX_pattern 33 = .ok (.ireturn, 1) := by decide +kernel
theorem dX_matches_0 : decode cX_matches 0 = .ok (.aload_n 0, 1) := by decide +kernel
theorem dX_matches_1 : decode cX_matches 1 = .ok (.getfield 19, 3) := by decide +kernel
theorem dX_matches_4 : decode cX_matches 4 = .ok (.iload_n 1, 1) := by decide +kernel
theorem dX_matches_5 : decode cX_matches 5 = .ok (.invokevirtual 144, 3) := by decide +kernel
theorem dX_matches_8 : decode cX_matches 8 = .ok (.ifCond .ne 5, 3) := by decide +kernel
theorem dX_matches_11 : decode cX_matches 11 = .ok (.iconst (-1), 1) := by decide +kernel
theorem dX_matches_12 : decode cX_matches 12 = .ok (.ireturn, 1) := by decide +kernel
theorem dX_matches_13 : decode cX_matches 13 = .ok (.iconst 0, 1) := by decide +kernel
theorem dX_matches_14 : decode cX_matches 14 = .ok (.istore_n 2, 1) := by decide +kernel
theorem dX_matches_15 : decode cX_matches 15 = .ok (.iconst 0, 1) := by decide +kernel
theorem dX_matches_16 : decode cX_matches 16 = .ok (.istore_n 3, 1) := by decide +kernel
theorem dX_matches_17 : decode cX_matches 17 = .ok (.iload_n 3, 1) := by decide +kernel
theorem dX_matches_18 : decode cX_matches 18 = .ok (.bipush 8, 2) := by decide +kernel
theorem dX_matches_20 : decode cX_matches 20 = .ok (.if_icmp .ge 75, 3) := by decide +kernel
theorem dX_matches_23 : decode cX_matches 23 = .ok (.aload_n 0, 1) := by decide +kernel
theorem dX_matches_24 : decode cX_matches 24 = .ok (.getfield 10, 3) := by decide +kernel
theorem dX_matches_27 : decode cX_matches 27 = .ok (.iload_n 3, 1) := by decide +kernel
theorem dX_matches_28 : decode cX_matches 28 = .ok (.invokevirtual 123, 3) := by decide +kernel
theorem dX_matches_31 : decode cX_matches 31 = .ok (.istore 4, 2) := by decide +kernel
theorem dX_matches_33 : decode cX_matches 33 = .ok (.aload_n 0, 1) := by decide +kernel
theorem dX_matches_34 : decode cX_matches 34 = .ok (.getfield 10, 3) := by decide +kernel
theorem dX_matches_37 : decode cX_matches 37 = .ok (.iload_n 3, 1) := by decide +kernel
theorem dX_matches_38 : decode cX_matches 38 = .ok (.invokevirtual 126, 3) := by decide +kernel
theorem dX_matches_41 : decode cX_matches 41 = .ok (.istore 5, 2) := by decide +kernel
theorem dX_matches_43 : decode cX_matches 43 = .ok (.iload 5, 2) := by decide +kernel
theorem dX_matches_45 : decode cX_matches 45 = .ok (.iload 4, 2) := by decide +kernel
theorem dX_matches_47 : decode cX_matches 47 = .ok (.if_icmp .ge 42, 3) := by decide +kernel
theorem dX_matches_50 : decode cX_matches 50 = .ok (.aload_n 0, 1) := by decide +kernel
theorem dX_matches_51 : decode cX_matches 51 = .ok (.getfield 19, 3) := by decide +kernel
theorem dX_matches_54 : decode cX_matches 54 = .ok (.iload_n 1, 1) := by decide +kernel
theorem dX_matches_55 : decode cX_matches 55 = .ok (.aload_n 0, 1) := by decide +kernel
theorem dX_matches_56 : decode cX_matches 56 = .ok (.getfield 10, 3) := by decide +kernel
theorem dX_matches_59 : decode cX_matches 59 = .ok (.iload 5, 2) := by decide +kernel
theorem dX_matches_61 : decode cX_matches 61 = .ok (.invokevirtual 147, 3) := by decide +kernel
theorem dX_matches_64 : decode cX_matches 64 = .ok (.iload_n 3, 1) := by decide +kernel
theorem dX_matches_65 : decode cX_matches 65 = .ok (.aload_n 0, 1) := by decide +kernel
theorem dX_matches_66 : decode cX_matches 66 = .ok (.getfield 10, 3) := by decide +kernel
theorem dX_matches_69 : decode cX_matches 69 = .ok (.iload 5, 2) := by decide +kernel
theorem dX_matches_71 : decode cX_matches 71 = .ok (.invokevirtual 150, 3) := by decide +kernel
theorem dX_matches_74 : decode cX_matches 74 = .ok (.invokevirtual 153, 3) := by decide +kernel
theorem dX_matches_77 : decode cX_matches 77 = .ok (.ifCond .eq 6, 3) := by decide +kernel
theorem dX_matches_80 : decode cX_matches 80 = .ok (.iinc 2 1, 3) := by decide +kernel
theorem dX_matches_83 : decode cX_matches 83 = .ok (.iinc 5 1, 3) := by decide +kernel
theorem dX_matches_86 : decode cX_matches 86 = .ok (.goto (-43), 3) := by decide +kernel
theorem dX_matches_89 : decode cX_matches 89 = .ok (.iinc 3 1, 3) := by decide +kernel
theorem dX_matches_92 : decode cX_matches 92 = .ok (.goto (-75), 3) := by decide +kernel
theorem dX_matches_95 : decode cX_matches 95 = .ok (.iload_n 2, 1) := by decide +kernel
theorem dX_matches_96 : decode cX_matches 96 = .ok (.ireturn, 1) := by decide +kernel
theorem dX_version_0 : decode cX_version 0 = .ok (.aload_n 0, 1) := by decide +kernel
theorem dX_version_1 : decode cX_version 1 = .ok (.getfield 26, 3) := by decide +kernel
theorem dX_version_4 : decode cX_version 4 = .ok (.aload_n 0, 1) := by decide +kernel
theorem dX_version_5 : decode cX_version 5 = .ok (.getfield 10, 3) := by decide +kernel
theorem dX_version_8 : decode cX_version 8 = .ok (.invokevirtual 157, 3) := by decide +kernel
theorem dX_version_11 : decode cX_version 11 = .ok (.ireturn, 1) := by decide +kernel
theorem dX_countAt_0 : decode cX_countAt 0 = .ok (.iload_n 1, 1) := by decide +kernel
theorem dX_countAt_1 : decode cX_countAt 1 = .ok (.invokestatic 55, 3) := by decide +kernel
theorem dX_countAt_4 : decode cX_countAt 4 = .ok (.ifCond .ne 5, 3) := by decide +kernel
theorem dX_countAt_7 : decode cX_countAt 7 = .ok (.iconst (-1), 1) := by decide +kernel
theorem dX_countAt_8 : decode cX_countAt 8 = .ok (.ireturn, 1) := by decide +kernel
theorem dX_countAt_9 : decode cX_countAt 9 = .ok (.aload_n 0, 1) := by decide +kernel
theorem dX_countAt_10 : decode cX_countAt 10 = .ok (.getfield 26, 3) := by decide +kernel
theorem dX_countAt_13 : decode cX_countAt 13 = .ok (.iload_n 1, 1) := by decide +kernel
theorem dX_countAt_14 : decode cX_countAt 14 = .ok (.iload_n 2, 1) := by decide +kernel
theorem dX_countAt_15 : decode cX_countAt 15 = .ok (.invokevirtual 161, 3) := by decide +kernel
theorem dX_countAt_18 : decode cX_countAt 18 = .ok (.ireturn, 1) := by decide +kernel
theorem dX_forget_0 : decode cX_forget 0 = .ok (.aload_n 0, 1) := by decide +kernel
theorem dX_forget_1 : decode cX_forget 1 = .ok (.getfield 26, 3) := by decide +kernel
theorem dX_forget_4 : decode cX_forget 4 = .ok (.iload_n 1, 1) := by decide +kernel
theorem dX_forget_5 : decode cX_forget 5 = .ok (.invokevirtual 164, 3) := by decide +kernel
theorem dX_forget_8 : decode cX_forget 8 = .ok (.ireturn, 1) := by decide +kernel
theorem dX_told_0 : decode cX_told 0 = .ok (.iload_n 1, 1) := by decide +kernel
theorem dX_told_1 : decode cX_told 1 = .ok (.tableswitch 63 0 3 #[31, 39, 47, 55], 31) := by decide +kernel
theorem dX_told_32 : decode cX_told 32 = .ok (.aload_n 0, 1) := by decide +kernel
theorem dX_told_33 : decode cX_told 33 = .ok (.getfield 10, 3) := by decide +kernel
theorem dX_told_36 : decode cX_told 36 = .ok (.invokevirtual 167, 3) := by decide +kernel
theorem dX_told_39 : decode cX_told 39 = .ok (.ireturn, 1) := by decide +kernel
theorem dX_told_40 : decode cX_told 40 = .ok (.aload_n 0, 1) := by decide +kernel
theorem dX_told_41 : decode cX_told 41 = .ok (.getfield 19, 3) := by decide +kernel
theorem dX_told_44 : decode cX_told 44 = .ok (.invokevirtual 170, 3) := by decide +kernel
theorem dX_told_47 : decode cX_told 47 = .ok (.ireturn, 1) := by decide +kernel
theorem dX_told_48 : decode cX_told 48 = .ok (.aload_n 0, 1) := by decide +kernel
theorem dX_told_49 : decode cX_told 49 = .ok (.getfield 26, 3) := by decide +kernel
theorem dX_told_52 : decode cX_told 52 = .ok (.invokevirtual 171, 3) := by decide +kernel
theorem dX_told_55 : decode cX_told 55 = .ok (.ireturn, 1) := by decide +kernel
theorem dX_told_56 : decode cX_told 56 = .ok (.aload_n 0, 1) := by decide +kernel
theorem dX_told_57 : decode cX_told 57 = .ok (.getfield 26, 3) := by decide +kernel
theorem dX_told_60 : decode cX_told 60 = .ok (.invokevirtual 174, 3) := by decide +kernel
theorem dX_told_63 : decode cX_told 63 = .ok (.ireturn, 1) := by decide +kernel
theorem dX_told_64 : decode cX_told 64 = .ok (.iconst (-1), 1) := by decide +kernel
theorem dX_told_65 : decode cX_told 65 = .ok (.ireturn, 1) := by decide +kernel
theorem dX_isNumber_0 : decode cX_isNumber 0 = .ok (.iload_n 0, 1) := by decide +kernel
theorem dX_isNumber_1 : decode cX_isNumber 1 = .ok (.ifCond .lt 14, 3) := by decide +kernel
theorem dX_isNumber_4 : decode cX_isNumber 4 = .ok (.iload_n 0, 1) := by decide +kernel
theorem dX_isNumber_5 : decode cX_isNumber 5 = .ok (.sipush 256, 3) := by decide +kernel
theorem dX_isNumber_8 : decode cX_isNumber 8 = .ok (.if_icmp .ge 7, 3) := by decide +kernel
theorem dX_isNumber_11 : decode cX_isNumber 11 = .ok (.iconst 1, 1) := by decide +kernel
theorem dX_isNumber_12 : decode cX_isNumber 12 = .ok (.goto 4, 3) := by decide +kernel
theorem dX_isNumber_15 : decode cX_isNumber 15 = .ok (.iconst 0, 1) := by decide +kernel
theorem dX_isNumber_16 : decode cX_isNumber 16 = .ok (.ireturn, 1) := by decide +kernel
theorem dX_isNumberOrAny_0 : decode cX_isNumberOrAny 0 = .ok (.iload_n 0, 1) := by decide +kernel
theorem dX_isNumberOrAny_1 : decode cX_isNumberOrAny 1 = .ok (.iconst (-1), 1) := by decide +kernel
theorem dX_isNumberOrAny_2 : decode cX_isNumberOrAny 2 = .ok (.if_icmp .eq 10, 3) := by decide +kernel
theorem dX_isNumberOrAny_5 : decode cX_isNumberOrAny 5 = .ok (.iload_n 0, 1) := by decide +kernel
theorem dX_isNumberOrAny_6 : decode cX_isNumberOrAny 6 = .ok (.invokestatic 177, 3) := by decide +kernel
theorem dX_isNumberOrAny_9 : decode cX_isNumberOrAny 9 = .ok (.ifCond .eq 7, 3) := by decide +kernel
theorem dX_isNumberOrAny_12 : decode cX_isNumberOrAny 12 = .ok (.iconst 1, 1) := by decide +kernel
theorem dX_isNumberOrAny_13 : decode cX_isNumberOrAny 13 = .ok (.goto 4, 3) := by decide +kernel
theorem dX_isNumberOrAny_16 : decode cX_isNumberOrAny 16 = .ok (.iconst 0, 1) := by decide +kernel
theorem dX_isNumberOrAny_17 : decode cX_isNumberOrAny 17 = .ok (.ireturn, 1) := by decide +kernel
theorem dX_isPredicate_0 : decode cX_isPredicate 0 = .ok (.iload_n 0, 1) := by decide +kernel
theorem dX_isPredicate_1 : decode cX_isPredicate 1 = .ok (.ifCond .lt 13, 3) := by decide +kernel
theorem dX_isPredicate_4 : decode cX_isPredicate 4 = .ok (.iload_n 0, 1) := by decide +kernel
theorem dX_isPredicate_5 : decode cX_isPredicate 5 = .ok (.bipush 8, 2) := by decide +kernel
theorem dX_isPredicate_7 : decode cX_isPredicate 7 = .ok (.if_icmp .ge 7, 3) := by decide +kernel
theorem dX_isPredicate_10 : decode cX_isPredicate 10 = .ok (.iconst 1, 1) := by decide +kernel
theorem dX_isPredicate_11 : decode cX_isPredicate 11 = .ok (.goto 4, 3) := by decide +kernel
theorem dX_isPredicate_14 : decode cX_isPredicate 14 = .ok (.iconst 0, 1) := by decide +kernel
theorem dX_isPredicate_15 : decode cX_isPredicate 15 = .ok (.ireturn, 1) := by decide +kernel
theorem dX_isPredicateOrAny_0 : decode cX_isPredicateOrAny 0 = .ok (.iload_n 0, 1) := by decide +kernel
theorem dX_isPredicateOrAny_1 : decode cX_isPredicateOrAny 1 = .ok (.iconst (-1), 1) := by decide +kernel
theorem dX_isPredicateOrAny_2 : decode cX_isPredicateOrAny 2 = .ok (.if_icmp .eq 10, 3) := by decide +kernel
theorem dX_isPredicateOrAny_5 : decode cX_isPredicateOrAny 5 = .ok (.iload_n 0, 1) := by decide +kernel
theorem dX_isPredicateOrAny_6 : decode cX_isPredicateOrAny 6 = .ok (.invokestatic 55, 3) := by decide +kernel
theorem dX_isPredicateOrAny_9 : decode cX_isPredicateOrAny 9 = .ok (.ifCond .eq 7, 3) := by decide +kernel
theorem dX_isPredicateOrAny_12 : decode cX_isPredicateOrAny 12 = .ok (.iconst 1, 1) := by decide +kernel
theorem dX_isPredicateOrAny_13 : decode cX_isPredicateOrAny 13 = .ok (.goto 4, 3) := by decide +kernel
theorem dX_isPredicateOrAny_16 : decode cX_isPredicateOrAny 16 = .ok (.iconst 0, 1) := by decide +kernel
theorem dX_isPredicateOrAny_17 : decode cX_isPredicateOrAny 17 = .ok (.ireturn, 1) := by decide +kernel
theorem dX_isTriple_0 : decode cX_isTriple 0 = .ok (.iload_n 0, 1) := by decide +kernel
theorem dX_isTriple_1 : decode cX_isTriple 1 = .ok (.invokestatic 177, 3) := by decide +kernel
theorem dX_isTriple_4 : decode cX_isTriple 4 = .ok (.ifCond .eq 21, 3) := by decide +kernel
theorem dX_isTriple_7 : decode cX_isTriple 7 = .ok (.iload_n 1, 1) := by decide +kernel
theorem dX_isTriple_8 : decode cX_isTriple 8 = .ok (.invokestatic 55, 3) := by decide +kernel
theorem dX_isTriple_11 : decode cX_isTriple 11 = .ok (.ifCond .eq 14, 3) := by decide +kernel
theorem dX_isTriple_14 : decode cX_isTriple 14 = .ok (.iload_n 2, 1) := by decide +kernel
theorem dX_isTriple_15 : decode cX_isTriple 15 = .ok (.invokestatic 177, 3) := by decide +kernel
theorem dX_isTriple_18 : decode cX_isTriple 18 = .ok (.ifCond .eq 7, 3) := by decide +kernel
theorem dX_isTriple_21 : decode cX_isTriple 21 = .ok (.iconst 1, 1) := by decide +kernel
theorem dX_isTriple_22 : decode cX_isTriple 22 = .ok (.goto 4, 3) := by decide +kernel
theorem dX_isTriple_25 : decode cX_isTriple 25 = .ok (.iconst 0, 1) := by decide +kernel
theorem dX_isTriple_26 : decode cX_isTriple 26 = .ok (.ireturn, 1) := by decide +kernel
theorem dX_isPredicateSet_0 : decode cX_isPredicateSet 0 = .ok (.iload_n 0, 1) := by decide +kernel
theorem dX_isPredicateSet_1 : decode cX_isPredicateSet 1 = .ok (.ifCond .lt 14, 3) := by decide +kernel
theorem dX_isPredicateSet_4 : decode cX_isPredicateSet 4 = .ok (.iload_n 0, 1) := by decide +kernel
theorem dX_isPredicateSet_5 : decode cX_isPredicateSet 5 = .ok (.sipush 256, 3) := by decide +kernel
theorem dX_isPredicateSet_8 : decode cX_isPredicateSet 8 = .ok (.if_icmp .ge 7, 3) := by decide +kernel
theorem dX_isPredicateSet_11 : decode cX_isPredicateSet 11 = .ok (.iconst 1, 1) := by decide +kernel
theorem dX_isPredicateSet_12 : decode cX_isPredicateSet 12 = .ok (.goto 4, 3) := by decide +kernel
theorem dX_isPredicateSet_15 : decode cX_isPredicateSet 15 = .ok (.iconst 0, 1) := by decide +kernel
theorem dX_isPredicateSet_16 : decode cX_isPredicateSet 16 = .ok (.ireturn, 1) := by decide +kernel
theorem dX_pair_0 : decode cX_pair 0 = .ok (.sipush 256, 3) := by decide +kernel
theorem dX_pair_3 : decode cX_pair 3 = .ok (.iload_n 0, 1) := by decide +kernel
theorem dX_pair_4 : decode cX_pair 4 = .ok (.imul, 1) := by decide +kernel
theorem dX_pair_5 : decode cX_pair 5 = .ok (.iload_n 1, 1) := by decide +kernel
theorem dX_pair_6 : decode cX_pair 6 = .ok (.iadd, 1) := by decide +kernel
theorem dX_pair_7 : decode cX_pair 7 = .ok (.ireturn, 1) := by decide +kernel
theorem dX_hash_0 : decode cX_hash 0 = .ok (.iload_n 0, 1) := by decide +kernel
theorem dX_hash_1 : decode cX_hash 1 = .ok (.iconst 1, 1) := by decide +kernel
theorem dX_hash_2 : decode cX_hash 2 = .ok (.iadd, 1) := by decide +kernel
theorem dX_hash_3 : decode cX_hash 3 = .ok (.ldc 180, 2) := by decide +kernel
theorem dX_hash_5 : decode cX_hash 5 = .ok (.imul, 1) := by decide +kernel
theorem dX_hash_6 : decode cX_hash 6 = .ok (.istore_n 1, 1) := by decide +kernel
theorem dX_hash_7 : decode cX_hash 7 = .ok (.iload_n 1, 1) := by decide +kernel
theorem dX_hash_8 : decode cX_hash 8 = .ok (.iload_n 1, 1) := by decide +kernel
theorem dX_hash_9 : decode cX_hash 9 = .ok (.bipush 15, 2) := by decide +kernel
theorem dX_hash_11 : decode cX_hash 11 = .ok (.iushr, 1) := by decide +kernel
theorem dX_hash_12 : decode cX_hash 12 = .ok (.ixor, 1) := by decide +kernel
theorem dX_hash_13 : decode cX_hash 13 = .ok (.istore_n 1, 1) := by decide +kernel
theorem dX_hash_14 : decode cX_hash 14 = .ok (.iload_n 1, 1) := by decide +kernel
theorem dX_hash_15 : decode cX_hash 15 = .ok (.ldc 181, 2) := by decide +kernel
theorem dX_hash_17 : decode cX_hash 17 = .ok (.imul, 1) := by decide +kernel
theorem dX_hash_18 : decode cX_hash 18 = .ok (.istore_n 1, 1) := by decide +kernel
theorem dX_hash_19 : decode cX_hash 19 = .ok (.iload_n 1, 1) := by decide +kernel
theorem dX_hash_20 : decode cX_hash 20 = .ok (.iload_n 1, 1) := by decide +kernel
theorem dX_hash_21 : decode cX_hash 21 = .ok (.bipush 13, 2) := by decide +kernel
theorem dX_hash_23 : decode cX_hash 23 = .ok (.iushr, 1) := by decide +kernel
theorem dX_hash_24 : decode cX_hash 24 = .ok (.ixor, 1) := by decide +kernel
theorem dX_hash_25 : decode cX_hash 25 = .ok (.ireturn, 1) := by decide +kernel
theorem dX_shared_0 : decode cX_shared 0 = .ok (.iload_n 0, 1) := by decide +kernel
theorem dX_shared_1 : decode cX_shared 1 = .ok (.iload_n 2, 1) := by decide +kernel
theorem dX_shared_2 : decode cX_shared 2 = .ok (.invokestatic 182, 3) := by decide +kernel
theorem dX_shared_5 : decode cX_shared 5 = .ok (.istore 4, 2) := by decide +kernel
theorem dX_shared_7 : decode cX_shared 7 = .ok (.iload_n 1, 1) := by decide +kernel
theorem dX_shared_8 : decode cX_shared 8 = .ok (.iload_n 3, 1) := by decide +kernel
theorem dX_shared_9 : decode cX_shared 9 = .ok (.invokestatic 187, 3) := by decide +kernel
theorem dX_shared_12 : decode cX_shared 12 = .ok (.istore 5, 2) := by decide +kernel
theorem dX_shared_14 : decode cX_shared 14 = .ok (.iload 4, 2) := by decide +kernel
theorem dX_shared_16 : decode cX_shared 16 = .ok (.iload 5, 2) := by decide +kernel
theorem dX_shared_18 : decode cX_shared 18 = .ok (.if_icmp .le 7, 3) := by decide +kernel
theorem dX_shared_21 : decode cX_shared 21 = .ok (.iconst 0, 1) := by decide +kernel
theorem dX_shared_22 : decode cX_shared 22 = .ok (.goto 10, 3) := by decide +kernel
theorem dX_shared_25 : decode cX_shared 25 = .ok (.iload 5, 2) := by decide +kernel
theorem dX_shared_27 : decode cX_shared 27 = .ok (.iload 4, 2) := by decide +kernel
theorem dX_shared_29 : decode cX_shared 29 = .ok (.isub, 1) := by decide +kernel
theorem dX_shared_30 : decode cX_shared 30 = .ok (.iconst 1, 1) := by decide +kernel
theorem dX_shared_31 : decode cX_shared 31 = .ok (.iadd, 1) := by decide +kernel
theorem dX_shared_32 : decode cX_shared 32 = .ok (.ireturn, 1) := by decide +kernel
theorem dX_clearTally_0 : decode cX_clearTally 0 = .ok (.aload_n 0, 1) := by decide +kernel
theorem dX_clearTally_1 : decode cX_clearTally 1 = .ok (.getfield 37, 3) := by decide +kernel
theorem dX_clearTally_4 : decode cX_clearTally 4 = .ok (.iconst 0, 1) := by decide +kernel
theorem dX_clearTally_5 : decode cX_clearTally 5 = .ok (.invokestatic 190, 3) := by decide +kernel
theorem dX_clearTally_8 : decode cX_clearTally 8 = .ok (.return_, 1) := by decide +kernel
theorem dX_tallySubjects_0 : decode cX_tallySubjects 0 = .ok (.aload_n 0, 1) := by decide +kernel
theorem dX_tallySubjects_1 : decode cX_tallySubjects 1 = .ok (.getfield 10, 3) := by decide +kernel
theorem dX_tallySubjects_4 : decode cX_tallySubjects 4 = .ok (.iload_n 1, 1) := by decide +kernel
theorem dX_tallySubjects_5 : decode cX_tallySubjects 5 = .ok (.invokevirtual 123, 3) := by decide +kernel
theorem dX_tallySubjects_8 : decode cX_tallySubjects 8 = .ok (.istore_n 2, 1) := by decide +kernel
theorem dX_tallySubjects_9 : decode cX_tallySubjects 9 = .ok (.aload_n 0, 1) := by decide +kernel
theorem dX_tallySubjects_10 : decode cX_tallySubjects 10 = .ok (.getfield 10, 3) := by decide +kernel
theorem dX_tallySubjects_13 : decode cX_tallySubjects 13 = .ok (.iload_n 1, 1) := by decide +kernel
theorem dX_tallySubjects_14 : decode cX_tallySubjects 14 = .ok (.invokevirtual 126, 3) := by decide +kernel
theorem dX_tallySubjects_17 : decode cX_tallySubjects 17 = .ok (.istore_n 3, 1) := by decide +kernel
theorem dX_tallySubjects_18 : decode cX_tallySubjects 18 = .ok (.iload_n 3, 1) := by decide +kernel
theorem dX_tallySubjects_19 : decode cX_tallySubjects 19 = .ok (.iload_n 2, 1) := by decide +kernel
theorem dX_tallySubjects_20 : decode cX_tallySubjects 20 = .ok (.if_icmp .ge 26, 3) := by decide +kernel
theorem dX_tallySubjects_23 : decode cX_tallySubjects 23 = .ok (.aload_n 0, 1) := by decide +kernel
theorem dX_tallySubjects_24 : decode cX_tallySubjects 24 = .ok (.getfield 37, 3) := by decide +kernel
theorem dX_tallySubjects_27 : decode cX_tallySubjects 27 = .ok (.aload_n 0, 1) := by decide +kernel
theorem dX_tallySubjects_28 : decode cX_tallySubjects 28 = .ok (.getfield 10, 3) := by decide +kernel
theorem dX_tallySubjects_31 : decode cX_tallySubjects 31 = .ok (.iload_n 3, 1) := by decide +kernel
theorem dX_tallySubjects_32 : decode cX_tallySubjects 32 = .ok (.invokevirtual 147, 3) := by decide +kernel
theorem dX_tallySubjects_35 : decode cX_tallySubjects 35 = .ok (.dup2, 1) := by decide +kernel
theorem dX_tallySubjects_36 : decode cX_tallySubjects 36 = .ok (.iaload, 1) := by decide +kernel
theorem dX_tallySubjects_37 : decode cX_tallySubjects 37 = .ok (.iconst 1, 1) := by decide +kernel
theorem dX_tallySubjects_38 : decode cX_tallySubjects 38 = .ok (.iadd, 1) := by decide +kernel
theorem dX_tallySubjects_39 : decode cX_tallySubjects 39 = .ok (.iastore, 1) := by decide +kernel
theorem dX_tallySubjects_40 : decode cX_tallySubjects 40 = .ok (.iinc 3 1, 3) := by decide +kernel
theorem dX_tallySubjects_43 : decode cX_tallySubjects 43 = .ok (.goto (-25), 3) := by decide +kernel
theorem dX_tallySubjects_46 : decode cX_tallySubjects 46 = .ok (.return_, 1) := by decide +kernel
theorem dX_tallySubjectsOfAll_0 : decode cX_tallySubjectsOfAll 0 = .ok (.aload_n 0, 1) := by decide +kernel
theorem dX_tallySubjectsOfAll_1 : decode cX_tallySubjectsOfAll 1 = .ok (.invokevirtual 79, 3) := by decide +kernel
theorem dX_tallySubjectsOfAll_4 : decode cX_tallySubjectsOfAll 4 = .ok (.iconst 0, 1) := by decide +kernel
theorem dX_tallySubjectsOfAll_5 : decode cX_tallySubjectsOfAll 5 = .ok (.istore_n 2, 1) := by decide +kernel
theorem dX_tallySubjectsOfAll_6 : decode cX_tallySubjectsOfAll 6 = .ok (.iload_n 2, 1) := by decide +kernel
theorem dX_tallySubjectsOfAll_7 : decode cX_tallySubjectsOfAll 7 = .ok (.bipush 8, 2) := by decide +kernel
theorem dX_tallySubjectsOfAll_9 : decode cX_tallySubjectsOfAll 9 = .ok (.if_icmp .ge 23, 3) := by decide +kernel
theorem dX_tallySubjectsOfAll_12 : decode cX_tallySubjectsOfAll 12 = .ok (.iload_n 1, 1) := by decide +kernel
theorem dX_tallySubjectsOfAll_13 : decode cX_tallySubjectsOfAll 13 = .ok (.iload_n 2, 1) := by decide +kernel
theorem dX_tallySubjectsOfAll_14 : decode cX_tallySubjectsOfAll 14 = .ok (.ishr, 1) := by decide +kernel
theorem dX_tallySubjectsOfAll_15 : decode cX_tallySubjectsOfAll 15 = .ok (.iconst 1, 1) := by decide +kernel
theorem dX_tallySubjectsOfAll_16 : decode cX_tallySubjectsOfAll 16 = .ok (.iand, 1) := by decide +kernel
theorem dX_tallySubjectsOfAll_17 : decode cX_tallySubjectsOfAll 17 = .ok (.iconst 1, 1) := by decide +kernel
theorem dX_tallySubjectsOfAll_18 : decode cX_tallySubjectsOfAll 18 = .ok (.if_icmp .ne 8, 3) := by decide +kernel
theorem dX_tallySubjectsOfAll_21 : decode cX_tallySubjectsOfAll 21 = .ok (.aload_n 0, 1) := by decide +kernel
theorem dX_tallySubjectsOfAll_22 : decode cX_tallySubjectsOfAll 22 = .ok (.iload_n 2, 1) := by decide +kernel
theorem dX_tallySubjectsOfAll_23 : decode cX_tallySubjectsOfAll 23 = .ok (.invokevirtual 82, 3) := by decide +kernel
theorem dX_tallySubjectsOfAll_26 : decode cX_tallySubjectsOfAll 26 = .ok (.iinc 2 1, 3) := by decide +kernel
theorem dX_tallySubjectsOfAll_29 : decode cX_tallySubjectsOfAll 29 = .ok (.goto (-23), 3) := by decide +kernel
theorem dX_tallySubjectsOfAll_32 : decode cX_tallySubjectsOfAll 32 = .ok (.return_, 1) := by decide +kernel
theorem dX_tallyObjects_0 : decode cX_tallyObjects 0 = .ok (.aload_n 0, 1) := by decide +kernel
theorem dX_tallyObjects_1 : decode cX_tallyObjects 1 = .ok (.invokevirtual 79, 3) := by decide +kernel
theorem dX_tallyObjects_4 : decode cX_tallyObjects 4 = .ok (.aload_n 0, 1) := by decide +kernel
theorem dX_tallyObjects_5 : decode cX_tallyObjects 5 = .ok (.getfield 10, 3) := by decide +kernel
theorem dX_tallyObjects_8 : decode cX_tallyObjects 8 = .ok (.iload_n 1, 1) := by decide +kernel
theorem dX_tallyObjects_9 : decode cX_tallyObjects 9 = .ok (.invokevirtual 123, 3) := by decide +kernel
theorem dX_tallyObjects_12 : decode cX_tallyObjects 12 = .ok (.istore_n 3, 1) := by decide +kernel
theorem dX_tallyObjects_13 : decode cX_tallyObjects 13 = .ok (.aload_n 0, 1) := by decide +kernel
theorem dX_tallyObjects_14 : decode cX_tallyObjects 14 = .ok (.getfield 10, 3) := by decide +kernel
theorem dX_tallyObjects_17 : decode cX_tallyObjects 17 = .ok (.iload_n 1, 1) := by decide +kernel
theorem dX_tallyObjects_18 : decode cX_tallyObjects 18 = .ok (.invokevirtual 126, 3) := by decide +kernel
theorem dX_tallyObjects_21 : decode cX_tallyObjects 21 = .ok (.istore 4, 2) := by decide +kernel
theorem dX_tallyObjects_23 : decode cX_tallyObjects 23 = .ok (.iload 4, 2) := by decide +kernel
theorem dX_tallyObjects_25 : decode cX_tallyObjects 25 = .ok (.iload_n 3, 1) := by decide +kernel
theorem dX_tallyObjects_26 : decode cX_tallyObjects 26 = .ok (.if_icmp .ge 43, 3) := by decide +kernel
theorem dX_tallyObjects_29 : decode cX_tallyObjects 29 = .ok (.iload_n 2, 1) := by decide +kernel
theorem dX_tallyObjects_30 : decode cX_tallyObjects 30 = .ok (.ifCond .eq 15, 3) := by decide +kernel
theorem dX_tallyObjects_33 : decode cX_tallyObjects 33 = .ok (.aload_n 0, 1) := by decide +kernel
theorem dX_tallyObjects_34 : decode cX_tallyObjects 34 = .ok (.getfield 10, 3) := by decide +kernel
theorem dX_tallyObjects_37 : decode cX_tallyObjects 37 = .ok (.iload 4, 2) := by decide +kernel
theorem dX_tallyObjects_39 : decode cX_tallyObjects 39 = .ok (.invokevirtual 129, 3) := by decide +kernel
theorem dX_tallyObjects_42 : decode cX_tallyObjects 42 = .ok (.ifCond .eq 21, 3) := by decide +kernel
theorem dX_tallyObjects_45 : decode cX_tallyObjects 45 = .ok (.aload_n 0, 1) := by decide +kernel
theorem dX_tallyObjects_46 : decode cX_tallyObjects 46 = .ok (.getfield 37, 3) := by decide +kernel
theorem dX_tallyObjects_49 : decode cX_tallyObjects 49 = .ok (.aload_n 0, 1) := by decide +kernel
theorem dX_tallyObjects_50 : decode cX_tallyObjects 50 = .ok (.getfield 10, 3) := by decide +kernel
theorem dX_tallyObjects_53 : decode cX_tallyObjects 53 = .ok (.iload 4, 2) := by decide +kernel
theorem dX_tallyObjects_55 : decode cX_tallyObjects 55 = .ok (.invokevirtual 150, 3) := by decide +kernel
theorem dX_tallyObjects_58 : decode cX_tallyObjects 58 = .ok (.dup2, 1) := by decide +kernel
theorem dX_tallyObjects_59 : decode cX_tallyObjects 59 = .ok (.iaload, 1) := by decide +kernel
theorem dX_tallyObjects_60 : decode cX_tallyObjects 60 = .ok (.iconst 1, 1) := by decide +kernel
theorem dX_tallyObjects_61 : decode cX_tallyObjects 61 = .ok (.iadd, 1) := by decide +kernel
theorem dX_tallyObjects_62 : decode cX_tallyObjects 62 = .ok (.iastore, 1) := by decide +kernel
theorem dX_tallyObjects_63 : decode cX_tallyObjects 63 = .ok (.iinc 4 1, 3) := by decide +kernel
theorem dX_tallyObjects_66 : decode cX_tallyObjects 66 = .ok (.goto (-43), 3) := by decide +kernel
theorem dX_tallyObjects_69 : decode cX_tallyObjects 69 = .ok (.return_, 1) := by decide +kernel
theorem dX_differentInTally_0 : decode cX_differentInTally 0 = .ok (.iconst 0, 1) := by decide +kernel
theorem dX_differentInTally_1 : decode cX_differentInTally 1 = .ok (.istore_n 1, 1) := by decide +kernel
theorem dX_differentInTally_2 : decode cX_differentInTally 2 = .ok (.iconst 0, 1) := by decide +kernel
theorem dX_differentInTally_3 : decode cX_differentInTally 3 = .ok (.istore_n 2, 1) := by decide +kernel
theorem dX_differentInTally_4 : decode cX_differentInTally 4 = .ok (.iload_n 2, 1) := by decide +kernel
theorem dX_differentInTally_5 : decode cX_differentInTally 5 = .ok (.sipush 256, 3) := by decide +kernel
theorem dX_differentInTally_8 : decode cX_differentInTally 8 = .ok (.if_icmp .ge 21, 3) := by decide +kernel
theorem dX_differentInTally_11 : decode cX_differentInTally 11 = .ok (.aload_n 0, 1) := by decide +kernel
theorem dX_differentInTally_12 : decode cX_differentInTally 12 = .ok (.getfield 37, 3) := by decide +kernel
theorem dX_differentInTally_15 : decode cX_differentInTally 15 = .ok (.iload_n 2, 1) := by decide +kernel
theorem dX_differentInTally_16 : decode cX_differentInTally 16 = .ok (.iaload, 1) := by decide +kernel
theorem dX_differentInTally_17 : decode cX_differentInTally 17 = .ok (.ifCond .le 6, 3) := by decide +kernel
theorem dX_differentInTally_20 : decode cX_differentInTally 20 = .ok (.iinc 1 1, 3) := by decide +kernel
theorem dX_differentInTally_23 : decode cX_differentInTally 23 = .ok (.iinc 2 1, 3) := by decide +kernel
theorem dX_differentInTally_26 : decode cX_differentInTally 26 = .ok (.goto (-22), 3) := by decide +kernel
theorem dX_differentInTally_29 : decode cX_differentInTally 29 = .ok (.iload_n 1, 1) := by decide +kernel
theorem dX_differentInTally_30 : decode cX_differentInTally 30 = .ok (.ireturn, 1) := by decide +kernel
theorem dX_sumAtSubjects_0 : decode cX_sumAtSubjects 0 = .ok (.lconst 0, 1) := by decide +kernel
theorem dX_sumAtSubjects_1 : decode cX_sumAtSubjects 1 = .ok (.lstore_n 3, 1) := by decide +kernel
theorem dX_sumAtSubjects_2 : decode cX_sumAtSubjects 2 = .ok (.aload_n 0, 1) := by decide +kernel
theorem dX_sumAtSubjects_3 : decode cX_sumAtSubjects 3 = .ok (.getfield 10, 3) := by decide +kernel
theorem dX_sumAtSubjects_6 : decode cX_sumAtSubjects 6 = .ok (.iload_n 1, 1) := by decide +kernel
theorem dX_sumAtSubjects_7 : decode cX_sumAtSubjects 7 = .ok (.invokevirtual 123, 3) := by decide +kernel
theorem dX_sumAtSubjects_10 : decode cX_sumAtSubjects 10 = .ok (.istore 5, 2) := by decide +kernel
theorem dX_sumAtSubjects_12 : decode cX_sumAtSubjects 12 = .ok (.aload_n 0, 1) := by decide +kernel
theorem dX_sumAtSubjects_13 : decode cX_sumAtSubjects 13 = .ok (.getfield 10, 3) := by decide +kernel
theorem dX_sumAtSubjects_16 : decode cX_sumAtSubjects 16 = .ok (.iload_n 1, 1) := by decide +kernel
theorem dX_sumAtSubjects_17 : decode cX_sumAtSubjects 17 = .ok (.invokevirtual 126, 3) := by decide +kernel
theorem dX_sumAtSubjects_20 : decode cX_sumAtSubjects 20 = .ok (.istore 6, 2) := by decide +kernel
theorem dX_sumAtSubjects_22 : decode cX_sumAtSubjects 22 = .ok (.iload 6, 2) := by decide +kernel
theorem dX_sumAtSubjects_24 : decode cX_sumAtSubjects 24 = .ok (.iload 5, 2) := by decide +kernel
theorem dX_sumAtSubjects_26 : decode cX_sumAtSubjects 26 = .ok (.if_icmp .ge 43, 3) := by decide +kernel
theorem dX_sumAtSubjects_29 : decode cX_sumAtSubjects 29 = .ok (.iload_n 2, 1) := by decide +kernel
theorem dX_sumAtSubjects_30 : decode cX_sumAtSubjects 30 = .ok (.ifCond .eq 15, 3) := by decide +kernel
theorem dX_sumAtSubjects_33 : decode cX_sumAtSubjects 33 = .ok (.aload_n 0, 1) := by decide +kernel
theorem dX_sumAtSubjects_34 : decode cX_sumAtSubjects 34 = .ok (.getfield 10, 3) := by decide +kernel
theorem dX_sumAtSubjects_37 : decode cX_sumAtSubjects 37 = .ok (.iload 6, 2) := by decide +kernel
theorem dX_sumAtSubjects_39 : decode cX_sumAtSubjects 39 = .ok (.invokevirtual 129, 3) := by decide +kernel
theorem dX_sumAtSubjects_42 : decode cX_sumAtSubjects 42 = .ok (.ifCond .eq 21, 3) := by decide +kernel
theorem dX_sumAtSubjects_45 : decode cX_sumAtSubjects 45 = .ok (.lload_n 3, 1) := by decide +kernel
theorem dX_sumAtSubjects_46 : decode cX_sumAtSubjects 46 = .ok (.aload_n 0, 1) := by decide +kernel
theorem dX_sumAtSubjects_47 : decode cX_sumAtSubjects 47 = .ok (.getfield 37, 3) := by decide +kernel
theorem dX_sumAtSubjects_50 : decode cX_sumAtSubjects 50 = .ok (.aload_n 0, 1) := by decide +kernel
theorem dX_sumAtSubjects_51 : decode cX_sumAtSubjects 51 = .ok (.getfield 10, 3) := by decide +kernel
theorem dX_sumAtSubjects_54 : decode cX_sumAtSubjects 54 = .ok (.iload 6, 2) := by decide +kernel
theorem dX_sumAtSubjects_56 : decode cX_sumAtSubjects 56 = .ok (.invokevirtual 147, 3) := by decide +kernel
theorem dX_sumAtSubjects_59 : decode cX_sumAtSubjects 59 = .ok (.iaload, 1) := by decide +kernel
theorem dX_sumAtSubjects_60 : decode cX_sumAtSubjects 60 = .ok (.i2l, 1) := by decide +kernel
theorem dX_sumAtSubjects_61 : decode cX_sumAtSubjects 61 = .ok (.ladd, 1) := by decide +kernel
theorem dX_sumAtSubjects_62 : decode cX_sumAtSubjects 62 = .ok (.lstore_n 3, 1) := by decide +kernel
theorem dX_sumAtSubjects_63 : decode cX_sumAtSubjects 63 = .ok (.iinc 6 1, 3) := by decide +kernel
theorem dX_sumAtSubjects_66 : decode cX_sumAtSubjects 66 = .ok (.goto (-44), 3) := by decide +kernel
theorem dX_sumAtSubjects_69 : decode cX_sumAtSubjects 69 = .ok (.lload_n 3, 1) := by decide +kernel
theorem dX_sumAtSubjects_70 : decode cX_sumAtSubjects 70 = .ok (.lreturn, 1) := by decide +kernel
theorem dX_subjectsOf_0 : decode cX_subjectsOf 0 = .ok (.aload_n 0, 1) := by decide +kernel
theorem dX_subjectsOf_1 : decode cX_subjectsOf 1 = .ok (.invokevirtual 79, 3) := by decide +kernel
theorem dX_subjectsOf_4 : decode cX_subjectsOf 4 = .ok (.aload_n 0, 1) := by decide +kernel
theorem dX_subjectsOf_5 : decode cX_subjectsOf 5 = .ok (.iload_n 1, 1) := by decide +kernel
theorem dX_subjectsOf_6 : decode cX_subjectsOf 6 = .ok (.invokevirtual 82, 3) := by decide +kernel
theorem dX_subjectsOf_9 : decode cX_subjectsOf 9 = .ok (.aload_n 0, 1) := by decide +kernel
theorem dX_subjectsOf_10 : decode cX_subjectsOf 10 = .ok (.invokevirtual 103, 3) := by decide +kernel
theorem dX_subjectsOf_13 : decode cX_subjectsOf 13 = .ok (.ireturn, 1) := by decide +kernel
theorem dX_objectsOf_0 : decode cX_objectsOf 0 = .ok (.aload_n 0, 1) := by decide +kernel
theorem dX_objectsOf_1 : decode cX_objectsOf 1 = .ok (.iload_n 1, 1) := by decide +kernel
theorem dX_objectsOf_2 : decode cX_objectsOf 2 = .ok (.iconst 0, 1) := by decide +kernel
theorem dX_objectsOf_3 : decode cX_objectsOf 3 = .ok (.invokevirtual 71, 3) := by decide +kernel
theorem dX_objectsOf_6 : decode cX_objectsOf 6 = .ok (.aload_n 0, 1) := by decide +kernel
theorem dX_objectsOf_7 : decode cX_objectsOf 7 = .ok (.invokevirtual 103, 3) := by decide +kernel
theorem dX_objectsOf_10 : decode cX_objectsOf 10 = .ok (.ireturn, 1) := by decide +kernel
theorem dX_withObjectBetween_0 : decode cX_withObjectBetween 0 = .ok (.iconst 0, 1) := by decide +kernel
theorem dX_withObjectBetween_1 : decode cX_withObjectBetween 1 = .ok (.istore 4, 2) := by decide +kernel
theorem dX_withObjectBetween_3 : decode cX_withObjectBetween 3 = .ok (.aload_n 0, 1) := by decide +kernel
theorem dX_withObjectBetween_4 : decode cX_withObjectBetween 4 = .ok (.getfield 10, 3) := by decide +kernel
theorem dX_withObjectBetween_7 : decode cX_withObjectBetween 7 = .ok (.iload_n 1, 1) := by decide +kernel
theorem dX_withObjectBetween_8 : decode cX_withObjectBetween 8 = .ok (.invokevirtual 123, 3) := by decide +kernel
theorem dX_withObjectBetween_11 : decode cX_withObjectBetween 11 = .ok (.istore 5, 2) := by decide +kernel
theorem dX_withObjectBetween_13 : decode cX_withObjectBetween 13 = .ok (.aload_n 0, 1) := by decide +kernel
theorem dX_withObjectBetween_14 : decode cX_withObjectBetween 14 = .ok (.getfield 10, 3) := by decide +kernel
theorem dX_withObjectBetween_17 : decode cX_withObjectBetween 17 = .ok (.iload_n 1, 1) := by decide +kernel
theorem dX_withObjectBetween_18 : decode cX_withObjectBetween 18 = .ok (.invokevirtual 126, 3) := by decide +kernel
theorem dX_withObjectBetween_21 : decode cX_withObjectBetween 21 = .ok (.istore 6, 2) := by decide +kernel
theorem dX_withObjectBetween_23 : decode cX_withObjectBetween 23 = .ok (.iload 6, 2) := by decide +kernel
theorem dX_withObjectBetween_25 : decode cX_withObjectBetween 25 = .ok (.iload 5, 2) := by decide +kernel
theorem dX_withObjectBetween_27 : decode cX_withObjectBetween 27 = .ok (.if_icmp .ge 35, 3) := by decide +kernel
theorem dX_withObjectBetween_30 : decode cX_withObjectBetween 30 = .ok (.aload_n 0, 1) := by decide +kernel
theorem dX_withObjectBetween_31 : decode cX_withObjectBetween 31 = .ok (.getfield 10, 3) := by decide +kernel
theorem dX_withObjectBetween_34 : decode cX_withObjectBetween 34 = .ok (.iload 6, 2) := by decide +kernel
theorem dX_withObjectBetween_36 : decode cX_withObjectBetween 36 = .ok (.invokevirtual 150, 3) := by decide +kernel
theorem dX_withObjectBetween_39 : decode cX_withObjectBetween 39 = .ok (.istore 7, 2) := by decide +kernel
theorem dX_withObjectBetween_41 : decode cX_withObjectBetween 41 = .ok (.iload_n 2, 1) := by decide +kernel
theorem dX_withObjectBetween_42 : decode cX_withObjectBetween 42 = .ok (.iload 7, 2) := by decide +kernel
theorem dX_withObjectBetween_44 : decode cX_withObjectBetween 44 = .ok (.if_icmp .gt 12, 3) := by decide +kernel
theorem dX_withObjectBetween_47 : decode cX_withObjectBetween 47 = .ok (.iload 7, 2) := by decide +kernel
theorem dX_withObjectBetween_49 : decode cX_withObjectBetween 49 = .ok (.iload_n 3, 1) := by decide +kernel
theorem dX_withObjectBetween_50 : decode cX_withObjectBetween 50 = .ok (.if_icmp .gt 6, 3) := by decide +kernel
theorem dX_withObjectBetween_53 : decode cX_withObjectBetween 53 = .ok (.iinc 4 1, 3) := by decide +kernel
theorem dX_withObjectBetween_56 : decode cX_withObjectBetween 56 = .ok (.iinc 6 1, 3) := by decide +kernel
theorem dX_withObjectBetween_59 : decode cX_withObjectBetween 59 = .ok (.goto (-36), 3) := by decide +kernel
theorem dX_withObjectBetween_62 : decode cX_withObjectBetween 62 = .ok (.iload 4, 2) := by decide +kernel
theorem dX_withObjectBetween_64 : decode cX_withObjectBetween 64 = .ok (.ireturn, 1) := by decide +kernel
theorem dX_joinEstimate_0 : decode cX_joinEstimate 0 = .ok (.iconst 1, 1) := by decide +kernel
theorem dX_joinEstimate_1 : decode cX_joinEstimate 1 = .ok (.iload_n 3, 1) := by decide +kernel
theorem dX_joinEstimate_2 : decode cX_joinEstimate 2 = .ok (.aload_n 0, 1) := by decide +kernel
theorem dX_joinEstimate_3 : decode cX_joinEstimate 3 = .ok (.iload_n 2, 1) := by decide +kernel
theorem dX_joinEstimate_4 : decode cX_joinEstimate 4 = .ok (.invokevirtual 63, 3) := by decide +kernel
theorem dX_joinEstimate_7 : decode cX_joinEstimate 7 = .ok (.invokestatic 182, 3) := by decide +kernel
theorem dX_joinEstimate_10 : decode cX_joinEstimate 10 = .ok (.invokestatic 182, 3) := by decide +kernel
theorem dX_joinEstimate_13 : decode cX_joinEstimate 13 = .ok (.istore 4, 2) := by decide +kernel
theorem dX_joinEstimate_15 : decode cX_joinEstimate 15 = .ok (.aload_n 0, 1) := by decide +kernel
theorem dX_joinEstimate_16 : decode cX_joinEstimate 16 = .ok (.getfield 10, 3) := by decide +kernel
theorem dX_joinEstimate_19 : decode cX_joinEstimate 19 = .ok (.iload_n 1, 1) := by decide +kernel
theorem dX_joinEstimate_20 : decode cX_joinEstimate 20 = .ok (.invokevirtual 59, 3) := by decide +kernel
theorem dX_joinEstimate_23 : decode cX_joinEstimate 23 = .ok (.i2l, 1) := by decide +kernel
theorem dX_joinEstimate_24 : decode cX_joinEstimate 24 = .ok (.aload_n 0, 1) := by decide +kernel
theorem dX_joinEstimate_25 : decode cX_joinEstimate 25 = .ok (.getfield 10, 3) := by decide +kernel
theorem dX_joinEstimate_28 : decode cX_joinEstimate 28 = .ok (.iload_n 2, 1) := by decide +kernel
theorem dX_joinEstimate_29 : decode cX_joinEstimate 29 = .ok (.invokevirtual 59, 3) := by decide +kernel
theorem dX_joinEstimate_32 : decode cX_joinEstimate 32 = .ok (.i2l, 1) := by decide +kernel
theorem dX_joinEstimate_33 : decode cX_joinEstimate 33 = .ok (.lmul, 1) := by decide +kernel
theorem dX_joinEstimate_34 : decode cX_joinEstimate 34 = .ok (.iload 4, 2) := by decide +kernel
theorem dX_joinEstimate_36 : decode cX_joinEstimate 36 = .ok (.i2l, 1) := by decide +kernel
theorem dX_joinEstimate_37 : decode cX_joinEstimate 37 = .ok (.ldiv, 1) := by decide +kernel
theorem dX_joinEstimate_38 : decode cX_joinEstimate 38 = .ok (.lreturn, 1) := by decide +kernel
theorem dX_sampledChainEstimate_0 : decode cX_sampledChainEstimate 0 = .ok (.aload_n 0, 1) := by decide +kernel
theorem dX_sampledChainEstimate_1 : decode cX_sampledChainEstimate 1 = .ok (.iload_n 1, 1) := by decide +kernel
theorem dX_sampledChainEstimate_2 : decode cX_sampledChainEstimate 2 = .ok (.iconst 1, 1) := by decide +kernel
theorem dX_sampledChainEstimate_3 : decode cX_sampledChainEstimate 3 = .ok (.invokevirtual 71, 3) := by decide +kernel
theorem dX_sampledChainEstimate_6 : decode cX_sampledChainEstimate 6 = .ok (.ldc2_w 196, 3) := by decide +kernel
theorem dX_sampledChainEstimate_9 : decode cX_sampledChainEstimate 9 = .ok (.aload_n 0, 1) := by decide +kernel
theorem dX_sampledChainEstimate_10 : decode cX_sampledChainEstimate 10 = .ok (.iload_n 2, 1) := by decide +kernel
theorem dX_sampledChainEstimate_11 : decode cX_sampledChainEstimate 11 = .ok (.iconst 1, 1) := by decide +kernel
theorem dX_sampledChainEstimate_12 : decode cX_sampledChainEstimate 12 = .ok (.invokevirtual 75, 3) := by decide +kernel
theorem dX_sampledChainEstimate_15 : decode cX_sampledChainEstimate 15 = .ok (.lmul, 1) := by decide +kernel
theorem dX_sampledChainEstimate_16 : decode cX_sampledChainEstimate 16 = .ok (.lreturn, 1) := by decide +kernel
