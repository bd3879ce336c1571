theorem dX6_merge_30 : decode cX6_merge 30 = .ok (.invokevirtual 72, 3) := by decide +kernel
theorem dX6_merge_33 : decode cX6_merge 33 = .ok (.ifCond .ne 5, 3) := by decide +kernel
theorem dX6_merge_36 : decode cX6_merge 36 = .ok (.iconst (-1), 1) := by decide +kernel
theorem dX6_merge_37 : decode cX6_merge 37 = .ok (.ireturn, 1) := by decide +kernel
theorem dX6_merge_38 : decode cX6_merge 38 = .ok (.aload_n 3, 1) := by decide +kernel
theorem dX6_merge_39 : decode cX6_merge 39 = .ok (.getfield 49, 3) := by decide +kernel
theorem dX6_merge_42 : decode cX6_merge 42 = .ok (.aload 4, 2) := by decide +kernel
theorem dX6_merge_44 : decode cX6_merge 44 = .ok (.getfield 49, 3) := by decide +kernel
theorem dX6_merge_47 : decode cX6_merge 47 = .ok (.iadd, 1) := by decide +kernel
theorem dX6_merge_48 : decode cX6_merge 48 = .ok (.ldc 55, 2) := by decide +kernel
theorem dX6_merge_50 : decode cX6_merge 50 = .ok (.if_icmp .le 6, 3) := by decide +kernel
theorem dX6_merge_53 : decode cX6_merge 53 = .ok (.bipush (-3), 2) := by decide +kernel
theorem dX6_merge_55 : decode cX6_merge 55 = .ok (.ireturn, 1) := by decide +kernel
theorem dX6_merge_56 : decode cX6_merge 56 = .ok (.aload_n 3, 1) := by decide +kernel
theorem dX6_merge_57 : decode cX6_merge 57 = .ok (.dup, 1) := by decide +kernel
theorem dX6_merge_58 : decode cX6_merge 58 = .ok (.getfield 46, 3) := by decide +kernel
theorem dX6_merge_61 : decode cX6_merge 61 = .ok (.aload 4, 2) := by decide +kernel
theorem dX6_merge_63 : decode cX6_merge 63 = .ok (.getfield 46, 3) := by decide +kernel
theorem dX6_merge_66 : decode cX6_merge 66 = .ok (.iadd, 1) := by decide +kernel
theorem dX6_merge_67 : decode cX6_merge 67 = .ok (.putfield 46, 3) := by decide +kernel
theorem dX6_merge_70 : decode cX6_merge 70 = .ok (.aload_n 3, 1) := by decide +kernel
theorem dX6_merge_71 : decode cX6_merge 71 = .ok (.dup, 1) := by decide +kernel
theorem dX6_merge_72 : decode cX6_merge 72 = .ok (.getfield 49, 3) := by decide +kernel
theorem dX6_merge_75 : decode cX6_merge 75 = .ok (.aload 4, 2) := by decide +kernel
theorem dX6_merge_77 : decode cX6_merge 77 = .ok (.getfield 49, 3) := by decide +kernel
theorem dX6_merge_80 : decode cX6_merge 80 = .ok (.iadd, 1) := by decide +kernel
theorem dX6_merge_81 : decode cX6_merge 81 = .ok (.putfield 49, 3) := by decide +kernel
theorem dX6_merge_84 : decode cX6_merge 84 = .ok (.aload_n 3, 1) := by decide +kernel
theorem dX6_merge_85 : decode cX6_merge 85 = .ok (.aload 4, 2) := by decide +kernel
theorem dX6_merge_87 : decode cX6_merge 87 = .ok (.invokevirtual 76, 3) := by decide +kernel
theorem dX6_merge_90 : decode cX6_merge 90 = .ok (.aload_n 3, 1) := by decide +kernel
theorem dX6_merge_91 : decode cX6_merge 91 = .ok (.getfield 46, 3) := by decide +kernel
theorem dX6_merge_94 : decode cX6_merge 94 = .ok (.ldc 55, 2) := by decide +kernel
theorem dX6_merge_96 : decode cX6_merge 96 = .ok (.iadd, 1) := by decide +kernel
theorem dX6_merge_97 : decode cX6_merge 97 = .ok (.ireturn, 1) := by decide +kernel
theorem dX6_hash_0 : decode cX6_hash 0 = .ok (.iload_n 1, 1) := by decide +kernel
theorem dX6_hash_1 : decode cX6_hash 1 = .ok (.invokestatic 27, 3) := by decide +kernel
theorem dX6_hash_4 : decode cX6_hash 4 = .ok (.ifCond .eq 19, 3) := by decide +kernel
theorem dX6_hash_7 : decode cX6_hash 7 = .ok (.iload_n 2, 1) := by decide +kernel
theorem dX6_hash_8 : decode cX6_hash 8 = .ok (.ifCond .lt 15, 3) := by decide +kernel
theorem dX6_hash_11 : decode cX6_hash 11 = .ok (.iload_n 2, 1) := by decide +kernel
theorem dX6_hash_12 : decode cX6_hash 12 = .ok (.iconst 4, 1) := by decide +kernel
theorem dX6_hash_13 : decode cX6_hash 13 = .ok (.if_icmp .ge 10, 3) := by decide +kernel
theorem dX6_hash_16 : decode cX6_hash 16 = .ok (.iload_n 3, 1) := by decide +kernel
theorem dX6_hash_17 : decode cX6_hash 17 = .ok (.invokestatic 56, 3) := by decide +kernel
theorem dX6_hash_20 : decode cX6_hash 20 = .ok (.ifCond .ne 5, 3) := by decide +kernel
theorem dX6_hash_23 : decode cX6_hash 23 = .ok (.iconst (-1), 1) := by decide +kernel
theorem dX6_hash_24 : decode cX6_hash 24 = .ok (.ireturn, 1) := by decide +kernel
theorem dX6_hash_25 : decode cX6_hash 25 = .ok (.iload_n 1, 1) := by decide +kernel
theorem dX6_hash_26 : decode cX6_hash 26 = .ok (.iload_n 2, 1) := by decide +kernel
theorem dX6_hash_27 : decode cX6_hash 27 = .ok (.iload_n 3, 1) := by decide +kernel
theorem dX6_hash_28 : decode cX6_hash 28 = .ok (.invokestatic 80, 3) := by decide +kernel
theorem dX6_hash_31 : decode cX6_hash 31 = .ok (.ireturn, 1) := by decide +kernel
theorem dX6_low_0 : decode cX6_low 0 = .ok (.aload_n 0, 1) := by decide +kernel
theorem dX6_low_1 : decode cX6_low 1 = .ok (.iload_n 1, 1) := by decide +kernel
theorem dX6_low_2 : decode cX6_low 2 = .ok (.invokevirtual 38, 3) := by decide +kernel
theorem dX6_low_5 : decode cX6_low 5 = .ok (.astore_n 3, 1) := by decide +kernel
theorem dX6_low_6 : decode cX6_low 6 = .ok (.aload_n 3, 1) := by decide +kernel
theorem dX6_low_7 : decode cX6_low 7 = .ok (.ifnull 10, 3) := by decide +kernel
theorem dX6_low_10 : decode cX6_low 10 = .ok (.iload_n 2, 1) := by decide +kernel
theorem dX6_low_11 : decode cX6_low 11 = .ok (.invokestatic 56, 3) := by decide +kernel
theorem dX6_low_14 : decode cX6_low 14 = .ok (.ifCond .ne 7, 3) := by decide +kernel
theorem dX6_low_17 : decode cX6_low 17 = .ok (.iconst (-1), 1) := by decide +kernel
theorem dX6_low_18 : decode cX6_low 18 = .ok (.goto 8, 3) := by decide +kernel
theorem dX6_low_21 : decode cX6_low 21 = .ok (.aload_n 3, 1) := by decide +kernel
theorem dX6_low_22 : decode cX6_low 22 = .ok (.iload_n 2, 1) := by decide +kernel
theorem dX6_low_23 : decode cX6_low 23 = .ok (.invokevirtual 84, 3) := by decide +kernel
theorem dX6_low_26 : decode cX6_low 26 = .ok (.ireturn, 1) := by decide +kernel
theorem dX6_high_0 : decode cX6_high 0 = .ok (.aload_n 0, 1) := by decide +kernel
theorem dX6_high_1 : decode cX6_high 1 = .ok (.iload_n 1, 1) := by decide +kernel
theorem dX6_high_2 : decode cX6_high 2 = .ok (.invokevirtual 38, 3) := by decide +kernel
theorem dX6_high_5 : decode cX6_high 5 = .ok (.astore_n 3, 1) := by decide +kernel
theorem dX6_high_6 : decode cX6_high 6 = .ok (.aload_n 3, 1) := by decide +kernel
theorem dX6_high_7 : decode cX6_high 7 = .ok (.ifnull 10, 3) := by decide +kernel
theorem dX6_high_10 : decode cX6_high 10 = .ok (.iload_n 2, 1) := by decide +kernel
theorem dX6_high_11 : decode cX6_high 11 = .ok (.invokestatic 56, 3) := by decide +kernel
theorem dX6_high_14 : decode cX6_high 14 = .ok (.ifCond .ne 7, 3) := by decide +kernel
theorem dX6_high_17 : decode cX6_high 17 = .ok (.iconst (-1), 1) := by decide +kernel
theorem dX6_high_18 : decode cX6_high 18 = .ok (.goto 8, 3) := by decide +kernel
theorem dX6_high_21 : decode cX6_high 21 = .ok (.aload_n 3, 1) := by decide +kernel
theorem dX6_high_22 : decode cX6_high 22 = .ok (.iload_n 2, 1) := by decide +kernel
theorem dX6_high_23 : decode cX6_high 23 = .ok (.invokevirtual 87, 3) := by decide +kernel
theorem dX6_high_26 : decode cX6_high 26 = .ok (.ireturn, 1) := by decide +kernel
theorem dX6_has_0 : decode cX6_has 0 = .ok (.aload_n 0, 1) := by decide +kernel
theorem dX6_has_1 : decode cX6_has 1 = .ok (.iload_n 1, 1) := by decide +kernel
theorem dX6_has_2 : decode cX6_has 2 = .ok (.invokevirtual 38, 3) := by decide +kernel
theorem dX6_has_5 : decode cX6_has 5 = .ok (.astore_n 3, 1) := by decide +kernel
theorem dX6_has_6 : decode cX6_has 6 = .ok (.aload_n 3, 1) := by decide +kernel
theorem dX6_has_7 : decode cX6_has 7 = .ok (.ifnull 10, 3) := by decide +kernel
theorem dX6_has_10 : decode cX6_has 10 = .ok (.iload_n 2, 1) := by decide +kernel
theorem dX6_has_11 : decode cX6_has 11 = .ok (.invokestatic 56, 3) := by decide +kernel
theorem dX6_has_14 : decode cX6_has 14 = .ok (.ifCond .ne 7, 3) := by decide +kernel
theorem dX6_has_17 : decode cX6_has 17 = .ok (.iconst (-1), 1) := by decide +kernel
theorem dX6_has_18 : decode cX6_has 18 = .ok (.goto 8, 3) := by decide +kernel
theorem dX6_has_21 : decode cX6_has 21 = .ok (.aload_n 3, 1) := by decide +kernel
theorem dX6_has_22 : decode cX6_has 22 = .ok (.iload_n 2, 1) := by decide +kernel
theorem dX6_has_23 : decode cX6_has 23 = .ok (.invokevirtual 90, 3) := by decide +kernel
theorem dX6_has_26 : decode cX6_has 26 = .ok (.ireturn, 1) := by decide +kernel
theorem dX6_distinct_0 : decode cX6_distinct 0 = .ok (.aload_n 0, 1) := by decide +kernel
theorem dX6_distinct_1 : decode cX6_distinct 1 = .ok (.iload_n 1, 1) := by decide +kernel
theorem dX6_distinct_2 : decode cX6_distinct 2 = .ok (.invokevirtual 38, 3) := by decide +kernel
theorem dX6_distinct_5 : decode cX6_distinct 5 = .ok (.astore_n 2, 1) := by decide +kernel
theorem dX6_distinct_6 : decode cX6_distinct 6 = .ok (.aload_n 2, 1) := by decide +kernel
theorem dX6_distinct_7 : decode cX6_distinct 7 = .ok (.ifnonnull 7, 3) := by decide +kernel
theorem dX6_distinct_10 : decode cX6_distinct 10 = .ok (.iconst (-1), 1) := by decide +kernel
theorem dX6_distinct_11 : decode cX6_distinct 11 = .ok (.goto 7, 3) := by decide +kernel
theorem dX6_distinct_14 : decode cX6_distinct 14 = .ok (.aload_n 2, 1) := by decide +kernel
theorem dX6_distinct_15 : decode cX6_distinct 15 = .ok (.invokevirtual 93, 3) := by decide +kernel
theorem dX6_distinct_18 : decode cX6_distinct 18 = .ok (.ireturn, 1) := by decide +kernel
theorem dX6_quantile_0 : decode cX6_quantile 0 = .ok (.aload_n 0, 1) := by decide +kernel
theorem dX6_quantile_1 : decode cX6_quantile 1 = .ok (.iload_n 1, 1) := by decide +kernel
theorem dX6_quantile_2 : decode cX6_quantile 2 = .ok (.invokevirtual 38, 3) := by decide +kernel
theorem dX6_quantile_5 : decode cX6_quantile 5 = .ok (.astore_n 3, 1) := by decide +kernel
theorem dX6_quantile_6 : decode cX6_quantile 6 = .ok (.aload_n 3, 1) := by decide +kernel
theorem dX6_quantile_7 : decode cX6_quantile 7 = .ok (.ifnonnull 7, 3) := by decide +kernel
theorem dX6_quantile_10 : decode cX6_quantile 10 = .ok (.iconst (-1), 1) := by decide +kernel
theorem dX6_quantile_11 : decode cX6_quantile 11 = .ok (.goto 8, 3) := by decide +kernel
theorem dX6_quantile_14 : decode cX6_quantile 14 = .ok (.aload_n 3, 1) := by decide +kernel
theorem dX6_quantile_15 : decode cX6_quantile 15 = .ok (.iload_n 2, 1) := by decide +kernel
theorem dX6_quantile_16 : decode cX6_quantile 16 = .ok (.invokevirtual 97, 3) := by decide +kernel
theorem dX6_quantile_19 : decode cX6_quantile 19 = .ok (.ireturn, 1) := by decide +kernel
theorem dX6_told_0 : decode cX6_told 0 = .ok (.aload_n 0, 1) := by decide +kernel
theorem dX6_told_1 : decode cX6_told 1 = .ok (.iload_n 1, 1) := by decide +kernel
theorem dX6_told_2 : decode cX6_told 2 = .ok (.invokevirtual 38, 3) := by decide +kernel
theorem dX6_told_5 : decode cX6_told 5 = .ok (.astore_n 3, 1) := by decide +kernel
theorem dX6_told_6 : decode cX6_told 6 = .ok (.aload_n 3, 1) := by decide +kernel
theorem dX6_told_7 : decode cX6_told 7 = .ok (.ifnonnull 5, 3) := by decide +kernel
theorem dX6_told_10 : decode cX6_told 10 = .ok (.iconst (-1), 1) := by decide +kernel
theorem dX6_told_11 : decode cX6_told 11 = .ok (.ireturn, 1) := by decide +kernel
theorem dX6_told_12 : decode cX6_told 12 = .ok (.iload_n 2, 1) := by decide +kernel
theorem dX6_told_13 : decode cX6_told 13 = .ok (.tableswitch 81 0 6 #[43, 48, 53, 58, 66, 71, 76], 43) := by decide +kernel
theorem dX6_told_56 : decode cX6_told 56 = .ok (.aload_n 3, 1) := by decide +kernel
theorem dX6_told_57 : decode cX6_told 57 = .ok (.getfield 100, 3) := by decide +kernel
theorem dX6_told_60 : decode cX6_told 60 = .ok (.ireturn, 1) := by decide +kernel
theorem dX6_told_61 : decode cX6_told 61 = .ok (.aload_n 3, 1) := by decide +kernel
theorem dX6_told_62 : decode cX6_told 62 = .ok (.getfield 103, 3) := by decide +kernel
theorem dX6_told_65 : decode cX6_told 65 = .ok (.ireturn, 1) := by decide +kernel
theorem dX6_told_66 : decode cX6_told 66 = .ok (.aload_n 3, 1) := by decide +kernel
theorem dX6_told_67 : decode cX6_told 67 = .ok (.getfield 106, 3) := by decide +kernel
theorem dX6_told_70 : decode cX6_told 70 = .ok (.ireturn, 1) := by decide +kernel
theorem dX6_told_71 : decode cX6_told 71 = .ok (.aload_n 3, 1) := by decide +kernel
theorem dX6_told_72 : decode cX6_told 72 = .ok (.getfield 46, 3) := by decide +kernel
theorem dX6_told_75 : decode cX6_told 75 = .ok (.ldc 55, 2) := by decide +kernel
theorem dX6_told_77 : decode cX6_told 77 = .ok (.iadd, 1) := by decide +kernel
theorem dX6_told_78 : decode cX6_told 78 = .ok (.ireturn, 1) := by decide +kernel
theorem dX6_told_79 : decode cX6_told 79 = .ok (.aload_n 3, 1) := by decide +kernel
theorem dX6_told_80 : decode cX6_told 80 = .ok (.getfield 49, 3) := by decide +kernel
theorem dX6_told_83 : decode cX6_told 83 = .ok (.ireturn, 1) := by decide +kernel
theorem dX6_told_84 : decode cX6_told 84 = .ok (.aload_n 3, 1) := by decide +kernel
theorem dX6_told_85 : decode cX6_told 85 = .ok (.invokevirtual 109, 3) := by decide +kernel
theorem dX6_told_88 : decode cX6_told 88 = .ok (.ireturn, 1) := by decide +kernel
theorem dX6_told_89 : decode cX6_told 89 = .ok (.aload_n 3, 1) := by decide +kernel
theorem dX6_told_90 : decode cX6_told 90 = .ok (.invokevirtual 112, 3) := by decide +kernel
theorem dX6_told_93 : decode cX6_told 93 = .ok (.ireturn, 1) := by decide +kernel
theorem dX6_told_94 : decode cX6_told 94 = .ok (.iconst (-1), 1) := by decide +kernel
theorem dX6_told_95 : decode cX6_told 95 = .ok (.ireturn, 1) := by decide +kernel
theorem dX6_kept_0 : decode cX6_kept 0 = .ok (.aload_n 0, 1) := by decide +kernel
theorem dX6_kept_1 : decode cX6_kept 1 = .ok (.iload_n 1, 1) := by decide +kernel
theorem dX6_kept_2 : decode cX6_kept 2 = .ok (.invokevirtual 38, 3) := by decide +kernel
theorem dX6_kept_5 : decode cX6_kept 5 = .ok (.astore 4, 2) := by decide +kernel
theorem dX6_kept_7 : decode cX6_kept 7 = .ok (.aload 4, 2) := by decide +kernel
theorem dX6_kept_9 : decode cX6_kept 9 = .ok (.ifnonnull 7, 3) := by decide +kernel
theorem dX6_kept_12 : decode cX6_kept 12 = .ok (.iconst (-1), 1) := by decide +kernel
theorem dX6_kept_13 : decode cX6_kept 13 = .ok (.goto 10, 3) := by decide +kernel
theorem dX6_kept_16 : decode cX6_kept 16 = .ok (.aload 4, 2) := by decide +kernel
theorem dX6_kept_18 : decode cX6_kept 18 = .ok (.iload_n 2, 1) := by decide +kernel
theorem dX6_kept_19 : decode cX6_kept 19 = .ok (.iload_n 3, 1) := by decide +kernel
theorem dX6_kept_20 : decode cX6_kept 20 = .ok (.invokevirtual 115, 3) := by decide +kernel
theorem dX6_kept_23 : decode cX6_kept 23 = .ok (.ireturn, 1) := by decide +kernel
theorem dX6_count_0 : decode cX6_count 0 = .ok (.aload_n 0, 1) := by decide +kernel
theorem dX6_count_1 : decode cX6_count 1 = .ok (.getfield 15, 3) := by decide +kernel
theorem dX6_count_4 : decode cX6_count 4 = .ok (.ireturn, 1) := by decide +kernel
theorem dX6_find_0 : decode cX6_find 0 = .ok (.iload_n 1, 1) := by decide +kernel
theorem dX6_find_1 : decode cX6_find 1 = .ok (.ifCond .lt 20, 3) := by decide +kernel
theorem dX6_find_4 : decode cX6_find 4 = .ok (.iload_n 1, 1) := by decide +kernel
theorem dX6_find_5 : decode cX6_find 5 = .ok (.aload_n 0, 1) := by decide +kernel
theorem dX6_find_6 : decode cX6_find 6 = .ok (.getfield 15, 3) := by decide +kernel
theorem dX6_find_9 : decode cX6_find 9 = .ok (.if_icmp .ge 12, 3) := by decide +kernel
theorem dX6_find_12 : decode cX6_find 12 = .ok (.iload_n 1, 1) := by decide +kernel
theorem dX6_find_13 : decode cX6_find 13 = .ok (.aload_n 0, 1) := by decide +kernel
theorem dX6_find_14 : decode cX6_find 14 = .ok (.getfield 11, 3) := by decide +kernel
theorem dX6_find_17 : decode cX6_find 17 = .ok (.arraylength, 1) := by decide +kernel
theorem dX6_find_18 : decode cX6_find 18 = .ok (.if_icmp .lt 7, 3) := by decide +kernel
theorem dX6_find_21 : decode cX6_find 21 = .ok (.aconst_null, 1) := by decide +kernel
theorem dX6_find_22 : decode cX6_find 22 = .ok (.goto 9, 3) := by decide +kernel
theorem dX6_find_25 : decode cX6_find 25 = .ok (.aload_n 0, 1) := by decide +kernel
theorem dX6_find_26 : decode cX6_find 26 = .ok (.getfield 11, 3) := by decide +kernel
theorem dX6_find_29 : decode cX6_find 29 = .ok (.iload_n 1, 1) := by decide +kernel
theorem dX6_find_30 : decode cX6_find 30 = .ok (.aaload, 1) := by decide +kernel
theorem dX6_find_31 : decode cX6_find 31 = .ok (.areturn, 1) := by decide +kernel
theorem dX6_keep_0 : decode cX6_keep 0 = .ok (.aload_n 0, 1) := by decide +kernel
theorem dX6_keep_1 : decode cX6_keep 1 = .ok (.getfield 15, 3) := by decide +kernel
theorem dX6_keep_4 : decode cX6_keep 4 = .ok (.aload_n 0, 1) := by decide +kernel
theorem dX6_keep_5 : decode cX6_keep 5 = .ok (.getfield 11, 3) := by decide +kernel
theorem dX6_keep_8 : decode cX6_keep 8 = .ok (.arraylength, 1) := by decide +kernel
theorem dX6_keep_9 : decode cX6_keep 9 = .ok (.if_icmp .lt 6, 3) := by decide +kernel
theorem dX6_keep_12 : decode cX6_keep 12 = .ok (.bipush (-3), 2) := by decide +kernel
theorem dX6_keep_14 : decode cX6_keep 14 = .ok (.ireturn, 1) := by decide +kernel
theorem dX6_keep_15 : decode cX6_keep 15 = .ok (.aload_n 0, 1) := by decide +kernel
theorem dX6_keep_16 : decode cX6_keep 16 = .ok (.getfield 11, 3) := by decide +kernel
theorem dX6_keep_19 : decode cX6_keep 19 = .ok (.aload_n 0, 1) := by decide +kernel
theorem dX6_keep_20 : decode cX6_keep 20 = .ok (.getfield 15, 3) := by decide +kernel
theorem dX6_keep_23 : decode cX6_keep 23 = .ok (.aload_n 1, 1) := by decide +kernel
theorem dX6_keep_24 : decode cX6_keep 24 = .ok (.aastore, 1) := by decide +kernel
theorem dX6_keep_25 : decode cX6_keep 25 = .ok (.aload_n 0, 1) := by decide +kernel
theorem dX6_keep_26 : decode cX6_keep 26 = .ok (.dup, 1) := by decide +kernel
theorem dX6_keep_27 : decode cX6_keep 27 = .ok (.getfield 15, 3) := by decide +kernel
theorem dX6_keep_30 : decode cX6_keep 30 = .ok (.iconst 1, 1) := by decide +kernel
theorem dX6_keep_31 : decode cX6_keep 31 = .ok (.iadd, 1) := by decide +kernel
theorem dX6_keep_32 : decode cX6_keep 32 = .ok (.putfield 15, 3) := by decide +kernel
theorem dX6_keep_35 : decode cX6_keep 35 = .ok (.aload_n 0, 1) := by decide +kernel
theorem dX6_keep_36 : decode cX6_keep 36 = .ok (.getfield 15, 3) := by decide +kernel
theorem dX6_keep_39 : decode cX6_keep 39 = .ok (.iconst 1, 1) := by decide +kernel
theorem dX6_keep_40 : decode cX6_keep 40 = .ok (.isub, 1) := by decide +kernel
theorem dX6_keep_41 : decode cX6_keep 41 = .ok (.ireturn, 1) := by decide +kernel
theorem dX6_isSort_0 : decode cX6_isSort 0 = .ok (.iload_n 0, 1) := by decide +kernel
theorem dX6_isSort_1 : decode cX6_isSort 1 = .ok (.ifCond .lt 12, 3) := by decide +kernel
theorem dX6_isSort_4 : decode cX6_isSort 4 = .ok (.iload_n 0, 1) := by decide +kernel
theorem dX6_isSort_5 : decode cX6_isSort 5 = .ok (.iconst 4, 1) := by decide +kernel
theorem dX6_isSort_6 : decode cX6_isSort 6 = .ok (.if_icmp .gt 7, 3) := by decide +kernel
theorem dX6_isSort_9 : decode cX6_isSort 9 = .ok (.iconst 1, 1) := by decide +kernel
theorem dX6_isSort_10 : decode cX6_isSort 10 = .ok (.goto 4, 3) := by decide +kernel
theorem dX6_isSort_13 : decode cX6_isSort 13 = .ok (.iconst 0, 1) := by decide +kernel
theorem dX6_isSort_14 : decode cX6_isSort 14 = .ok (.ireturn, 1) := by decide +kernel
theorem dX6_isSize_0 : decode cX6_isSize 0 = .ok (.iload_n 0, 1) := by decide +kernel
theorem dX6_isSize_1 : decode cX6_isSize 1 = .ok (.ifCond .lt 19, 3) := by decide +kernel
theorem dX6_isSize_4 : decode cX6_isSize 4 = .ok (.iload_n 0, 1) := by decide +kernel
theorem dX6_isSize_5 : decode cX6_isSize 5 = .ok (.getstatic 119, 3) := by decide +kernel
theorem dX6_isSize_8 : decode cX6_isSize 8 = .ok (.arraylength, 1) := by decide +kernel
theorem dX6_isSize_9 : decode cX6_isSize 9 = .ok (.if_icmp .ge 11, 3) := by decide +kernel
theorem dX6_isSize_12 : decode cX6_isSize 12 = .ok (.iload_n 0, 1) := by decide +kernel
theorem dX6_isSize_13 : decode cX6_isSize 13 = .ok (.getstatic 123, 3) := by decide +kernel
theorem dX6_isSize_16 : decode cX6_isSize 16 = .ok (.arraylength, 1) := by decide +kernel
theorem dX6_isSize_17 : decode cX6_isSize 17 = .ok (.if_icmp .lt 5, 3) := by decide +kernel
theorem dX6_isSize_20 : decode cX6_isSize 20 = .ok (.iconst 0, 1) := by decide +kernel
theorem dX6_isSize_21 : decode cX6_isSize 21 = .ok (.ireturn, 1) := by decide +kernel
theorem dX6_isSize_22 : decode cX6_isSize 22 = .ok (.iload_n 0, 1) := by decide +kernel
theorem dX6_isSize_23 : decode cX6_isSize 23 = .ok (.iconst 4, 1) := by decide +kernel
theorem dX6_isSize_24 : decode cX6_isSize 24 = .ok (.if_icmp .ne 11, 3) := by decide +kernel
theorem dX6_isSize_27 : decode cX6_isSize 27 = .ok (.iload_n 1, 1) := by decide +kernel
theorem dX6_isSize_28 : decode cX6_isSize 28 = .ok (.iconst 2, 1) := by decide +kernel
theorem dX6_isSize_29 : decode cX6_isSize 29 = .ok (.irem, 1) := by decide +kernel
theorem dX6_isSize_30 : decode cX6_isSize 30 = .ok (.ifCond .eq 5, 3) := by decide +kernel
theorem dX6_isSize_33 : decode cX6_isSize 33 = .ok (.iconst 0, 1) := by decide +kernel
theorem dX6_isSize_34 : decode cX6_isSize 34 = .ok (.ireturn, 1) := by decide +kernel
theorem dX6_isSize_35 : decode cX6_isSize 35 = .ok (.iload_n 1, 1) := by decide +kernel
theorem dX6_isSize_36 : decode cX6_isSize 36 = .ok (.getstatic 119, 3) := by decide +kernel
theorem dX6_isSize_39 : decode cX6_isSize 39 = .ok (.iload_n 0, 1) := by decide +kernel
theorem dX6_isSize_40 : decode cX6_isSize 40 = .ok (.iaload, 1) := by decide +kernel
theorem dX6_isSize_41 : decode cX6_isSize 41 = .ok (.if_icmp .lt 16, 3) := by decide +kernel
theorem dX6_isSize_44 : decode cX6_isSize 44 = .ok (.iload_n 1, 1) := by decide +kernel
theorem dX6_isSize_45 : decode cX6_isSize 45 = .ok (.getstatic 123, 3) := by decide +kernel
theorem dX6_isSize_48 : decode cX6_isSize 48 = .ok (.iload_n 0, 1) := by decide +kernel
theorem dX6_isSize_49 : decode cX6_isSize 49 = .ok (.iaload, 1) := by decide +kernel
theorem dX6_isSize_50 : decode cX6_isSize 50 = .ok (.if_icmp .gt 7, 3) := by decide +kernel
theorem dX6_isSize_53 : decode cX6_isSize 53 = .ok (.iconst 1, 1) := by decide +kernel
theorem dX6_isSize_54 : decode cX6_isSize 54 = .ok (.goto 4, 3) := by decide +kernel
theorem dX6_isSize_57 : decode cX6_isSize 57 = .ok (.iconst 0, 1) := by decide +kernel
theorem dX6_isSize_58 : decode cX6_isSize 58 = .ok (.ireturn, 1) := by decide +kernel
theorem dX6_isSeed_0 : decode cX6_isSeed 0 = .ok (.iload_n 0, 1) := by decide +kernel
theorem dX6_isSeed_1 : decode cX6_isSeed 1 = .ok (.ifCond .lt 14, 3) := by decide +kernel
theorem dX6_isSeed_4 : decode cX6_isSeed 4 = .ok (.iload_n 0, 1) := by decide +kernel
theorem dX6_isSeed_5 : decode cX6_isSeed 5 = .ok (.sipush 1000, 3) := by decide +kernel
theorem dX6_isSeed_8 : decode cX6_isSeed 8 = .ok (.if_icmp .ge 7, 3) := by decide +kernel
theorem dX6_isSeed_11 : decode cX6_isSeed 11 = .ok (.iconst 1, 1) := by decide +kernel
theorem dX6_isSeed_12 : decode cX6_isSeed 12 = .ok (.goto 4, 3) := by decide +kernel
theorem dX6_isSeed_15 : decode cX6_isSeed 15 = .ok (.iconst 0, 1) := by decide +kernel
theorem dX6_isSeed_16 : decode cX6_isSeed 16 = .ok (.ireturn, 1) := by decide +kernel
theorem dX6_isKey_0 : decode cX6_isKey 0 = .ok (.iload_n 0, 1) := by decide +kernel
theorem dX6_isKey_1 : decode cX6_isKey 1 = .ok (.ifCond .lt 14, 3) := by decide +kernel
theorem dX6_isKey_4 : decode cX6_isKey 4 = .ok (.iload_n 0, 1) := by decide +kernel
theorem dX6_isKey_5 : decode cX6_isKey 5 = .ok (.sipush 10000, 3) := by decide +kernel
theorem dX6_isKey_8 : decode cX6_isKey 8 = .ok (.if_icmp .ge 7, 3) := by decide +kernel
theorem dX6_isKey_11 : decode cX6_isKey 11 = .ok (.iconst 1, 1) := by decide +kernel
theorem dX6_isKey_12 : decode cX6_isKey 12 = .ok (.goto 4, 3) := by decide +kernel
theorem dX6_isKey_15 : decode cX6_isKey 15 = .ok (.iconst 0, 1) := by decide +kernel
theorem dX6_isKey_16 : decode cX6_isKey 16 = .ok (.ireturn, 1) := by decide +kernel
theorem dX6_newSketch_0 : decode cX6_newSketch 0 = .ok (.iload_n 0, 1) := by decide +kernel
theorem dX6_newSketch_1 : decode cX6_newSketch 1 = .ok (.tableswitch 71 0 3 #[31, 41, 51, 61], 31) := by decide +kernel
theorem dX6_newSketch_32 : decode cX6_newSketch 32 = .ok (.new 126, 3) := by decide +kernel
theorem dX6_newSketch_35 : decode cX6_newSketch 35 = .ok (.dup, 1) := by decide +kernel
theorem dX6_newSketch_36 : decode cX6_newSketch 36 = .ok (.iload_n 1, 1) := by decide +kernel
theorem dX6_newSketch_37 : decode cX6_newSketch 37 = .ok (.iload_n 2, 1) := by decide +kernel
theorem dX6_newSketch_38 : decode cX6_newSketch 38 = .ok (.invokespecial 128, 3) := by decide +kernel
theorem dX6_newSketch_41 : decode cX6_newSketch 41 = .ok (.areturn, 1) := by decide +kernel
theorem dX6_newSketch_42 : decode cX6_newSketch 42 = .ok (.new 130, 3) := by decide +kernel
theorem dX6_newSketch_45 : decode cX6_newSketch 45 = .ok (.dup, 1) := by decide +kernel
theorem dX6_newSketch_46 : decode cX6_newSketch 46 = .ok (.iload_n 1, 1) := by decide +kernel
theorem dX6_newSketch_47 : decode cX6_newSketch 47 = .ok (.iload_n 2, 1) := by decide +kernel
theorem dX6_newSketch_48 : decode cX6_newSketch 48 = .ok (.invokespecial 132, 3) := by decide +kernel
theorem dX6_newSketch_51 : decode cX6_newSketch 51 = .ok (.areturn, 1) := by decide +kernel
theorem dX6_newSketch_52 : decode cX6_newSketch 52 = .ok (.new 133, 3) := by decide +kernel
theorem dX6_newSketch_55 : decode cX6_newSketch 55 = .ok (.dup, 1) := by decide +kernel
theorem dX6_newSketch_56 : decode cX6_newSketch 56 = .ok (.iload_n 1, 1) := by decide +kernel
theorem dX6_newSketch_57 : decode cX6_newSketch 57 = .ok (.iload_n 2, 1) := by decide +kernel
theorem dX6_newSketch_58 : decode cX6_newSketch 58 = .ok (.invokespecial 135, 3) := by decide +kernel
theorem dX6_newSketch_61 : decode cX6_newSketch 61 = .ok (.areturn, 1) := by decide +kernel
theorem dX6_newSketch_62 : decode cX6_newSketch 62 = .ok (.new 136, 3) := by decide +kernel
theorem dX6_newSketch_65 : decode cX6_newSketch 65 = .ok (.dup, 1) := by decide +kernel
theorem dX6_newSketch_66 : decode cX6_newSketch 66 = .ok (.iload_n 1, 1) := by decide +kernel
theorem dX6_newSketch_67 : decode cX6_newSketch 67 = .ok (.iload_n 2, 1) := by decide +kernel
theorem dX6_newSketch_68 : decode cX6_newSketch 68 = .ok (.invokespecial 138, 3) := by decide +kernel
theorem dX6_newSketch_71 : decode cX6_newSketch 71 = .ok (.areturn, 1) := by decide +kernel
theorem dX6_newSketch_72 : decode cX6_newSketch 72 = .ok (.new 139, 3) := by decide +kernel
theorem dX6_newSketch_75 : decode cX6_newSketch 75 = .ok (.dup, 1) := by decide +kernel
theorem dX6_newSketch_76 : decode cX6_newSketch 76 = .ok (.iload_n 1, 1) := by decide +kernel
theorem dX6_newSketch_77 : decode cX6_newSketch 77 = .ok (.iload_n 2, 1) := by decide +kernel
theorem dX6_newSketch_78 : decode cX6_newSketch 78 = .ok (.invokespecial 141, 3) := by decide +kernel
theorem dX6_newSketch_81 : decode cX6_newSketch 81 = .ok (.areturn, 1) := by decide +kernel
theorem dX6_hashOf_0 : decode cX6_hashOf 0 = .ok (.iconst 1, 1) := by decide +kernel
theorem dX6_hashOf_1 : decode cX6_hashOf 1 = .ok (.bipush 31, 2) := by decide +kernel
theorem dX6_hashOf_3 : decode cX6_hashOf 3 = .ok (.iload_n 0, 1) := by decide +kernel
theorem dX6_hashOf_4 : decode cX6_hashOf 4 = .ok (.imul, 1) := by decide +kernel
theorem dX6_hashOf_5 : decode cX6_hashOf 5 = .ok (.iadd, 1) := by decide +kernel
theorem dX6_hashOf_6 : decode cX6_hashOf 6 = .ok (.sipush 977, 3) := by decide +kernel
theorem dX6_hashOf_9 : decode cX6_hashOf 9 = .ok (.iload_n 1, 1) := by decide +kernel
theorem dX6_hashOf_10 : decode cX6_hashOf 10 = .ok (.imul, 1) := by decide +kernel
theorem dX6_hashOf_11 : decode cX6_hashOf 11 = .ok (.iadd, 1) := by decide +kernel
theorem dX6_hashOf_12 : decode cX6_hashOf 12 = .ok (.iload_n 2, 1) := by decide +kernel
theorem dX6_hashOf_13 : decode cX6_hashOf 13 = .ok (.iconst 1, 1) := by decide +kernel
theorem dX6_hashOf_14 : decode cX6_hashOf 14 = .ok (.iadd, 1) := by decide +kernel
theorem dX6_hashOf_15 : decode cX6_hashOf 15 = .ok (.imul, 1) := by decide +kernel
theorem dX6_hashOf_16 : decode cX6_hashOf 16 = .ok (.sipush 4391, 3) := by decide +kernel
theorem dX6_hashOf_19 : decode cX6_hashOf 19 = .ok (.iload_n 1, 1) := by decide +kernel
theorem dX6_hashOf_20 : decode cX6_hashOf 20 = .ok (.imul, 1) := by decide +kernel
theorem dX6_hashOf_21 : decode cX6_hashOf 21 = .ok (.iadd, 1) := by decide +kernel
theorem dX6_hashOf_22 : decode cX6_hashOf 22 = .ok (.bipush 7, 2) := by decide +kernel
theorem dX6_hashOf_24 : decode cX6_hashOf 24 = .ok (.iload_n 0, 1) := by decide +kernel
theorem dX6_hashOf_25 : decode cX6_hashOf 25 = .ok (.imul, 1) := by decide +kernel
theorem dX6_hashOf_26 : decode cX6_hashOf 26 = .ok (.iadd, 1) := by decide +kernel
theorem dX6_hashOf_27 : decode cX6_hashOf 27 = .ok (.ldc 142, 2) := by decide +kernel
theorem dX6_hashOf_29 : decode cX6_hashOf 29 = .ok (.irem, 1) := by decide +kernel
theorem dX6_hashOf_30 : decode cX6_hashOf 30 = .ok (.ireturn, 1) := by decide +kernel
theorem dX6_placeOf_0 : decode cX6_placeOf 0 = .ok (.iload_n 3, 1) := by decide +kernel
theorem dX6_placeOf_1 : decode cX6_placeOf 1 = .ok (.iconst 1, 1) := by decide +kernel
theorem dX6_placeOf_2 : decode cX6_placeOf 2 = .ok (.if_icmp .ge 7, 3) := by decide +kernel
theorem dX6_placeOf_5 : decode cX6_placeOf 5 = .ok (.iconst 0, 1) := by decide +kernel
theorem dX6_placeOf_6 : decode cX6_placeOf 6 = .ok (.goto 11, 3) := by decide +kernel
theorem dX6_placeOf_9 : decode cX6_placeOf 9 = .ok (.iload_n 0, 1) := by decide +kernel
theorem dX6_placeOf_10 : decode cX6_placeOf 10 = .ok (.iload_n 1, 1) := by decide +kernel
theorem dX6_placeOf_11 : decode cX6_placeOf 11 = .ok (.iload_n 2, 1) := by decide +kernel
theorem dX6_placeOf_12 : decode cX6_placeOf 12 = .ok (.invokestatic 80, 3) := by decide +kernel
theorem dX6_placeOf_15 : decode cX6_placeOf 15 = .ok (.iload_n 3, 1) := by decide +kernel
theorem dX6_placeOf_16 : decode cX6_placeOf 16 = .ok (.irem, 1) := by decide +kernel
theorem dX6_placeOf_17 : decode cX6_placeOf 17 = .ok (.ireturn, 1) := by decide +kernel
theorem dX6_copyRow_0 : decode cX6_copyRow 0 = .ok (.iconst 0, 1) := by decide +kernel
theorem dX6_copyRow_1 : decode cX6_copyRow 1 = .ok (.istore_n 2, 1) := by decide +kernel
theorem dX6_copyRow_2 : decode cX6_copyRow 2 = .ok (.iload_n 2, 1) := by decide +kernel
theorem dX6_copyRow_3 : decode cX6_copyRow 3 = .ok (.aload_n 0, 1) := by decide +kernel
theorem dX6_copyRow_4 : decode cX6_copyRow 4 = .ok (.arraylength, 1) := by decide +kernel
theorem dX6_copyRow_5 : decode cX6_copyRow 5 = .ok (.if_icmp .ge 21, 3) := by decide +kernel
theorem dX6_copyRow_8 : decode cX6_copyRow 8 = .ok (.iload_n 2, 1) := by decide +kernel
theorem dX6_copyRow_9 : decode cX6_copyRow 9 = .ok (.aload_n 1, 1) := by decide +kernel
theorem dX6_copyRow_10 : decode cX6_copyRow 10 = .ok (.arraylength, 1) := by decide +kernel
theorem dX6_copyRow_11 : decode cX6_copyRow 11 = .ok (.if_icmp .ge 15, 3) := by decide +kernel
theorem dX6_copyRow_14 : decode cX6_copyRow 14 = .ok (.aload_n 1, 1) := by decide +kernel
theorem dX6_copyRow_15 : decode cX6_copyRow 15 = .ok (.iload_n 2, 1) := by decide +kernel
theorem dX6_copyRow_16 : decode cX6_copyRow 16 = .ok (.aload_n 0, 1) := by decide +kernel
theorem dX6_copyRow_17 : decode cX6_copyRow 17 = .ok (.iload_n 2, 1) := by decide +kernel
theorem dX6_copyRow_18 : decode cX6_copyRow 18 = .ok (.iaload, 1) := by decide +kernel
theorem dX6_copyRow_19 : decode cX6_copyRow 19 = .ok (.iastore, 1) := by decide +kernel
theorem dX6_copyRow_20 : decode cX6_copyRow 20 = .ok (.iinc 2 1, 3) := by decide +kernel
theorem dX6_copyRow_23 : decode cX6_copyRow 23 = .ok (.goto (-21), 3) := by decide +kernel
theorem dX6_copyRow_26 : decode cX6_copyRow 26 = .ok (.return_, 1) := by decide +kernel
theorem dX6_clearRow_0 : decode cX6_clearRow 0 = .ok (.iconst 0, 1) := by decide +kernel
theorem dX6_clearRow_1 : decode cX6_clearRow 1 = .ok (.istore_n 1, 1) := by decide +kernel
theorem dX6_clearRow_2 : decode cX6_clearRow 2 = .ok (.iload_n 1, 1) := by decide +kernel
theorem dX6_clearRow_3 : decode cX6_clearRow 3 = .ok (.aload_n 0, 1) := by decide +kernel
theorem dX6_clearRow_4 : decode cX6_clearRow 4 = .ok (.arraylength, 1) := by decide +kernel
theorem dX6_clearRow_5 : decode cX6_clearRow 5 = .ok (.if_icmp .ge 13, 3) := by decide +kernel
theorem dX6_clearRow_8 : decode cX6_clearRow 8 = .ok (.aload_n 0, 1) := by decide +kernel
theorem dX6_clearRow_9 : decode cX6_clearRow 9 = .ok (.iload_n 1, 1) := by decide +kernel
theorem dX6_clearRow_10 : decode cX6_clearRow 10 = .ok (.iconst 0, 1) := by decide +kernel
theorem dX6_clearRow_11 : decode cX6_clearRow 11 = .ok (.iastore, 1) := by decide +kernel
theorem dX6_clearRow_12 : decode cX6_clearRow 12 = .ok (.iinc 1 1, 3) := by decide +kernel
theorem dX6_clearRow_15 : decode cX6_clearRow 15 = .ok (.goto (-13), 3) := by decide +kernel
theorem dX6_clearRow_18 : decode cX6_clearRow 18 = .ok (.return_, 1) := by decide +kernel
theorem dX6_countNotZero_0 : decode cX6_countNotZero 0 = .ok (.iconst 0, 1) := by decide +kernel
theorem dX6_countNotZero_1 : decode cX6_countNotZero 1 = .ok (.istore_n 1, 1) := by decide +kernel
theorem dX6_countNotZero_2 : decode cX6_countNotZero 2 = .ok (.iconst 0, 1) := by decide +kernel
theorem dX6_countNotZero_3 : decode cX6_countNotZero 3 = .ok (.istore_n 2, 1) := by decide +kernel
theorem dX6_countNotZero_4 : decode cX6_countNotZero 4 = .ok (.iload_n 2, 1) := by decide +kernel
theorem dX6_countNotZero_5 : decode cX6_countNotZero 5 = .ok (.aload_n 0, 1) := by decide +kernel
theorem dX6_countNotZero_6 : decode cX6_countNotZero 6 = .ok (.arraylength, 1) := by decide +kernel
theorem dX6_countNotZero_7 : decode cX6_countNotZero 7 = .ok (.if_icmp .ge 18, 3) := by decide +kernel
theorem dX6_countNotZero_10 : decode cX6_countNotZero 10 = .ok (.aload_n 0, 1) := by decide +kernel
theorem dX6_countNotZero_11 : decode cX6_countNotZero 11 = .ok (.iload_n 2, 1) := by decide +kernel
theorem dX6_countNotZero_12 : decode cX6_countNotZero 12 = .ok (.iaload, 1) := by decide +kernel
theorem dX6_countNotZero_13 : decode cX6_countNotZero 13 = .ok (.ifCond .eq 6, 3) := by decide +kernel
theorem dX6_countNotZero_16 : decode cX6_countNotZero 16 = .ok (.iinc 1 1, 3) := by decide +kernel
theorem dX6_countNotZero_19 : decode cX6_countNotZero 19 = .ok (.iinc 2 1, 3) := by decide +kernel
theorem dX6_countNotZero_22 : decode cX6_countNotZero 22 = .ok (.goto (-18), 3) := by decide +kernel
theorem dX6_countNotZero_25 : decode cX6_countNotZero 25 = .ok (.iload_n 1, 1) := by decide +kernel
theorem dX6_countNotZero_26 : decode cX6_countNotZero 26 = .ok (.ireturn, 1) := by decide +kernel
theorem dX6_placeFor_0 : decode cX6_placeFor 0 = .ok (.iconst 0, 1) := by decide +kernel
theorem dX6_placeFor_1 : decode cX6_placeFor 1 = .ok (.istore_n 3, 1) := by decide +kernel
theorem dX6_placeFor_2 : decode cX6_placeFor 2 = .ok (.iload_n 3, 1) := by decide +kernel
theorem dX6_placeFor_3 : decode cX6_placeFor 3 = .ok (.iload_n 2, 1) := by decide +kernel
theorem dX6_placeFor_4 : decode cX6_placeFor 4 = .ok (.if_icmp .ge 22, 3) := by decide +kernel
theorem dX6_placeFor_7 : decode cX6_placeFor 7 = .ok (.iload_n 3, 1) := by decide +kernel
theorem dX6_placeFor_8 : decode cX6_placeFor 8 = .ok (.aload_n 1, 1) := by decide +kernel
theorem dX6_placeFor_9 : decode cX6_placeFor 9 = .ok (.arraylength, 1) := by decide +kernel
theorem dX6_placeFor_10 : decode cX6_placeFor 10 = .ok (.if_icmp .ge 16, 3) := by decide +kernel
theorem dX6_placeFor_13 : decode cX6_placeFor 13 = .ok (.aload_n 1, 1) := by decide +kernel
theorem dX6_placeFor_14 : decode cX6_placeFor 14 = .ok (.iload_n 3, 1) := by decide +kernel
theorem dX6_placeFor_15 : decode cX6_placeFor 15 = .ok (.iaload, 1) := by decide +kernel
theorem dX6_placeFor_16 : decode cX6_placeFor 16 = .ok (.iload_n 0, 1) := by decide +kernel
theorem dX6_placeFor_17 : decode cX6_placeFor 17 = .ok (.if_icmp .ge 9, 3) := by decide +kernel
theorem dX6_placeFor_20 : decode cX6_placeFor 20 = .ok (.iinc 3 1, 3) := by decide +kernel
theorem dX6_placeFor_23 : decode cX6_placeFor 23 = .ok (.goto (-21), 3) := by decide +kernel
theorem dX6_placeFor_26 : decode cX6_placeFor 26 = .ok (.iload_n 3, 1) := by decide +kernel
theorem dX6_placeFor_27 : decode cX6_placeFor 27 = .ok (.ireturn, 1) := by decide +kernel
theorem dX6_standsAt_0 : decode cX6_standsAt 0 = .ok (.iload_n 0, 1) := by decide +kernel
theorem dX6_standsAt_1 : decode cX6_standsAt 1 = .ok (.ifCond .lt 25, 3) := by decide +kernel
theorem dX6_standsAt_4 : decode cX6_standsAt 4 = .ok (.iload_n 0, 1) := by decide +kernel
theorem dX6_standsAt_5 : decode cX6_standsAt 5 = .ok (.iload_n 3, 1) := by decide +kernel
theorem dX6_standsAt_6 : decode cX6_standsAt 6 = .ok (.if_icmp .ge 20, 3) := by decide +kernel
theorem dX6_standsAt_9 : decode cX6_standsAt 9 = .ok (.iload_n 0, 1) := by decide +kernel
theorem dX6_standsAt_10 : decode cX6_standsAt 10 = .ok (.aload_n 2, 1) := by decide +kernel
theorem dX6_standsAt_11 : decode cX6_standsAt 11 = .ok (.arraylength, 1) := by decide +kernel
theorem dX6_standsAt_12 : decode cX6_standsAt 12 = .ok (.if_icmp .ge 14, 3) := by decide +kernel
theorem dX6_standsAt_15 : decode cX6_standsAt 15 = .ok (.aload_n 2, 1) := by decide +kernel
theorem dX6_standsAt_16 : decode cX6_standsAt 16 = .ok (.iload_n 0, 1) := by decide +kernel
theorem dX6_standsAt_17 : decode cX6_standsAt 17 = .ok (.iaload, 1) := by decide +kernel
theorem dX6_standsAt_18 : decode cX6_standsAt 18 = .ok (.iload_n 1, 1) := by decide +kernel
theorem dX6_standsAt_19 : decode cX6_standsAt 19 = .ok (.if_icmp .ne 7, 3) := by decide +kernel
theorem dX6_standsAt_22 : decode cX6_standsAt 22 = .ok (.iconst 1, 1) := by decide +kernel
theorem dX6_standsAt_23 : decode cX6_standsAt 23 = .ok (.goto 4, 3) := by decide +kernel
theorem dX6_standsAt_26 : decode cX6_standsAt 26 = .ok (.iconst 0, 1) := by decide +kernel
theorem dX6_standsAt_27 : decode cX6_standsAt 27 = .ok (.ireturn, 1) := by decide +kernel
theorem dX7_in_0 : decode cX7_in 0 = .ok (.iload_n 0, 1) := by decide +kernel
theorem dX7_in_1 : decode cX7_in 1 = .ok (.iload_n 1, 1) := by decide +kernel
theorem dX7_in_2 : decode cX7_in 2 = .ok (.if_icmp .lt 12, 3) := by decide +kernel
theorem dX7_in_5 : decode cX7_in 5 = .ok (.iload_n 0, 1) := by decide +kernel
theorem dX7_in_6 : decode cX7_in 6 = .ok (.iload_n 2, 1) := by decide +kernel
theorem dX7_in_7 : decode cX7_in 7 = .ok (.if_icmp .gt 7, 3) := by decide +kernel
theorem dX7_in_10 : decode cX7_in 10 = .ok (.iconst 1, 1) := by decide +kernel
theorem dX7_in_11 : decode cX7_in 11 = .ok (.goto 4, 3) := by decide +kernel
theorem dX7_in_14 : decode cX7_in 14 = .ok (.iconst 0, 1) := by decide +kernel
theorem dX7_in_15 : decode cX7_in 15 = .ok (.ireturn, 1) := by decide +kernel
theorem dX7_init_0 : decode cX7_init 0 = .ok (.aload_n 0, 1) := by decide +kernel
theorem dX7_init_1 : decode cX7_init 1 = .ok (.invokespecial 7, 3) := by decide +kernel
theorem dX7_init_4 : decode cX7_init 4 = .ok (.aload_n 0, 1) := by decide +kernel
theorem dX7_init_5 : decode cX7_init 5 = .ok (.bipush 8, 2) := by decide +kernel
theorem dX7_init_7 : decode cX7_init 7 = .ok (.newarray .int, 2) := by decide +kernel
theorem dX7_init_9 : decode cX7_init 9 = .ok (.putfield 13, 3) := by decide +kernel
theorem dX7_init_12 : decode cX7_init 12 = .ok (.aload_n 0, 1) := by decide +kernel
theorem dX7_init_13 : decode cX7_init 13 = .ok (.bipush 8, 2) := by decide +kernel
theorem dX7_init_15 : decode cX7_init 15 = .ok (.newarray .int, 2) := by decide +kernel
theorem dX7_init_17 : decode cX7_init 17 = .ok (.putfield 17, 3) := by decide +kernel
theorem dX7_init_20 : decode cX7_init 20 = .ok (.aload_n 0, 1) := by decide +kernel
theorem dX7_init_21 : decode cX7_init 21 = .ok (.bipush 8, 2) := by decide +kernel
theorem dX7_init_23 : decode cX7_init 23 = .ok (.newarray .int, 2) := by decide +kernel
theorem dX7_init_25 : decode cX7_init 25 = .ok (.putfield 20, 3) := by decide +kernel
theorem dX7_init_28 : decode cX7_init 28 = .ok (.aload_n 0, 1) := by decide +kernel
theorem dX7_init_29 : decode cX7_init 29 = .ok (.bipush 8, 2) := by decide +kernel
theorem dX7_init_31 : decode cX7_init 31 = .ok (.newarray .int, 2) := by decide +kernel
theorem dX7_init_33 : decode cX7_init 33 = .ok (.putfield 23, 3) := by decide +kernel
theorem dX7_init_36 : decode cX7_init 36 = .ok (.aload_n 0, 1) := by decide +kernel
theorem dX7_init_37 : decode cX7_init 37 = .ok (.bipush 8, 2) := by decide +kernel
theorem dX7_init_39 : decode cX7_init 39 = .ok (.newarray .int, 2) := by decide +kernel
theorem dX7_init_41 : decode cX7_init 41 = .ok (.putfield 26, 3) := by decide +kernel
theorem dX7_init_44 : decode cX7_init 44 = .ok (.aload_n 0, 1) := by decide +kernel
theorem dX7_init_45 : decode cX7_init 45 = .ok (.bipush 8, 2) := by decide +kernel
theorem dX7_init_47 : decode cX7_init 47 = .ok (.newarray .int, 2) := by decide +kernel
theorem dX7_init_49 : decode cX7_init 49 = .ok (.putfield 29, 3) := by decide +kernel
theorem dX7_init_52 : decode cX7_init 52 = .ok (.aload_n 0, 1) := by decide +kernel
theorem dX7_init_53 : decode cX7_init 53 = .ok (.sipush 9600, 3) := by decide +kernel
theorem dX7_init_56 : decode cX7_init 56 = .ok (.newarray .int, 2) := by decide +kernel
theorem dX7_init_58 : decode cX7_init 58 = .ok (.putfield 32, 3) := by decide +kernel
theorem dX7_init_61 : decode cX7_init 61 = .ok (.aload_n 0, 1) := by decide +kernel
theorem dX7_init_62 : decode cX7_init 62 = .ok (.sipush 1024, 3) := by decide +kernel
theorem dX7_init_65 : decode cX7_init 65 = .ok (.newarray .int, 2) := by decide +kernel
theorem dX7_init_67 : decode cX7_init 67 = .ok (.putfield 35, 3) := by decide +kernel
theorem dX7_init_70 : decode cX7_init 70 = .ok (.aload_n 0, 1) := by decide +kernel
theorem dX7_init_71 : decode cX7_init 71 = .ok (.iconst 0, 1) := by decide +kernel
theorem dX7_init_72 : decode cX7_init 72 = .ok (.putfield 1, 3) := by decide +kernel
theorem dX7_init_75 : decode cX7_init 75 = .ok (.return_, 1) := by decide +kernel
theorem dX7_none_0 : decode cX7_none 0 = .ok (.iload_n 1, 1) := by decide +kernel
theorem dX7_none_1 : decode cX7_none 1 = .ok (.iconst 0, 1) := by decide +kernel
theorem dX7_none_2 : decode cX7_none 2 = .ok (.aload_n 0, 1) := by decide +kernel
theorem dX7_none_3 : decode cX7_none 3 = .ok (.getfield 38, 3) := by decide +kernel
theorem dX7_none_6 : decode cX7_none 6 = .ok (.iconst 1, 1) := by decide +kernel
theorem dX7_none_7 : decode cX7_none 7 = .ok (.isub, 1) := by decide +kernel
theorem dX7_none_8 : decode cX7_none 8 = .ok (.invokestatic 41, 3) := by decide +kernel
theorem dX7_none_11 : decode cX7_none 11 = .ok (.ifCond .ne 7, 3) := by decide +kernel
theorem dX7_none_14 : decode cX7_none 14 = .ok (.iconst 1, 1) := by decide +kernel
theorem dX7_none_15 : decode cX7_none 15 = .ok (.goto 4, 3) := by decide +kernel
theorem dX7_none_18 : decode cX7_none 18 = .ok (.iconst 0, 1) := by decide +kernel
theorem dX7_none_19 : decode cX7_none 19 = .ok (.ireturn, 1) := by decide +kernel
theorem dX7_hashOf_0 : decode cX7_hashOf 0 = .ok (.iconst 1, 1) := by decide +kernel
theorem dX7_hashOf_1 : decode cX7_hashOf 1 = .ok (.bipush 31, 2) := by decide +kernel
theorem dX7_hashOf_3 : decode cX7_hashOf 3 = .ok (.iload_n 0, 1) := by decide +kernel
theorem dX7_hashOf_4 : decode cX7_hashOf 4 = .ok (.imul, 1) := by decide +kernel
theorem dX7_hashOf_5 : decode cX7_hashOf 5 = .ok (.iadd, 1) := by decide +kernel
theorem dX7_hashOf_6 : decode cX7_hashOf 6 = .ok (.sipush 977, 3) := by decide +kernel
theorem dX7_hashOf_9 : decode cX7_hashOf 9 = .ok (.iload_n 1, 1) := by decide +kernel
theorem dX7_hashOf_10 : decode cX7_hashOf 10 = .ok (.imul, 1) := by decide +kernel
theorem dX7_hashOf_11 : decode cX7_hashOf 11 = .ok (.iadd, 1) := by decide +kernel
theorem dX7_hashOf_12 : decode cX7_hashOf 12 = .ok (.iload_n 2, 1) := by decide +kernel
theorem dX7_hashOf_13 : decode cX7_hashOf 13 = .ok (.iconst 1, 1) := by decide +kernel
theorem dX7_hashOf_14 : decode cX7_hashOf 14 = .ok (.iadd, 1) := by decide +kernel
theorem dX7_hashOf_15 : decode cX7_hashOf 15 = .ok (.imul, 1) := by decide +kernel
theorem dX7_hashOf_16 : decode cX7_hashOf 16 = .ok (.sipush 4391, 3) := by decide +kernel
theorem dX7_hashOf_19 : decode cX7_hashOf 19 = .ok (.iload_n 1, 1) := by decide +kernel
theorem dX7_hashOf_20 : decode cX7_hashOf 20 = .ok (.imul, 1) := by decide +kernel
theorem dX7_hashOf_21 : decode cX7_hashOf 21 = .ok (.iadd, 1) := by decide +kernel
theorem dX7_hashOf_22 : decode cX7_hashOf 22 = .ok (.bipush 7, 2) := by decide +kernel
theorem dX7_hashOf_24 : decode cX7_hashOf 24 = .ok (.iload_n 0, 1) := by decide +kernel
theorem dX7_hashOf_25 : decode cX7_hashOf 25 = .ok (.imul, 1) := by decide +kernel
theorem dX7_hashOf_26 : decode cX7_hashOf 26 = .ok (.iadd, 1) := by decide +kernel
theorem dX7_hashOf_27 : decode cX7_hashOf 27 = .ok (.ldc 45, 2) := by decide +kernel
theorem dX7_hashOf_29 : decode cX7_hashOf 29 = .ok (.irem, 1) := by decide +kernel
theorem dX7_hashOf_30 : decode cX7_hashOf 30 = .ok (.ireturn, 1) := by decide +kernel
theorem dX7_sketch_0 : decode cX7_sketch 0 = .ok (.aload_n 0, 1) := by decide +kernel
theorem dX7_sketch_1 : decode cX7_sketch 1 = .ok (.iconst 0, 1) := by decide +kernel
theorem dX7_sketch_2 : decode cX7_sketch 2 = .ok (.putfield 1, 3) := by decide +kernel
theorem dX7_sketch_5 : decode cX7_sketch 5 = .ok (.iload_n 1, 1) := by decide +kernel
theorem dX7_sketch_6 : decode cX7_sketch 6 = .ok (.iconst 0, 1) := by decide +kernel
theorem dX7_sketch_7 : decode cX7_sketch 7 = .ok (.iconst 4, 1) := by decide +kernel
theorem dX7_sketch_8 : decode cX7_sketch 8 = .ok (.invokestatic 41, 3) := by decide +kernel
theorem dX7_sketch_11 : decode cX7_sketch 11 = .ok (.ifCond .eq 18, 3) := by decide +kernel
theorem dX7_sketch_14 : decode cX7_sketch 14 = .ok (.iload_n 3, 1) := by decide +kernel
theorem dX7_sketch_15 : decode cX7_sketch 15 = .ok (.iconst 0, 1) := by decide +kernel
theorem dX7_sketch_16 : decode cX7_sketch 16 = .ok (.sipush 999, 3) := by decide +kernel
theorem dX7_sketch_19 : decode cX7_sketch 19 = .ok (.invokestatic 41, 3) := by decide +kernel
theorem dX7_sketch_22 : decode cX7_sketch 22 = .ok (.ifCond .eq 7, 3) := by decide +kernel
theorem dX7_sketch_25 : decode cX7_sketch 25 = .ok (.iconst 1, 1) := by decide +kernel
theorem dX7_sketch_26 : decode cX7_sketch 26 = .ok (.goto 4, 3) := by decide +kernel
theorem dX7_sketch_29 : decode cX7_sketch 29 = .ok (.iconst 0, 1) := by decide +kernel
theorem dX7_sketch_30 : decode cX7_sketch 30 = .ok (.istore 4, 2) := by decide +kernel
theorem dX7_sketch_32 : decode cX7_sketch 32 = .ok (.iload 4, 2) := by decide +kernel
theorem dX7_sketch_34 : decode cX7_sketch 34 = .ok (.ifCond .eq 96, 3) := by decide +kernel
theorem dX7_sketch_37 : decode cX7_sketch 37 = .ok (.iload_n 1, 1) := by decide +kernel
theorem dX7_sketch_38 : decode cX7_sketch 38 = .ok (.ifCond .ne 16, 3) := by decide +kernel
theorem dX7_sketch_41 : decode cX7_sketch 41 = .ok (.iload_n 2, 1) := by decide +kernel
theorem dX7_sketch_42 : decode cX7_sketch 42 = .ok (.iconst 1, 1) := by decide +kernel
theorem dX7_sketch_43 : decode cX7_sketch 43 = .ok (.bipush 20, 2) := by decide +kernel
theorem dX7_sketch_45 : decode cX7_sketch 45 = .ok (.invokestatic 41, 3) := by decide +kernel
theorem dX7_sketch_48 : decode cX7_sketch 48 = .ok (.ifCond .eq 82, 3) := by decide +kernel
theorem dX7_sketch_51 : decode cX7_sketch 51 = .ok (.goto 75, 3) := by decide +kernel
theorem dX7_sketch_54 : decode cX7_sketch 54 = .ok (.iload_n 1, 1) := by decide +kernel
theorem dX7_sketch_55 : decode cX7_sketch 55 = .ok (.iconst 1, 1) := by decide +kernel
theorem dX7_sketch_56 : decode cX7_sketch 56 = .ok (.if_icmp .ne 16, 3) := by decide +kernel
theorem dX7_sketch_59 : decode cX7_sketch 59 = .ok (.iload_n 2, 1) := by decide +kernel
theorem dX7_sketch_60 : decode cX7_sketch 60 = .ok (.iconst 4, 1) := by decide +kernel
theorem dX7_sketch_61 : decode cX7_sketch 61 = .ok (.bipush 64, 2) := by decide +kernel
theorem dX7_sketch_63 : decode cX7_sketch 63 = .ok (.invokestatic 41, 3) := by decide +kernel
theorem dX7_sketch_66 : decode cX7_sketch 66 = .ok (.ifCond .eq 64, 3) := by decide +kernel
theorem dX7_sketch_69 : decode cX7_sketch 69 = .ok (.goto 57, 3) := by decide +kernel
theorem dX7_sketch_72 : decode cX7_sketch 72 = .ok (.iload_n 1, 1) := by decide +kernel
theorem dX7_sketch_73 : decode cX7_sketch 73 = .ok (.iconst 2, 1) := by decide +kernel
theorem dX7_sketch_74 : decode cX7_sketch 74 = .ok (.if_icmp .ne 18, 3) := by decide +kernel
theorem dX7_sketch_77 : decode cX7_sketch 77 = .ok (.iload_n 2, 1) := by decide +kernel
theorem dX7_sketch_78 : decode cX7_sketch 78 = .ok (.bipush 16, 2) := by decide +kernel
theorem dX7_sketch_80 : decode cX7_sketch 80 = .ok (.sipush 512, 3) := by decide +kernel
theorem dX7_sketch_83 : decode cX7_sketch 83 = .ok (.invokestatic 41, 3) := by decide +kernel
theorem dX7_sketch_86 : decode cX7_sketch 86 = .ok (.ifCond .eq 44, 3) := by decide +kernel
theorem dX7_sketch_89 : decode cX7_sketch 89 = .ok (.goto 37, 3) := by decide +kernel
theorem dX7_sketch_92 : decode cX7_sketch 92 = .ok (.iload_n 1, 1) := by decide +kernel
theorem dX7_sketch_93 : decode cX7_sketch 93 = .ok (.iconst 3, 1) := by decide +kernel
theorem dX7_sketch_94 : decode cX7_sketch 94 = .ok (.if_icmp .ne 16, 3) := by decide +kernel
theorem dX7_sketch_97 : decode cX7_sketch 97 = .ok (.iload_n 2, 1) := by decide +kernel
theorem dX7_sketch_98 : decode cX7_sketch 98 = .ok (.iconst 2, 1) := by decide +kernel
theorem dX7_sketch_99 : decode cX7_sketch 99 = .ok (.bipush 32, 2) := by decide +kernel
theorem dX7_sketch_101 : decode cX7_sketch 101 = .ok (.invokestatic 41, 3) := by decide +kernel
theorem dX7_sketch_104 : decode cX7_sketch 104 = .ok (.ifCond .eq 26, 3) := by decide +kernel
theorem dX7_sketch_107 : decode cX7_sketch 107 = .ok (.goto 19, 3) := by decide +kernel
theorem dX7_sketch_110 : decode cX7_sketch 110 = .ok (.iload_n 2, 1) := by decide +kernel
theorem dX7_sketch_111 : decode cX7_sketch 111 = .ok (.iconst 4, 1) := by decide +kernel
theorem dX7_sketch_112 : decode cX7_sketch 112 = .ok (.bipush 32, 2) := by decide +kernel
theorem dX7_sketch_114 : decode cX7_sketch 114 = .ok (.invokestatic 41, 3) := by decide +kernel
theorem dX7_sketch_117 : decode cX7_sketch 117 = .ok (.ifCond .eq 13, 3) := by decide +kernel
theorem dX7_sketch_120 : decode cX7_sketch 120 = .ok (.iload_n 2, 1) := by decide +kernel
theorem dX7_sketch_121 : decode cX7_sketch 121 = .ok (.iconst 2, 1) := by decide +kernel
theorem dX7_sketch_122 : decode cX7_sketch 122 = .ok (.irem, 1) := by decide +kernel
theorem dX7_sketch_123 : decode cX7_sketch 123 = .ok (.ifCond .ne 7, 3) := by decide +kernel
theorem dX7_sketch_126 : decode cX7_sketch 126 = .ok (.iconst 1, 1) := by decide +kernel
theorem dX7_sketch_127 : decode cX7_sketch 127 = .ok (.goto 4, 3) := by decide +kernel
theorem dX7_sketch_130 : decode cX7_sketch 130 = .ok (.iconst 0, 1) := by decide +kernel
theorem dX7_sketch_131 : decode cX7_sketch 131 = .ok (.istore 4, 2) := by decide +kernel
theorem dX7_sketch_133 : decode cX7_sketch 133 = .ok (.iload 4, 2) := by decide +kernel
theorem dX7_sketch_135 : decode cX7_sketch 135 = .ok (.ifCond .ne 5, 3) := by decide +kernel
theorem dX7_sketch_138 : decode cX7_sketch 138 = .ok (.iconst (-1), 1) := by decide +kernel
theorem dX7_sketch_139 : decode cX7_sketch 139 = .ok (.ireturn, 1) := by decide +kernel
theorem dX7_sketch_140 : decode cX7_sketch 140 = .ok (.aload_n 0, 1) := by decide +kernel
theorem dX7_sketch_141 : decode cX7_sketch 141 = .ok (.getfield 38, 3) := by decide +kernel
theorem dX7_sketch_144 : decode cX7_sketch 144 = .ok (.bipush 8, 2) := by decide +kernel
theorem dX7_sketch_146 : decode cX7_sketch 146 = .ok (.if_icmp .ne 6, 3) := by decide +kernel
theorem dX7_sketch_149 : decode cX7_sketch 149 = .ok (.bipush (-3), 2) := by decide +kernel
theorem dX7_sketch_151 : decode cX7_sketch 151 = .ok (.ireturn, 1) := by decide +kernel
theorem dX7_sketch_152 : decode cX7_sketch 152 = .ok (.aload_n 0, 1) := by decide +kernel
theorem dX7_sketch_153 : decode cX7_sketch 153 = .ok (.getfield 13, 3) := by decide +kernel
theorem dX7_sketch_156 : decode cX7_sketch 156 = .ok (.aload_n 0, 1) := by decide +kernel
theorem dX7_sketch_157 : decode cX7_sketch 157 = .ok (.getfield 38, 3) := by decide +kernel
theorem dX7_sketch_160 : decode cX7_sketch 160 = .ok (.iload_n 1, 1) := by decide +kernel
theorem dX7_sketch_161 : decode cX7_sketch 161 = .ok (.iastore, 1) := by decide +kernel
theorem dX7_sketch_162 : decode cX7_sketch 162 = .ok (.aload_n 0, 1) := by decide +kernel
theorem dX7_sketch_163 : decode cX7_sketch 163 = .ok (.getfield 17, 3) := by decide +kernel
theorem dX7_sketch_166 : decode cX7_sketch 166 = .ok (.aload_n 0, 1) := by decide +kernel
theorem dX7_sketch_167 : decode cX7_sketch 167 = .ok (.getfield 38, 3) := by decide +kernel
theorem dX7_sketch_170 : decode cX7_sketch 170 = .ok (.iload_n 2, 1) := by decide +kernel
theorem dX7_sketch_171 : decode cX7_sketch 171 = .ok (.iastore, 1) := by decide +kernel
theorem dX7_sketch_172 : decode cX7_sketch 172 = .ok (.aload_n 0, 1) := by decide +kernel
theorem dX7_sketch_173 : decode cX7_sketch 173 = .ok (.getfield 20, 3) := by decide +kernel
theorem dX7_sketch_176 : decode cX7_sketch 176 = .ok (.aload_n 0, 1) := by decide +kernel
theorem dX7_sketch_177 : decode cX7_sketch 177 = .ok (.getfield 38, 3) := by decide +kernel
theorem dX7_sketch_180 : decode cX7_sketch 180 = .ok (.iload_n 3, 1) := by decide +kernel
theorem dX7_sketch_181 : decode cX7_sketch 181 = .ok (.iastore, 1) := by decide +kernel
theorem dX7_sketch_182 : decode cX7_sketch 182 = .ok (.aload_n 0, 1) := by decide +kernel
theorem dX7_sketch_183 : decode cX7_sketch 183 = .ok (.dup, 1) := by decide +kernel
theorem dX7_sketch_184 : decode cX7_sketch 184 = .ok (.getfield 38, 3) := by decide +kernel
theorem dX7_sketch_187 : decode cX7_sketch 187 = .ok (.iconst 1, 1) := by decide +kernel
theorem dX7_sketch_188 : decode cX7_sketch 188 = .ok (.iadd, 1) := by decide +kernel
theorem dX7_sketch_189 : decode cX7_sketch 189 = .ok (.putfield 38, 3) := by decide +kernel
theorem dX7_sketch_192 : decode cX7_sketch 192 = .ok (.aload_n 0, 1) := by decide +kernel
theorem dX7_sketch_193 : decode cX7_sketch 193 = .ok (.aload_n 0, 1) := by decide +kernel
theorem dX7_sketch_194 : decode cX7_sketch 194 = .ok (.getfield 38, 3) := by decide +kernel
theorem dX7_sketch_197 : decode cX7_sketch 197 = .ok (.iconst 1, 1) := by decide +kernel
theorem dX7_sketch_198 : decode cX7_sketch 198 = .ok (.isub, 1) := by decide +kernel
theorem dX7_sketch_199 : decode cX7_sketch 199 = .ok (.invokevirtual 46, 3) := by decide +kernel
theorem dX7_sketch_202 : decode cX7_sketch 202 = .ok (.aload_n 0, 1) := by decide +kernel
theorem dX7_sketch_203 : decode cX7_sketch 203 = .ok (.getfield 38, 3) := by decide +kernel
theorem dX7_sketch_206 : decode cX7_sketch 206 = .ok (.iconst 1, 1) := by decide +kernel
theorem dX7_sketch_207 : decode cX7_sketch 207 = .ok (.isub, 1) := by decide +kernel
theorem dX7_sketch_208 : decode cX7_sketch 208 = .ok (.ireturn, 1) := by decide +kernel
theorem dX7_empty_0 : decode cX7_empty 0 = .ok (.aload_n 0, 1) := by decide +kernel
theorem dX7_empty_1 : decode cX7_empty 1 = .ok (.getfield 23, 3) := by decide +kernel
theorem dX7_empty_4 : decode cX7_empty 4 = .ok (.iload_n 1, 1) := by decide +kernel
theorem dX7_empty_5 : decode cX7_empty 5 = .ok (.iconst 0, 1) := by decide +kernel
theorem dX7_empty_6 : decode cX7_empty 6 = .ok (.iastore, 1) := by decide +kernel
theorem dX7_empty_7 : decode cX7_empty 7 = .ok (.aload_n 0, 1) := by decide +kernel
theorem dX7_empty_8 : decode cX7_empty 8 = .ok (.getfield 26, 3) := by decide +kernel
theorem dX7_empty_11 : decode cX7_empty 11 = .ok (.iload_n 1, 1) := by decide +kernel
theorem dX7_empty_12 : decode cX7_empty 12 = .ok (.iconst 0, 1) := by decide +kernel
theorem dX7_empty_13 : decode cX7_empty 13 = .ok (.iastore, 1) := by decide +kernel
theorem dX7_empty_14 : decode cX7_empty 14 = .ok (.aload_n 0, 1) := by decide +kernel
theorem dX7_empty_15 : decode cX7_empty 15 = .ok (.getfield 29, 3) := by decide +kernel
theorem dX7_empty_18 : decode cX7_empty 18 = .ok (.iload_n 1, 1) := by decide +kernel
theorem dX7_empty_19 : decode cX7_empty 19 = .ok (.iconst 0, 1) := by decide +kernel
theorem dX7_empty_20 : decode cX7_empty 20 = .ok (.iastore, 1) := by decide +kernel
theorem dX7_empty_21 : decode cX7_empty 21 = .ok (.iconst 0, 1) := by decide +kernel
theorem dX7_empty_22 : decode cX7_empty 22 = .ok (.istore_n 2, 1) := by decide +kernel
theorem dX7_empty_23 : decode cX7_empty 23 = .ok (.iload_n 2, 1) := by decide +kernel
theorem dX7_empty_24 : decode cX7_empty 24 = .ok (.sipush 1200, 3) := by decide +kernel
theorem dX7_empty_27 : decode cX7_empty 27 = .ok (.if_icmp .ge 22, 3) := by decide +kernel
theorem dX7_empty_30 : decode cX7_empty 30 = .ok (.aload_n 0, 1) := by decide +kernel
theorem dX7_empty_31 : decode cX7_empty 31 = .ok (.getfield 32, 3) := by decide +kernel
theorem dX7_empty_34 : decode cX7_empty 34 = .ok (.sipush 1200, 3) := by decide +kernel
theorem dX7_empty_37 : decode cX7_empty 37 = .ok (.iload_n 1, 1) := by decide +kernel
theorem dX7_empty_38 : decode cX7_empty 38 = .ok (.imul, 1) := by decide +kernel
theorem dX7_empty_39 : decode cX7_empty 39 = .ok (.iload_n 2, 1) := by decide +kernel
theorem dX7_empty_40 : decode cX7_empty 40 = .ok (.iadd, 1) := by decide +kernel
theorem dX7_empty_41 : decode cX7_empty 41 = .ok (.iconst 0, 1) := by decide +kernel
theorem dX7_empty_42 : decode cX7_empty 42 = .ok (.iastore, 1) := by decide +kernel
theorem dX7_empty_43 : decode cX7_empty 43 = .ok (.iinc 2 1, 3) := by decide +kernel
theorem dX7_empty_46 : decode cX7_empty 46 = .ok (.goto (-23), 3) := by decide +kernel
theorem dX7_empty_49 : decode cX7_empty 49 = .ok (.return_, 1) := by decide +kernel
theorem dX7_copy_0 : decode cX7_copy 0 = .ok (.aload_n 0, 1) := by decide +kernel
theorem dX7_copy_1 : decode cX7_copy 1 = .ok (.iconst 0, 1) := by decide +kernel
theorem dX7_copy_2 : decode cX7_copy 2 = .ok (.putfield 1, 3) := by decide +kernel
theorem dX7_copy_5 : decode cX7_copy 5 = .ok (.aload_n 0, 1) := by decide +kernel
theorem dX7_copy_6 : decode cX7_copy 6 = .ok (.iload_n 1, 1) := by decide +kernel
theorem dX7_copy_7 : decode cX7_copy 7 = .ok (.invokevirtual 50, 3) := by decide +kernel
theorem dX7_copy_10 : decode cX7_copy 10 = .ok (.ifCond .eq 5, 3) := by decide +kernel
theorem dX7_copy_13 : decode cX7_copy 13 = .ok (.iconst (-1), 1) := by decide +kernel
theorem dX7_copy_14 : decode cX7_copy 14 = .ok (.ireturn, 1) := by decide +kernel
theorem dX7_copy_15 : decode cX7_copy 15 = .ok (.aload_n 0, 1) := by decide +kernel
theorem dX7_copy_16 : decode cX7_copy 16 = .ok (.getfield 38, 3) := by decide +kernel
theorem dX7_copy_19 : decode cX7_copy 19 = .ok (.bipush 8, 2) := by decide +kernel
theorem dX7_copy_21 : decode cX7_copy 21 = .ok (.if_icmp .ne 6, 3) := by decide +kernel
theorem dX7_copy_24 : decode cX7_copy 24 = .ok (.bipush (-3), 2) := by decide +kernel
theorem dX7_copy_26 : decode cX7_copy 26 = .ok (.ireturn, 1) := by decide +kernel
theorem dX7_copy_27 : decode cX7_copy 27 = .ok (.aload_n 0, 1) := by decide +kernel
theorem dX7_copy_28 : decode cX7_copy 28 = .ok (.getfield 38, 3) := by decide +kernel
theorem dX7_copy_31 : decode cX7_copy 31 = .ok (.istore_n 2, 1) := by decide +kernel
theorem dX7_copy_32 : decode cX7_copy 32 = .ok (.aload_n 0, 1) := by decide +kernel
theorem dX7_copy_33 : decode cX7_copy 33 = .ok (.getfield 13, 3) := by decide +kernel
theorem dX7_copy_36 : decode cX7_copy 36 = .ok (.iload_n 2, 1) := by decide +kernel
theorem dX7_copy_37 : decode cX7_copy 37 = .ok (.aload_n 0, 1) := by decide +kernel
theorem dX7_copy_38 : decode cX7_copy 38 = .ok (.getfield 13, 3) := by decide +kernel
theorem dX7_copy_41 : decode cX7_copy 41 = .ok (.iload_n 1, 1) := by decide +kernel
theorem dX7_copy_42 : decode cX7_copy 42 = .ok (.iaload, 1) := by decide +kernel
theorem dX7_copy_43 : decode cX7_copy 43 = .ok (.iastore, 1) := by decide +kernel
theorem dX7_copy_44 : decode cX7_copy 44 = .ok (.aload_n 0, 1) := by decide +kernel
theorem dX7_copy_45 : decode cX7_copy 45 = .ok (.getfield 17, 3) := by decide +kernel
theorem dX7_copy_48 : decode cX7_copy 48 = .ok (.iload_n 2, 1) := by decide +kernel
theorem dX7_copy_49 : decode cX7_copy 49 = .ok (.aload_n 0, 1) := by decide +kernel
theorem dX7_copy_50 : decode cX7_copy 50 = .ok (.getfield 17, 3) := by decide +kernel
theorem dX7_copy_53 : decode cX7_copy 53 = .ok (.iload_n 1, 1) := by decide +kernel
theorem dX7_copy_54 : decode cX7_copy 54 = .ok (.iaload, 1) := by decide +kernel
theorem dX7_copy_55 : decode cX7_copy 55 = .ok (.iastore, 1) := by decide +kernel
theorem dX7_copy_56 : decode cX7_copy 56 = .ok (.aload_n 0, 1) := by decide +kernel
theorem dX7_copy_57 : decode cX7_copy 57 = .ok (.getfield 20, 3) := by decide +kernel
theorem dX7_copy_60 : decode cX7_copy 60 = .ok (.iload_n 2, 1) := by decide +kernel
theorem dX7_copy_61 : decode cX7_copy 61 = .ok (.aload_n 0, 1) := by decide +kernel
theorem dX7_copy_62 : decode cX7_copy 62 = .ok (.getfield 20, 3) := by decide +kernel
theorem dX7_copy_65 : decode cX7_copy 65 = .ok (.iload_n 1, 1) := by decide +kernel
theorem dX7_copy_66 : decode cX7_copy 66 = .ok (.iaload, 1) := by decide +kernel
theorem dX7_copy_67 : decode cX7_copy 67 = .ok (.iastore, 1) := by decide +kernel
theorem dX7_copy_68 : decode cX7_copy 68 = .ok (.aload_n 0, 1) := by decide +kernel
theorem dX7_copy_69 : decode cX7_copy 69 = .ok (.getfield 23, 3) := by decide +kernel
theorem dX7_copy_72 : decode cX7_copy 72 = .ok (.iload_n 2, 1) := by decide +kernel
theorem dX7_copy_73 : decode cX7_copy 73 = .ok (.aload_n 0, 1) := by decide +kernel
theorem dX7_copy_74 : decode cX7_copy 74 = .ok (.getfield 23, 3) := by decide +kernel
theorem dX7_copy_77 : decode cX7_copy 77 = .ok (.iload_n 1, 1) := by decide +kernel
theorem dX7_copy_78 : decode cX7_copy 78 = .ok (.iaload, 1) := by decide +kernel
theorem dX7_copy_79 : decode cX7_copy 79 = .ok (.iastore, 1) := by decide +kernel
theorem dX7_copy_80 : decode cX7_copy 80 = .ok (.aload_n 0, 1) := by decide +kernel
theorem dX7_copy_81 : decode cX7_copy 81 = .ok (.getfield 26, 3) := by decide +kernel
theorem dX7_copy_84 : decode cX7_copy 84 = .ok (.iload_n 2, 1) := by decide +kernel
theorem dX7_copy_85 : decode cX7_copy 85 = .ok (.aload_n 0, 1) := by decide +kernel
theorem dX7_copy_86 : decode cX7_copy 86 = .ok (.getfield 26, 3) := by decide +kernel
theorem dX7_copy_89 : decode cX7_copy 89 = .ok (.iload_n 1, 1) := by decide +kernel
theorem dX7_copy_90 : decode cX7_copy 90 = .ok (.iaload, 1) := by decide +kernel
theorem dX7_copy_91 : decode cX7_copy 91 = .ok (.iastore, 1) := by decide +kernel
theorem dX7_copy_92 : decode cX7_copy 92 = .ok (.aload_n 0, 1) := by decide +kernel
theorem dX7_copy_93 : decode cX7_copy 93 = .ok (.getfield 29, 3) := by decide +kernel
theorem dX7_copy_96 : decode cX7_copy 96 = .ok (.iload_n 2, 1) := by decide +kernel
theorem dX7_copy_97 : decode cX7_copy 97 = .ok (.aload_n 0, 1) := by decide +kernel
theorem dX7_copy_98 : decode cX7_copy 98 = .ok (.getfield 29, 3) := by decide +kernel
theorem dX7_copy_101 : decode cX7_copy 101 = .ok (.iload_n 1, 1) := by decide +kernel
theorem dX7_copy_102 : decode cX7_copy 102 = .ok (.iaload, 1) := by decide +kernel
theorem dX7_copy_103 : decode cX7_copy 103 = .ok (.iastore, 1) := by decide +kernel
theorem dX7_copy_104 : decode cX7_copy 104 = .ok (.iconst 0, 1) := by decide +kernel
theorem dX7_copy_105 : decode cX7_copy 105 = .ok (.istore_n 3, 1) := by decide +kernel
theorem dX7_copy_106 : decode cX7_copy 106 = .ok (.iload_n 3, 1) := by decide +kernel
theorem dX7_copy_107 : decode cX7_copy 107 = .ok (.sipush 1200, 3) := by decide +kernel
theorem dX7_copy_110 : decode cX7_copy 110 = .ok (.if_icmp .ge 33, 3) := by decide +kernel
theorem dX7_copy_113 : decode cX7_copy 113 = .ok (.aload_n 0, 1) := by decide +kernel
theorem dX7_copy_114 : decode cX7_copy 114 = .ok (.getfield 32, 3) := by decide +kernel
theorem dX7_copy_117 : decode cX7_copy 117 = .ok (.sipush 1200, 3) := by decide +kernel
theorem dX7_copy_120 : decode cX7_copy 120 = .ok (.iload_n 2, 1) := by decide +kernel
theorem dX7_copy_121 : decode cX7_copy 121 = .ok (.imul, 1) := by decide +kernel
theorem dX7_copy_122 : decode cX7_copy 122 = .ok (.iload_n 3, 1) := by decide +kernel
theorem dX7_copy_123 : decode cX7_copy 123 = .ok (.iadd, 1) := by decide +kernel
theorem dX7_copy_124 : decode cX7_copy 124 = .ok (.aload_n 0, 1) := by decide +kernel
theorem dX7_copy_125 : decode cX7_copy 125 = .ok (.getfield 32, 3) := by decide +kernel
theorem dX7_copy_128 : decode cX7_copy 128 = .ok (.sipush 1200, 3) := by decide +kernel
theorem dX7_copy_131 : decode cX7_copy 131 = .ok (.iload_n 1, 1) := by decide +kernel
theorem dX7_copy_132 : decode cX7_copy 132 = .ok (.imul, 1) := by decide +kernel
theorem dX7_copy_133 : decode cX7_copy 133 = .ok (.iload_n 3, 1) := by decide +kernel
theorem dX7_copy_134 : decode cX7_copy 134 = .ok (.iadd, 1) := by decide +kernel
theorem dX7_copy_135 : decode cX7_copy 135 = .ok (.iaload, 1) := by decide +kernel
theorem dX7_copy_136 : decode cX7_copy 136 = .ok (.iastore, 1) := by decide +kernel
theorem dX7_copy_137 : decode cX7_copy 137 = .ok (.iinc 3 1, 3) := by decide +kernel
theorem dX7_copy_140 : decode cX7_copy 140 = .ok (.goto (-34), 3) := by decide +kernel
theorem dX7_copy_143 : decode cX7_copy 143 = .ok (.aload_n 0, 1) := by decide +kernel
theorem dX7_copy_144 : decode cX7_copy 144 = .ok (.dup, 1) := by decide +kernel
theorem dX7_copy_145 : decode cX7_copy 145 = .ok (.getfield 38, 3) := by decide +kernel
theorem dX7_copy_148 : decode cX7_copy 148 = .ok (.iconst 1, 1) := by decide +kernel
theorem dX7_copy_149 : decode cX7_copy 149 = .ok (.iadd, 1) := by decide +kernel
theorem dX7_copy_150 : decode cX7_copy 150 = .ok (.putfield 38, 3) := by decide +kernel
theorem dX7_copy_153 : decode cX7_copy 153 = .ok (.iload_n 2, 1) := by decide +kernel
theorem dX7_copy_154 : decode cX7_copy 154 = .ok (.ireturn, 1) := by decide +kernel
theorem dX7_clear_0 : decode cX7_clear 0 = .ok (.aload_n 0, 1) := by decide +kernel
theorem dX7_clear_1 : decode cX7_clear 1 = .ok (.iconst 0, 1) := by decide +kernel
theorem dX7_clear_2 : decode cX7_clear 2 = .ok (.putfield 1, 3) := by decide +kernel
theorem dX7_clear_5 : decode cX7_clear 5 = .ok (.aload_n 0, 1) := by decide +kernel
theorem dX7_clear_6 : decode cX7_clear 6 = .ok (.iload_n 1, 1) := by decide +kernel
theorem dX7_clear_7 : decode cX7_clear 7 = .ok (.invokevirtual 50, 3) := by decide +kernel
theorem dX7_clear_10 : decode cX7_clear 10 = .ok (.ifCond .eq 5, 3) := by decide +kernel
theorem dX7_clear_13 : decode cX7_clear 13 = .ok (.iconst (-1), 1) := by decide +kernel
theorem dX7_clear_14 : decode cX7_clear 14 = .ok (.ireturn, 1) := by decide +kernel
theorem dX7_clear_15 : decode cX7_clear 15 = .ok (.aload_n 0, 1) := by decide +kernel
theorem dX7_clear_16 : decode cX7_clear 16 = .ok (.getfield 23, 3) := by decide +kernel
theorem dX7_clear_19 : decode cX7_clear 19 = .ok (.iload_n 1, 1) := by decide +kernel
theorem dX7_clear_20 : decode cX7_clear 20 = .ok (.iaload, 1) := by decide +kernel
theorem dX7_clear_21 : decode cX7_clear 21 = .ok (.ldc 54, 2) := by decide +kernel
theorem dX7_clear_23 : decode cX7_clear 23 = .ok (.iadd, 1) := by decide +kernel
theorem dX7_clear_24 : decode cX7_clear 24 = .ok (.istore_n 2, 1) := by decide +kernel
theorem dX7_clear_25 : decode cX7_clear 25 = .ok (.aload_n 0, 1) := by decide +kernel
theorem dX7_clear_26 : decode cX7_clear 26 = .ok (.iload_n 1, 1) := by decide +kernel
theorem dX7_clear_27 : decode cX7_clear 27 = .ok (.invokevirtual 46, 3) := by decide +kernel
theorem dX7_clear_30 : decode cX7_clear 30 = .ok (.iload_n 2, 1) := by decide +kernel
theorem dX7_clear_31 : decode cX7_clear 31 = .ok (.ireturn, 1) := by decide +kernel
theorem dX7_many_0 : decode cX7_many 0 = .ok (.aload_n 0, 1) := by decide +kernel
theorem dX7_many_1 : decode cX7_many 1 = .ok (.getfield 32, 3) := by decide +kernel
theorem dX7_many_4 : decode cX7_many 4 = .ok (.sipush 1200, 3) := by decide +kernel
theorem dX7_many_7 : decode cX7_many 7 = .ok (.iload_n 1, 1) := by decide +kernel
theorem dX7_many_8 : decode cX7_many 8 = .ok (.imul, 1) := by decide +kernel
theorem dX7_many_9 : decode cX7_many 9 = .ok (.iaload, 1) := by decide +kernel
theorem dX7_many_10 : decode cX7_many 10 = .ok (.ireturn, 1) := by decide +kernel
theorem dX7_at_0 : decode cX7_at 0 = .ok (.sipush 1200, 3) := by decide +kernel
theorem dX7_at_3 : decode cX7_at 3 = .ok (.iload_n 1, 1) := by decide +kernel
theorem dX7_at_4 : decode cX7_at 4 = .ok (.imul, 1) := by decide +kernel
theorem dX7_at_5 : decode cX7_at 5 = .ok (.bipush 100, 2) := by decide +kernel
theorem dX7_at_7 : decode cX7_at 7 = .ok (.iadd, 1) := by decide +kernel
theorem dX7_at_8 : decode cX7_at 8 = .ok (.iconst 2, 1) := by decide +kernel
theorem dX7_at_9 : decode cX7_at 9 = .ok (.iload_n 2, 1) := by decide +kernel
theorem dX7_at_10 : decode cX7_at 10 = .ok (.imul, 1) := by decide +kernel
theorem dX7_at_11 : decode cX7_at 11 = .ok (.iadd, 1) := by decide +kernel
theorem dX7_at_12 : decode cX7_at 12 = .ok (.ireturn, 1) := by decide +kernel
theorem dX7_counterOf_0 : decode cX7_counterOf 0 = .ok (.iconst 0, 1) := by decide +kernel
theorem dX7_counterOf_1 : decode cX7_counterOf 1 = .ok (.istore_n 3, 1) := by decide +kernel
theorem dX7_counterOf_2 : decode cX7_counterOf 2 = .ok (.iload_n 3, 1) := by decide +kernel
theorem dX7_counterOf_3 : decode cX7_counterOf 3 = .ok (.aload_n 0, 1) := by decide +kernel
theorem dX7_counterOf_4 : decode cX7_counterOf 4 = .ok (.iload_n 1, 1) := by decide +kernel
theorem dX7_counterOf_5 : decode cX7_counterOf 5 = .ok (.invokevirtual 55, 3) := by decide +kernel
theorem dX7_counterOf_8 : decode cX7_counterOf 8 = .ok (.if_icmp .ge 26, 3) := by decide +kernel
