theorem dX3_init_35 : decode cX3_init 35 = .ok (.putfield 21, 3) := by decide +kernel
theorem dX3_init_38 : decode cX3_init 38 = .ok (.return_, 1) := by decide +kernel
theorem dX3_twin_0 : decode cX3_twin 0 = .ok (.new 9, 3) := by decide +kernel
theorem dX3_twin_3 : decode cX3_twin 3 = .ok (.dup, 1) := by decide +kernel
theorem dX3_twin_4 : decode cX3_twin 4 = .ok (.aload_n 0, 1) := by decide +kernel
theorem dX3_twin_5 : decode cX3_twin 5 = .ok (.getfield 25, 3) := by decide +kernel
theorem dX3_twin_8 : decode cX3_twin 8 = .ok (.aload_n 0, 1) := by decide +kernel
theorem dX3_twin_9 : decode cX3_twin 9 = .ok (.getfield 28, 3) := by decide +kernel
theorem dX3_twin_12 : decode cX3_twin 12 = .ok (.invokespecial 31, 3) := by decide +kernel
theorem dX3_twin_15 : decode cX3_twin 15 = .ok (.astore_n 1, 1) := by decide +kernel
theorem dX3_twin_16 : decode cX3_twin 16 = .ok (.aload_n 1, 1) := by decide +kernel
theorem dX3_twin_17 : decode cX3_twin 17 = .ok (.aload_n 0, 1) := by decide +kernel
theorem dX3_twin_18 : decode cX3_twin 18 = .ok (.invokevirtual 34, 3) := by decide +kernel
theorem dX3_twin_21 : decode cX3_twin 21 = .ok (.aload_n 0, 1) := by decide +kernel
theorem dX3_twin_22 : decode cX3_twin 22 = .ok (.getfield 11, 3) := by decide +kernel
theorem dX3_twin_25 : decode cX3_twin 25 = .ok (.aload_n 1, 1) := by decide +kernel
theorem dX3_twin_26 : decode cX3_twin 26 = .ok (.getfield 11, 3) := by decide +kernel
theorem dX3_twin_29 : decode cX3_twin 29 = .ok (.invokestatic 38, 3) := by decide +kernel
theorem dX3_twin_32 : decode cX3_twin 32 = .ok (.aload_n 0, 1) := by decide +kernel
theorem dX3_twin_33 : decode cX3_twin 33 = .ok (.getfield 15, 3) := by decide +kernel
theorem dX3_twin_36 : decode cX3_twin 36 = .ok (.aload_n 1, 1) := by decide +kernel
theorem dX3_twin_37 : decode cX3_twin 37 = .ok (.getfield 15, 3) := by decide +kernel
theorem dX3_twin_40 : decode cX3_twin 40 = .ok (.invokestatic 38, 3) := by decide +kernel
theorem dX3_twin_43 : decode cX3_twin 43 = .ok (.aload_n 0, 1) := by decide +kernel
theorem dX3_twin_44 : decode cX3_twin 44 = .ok (.getfield 18, 3) := by decide +kernel
theorem dX3_twin_47 : decode cX3_twin 47 = .ok (.aload_n 1, 1) := by decide +kernel
theorem dX3_twin_48 : decode cX3_twin 48 = .ok (.getfield 18, 3) := by decide +kernel
theorem dX3_twin_51 : decode cX3_twin 51 = .ok (.invokestatic 38, 3) := by decide +kernel
theorem dX3_twin_54 : decode cX3_twin 54 = .ok (.aload_n 1, 1) := by decide +kernel
theorem dX3_twin_55 : decode cX3_twin 55 = .ok (.aload_n 0, 1) := by decide +kernel
theorem dX3_twin_56 : decode cX3_twin 56 = .ok (.getfield 21, 3) := by decide +kernel
theorem dX3_twin_59 : decode cX3_twin 59 = .ok (.putfield 21, 3) := by decide +kernel
theorem dX3_twin_62 : decode cX3_twin 62 = .ok (.aload_n 1, 1) := by decide +kernel
theorem dX3_twin_63 : decode cX3_twin 63 = .ok (.areturn, 1) := by decide +kernel
theorem dX3_forget_0 : decode cX3_forget 0 = .ok (.aload_n 0, 1) := by decide +kernel
theorem dX3_forget_1 : decode cX3_forget 1 = .ok (.getfield 15, 3) := by decide +kernel
theorem dX3_forget_4 : decode cX3_forget 4 = .ok (.invokestatic 42, 3) := by decide +kernel
theorem dX3_forget_7 : decode cX3_forget 7 = .ok (.aload_n 0, 1) := by decide +kernel
theorem dX3_forget_8 : decode cX3_forget 8 = .ok (.getfield 18, 3) := by decide +kernel
theorem dX3_forget_11 : decode cX3_forget 11 = .ok (.invokestatic 42, 3) := by decide +kernel
theorem dX3_forget_14 : decode cX3_forget 14 = .ok (.aload_n 0, 1) := by decide +kernel
theorem dX3_forget_15 : decode cX3_forget 15 = .ok (.iconst 0, 1) := by decide +kernel
theorem dX3_forget_16 : decode cX3_forget 16 = .ok (.putfield 21, 3) := by decide +kernel
theorem dX3_forget_19 : decode cX3_forget 19 = .ok (.return_, 1) := by decide +kernel
theorem dX3_mayTake_0 : decode cX3_mayTake 0 = .ok (.iload_n 1, 1) := by decide +kernel
theorem dX3_mayTake_1 : decode cX3_mayTake 1 = .ok (.iconst 1, 1) := by decide +kernel
theorem dX3_mayTake_2 : decode cX3_mayTake 2 = .ok (.if_icmp .lt 13, 3) := by decide +kernel
theorem dX3_mayTake_5 : decode cX3_mayTake 5 = .ok (.iload_n 1, 1) := by decide +kernel
theorem dX3_mayTake_6 : decode cX3_mayTake 6 = .ok (.bipush 100, 2) := by decide +kernel
theorem dX3_mayTake_8 : decode cX3_mayTake 8 = .ok (.if_icmp .gt 7, 3) := by decide +kernel
theorem dX3_mayTake_11 : decode cX3_mayTake 11 = .ok (.iconst 1, 1) := by decide +kernel
theorem dX3_mayTake_12 : decode cX3_mayTake 12 = .ok (.goto 4, 3) := by decide +kernel
theorem dX3_mayTake_15 : decode cX3_mayTake 15 = .ok (.iconst 0, 1) := by decide +kernel
theorem dX3_mayTake_16 : decode cX3_mayTake 16 = .ok (.ireturn, 1) := by decide +kernel
theorem dX3_take_0 : decode cX3_take 0 = .ok (.iconst 0, 1) := by decide +kernel
theorem dX3_take_1 : decode cX3_take 1 = .ok (.istore_n 3, 1) := by decide +kernel
theorem dX3_take_2 : decode cX3_take 2 = .ok (.iload_n 3, 1) := by decide +kernel
theorem dX3_take_3 : decode cX3_take 3 = .ok (.iload_n 2, 1) := by decide +kernel
theorem dX3_take_4 : decode cX3_take 4 = .ok (.if_icmp .ge 15, 3) := by decide +kernel
theorem dX3_take_7 : decode cX3_take 7 = .ok (.aload_n 0, 1) := by decide +kernel
theorem dX3_take_8 : decode cX3_take 8 = .ok (.iconst 0, 1) := by decide +kernel
theorem dX3_take_9 : decode cX3_take 9 = .ok (.iload_n 1, 1) := by decide +kernel
theorem dX3_take_10 : decode cX3_take 10 = .ok (.invokevirtual 46, 3) := by decide +kernel
theorem dX3_take_13 : decode cX3_take 13 = .ok (.iinc 3 1, 3) := by decide +kernel
theorem dX3_take_16 : decode cX3_take 16 = .ok (.goto (-14), 3) := by decide +kernel
theorem dX3_take_19 : decode cX3_take 19 = .ok (.return_, 1) := by decide +kernel
theorem dX3_join_0 : decode cX3_join 0 = .ok (.aload_n 1, 1) := by decide +kernel
theorem dX3_join_1 : decode cX3_join 1 = .ok (.instanceof 9, 3) := by decide +kernel
theorem dX3_join_4 : decode cX3_join 4 = .ok (.ifCond .eq 76, 3) := by decide +kernel
theorem dX3_join_7 : decode cX3_join 7 = .ok (.aload_n 1, 1) := by decide +kernel
theorem dX3_join_8 : decode cX3_join 8 = .ok (.checkcast 9, 3) := by decide +kernel
theorem dX3_join_11 : decode cX3_join 11 = .ok (.astore_n 2, 1) := by decide +kernel
theorem dX3_join_12 : decode cX3_join 12 = .ok (.iconst 0, 1) := by decide +kernel
theorem dX3_join_13 : decode cX3_join 13 = .ok (.istore_n 3, 1) := by decide +kernel
theorem dX3_join_14 : decode cX3_join 14 = .ok (.iload_n 3, 1) := by decide +kernel
theorem dX3_join_15 : decode cX3_join 15 = .ok (.bipush 31, 2) := by decide +kernel
theorem dX3_join_17 : decode cX3_join 17 = .ok (.if_icmp .ge 50, 3) := by decide +kernel
theorem dX3_join_20 : decode cX3_join 20 = .ok (.iconst 0, 1) := by decide +kernel
theorem dX3_join_21 : decode cX3_join 21 = .ok (.istore 4, 2) := by decide +kernel
theorem dX3_join_23 : decode cX3_join 23 = .ok (.iload 4, 2) := by decide +kernel
theorem dX3_join_25 : decode cX3_join 25 = .ok (.aload_n 2, 1) := by decide +kernel
theorem dX3_join_26 : decode cX3_join 26 = .ok (.getfield 15, 3) := by decide +kernel
theorem dX3_join_29 : decode cX3_join 29 = .ok (.iload_n 3, 1) := by decide +kernel
theorem dX3_join_30 : decode cX3_join 30 = .ok (.iaload, 1) := by decide +kernel
theorem dX3_join_31 : decode cX3_join 31 = .ok (.if_icmp .ge 30, 3) := by decide +kernel
theorem dX3_join_34 : decode cX3_join 34 = .ok (.iload 4, 2) := by decide +kernel
theorem dX3_join_36 : decode cX3_join 36 = .ok (.aload_n 0, 1) := by decide +kernel
theorem dX3_join_37 : decode cX3_join 37 = .ok (.getfield 25, 3) := by decide +kernel
theorem dX3_join_40 : decode cX3_join 40 = .ok (.if_icmp .ge 21, 3) := by decide +kernel
theorem dX3_join_43 : decode cX3_join 43 = .ok (.aload_n 0, 1) := by decide +kernel
theorem dX3_join_44 : decode cX3_join 44 = .ok (.iload_n 3, 1) := by decide +kernel
theorem dX3_join_45 : decode cX3_join 45 = .ok (.aload_n 2, 1) := by decide +kernel
theorem dX3_join_46 : decode cX3_join 46 = .ok (.iload_n 3, 1) := by decide +kernel
theorem dX3_join_47 : decode cX3_join 47 = .ok (.iload 4, 2) := by decide +kernel
theorem dX3_join_49 : decode cX3_join 49 = .ok (.invokevirtual 49, 3) := by decide +kernel
theorem dX3_join_52 : decode cX3_join 52 = .ok (.invokevirtual 46, 3) := by decide +kernel
theorem dX3_join_55 : decode cX3_join 55 = .ok (.iinc 4 1, 3) := by decide +kernel
theorem dX3_join_58 : decode cX3_join 58 = .ok (.goto (-35), 3) := by decide +kernel
theorem dX3_join_61 : decode cX3_join 61 = .ok (.iinc 3 1, 3) := by decide +kernel
theorem dX3_join_64 : decode cX3_join 64 = .ok (.goto (-50), 3) := by decide +kernel
theorem dX3_join_67 : decode cX3_join 67 = .ok (.aload_n 0, 1) := by decide +kernel
theorem dX3_join_68 : decode cX3_join 68 = .ok (.dup, 1) := by decide +kernel
theorem dX3_join_69 : decode cX3_join 69 = .ok (.getfield 21, 3) := by decide +kernel
theorem dX3_join_72 : decode cX3_join 72 = .ok (.aload_n 2, 1) := by decide +kernel
theorem dX3_join_73 : decode cX3_join 73 = .ok (.getfield 21, 3) := by decide +kernel
theorem dX3_join_76 : decode cX3_join 76 = .ok (.iadd, 1) := by decide +kernel
theorem dX3_join_77 : decode cX3_join 77 = .ok (.putfield 21, 3) := by decide +kernel
theorem dX3_join_80 : decode cX3_join 80 = .ok (.return_, 1) := by decide +kernel
theorem dX3_howManyKept_0 : decode cX3_howManyKept 0 = .ok (.iconst 0, 1) := by decide +kernel
theorem dX3_howManyKept_1 : decode cX3_howManyKept 1 = .ok (.istore_n 1, 1) := by decide +kernel
theorem dX3_howManyKept_2 : decode cX3_howManyKept 2 = .ok (.iconst 0, 1) := by decide +kernel
theorem dX3_howManyKept_3 : decode cX3_howManyKept 3 = .ok (.istore_n 2, 1) := by decide +kernel
theorem dX3_howManyKept_4 : decode cX3_howManyKept 4 = .ok (.iload_n 2, 1) := by decide +kernel
theorem dX3_howManyKept_5 : decode cX3_howManyKept 5 = .ok (.bipush 31, 2) := by decide +kernel
theorem dX3_howManyKept_7 : decode cX3_howManyKept 7 = .ok (.if_icmp .ge 18, 3) := by decide +kernel
theorem dX3_howManyKept_10 : decode cX3_howManyKept 10 = .ok (.iload_n 1, 1) := by decide +kernel
theorem dX3_howManyKept_11 : decode cX3_howManyKept 11 = .ok (.aload_n 0, 1) := by decide +kernel
theorem dX3_howManyKept_12 : decode cX3_howManyKept 12 = .ok (.getfield 15, 3) := by decide +kernel
theorem dX3_howManyKept_15 : decode cX3_howManyKept 15 = .ok (.iload_n 2, 1) := by decide +kernel
theorem dX3_howManyKept_16 : decode cX3_howManyKept 16 = .ok (.iaload, 1) := by decide +kernel
theorem dX3_howManyKept_17 : decode cX3_howManyKept 17 = .ok (.iadd, 1) := by decide +kernel
theorem dX3_howManyKept_18 : decode cX3_howManyKept 18 = .ok (.istore_n 1, 1) := by decide +kernel
theorem dX3_howManyKept_19 : decode cX3_howManyKept 19 = .ok (.iinc 2 1, 3) := by decide +kernel
theorem dX3_howManyKept_22 : decode cX3_howManyKept 22 = .ok (.goto (-18), 3) := by decide +kernel
theorem dX3_howManyKept_25 : decode cX3_howManyKept 25 = .ok (.iload_n 1, 1) := by decide +kernel
theorem dX3_howManyKept_26 : decode cX3_howManyKept 26 = .ok (.ireturn, 1) := by decide +kernel
theorem dX3_keptAt_0 : decode cX3_keptAt 0 = .ok (.iload_n 2, 1) := by decide +kernel
theorem dX3_keptAt_1 : decode cX3_keptAt 1 = .ok (.ifCond .lt 24, 3) := by decide +kernel
theorem dX3_keptAt_4 : decode cX3_keptAt 4 = .ok (.iload_n 2, 1) := by decide +kernel
theorem dX3_keptAt_5 : decode cX3_keptAt 5 = .ok (.bipush 31, 2) := by decide +kernel
theorem dX3_keptAt_7 : decode cX3_keptAt 7 = .ok (.if_icmp .ge 18, 3) := by decide +kernel
theorem dX3_keptAt_10 : decode cX3_keptAt 10 = .ok (.iload_n 1, 1) := by decide +kernel
theorem dX3_keptAt_11 : decode cX3_keptAt 11 = .ok (.iconst (-1), 1) := by decide +kernel
theorem dX3_keptAt_12 : decode cX3_keptAt 12 = .ok (.if_icmp .lt 13, 3) := by decide +kernel
theorem dX3_keptAt_15 : decode cX3_keptAt 15 = .ok (.iload_n 1, 1) := by decide +kernel
theorem dX3_keptAt_16 : decode cX3_keptAt 16 = .ok (.aload_n 0, 1) := by decide +kernel
theorem dX3_keptAt_17 : decode cX3_keptAt 17 = .ok (.getfield 15, 3) := by decide +kernel
theorem dX3_keptAt_20 : decode cX3_keptAt 20 = .ok (.iload_n 2, 1) := by decide +kernel
theorem dX3_keptAt_21 : decode cX3_keptAt 21 = .ok (.iaload, 1) := by decide +kernel
theorem dX3_keptAt_22 : decode cX3_keptAt 22 = .ok (.if_icmp .lt 5, 3) := by decide +kernel
theorem dX3_keptAt_25 : decode cX3_keptAt 25 = .ok (.iconst (-1), 1) := by decide +kernel
theorem dX3_keptAt_26 : decode cX3_keptAt 26 = .ok (.ireturn, 1) := by decide +kernel
theorem dX3_keptAt_27 : decode cX3_keptAt 27 = .ok (.iload_n 1, 1) := by decide +kernel
theorem dX3_keptAt_28 : decode cX3_keptAt 28 = .ok (.iconst (-1), 1) := by decide +kernel
theorem dX3_keptAt_29 : decode cX3_keptAt 29 = .ok (.if_icmp .ne 12, 3) := by decide +kernel
theorem dX3_keptAt_32 : decode cX3_keptAt 32 = .ok (.aload_n 0, 1) := by decide +kernel
theorem dX3_keptAt_33 : decode cX3_keptAt 33 = .ok (.getfield 15, 3) := by decide +kernel
theorem dX3_keptAt_36 : decode cX3_keptAt 36 = .ok (.iload_n 2, 1) := by decide +kernel
theorem dX3_keptAt_37 : decode cX3_keptAt 37 = .ok (.iaload, 1) := by decide +kernel
theorem dX3_keptAt_38 : decode cX3_keptAt 38 = .ok (.goto 9, 3) := by decide +kernel
theorem dX3_keptAt_41 : decode cX3_keptAt 41 = .ok (.aload_n 0, 1) := by decide +kernel
theorem dX3_keptAt_42 : decode cX3_keptAt 42 = .ok (.iload_n 2, 1) := by decide +kernel
theorem dX3_keptAt_43 : decode cX3_keptAt 43 = .ok (.iload_n 1, 1) := by decide +kernel
theorem dX3_keptAt_44 : decode cX3_keptAt 44 = .ok (.invokevirtual 49, 3) := by decide +kernel
theorem dX3_keptAt_47 : decode cX3_keptAt 47 = .ok (.ireturn, 1) := by decide +kernel
theorem dX3_mayLack_0 : decode cX3_mayLack 0 = .ok (.aload_n 0, 1) := by decide +kernel
theorem dX3_mayLack_1 : decode cX3_mayLack 1 = .ok (.getfield 21, 3) := by decide +kernel
theorem dX3_mayLack_4 : decode cX3_mayLack 4 = .ok (.ireturn, 1) := by decide +kernel
theorem dX3_atLeast_0 : decode cX3_atLeast 0 = .ok (.iconst 0, 1) := by decide +kernel
theorem dX3_atLeast_1 : decode cX3_atLeast 1 = .ok (.aload_n 0, 1) := by decide +kernel
theorem dX3_atLeast_2 : decode cX3_atLeast 2 = .ok (.iload_n 1, 1) := by decide +kernel
theorem dX3_atLeast_3 : decode cX3_atLeast 3 = .ok (.invokevirtual 53, 3) := by decide +kernel
theorem dX3_atLeast_6 : decode cX3_atLeast 6 = .ok (.aload_n 0, 1) := by decide +kernel
theorem dX3_atLeast_7 : decode cX3_atLeast 7 = .ok (.getfield 21, 3) := by decide +kernel
theorem dX3_atLeast_10 : decode cX3_atLeast 10 = .ok (.isub, 1) := by decide +kernel
theorem dX3_atLeast_11 : decode cX3_atLeast 11 = .ok (.invokestatic 57, 3) := by decide +kernel
theorem dX3_atLeast_14 : decode cX3_atLeast 14 = .ok (.ireturn, 1) := by decide +kernel
theorem dX3_atMost_0 : decode cX3_atMost 0 = .ok (.aload_n 0, 1) := by decide +kernel
theorem dX3_atMost_1 : decode cX3_atMost 1 = .ok (.getfield 62, 3) := by decide +kernel
theorem dX3_atMost_4 : decode cX3_atMost 4 = .ok (.aload_n 0, 1) := by decide +kernel
theorem dX3_atMost_5 : decode cX3_atMost 5 = .ok (.iload_n 1, 1) := by decide +kernel
theorem dX3_atMost_6 : decode cX3_atMost 6 = .ok (.invokevirtual 53, 3) := by decide +kernel
theorem dX3_atMost_9 : decode cX3_atMost 9 = .ok (.aload_n 0, 1) := by decide +kernel
theorem dX3_atMost_10 : decode cX3_atMost 10 = .ok (.getfield 21, 3) := by decide +kernel
theorem dX3_atMost_13 : decode cX3_atMost 13 = .ok (.iadd, 1) := by decide +kernel
theorem dX3_atMost_14 : decode cX3_atMost 14 = .ok (.invokestatic 65, 3) := by decide +kernel
theorem dX3_atMost_17 : decode cX3_atMost 17 = .ok (.ireturn, 1) := by decide +kernel
theorem dX3_keyAtRank_0 : decode cX3_keyAtRank 0 = .ok (.iload_n 1, 1) := by decide +kernel
theorem dX3_keyAtRank_1 : decode cX3_keyAtRank 1 = .ok (.iconst 1, 1) := by decide +kernel
theorem dX3_keyAtRank_2 : decode cX3_keyAtRank 2 = .ok (.if_icmp .lt 11, 3) := by decide +kernel
theorem dX3_keyAtRank_5 : decode cX3_keyAtRank 5 = .ok (.iload_n 1, 1) := by decide +kernel
theorem dX3_keyAtRank_6 : decode cX3_keyAtRank 6 = .ok (.aload_n 0, 1) := by decide +kernel
theorem dX3_keyAtRank_7 : decode cX3_keyAtRank 7 = .ok (.getfield 62, 3) := by decide +kernel
theorem dX3_keyAtRank_10 : decode cX3_keyAtRank 10 = .ok (.if_icmp .le 5, 3) := by decide +kernel
theorem dX3_keyAtRank_13 : decode cX3_keyAtRank 13 = .ok (.iconst (-1), 1) := by decide +kernel
theorem dX3_keyAtRank_14 : decode cX3_keyAtRank 14 = .ok (.ireturn, 1) := by decide +kernel
theorem dX3_keyAtRank_15 : decode cX3_keyAtRank 15 = .ok (.iconst 0, 1) := by decide +kernel
theorem dX3_keyAtRank_16 : decode cX3_keyAtRank 16 = .ok (.istore_n 2, 1) := by decide +kernel
theorem dX3_keyAtRank_17 : decode cX3_keyAtRank 17 = .ok (.sipush 9999, 3) := by decide +kernel
theorem dX3_keyAtRank_20 : decode cX3_keyAtRank 20 = .ok (.istore_n 3, 1) := by decide +kernel
theorem dX3_keyAtRank_21 : decode cX3_keyAtRank 21 = .ok (.iconst 0, 1) := by decide +kernel
theorem dX3_keyAtRank_22 : decode cX3_keyAtRank 22 = .ok (.istore 4, 2) := by decide +kernel
theorem dX3_keyAtRank_24 : decode cX3_keyAtRank 24 = .ok (.iload 4, 2) := by decide +kernel
theorem dX3_keyAtRank_26 : decode cX3_keyAtRank 26 = .ok (.bipush 14, 2) := by decide +kernel
theorem dX3_keyAtRank_28 : decode cX3_keyAtRank 28 = .ok (.if_icmp .ge 42, 3) := by decide +kernel
theorem dX3_keyAtRank_31 : decode cX3_keyAtRank 31 = .ok (.iload_n 2, 1) := by decide +kernel
theorem dX3_keyAtRank_32 : decode cX3_keyAtRank 32 = .ok (.iload_n 3, 1) := by decide +kernel
theorem dX3_keyAtRank_33 : decode cX3_keyAtRank 33 = .ok (.if_icmp .ge 37, 3) := by decide +kernel
theorem dX3_keyAtRank_36 : decode cX3_keyAtRank 36 = .ok (.iload_n 2, 1) := by decide +kernel
theorem dX3_keyAtRank_37 : decode cX3_keyAtRank 37 = .ok (.iload_n 3, 1) := by decide +kernel
theorem dX3_keyAtRank_38 : decode cX3_keyAtRank 38 = .ok (.iadd, 1) := by decide +kernel
theorem dX3_keyAtRank_39 : decode cX3_keyAtRank 39 = .ok (.iconst 2, 1) := by decide +kernel
theorem dX3_keyAtRank_40 : decode cX3_keyAtRank 40 = .ok (.idiv, 1) := by decide +kernel
theorem dX3_keyAtRank_41 : decode cX3_keyAtRank 41 = .ok (.istore 5, 2) := by decide +kernel
theorem dX3_keyAtRank_43 : decode cX3_keyAtRank 43 = .ok (.aload_n 0, 1) := by decide +kernel
theorem dX3_keyAtRank_44 : decode cX3_keyAtRank 44 = .ok (.iload 5, 2) := by decide +kernel
theorem dX3_keyAtRank_46 : decode cX3_keyAtRank 46 = .ok (.invokevirtual 53, 3) := by decide +kernel
theorem dX3_keyAtRank_49 : decode cX3_keyAtRank 49 = .ok (.iload_n 1, 1) := by decide +kernel
theorem dX3_keyAtRank_50 : decode cX3_keyAtRank 50 = .ok (.if_icmp .lt 9, 3) := by decide +kernel
theorem dX3_keyAtRank_53 : decode cX3_keyAtRank 53 = .ok (.iload 5, 2) := by decide +kernel
theorem dX3_keyAtRank_55 : decode cX3_keyAtRank 55 = .ok (.istore_n 3, 1) := by decide +kernel
theorem dX3_keyAtRank_56 : decode cX3_keyAtRank 56 = .ok (.goto 8, 3) := by decide +kernel
theorem dX3_keyAtRank_59 : decode cX3_keyAtRank 59 = .ok (.iload 5, 2) := by decide +kernel
theorem dX3_keyAtRank_61 : decode cX3_keyAtRank 61 = .ok (.iconst 1, 1) := by decide +kernel
theorem dX3_keyAtRank_62 : decode cX3_keyAtRank 62 = .ok (.iadd, 1) := by decide +kernel
theorem dX3_keyAtRank_63 : decode cX3_keyAtRank 63 = .ok (.istore_n 2, 1) := by decide +kernel
theorem dX3_keyAtRank_64 : decode cX3_keyAtRank 64 = .ok (.iinc 4 1, 3) := by decide +kernel
theorem dX3_keyAtRank_67 : decode cX3_keyAtRank 67 = .ok (.goto (-43), 3) := by decide +kernel
theorem dX3_keyAtRank_70 : decode cX3_keyAtRank 70 = .ok (.iload_n 2, 1) := by decide +kernel
theorem dX3_keyAtRank_71 : decode cX3_keyAtRank 71 = .ok (.ireturn, 1) := by decide +kernel
theorem dX3_keyAt_0 : decode cX3_keyAt 0 = .ok (.iload_n 1, 1) := by decide +kernel
theorem dX3_keyAt_1 : decode cX3_keyAt 1 = .ok (.aload_n 0, 1) := by decide +kernel
theorem dX3_keyAt_2 : decode cX3_keyAt 2 = .ok (.getfield 25, 3) := by decide +kernel
theorem dX3_keyAt_5 : decode cX3_keyAt 5 = .ok (.imul, 1) := by decide +kernel
theorem dX3_keyAt_6 : decode cX3_keyAt 6 = .ok (.iload_n 2, 1) := by decide +kernel
theorem dX3_keyAt_7 : decode cX3_keyAt 7 = .ok (.iadd, 1) := by decide +kernel
theorem dX3_keyAt_8 : decode cX3_keyAt 8 = .ok (.istore_n 3, 1) := by decide +kernel
theorem dX3_keyAt_9 : decode cX3_keyAt 9 = .ok (.iload_n 3, 1) := by decide +kernel
theorem dX3_keyAt_10 : decode cX3_keyAt 10 = .ok (.ifCond .lt 12, 3) := by decide +kernel
theorem dX3_keyAt_13 : decode cX3_keyAt 13 = .ok (.iload_n 3, 1) := by decide +kernel
theorem dX3_keyAt_14 : decode cX3_keyAt 14 = .ok (.aload_n 0, 1) := by decide +kernel
theorem dX3_keyAt_15 : decode cX3_keyAt 15 = .ok (.getfield 11, 3) := by decide +kernel
theorem dX3_keyAt_18 : decode cX3_keyAt 18 = .ok (.arraylength, 1) := by decide +kernel
theorem dX3_keyAt_19 : decode cX3_keyAt 19 = .ok (.if_icmp .lt 7, 3) := by decide +kernel
theorem dX3_keyAt_22 : decode cX3_keyAt 22 = .ok (.iconst 0, 1) := by decide +kernel
theorem dX3_keyAt_23 : decode cX3_keyAt 23 = .ok (.goto 9, 3) := by decide +kernel
theorem dX3_keyAt_26 : decode cX3_keyAt 26 = .ok (.aload_n 0, 1) := by decide +kernel
theorem dX3_keyAt_27 : decode cX3_keyAt 27 = .ok (.getfield 11, 3) := by decide +kernel
theorem dX3_keyAt_30 : decode cX3_keyAt 30 = .ok (.iload_n 3, 1) := by decide +kernel
theorem dX3_keyAt_31 : decode cX3_keyAt 31 = .ok (.iaload, 1) := by decide +kernel
theorem dX3_keyAt_32 : decode cX3_keyAt 32 = .ok (.ireturn, 1) := by decide +kernel
theorem dX3_weightUpTo_0 : decode cX3_weightUpTo 0 = .ok (.iconst 0, 1) := by decide +kernel
theorem dX3_weightUpTo_1 : decode cX3_weightUpTo 1 = .ok (.istore_n 2, 1) := by decide +kernel
theorem dX3_weightUpTo_2 : decode cX3_weightUpTo 2 = .ok (.iconst 0, 1) := by decide +kernel
theorem dX3_weightUpTo_3 : decode cX3_weightUpTo 3 = .ok (.istore_n 3, 1) := by decide +kernel
theorem dX3_weightUpTo_4 : decode cX3_weightUpTo 4 = .ok (.iload_n 3, 1) := by decide +kernel
theorem dX3_weightUpTo_5 : decode cX3_weightUpTo 5 = .ok (.bipush 31, 2) := by decide +kernel
theorem dX3_weightUpTo_7 : decode cX3_weightUpTo 7 = .ok (.if_icmp .ge 46, 3) := by decide +kernel
theorem dX3_weightUpTo_10 : decode cX3_weightUpTo 10 = .ok (.iconst 0, 1) := by decide +kernel
theorem dX3_weightUpTo_11 : decode cX3_weightUpTo 11 = .ok (.istore 4, 2) := by decide +kernel
theorem dX3_weightUpTo_13 : decode cX3_weightUpTo 13 = .ok (.iload 4, 2) := by decide +kernel
theorem dX3_weightUpTo_15 : decode cX3_weightUpTo 15 = .ok (.aload_n 0, 1) := by decide +kernel
theorem dX3_weightUpTo_16 : decode cX3_weightUpTo 16 = .ok (.getfield 15, 3) := by decide +kernel
theorem dX3_weightUpTo_19 : decode cX3_weightUpTo 19 = .ok (.iload_n 3, 1) := by decide +kernel
theorem dX3_weightUpTo_20 : decode cX3_weightUpTo 20 = .ok (.iaload, 1) := by decide +kernel
theorem dX3_weightUpTo_21 : decode cX3_weightUpTo 21 = .ok (.if_icmp .ge 26, 3) := by decide +kernel
theorem dX3_weightUpTo_24 : decode cX3_weightUpTo 24 = .ok (.aload_n 0, 1) := by decide +kernel
theorem dX3_weightUpTo_25 : decode cX3_weightUpTo 25 = .ok (.iload_n 3, 1) := by decide +kernel
theorem dX3_weightUpTo_26 : decode cX3_weightUpTo 26 = .ok (.iload 4, 2) := by decide +kernel
theorem dX3_weightUpTo_28 : decode cX3_weightUpTo 28 = .ok (.invokevirtual 49, 3) := by decide +kernel
theorem dX3_weightUpTo_31 : decode cX3_weightUpTo 31 = .ok (.iload_n 1, 1) := by decide +kernel
theorem dX3_weightUpTo_32 : decode cX3_weightUpTo 32 = .ok (.if_icmp .gt 9, 3) := by decide +kernel
theorem dX3_weightUpTo_35 : decode cX3_weightUpTo 35 = .ok (.iload_n 2, 1) := by decide +kernel
theorem dX3_weightUpTo_36 : decode cX3_weightUpTo 36 = .ok (.iconst 1, 1) := by decide +kernel
theorem dX3_weightUpTo_37 : decode cX3_weightUpTo 37 = .ok (.iload_n 3, 1) := by decide +kernel
theorem dX3_weightUpTo_38 : decode cX3_weightUpTo 38 = .ok (.ishl, 1) := by decide +kernel
theorem dX3_weightUpTo_39 : decode cX3_weightUpTo 39 = .ok (.iadd, 1) := by decide +kernel
theorem dX3_weightUpTo_40 : decode cX3_weightUpTo 40 = .ok (.istore_n 2, 1) := by decide +kernel
theorem dX3_weightUpTo_41 : decode cX3_weightUpTo 41 = .ok (.iinc 4 1, 3) := by decide +kernel
theorem dX3_weightUpTo_44 : decode cX3_weightUpTo 44 = .ok (.goto (-31), 3) := by decide +kernel
theorem dX3_weightUpTo_47 : decode cX3_weightUpTo 47 = .ok (.iinc 3 1, 3) := by decide +kernel
theorem dX3_weightUpTo_50 : decode cX3_weightUpTo 50 = .ok (.goto (-46), 3) := by decide +kernel
theorem dX3_weightUpTo_53 : decode cX3_weightUpTo 53 = .ok (.iload_n 2, 1) := by decide +kernel
theorem dX3_weightUpTo_54 : decode cX3_weightUpTo 54 = .ok (.ireturn, 1) := by decide +kernel
theorem dX3_push_0 : decode cX3_push 0 = .ok (.iload_n 1, 1) := by decide +kernel
theorem dX3_push_1 : decode cX3_push 1 = .ok (.ifCond .lt 22, 3) := by decide +kernel
theorem dX3_push_4 : decode cX3_push 4 = .ok (.iload_n 1, 1) := by decide +kernel
theorem dX3_push_5 : decode cX3_push 5 = .ok (.bipush 31, 2) := by decide +kernel
theorem dX3_push_7 : decode cX3_push 7 = .ok (.if_icmp .ge 16, 3) := by decide +kernel
theorem dX3_push_10 : decode cX3_push 10 = .ok (.aload_n 0, 1) := by decide +kernel
theorem dX3_push_11 : decode cX3_push 11 = .ok (.getfield 15, 3) := by decide +kernel
theorem dX3_push_14 : decode cX3_push 14 = .ok (.iload_n 1, 1) := by decide +kernel
theorem dX3_push_15 : decode cX3_push 15 = .ok (.iaload, 1) := by decide +kernel
theorem dX3_push_16 : decode cX3_push 16 = .ok (.aload_n 0, 1) := by decide +kernel
theorem dX3_push_17 : decode cX3_push 17 = .ok (.getfield 25, 3) := by decide +kernel
theorem dX3_push_20 : decode cX3_push 20 = .ok (.if_icmp .lt 4, 3) := by decide +kernel
theorem dX3_push_23 : decode cX3_push 23 = .ok (.return_, 1) := by decide +kernel
theorem dX3_push_24 : decode cX3_push 24 = .ok (.aload_n 0, 1) := by decide +kernel
theorem dX3_push_25 : decode cX3_push 25 = .ok (.getfield 11, 3) := by decide +kernel
theorem dX3_push_28 : decode cX3_push 28 = .ok (.iload_n 1, 1) := by decide +kernel
theorem dX3_push_29 : decode cX3_push 29 = .ok (.aload_n 0, 1) := by decide +kernel
theorem dX3_push_30 : decode cX3_push 30 = .ok (.getfield 25, 3) := by decide +kernel
theorem dX3_push_33 : decode cX3_push 33 = .ok (.imul, 1) := by decide +kernel
theorem dX3_push_34 : decode cX3_push 34 = .ok (.aload_n 0, 1) := by decide +kernel
theorem dX3_push_35 : decode cX3_push 35 = .ok (.getfield 15, 3) := by decide +kernel
theorem dX3_push_38 : decode cX3_push 38 = .ok (.iload_n 1, 1) := by decide +kernel
theorem dX3_push_39 : decode cX3_push 39 = .ok (.iaload, 1) := by decide +kernel
theorem dX3_push_40 : decode cX3_push 40 = .ok (.iadd, 1) := by decide +kernel
theorem dX3_push_41 : decode cX3_push 41 = .ok (.iload_n 2, 1) := by decide +kernel
theorem dX3_push_42 : decode cX3_push 42 = .ok (.iastore, 1) := by decide +kernel
theorem dX3_push_43 : decode cX3_push 43 = .ok (.aload_n 0, 1) := by decide +kernel
theorem dX3_push_44 : decode cX3_push 44 = .ok (.getfield 15, 3) := by decide +kernel
theorem dX3_push_47 : decode cX3_push 47 = .ok (.iload_n 1, 1) := by decide +kernel
theorem dX3_push_48 : decode cX3_push 48 = .ok (.dup2, 1) := by decide +kernel
theorem dX3_push_49 : decode cX3_push 49 = .ok (.iaload, 1) := by decide +kernel
theorem dX3_push_50 : decode cX3_push 50 = .ok (.iconst 1, 1) := by decide +kernel
theorem dX3_push_51 : decode cX3_push 51 = .ok (.iadd, 1) := by decide +kernel
theorem dX3_push_52 : decode cX3_push 52 = .ok (.iastore, 1) := by decide +kernel
theorem dX3_push_53 : decode cX3_push 53 = .ok (.aload_n 0, 1) := by decide +kernel
theorem dX3_push_54 : decode cX3_push 54 = .ok (.getfield 15, 3) := by decide +kernel
theorem dX3_push_57 : decode cX3_push 57 = .ok (.iload_n 1, 1) := by decide +kernel
theorem dX3_push_58 : decode cX3_push 58 = .ok (.iaload, 1) := by decide +kernel
theorem dX3_push_59 : decode cX3_push 59 = .ok (.aload_n 0, 1) := by decide +kernel
theorem dX3_push_60 : decode cX3_push 60 = .ok (.getfield 25, 3) := by decide +kernel
theorem dX3_push_63 : decode cX3_push 63 = .ok (.if_icmp .lt 8, 3) := by decide +kernel
theorem dX3_push_66 : decode cX3_push 66 = .ok (.aload_n 0, 1) := by decide +kernel
theorem dX3_push_67 : decode cX3_push 67 = .ok (.iload_n 1, 1) := by decide +kernel
theorem dX3_push_68 : decode cX3_push 68 = .ok (.invokevirtual 68, 3) := by decide +kernel
theorem dX3_push_71 : decode cX3_push 71 = .ok (.return_, 1) := by decide +kernel
theorem dX3_collapse_0 : decode cX3_collapse 0 = .ok (.aload_n 0, 1) := by decide +kernel
theorem dX3_collapse_1 : decode cX3_collapse 1 = .ok (.iload_n 1, 1) := by decide +kernel
theorem dX3_collapse_2 : decode cX3_collapse 2 = .ok (.invokevirtual 72, 3) := by decide +kernel
theorem dX3_collapse_5 : decode cX3_collapse 5 = .ok (.aload_n 0, 1) := by decide +kernel
theorem dX3_collapse_6 : decode cX3_collapse 6 = .ok (.getfield 18, 3) := by decide +kernel
theorem dX3_collapse_9 : decode cX3_collapse 9 = .ok (.iload_n 1, 1) := by decide +kernel
theorem dX3_collapse_10 : decode cX3_collapse 10 = .ok (.iaload, 1) := by decide +kernel
theorem dX3_collapse_11 : decode cX3_collapse 11 = .ok (.istore_n 2, 1) := by decide +kernel
theorem dX3_collapse_12 : decode cX3_collapse 12 = .ok (.aload_n 0, 1) := by decide +kernel
theorem dX3_collapse_13 : decode cX3_collapse 13 = .ok (.getfield 18, 3) := by decide +kernel
theorem dX3_collapse_16 : decode cX3_collapse 16 = .ok (.iload_n 1, 1) := by decide +kernel
theorem dX3_collapse_17 : decode cX3_collapse 17 = .ok (.iconst 1, 1) := by decide +kernel
theorem dX3_collapse_18 : decode cX3_collapse 18 = .ok (.iload_n 2, 1) := by decide +kernel
theorem dX3_collapse_19 : decode cX3_collapse 19 = .ok (.isub, 1) := by decide +kernel
theorem dX3_collapse_20 : decode cX3_collapse 20 = .ok (.iastore, 1) := by decide +kernel
theorem dX3_collapse_21 : decode cX3_collapse 21 = .ok (.aload_n 0, 1) := by decide +kernel
theorem dX3_collapse_22 : decode cX3_collapse 22 = .ok (.dup, 1) := by decide +kernel
theorem dX3_collapse_23 : decode cX3_collapse 23 = .ok (.getfield 21, 3) := by decide +kernel
theorem dX3_collapse_26 : decode cX3_collapse 26 = .ok (.iconst 1, 1) := by decide +kernel
theorem dX3_collapse_27 : decode cX3_collapse 27 = .ok (.iload_n 1, 1) := by decide +kernel
theorem dX3_collapse_28 : decode cX3_collapse 28 = .ok (.ishl, 1) := by decide +kernel
theorem dX3_collapse_29 : decode cX3_collapse 29 = .ok (.iadd, 1) := by decide +kernel
theorem dX3_collapse_30 : decode cX3_collapse 30 = .ok (.putfield 21, 3) := by decide +kernel
theorem dX3_collapse_33 : decode cX3_collapse 33 = .ok (.aload_n 0, 1) := by decide +kernel
theorem dX3_collapse_34 : decode cX3_collapse 34 = .ok (.getfield 15, 3) := by decide +kernel
theorem dX3_collapse_37 : decode cX3_collapse 37 = .ok (.iload_n 1, 1) := by decide +kernel
theorem dX3_collapse_38 : decode cX3_collapse 38 = .ok (.iconst 0, 1) := by decide +kernel
theorem dX3_collapse_39 : decode cX3_collapse 39 = .ok (.iastore, 1) := by decide +kernel
theorem dX3_collapse_40 : decode cX3_collapse 40 = .ok (.iload_n 2, 1) := by decide +kernel
theorem dX3_collapse_41 : decode cX3_collapse 41 = .ok (.istore_n 3, 1) := by decide +kernel
theorem dX3_collapse_42 : decode cX3_collapse 42 = .ok (.iload_n 3, 1) := by decide +kernel
theorem dX3_collapse_43 : decode cX3_collapse 43 = .ok (.aload_n 0, 1) := by decide +kernel
theorem dX3_collapse_44 : decode cX3_collapse 44 = .ok (.getfield 25, 3) := by decide +kernel
theorem dX3_collapse_47 : decode cX3_collapse 47 = .ok (.if_icmp .ge 22, 3) := by decide +kernel
theorem dX3_collapse_50 : decode cX3_collapse 50 = .ok (.aload_n 0, 1) := by decide +kernel
theorem dX3_collapse_51 : decode cX3_collapse 51 = .ok (.iload_n 1, 1) := by decide +kernel
theorem dX3_collapse_52 : decode cX3_collapse 52 = .ok (.iconst 1, 1) := by decide +kernel
theorem dX3_collapse_53 : decode cX3_collapse 53 = .ok (.iadd, 1) := by decide +kernel
theorem dX3_collapse_54 : decode cX3_collapse 54 = .ok (.aload_n 0, 1) := by decide +kernel
theorem dX3_collapse_55 : decode cX3_collapse 55 = .ok (.iload_n 1, 1) := by decide +kernel
theorem dX3_collapse_56 : decode cX3_collapse 56 = .ok (.iload_n 3, 1) := by decide +kernel
theorem dX3_collapse_57 : decode cX3_collapse 57 = .ok (.invokevirtual 49, 3) := by decide +kernel
theorem dX3_collapse_60 : decode cX3_collapse 60 = .ok (.invokevirtual 46, 3) := by decide +kernel
theorem dX3_collapse_63 : decode cX3_collapse 63 = .ok (.iinc 3 2, 3) := by decide +kernel
theorem dX3_collapse_66 : decode cX3_collapse 66 = .ok (.goto (-24), 3) := by decide +kernel
theorem dX3_collapse_69 : decode cX3_collapse 69 = .ok (.return_, 1) := by decide +kernel
theorem dX3_sortBuffer_0 : decode cX3_sortBuffer 0 = .ok (.iload_n 1, 1) := by decide +kernel
theorem dX3_sortBuffer_1 : decode cX3_sortBuffer 1 = .ok (.aload_n 0, 1) := by decide +kernel
theorem dX3_sortBuffer_2 : decode cX3_sortBuffer 2 = .ok (.getfield 25, 3) := by decide +kernel
theorem dX3_sortBuffer_5 : decode cX3_sortBuffer 5 = .ok (.imul, 1) := by decide +kernel
theorem dX3_sortBuffer_6 : decode cX3_sortBuffer 6 = .ok (.istore_n 2, 1) := by decide +kernel
theorem dX3_sortBuffer_7 : decode cX3_sortBuffer 7 = .ok (.iload_n 2, 1) := by decide +kernel
theorem dX3_sortBuffer_8 : decode cX3_sortBuffer 8 = .ok (.iconst 1, 1) := by decide +kernel
theorem dX3_sortBuffer_9 : decode cX3_sortBuffer 9 = .ok (.iadd, 1) := by decide +kernel
theorem dX3_sortBuffer_10 : decode cX3_sortBuffer 10 = .ok (.istore_n 3, 1) := by decide +kernel
theorem dX3_sortBuffer_11 : decode cX3_sortBuffer 11 = .ok (.iload_n 3, 1) := by decide +kernel
theorem dX3_sortBuffer_12 : decode cX3_sortBuffer 12 = .ok (.iload_n 2, 1) := by decide +kernel
theorem dX3_sortBuffer_13 : decode cX3_sortBuffer 13 = .ok (.aload_n 0, 1) := by decide +kernel
theorem dX3_sortBuffer_14 : decode cX3_sortBuffer 14 = .ok (.getfield 25, 3) := by decide +kernel
theorem dX3_sortBuffer_17 : decode cX3_sortBuffer 17 = .ok (.iadd, 1) := by decide +kernel
theorem dX3_sortBuffer_18 : decode cX3_sortBuffer 18 = .ok (.if_icmp .ge 80, 3) := by decide +kernel
theorem dX3_sortBuffer_21 : decode cX3_sortBuffer 21 = .ok (.iload_n 3, 1) := by decide +kernel
theorem dX3_sortBuffer_22 : decode cX3_sortBuffer 22 = .ok (.aload_n 0, 1) := by decide +kernel
theorem dX3_sortBuffer_23 : decode cX3_sortBuffer 23 = .ok (.getfield 11, 3) := by decide +kernel
theorem dX3_sortBuffer_26 : decode cX3_sortBuffer 26 = .ok (.arraylength, 1) := by decide +kernel
theorem dX3_sortBuffer_27 : decode cX3_sortBuffer 27 = .ok (.if_icmp .ge 71, 3) := by decide +kernel
theorem dX3_sortBuffer_30 : decode cX3_sortBuffer 30 = .ok (.aload_n 0, 1) := by decide +kernel
theorem dX3_sortBuffer_31 : decode cX3_sortBuffer 31 = .ok (.getfield 11, 3) := by decide +kernel
theorem dX3_sortBuffer_34 : decode cX3_sortBuffer 34 = .ok (.iload_n 3, 1) := by decide +kernel
theorem dX3_sortBuffer_35 : decode cX3_sortBuffer 35 = .ok (.iaload, 1) := by decide +kernel
theorem dX3_sortBuffer_36 : decode cX3_sortBuffer 36 = .ok (.istore 4, 2) := by decide +kernel
theorem dX3_sortBuffer_38 : decode cX3_sortBuffer 38 = .ok (.iload_n 3, 1) := by decide +kernel
theorem dX3_sortBuffer_39 : decode cX3_sortBuffer 39 = .ok (.istore 5, 2) := by decide +kernel
theorem dX3_sortBuffer_41 : decode cX3_sortBuffer 41 = .ok (.iload 5, 2) := by decide +kernel
theorem dX3_sortBuffer_43 : decode cX3_sortBuffer 43 = .ok (.iload_n 2, 1) := by decide +kernel
theorem dX3_sortBuffer_44 : decode cX3_sortBuffer 44 = .ok (.if_icmp .le 39, 3) := by decide +kernel
theorem dX3_sortBuffer_47 : decode cX3_sortBuffer 47 = .ok (.aload_n 0, 1) := by decide +kernel
theorem dX3_sortBuffer_48 : decode cX3_sortBuffer 48 = .ok (.getfield 11, 3) := by decide +kernel
theorem dX3_sortBuffer_51 : decode cX3_sortBuffer 51 = .ok (.iload 5, 2) := by decide +kernel
theorem dX3_sortBuffer_53 : decode cX3_sortBuffer 53 = .ok (.iconst 1, 1) := by decide +kernel
theorem dX3_sortBuffer_54 : decode cX3_sortBuffer 54 = .ok (.isub, 1) := by decide +kernel
theorem dX3_sortBuffer_55 : decode cX3_sortBuffer 55 = .ok (.iaload, 1) := by decide +kernel
theorem dX3_sortBuffer_56 : decode cX3_sortBuffer 56 = .ok (.iload 4, 2) := by decide +kernel
theorem dX3_sortBuffer_58 : decode cX3_sortBuffer 58 = .ok (.if_icmp .le 25, 3) := by decide +kernel
theorem dX3_sortBuffer_61 : decode cX3_sortBuffer 61 = .ok (.aload_n 0, 1) := by decide +kernel
theorem dX3_sortBuffer_62 : decode cX3_sortBuffer 62 = .ok (.getfield 11, 3) := by decide +kernel
theorem dX3_sortBuffer_65 : decode cX3_sortBuffer 65 = .ok (.iload 5, 2) := by decide +kernel
theorem dX3_sortBuffer_67 : decode cX3_sortBuffer 67 = .ok (.aload_n 0, 1) := by decide +kernel
theorem dX3_sortBuffer_68 : decode cX3_sortBuffer 68 = .ok (.getfield 11, 3) := by decide +kernel
theorem dX3_sortBuffer_71 : decode cX3_sortBuffer 71 = .ok (.iload 5, 2) := by decide +kernel
theorem dX3_sortBuffer_73 : decode cX3_sortBuffer 73 = .ok (.iconst 1, 1) := by decide +kernel
theorem dX3_sortBuffer_74 : decode cX3_sortBuffer 74 = .ok (.isub, 1) := by decide +kernel
theorem dX3_sortBuffer_75 : decode cX3_sortBuffer 75 = .ok (.iaload, 1) := by decide +kernel
theorem dX3_sortBuffer_76 : decode cX3_sortBuffer 76 = .ok (.iastore, 1) := by decide +kernel
theorem dX3_sortBuffer_77 : decode cX3_sortBuffer 77 = .ok (.iinc 5 (-1), 3) := by decide +kernel
theorem dX3_sortBuffer_80 : decode cX3_sortBuffer 80 = .ok (.goto (-39), 3) := by decide +kernel
theorem dX3_sortBuffer_83 : decode cX3_sortBuffer 83 = .ok (.aload_n 0, 1) := by decide +kernel
theorem dX3_sortBuffer_84 : decode cX3_sortBuffer 84 = .ok (.getfield 11, 3) := by decide +kernel
theorem dX3_sortBuffer_87 : decode cX3_sortBuffer 87 = .ok (.iload 5, 2) := by decide +kernel
theorem dX3_sortBuffer_89 : decode cX3_sortBuffer 89 = .ok (.iload 4, 2) := by decide +kernel
theorem dX3_sortBuffer_91 : decode cX3_sortBuffer 91 = .ok (.iastore, 1) := by decide +kernel
theorem dX3_sortBuffer_92 : decode cX3_sortBuffer 92 = .ok (.iinc 3 1, 3) := by decide +kernel
theorem dX3_sortBuffer_95 : decode cX3_sortBuffer 95 = .ok (.goto (-84), 3) := by decide +kernel
theorem dX3_sortBuffer_98 : decode cX3_sortBuffer 98 = .ok (.return_, 1) := by decide +kernel
theorem dX4_init_0 : decode cX4_init 0 = .ok (.aload_n 0, 1) := by decide +kernel
theorem dX4_init_1 : decode cX4_init 1 = .ok (.invokespecial 3, 3) := by decide +kernel
theorem dX4_init_4 : decode cX4_init 4 = .ok (.aload_n 0, 1) := by decide +kernel
theorem dX4_init_5 : decode cX4_init 5 = .ok (.iload_n 1, 1) := by decide +kernel
theorem dX4_init_6 : decode cX4_init 6 = .ok (.putfield 9, 3) := by decide +kernel
theorem dX4_init_9 : decode cX4_init 9 = .ok (.aload_n 0, 1) := by decide +kernel
theorem dX4_init_10 : decode cX4_init 10 = .ok (.iload_n 2, 1) := by decide +kernel
theorem dX4_init_11 : decode cX4_init 11 = .ok (.putfield 15, 3) := by decide +kernel
theorem dX4_init_14 : decode cX4_init 14 = .ok (.aload_n 0, 1) := by decide +kernel
theorem dX4_init_15 : decode cX4_init 15 = .ok (.iload_n 3, 1) := by decide +kernel
theorem dX4_init_16 : decode cX4_init 16 = .ok (.putfield 18, 3) := by decide +kernel
theorem dX4_init_19 : decode cX4_init 19 = .ok (.aload_n 0, 1) := by decide +kernel
theorem dX4_init_20 : decode cX4_init 20 = .ok (.iconst 0, 1) := by decide +kernel
theorem dX4_init_21 : decode cX4_init 21 = .ok (.putfield 21, 3) := by decide +kernel
theorem dX4_init_24 : decode cX4_init 24 = .ok (.aload_n 0, 1) := by decide +kernel
theorem dX4_init_25 : decode cX4_init 25 = .ok (.iconst 0, 1) := by decide +kernel
theorem dX4_init_26 : decode cX4_init 26 = .ok (.putfield 24, 3) := by decide +kernel
theorem dX4_init_29 : decode cX4_init 29 = .ok (.return_, 1) := by decide +kernel
theorem dX4_mayTake_0 : decode cX4_mayTake 0 = .ok (.iload_n 1, 1) := by decide +kernel
theorem dX4_mayTake_1 : decode cX4_mayTake 1 = .ok (.iconst 1, 1) := by decide +kernel
theorem dX4_mayTake_2 : decode cX4_mayTake 2 = .ok (.if_icmp .lt 14, 3) := by decide +kernel
theorem dX4_mayTake_5 : decode cX4_mayTake 5 = .ok (.iload_n 1, 1) := by decide +kernel
theorem dX4_mayTake_6 : decode cX4_mayTake 6 = .ok (.sipush 1000, 3) := by decide +kernel
theorem dX4_mayTake_9 : decode cX4_mayTake 9 = .ok (.if_icmp .gt 7, 3) := by decide +kernel
theorem dX4_mayTake_12 : decode cX4_mayTake 12 = .ok (.iconst 1, 1) := by decide +kernel
theorem dX4_mayTake_13 : decode cX4_mayTake 13 = .ok (.goto 4, 3) := by decide +kernel
theorem dX4_mayTake_16 : decode cX4_mayTake 16 = .ok (.iconst 0, 1) := by decide +kernel
theorem dX4_mayTake_17 : decode cX4_mayTake 17 = .ok (.ireturn, 1) := by decide +kernel
theorem dX4_mayLack_0 : decode cX4_mayLack 0 = .ok (.iconst 0, 1) := by decide +kernel
theorem dX4_mayLack_1 : decode cX4_mayLack 1 = .ok (.ireturn, 1) := by decide +kernel
theorem dX4_atLeast_0 : decode cX4_atLeast 0 = .ok (.iconst (-1), 1) := by decide +kernel
theorem dX4_atLeast_1 : decode cX4_atLeast 1 = .ok (.ireturn, 1) := by decide +kernel
theorem dX4_atMost_0 : decode cX4_atMost 0 = .ok (.iconst (-1), 1) := by decide +kernel
theorem dX4_atMost_1 : decode cX4_atMost 1 = .ok (.ireturn, 1) := by decide +kernel
theorem dX4_holds_0 : decode cX4_holds 0 = .ok (.iconst (-1), 1) := by decide +kernel
theorem dX4_holds_1 : decode cX4_holds 1 = .ok (.ireturn, 1) := by decide +kernel
theorem dX4_differentKeys_0 : decode cX4_differentKeys 0 = .ok (.iconst (-1), 1) := by decide +kernel
theorem dX4_differentKeys_1 : decode cX4_differentKeys 1 = .ok (.ireturn, 1) := by decide +kernel
theorem dX4_keyAtRank_0 : decode cX4_keyAtRank 0 = .ok (.iconst (-1), 1) := by decide +kernel
theorem dX4_keyAtRank_1 : decode cX4_keyAtRank 1 = .ok (.ireturn, 1) := by decide +kernel
theorem dX4_isLike_0 : decode cX4_isLike 0 = .ok (.aload_n 1, 1) := by decide +kernel
theorem dX4_isLike_1 : decode cX4_isLike 1 = .ok (.ifnull 40, 3) := by decide +kernel
theorem dX4_isLike_4 : decode cX4_isLike 4 = .ok (.aload_n 0, 1) := by decide +kernel
theorem dX4_isLike_5 : decode cX4_isLike 5 = .ok (.getfield 9, 3) := by decide +kernel
theorem dX4_isLike_8 : decode cX4_isLike 8 = .ok (.aload_n 1, 1) := by decide +kernel
theorem dX4_isLike_9 : decode cX4_isLike 9 = .ok (.getfield 9, 3) := by decide +kernel
theorem dX4_isLike_12 : decode cX4_isLike 12 = .ok (.if_icmp .ne 29, 3) := by decide +kernel
theorem dX4_isLike_15 : decode cX4_isLike 15 = .ok (.aload_n 0, 1) := by decide +kernel
theorem dX4_isLike_16 : decode cX4_isLike 16 = .ok (.getfield 15, 3) := by decide +kernel
theorem dX4_isLike_19 : decode cX4_isLike 19 = .ok (.aload_n 1, 1) := by decide +kernel
theorem dX4_isLike_20 : decode cX4_isLike 20 = .ok (.getfield 15, 3) := by decide +kernel
theorem dX4_isLike_23 : decode cX4_isLike 23 = .ok (.if_icmp .ne 18, 3) := by decide +kernel
theorem dX4_isLike_26 : decode cX4_isLike 26 = .ok (.aload_n 0, 1) := by decide +kernel
theorem dX4_isLike_27 : decode cX4_isLike 27 = .ok (.getfield 18, 3) := by decide +kernel
theorem dX4_isLike_30 : decode cX4_isLike 30 = .ok (.aload_n 1, 1) := by decide +kernel
theorem dX4_isLike_31 : decode cX4_isLike 31 = .ok (.getfield 18, 3) := by decide +kernel
theorem dX4_isLike_34 : decode cX4_isLike 34 = .ok (.if_icmp .ne 7, 3) := by decide +kernel
theorem dX4_isLike_37 : decode cX4_isLike 37 = .ok (.iconst 1, 1) := by decide +kernel
theorem dX4_isLike_38 : decode cX4_isLike 38 = .ok (.goto 4, 3) := by decide +kernel
theorem dX4_isLike_41 : decode cX4_isLike 41 = .ok (.iconst 0, 1) := by decide +kernel
theorem dX4_isLike_42 : decode cX4_isLike 42 = .ok (.ireturn, 1) := by decide +kernel
theorem dX4_copyTotals_0 : decode cX4_copyTotals 0 = .ok (.aload_n 0, 1) := by decide +kernel
theorem dX4_copyTotals_1 : decode cX4_copyTotals 1 = .ok (.aload_n 1, 1) := by decide +kernel
theorem dX4_copyTotals_2 : decode cX4_copyTotals 2 = .ok (.getfield 21, 3) := by decide +kernel
theorem dX4_copyTotals_5 : decode cX4_copyTotals 5 = .ok (.putfield 21, 3) := by decide +kernel
theorem dX4_copyTotals_8 : decode cX4_copyTotals 8 = .ok (.aload_n 0, 1) := by decide +kernel
theorem dX4_copyTotals_9 : decode cX4_copyTotals 9 = .ok (.aload_n 1, 1) := by decide +kernel
theorem dX4_copyTotals_10 : decode cX4_copyTotals 10 = .ok (.getfield 24, 3) := by decide +kernel
theorem dX4_copyTotals_13 : decode cX4_copyTotals 13 = .ok (.putfield 24, 3) := by decide +kernel
theorem dX4_copyTotals_16 : decode cX4_copyTotals 16 = .ok (.return_, 1) := by decide +kernel
theorem dX5_init_0 : decode cX5_init 0 = .ok (.aload_n 0, 1) := by decide +kernel
theorem dX5_init_1 : decode cX5_init 1 = .ok (.iconst 1, 1) := by decide +kernel
theorem dX5_init_2 : decode cX5_init 2 = .ok (.iload_n 1, 1) := by decide +kernel
theorem dX5_init_3 : decode cX5_init 3 = .ok (.iload_n 2, 1) := by decide +kernel
theorem dX5_init_4 : decode cX5_init 4 = .ok (.invokespecial 3, 3) := by decide +kernel
theorem dX5_init_7 : decode cX5_init 7 = .ok (.aload_n 0, 1) := by decide +kernel
theorem dX5_init_8 : decode cX5_init 8 = .ok (.iconst 4, 1) := by decide +kernel
theorem dX5_init_9 : decode cX5_init 9 = .ok (.iload_n 1, 1) := by decide +kernel
theorem dX5_init_10 : decode cX5_init 10 = .ok (.imul, 1) := by decide +kernel
theorem dX5_init_11 : decode cX5_init 11 = .ok (.newarray .int, 2) := by decide +kernel
theorem dX5_init_13 : decode cX5_init 13 = .ok (.putfield 9, 3) := by decide +kernel
theorem dX5_init_16 : decode cX5_init 16 = .ok (.return_, 1) := by decide +kernel
theorem dX5_twin_0 : decode cX5_twin 0 = .ok (.new 10, 3) := by decide +kernel
theorem dX5_twin_3 : decode cX5_twin 3 = .ok (.dup, 1) := by decide +kernel
theorem dX5_twin_4 : decode cX5_twin 4 = .ok (.aload_n 0, 1) := by decide +kernel
theorem dX5_twin_5 : decode cX5_twin 5 = .ok (.getfield 15, 3) := by decide +kernel
theorem dX5_twin_8 : decode cX5_twin 8 = .ok (.aload_n 0, 1) := by decide +kernel
theorem dX5_twin_9 : decode cX5_twin 9 = .ok (.getfield 19, 3) := by decide +kernel
theorem dX5_twin_12 : decode cX5_twin 12 = .ok (.invokespecial 22, 3) := by decide +kernel
theorem dX5_twin_15 : decode cX5_twin 15 = .ok (.astore_n 1, 1) := by decide +kernel
theorem dX5_twin_16 : decode cX5_twin 16 = .ok (.aload_n 1, 1) := by decide +kernel
theorem dX5_twin_17 : decode cX5_twin 17 = .ok (.aload_n 0, 1) := by decide +kernel
theorem dX5_twin_18 : decode cX5_twin 18 = .ok (.invokevirtual 25, 3) := by decide +kernel
theorem dX5_twin_21 : decode cX5_twin 21 = .ok (.aload_n 0, 1) := by decide +kernel
theorem dX5_twin_22 : decode cX5_twin 22 = .ok (.getfield 9, 3) := by decide +kernel
theorem dX5_twin_25 : decode cX5_twin 25 = .ok (.aload_n 1, 1) := by decide +kernel
theorem dX5_twin_26 : decode cX5_twin 26 = .ok (.getfield 9, 3) := by decide +kernel
theorem dX5_twin_29 : decode cX5_twin 29 = .ok (.invokestatic 29, 3) := by decide +kernel
theorem dX5_twin_32 : decode cX5_twin 32 = .ok (.aload_n 1, 1) := by decide +kernel
theorem dX5_twin_33 : decode cX5_twin 33 = .ok (.areturn, 1) := by decide +kernel
theorem dX5_forget_0 : decode cX5_forget 0 = .ok (.aload_n 0, 1) := by decide +kernel
theorem dX5_forget_1 : decode cX5_forget 1 = .ok (.getfield 9, 3) := by decide +kernel
theorem dX5_forget_4 : decode cX5_forget 4 = .ok (.invokestatic 33, 3) := by decide +kernel
theorem dX5_forget_7 : decode cX5_forget 7 = .ok (.return_, 1) := by decide +kernel
theorem dX5_mayTake_0 : decode cX5_mayTake 0 = .ok (.iload_n 1, 1) := by decide +kernel
theorem dX5_mayTake_1 : decode cX5_mayTake 1 = .ok (.sipush (-1000), 3) := by decide +kernel
theorem dX5_mayTake_4 : decode cX5_mayTake 4 = .ok (.if_icmp .lt 18, 3) := by decide +kernel
theorem dX5_mayTake_7 : decode cX5_mayTake 7 = .ok (.iload_n 1, 1) := by decide +kernel
theorem dX5_mayTake_8 : decode cX5_mayTake 8 = .ok (.sipush 1000, 3) := by decide +kernel
theorem dX5_mayTake_11 : decode cX5_mayTake 11 = .ok (.if_icmp .gt 11, 3) := by decide +kernel
theorem dX5_mayTake_14 : decode cX5_mayTake 14 = .ok (.iload_n 1, 1) := by decide +kernel
theorem dX5_mayTake_15 : decode cX5_mayTake 15 = .ok (.ifCond .eq 7, 3) := by decide +kernel
theorem dX5_mayTake_18 : decode cX5_mayTake 18 = .ok (.iconst 1, 1) := by decide +kernel
theorem dX5_mayTake_19 : decode cX5_mayTake 19 = .ok (.goto 4, 3) := by decide +kernel
theorem dX5_mayTake_22 : decode cX5_mayTake 22 = .ok (.iconst 0, 1) := by decide +kernel
theorem dX5_mayTake_23 : decode cX5_mayTake 23 = .ok (.ireturn, 1) := by decide +kernel
theorem dX5_take_0 : decode cX5_take 0 = .ok (.iconst 0, 1) := by decide +kernel
theorem dX5_take_1 : decode cX5_take 1 = .ok (.istore_n 3, 1) := by decide +kernel
theorem dX5_take_2 : decode cX5_take 2 = .ok (.iload_n 3, 1) := by decide +kernel
theorem dX5_take_3 : decode cX5_take 3 = .ok (.iconst 4, 1) := by decide +kernel
theorem dX5_take_4 : decode cX5_take 4 = .ok (.if_icmp .ge 38, 3) := by decide +kernel
theorem dX5_take_7 : decode cX5_take 7 = .ok (.aload_n 0, 1) := by decide +kernel
theorem dX5_take_8 : decode cX5_take 8 = .ok (.iload_n 3, 1) := by decide +kernel
theorem dX5_take_9 : decode cX5_take 9 = .ok (.iload_n 1, 1) := by decide +kernel
theorem dX5_take_10 : decode cX5_take 10 = .ok (.invokevirtual 37, 3) := by decide +kernel
theorem dX5_take_13 : decode cX5_take 13 = .ok (.istore 4, 2) := by decide +kernel
theorem dX5_take_15 : decode cX5_take 15 = .ok (.iload 4, 2) := by decide +kernel
theorem dX5_take_17 : decode cX5_take 17 = .ok (.aload_n 0, 1) := by decide +kernel
theorem dX5_take_18 : decode cX5_take 18 = .ok (.getfield 9, 3) := by decide +kernel
theorem dX5_take_21 : decode cX5_take 21 = .ok (.arraylength, 1) := by decide +kernel
theorem dX5_take_22 : decode cX5_take 22 = .ok (.if_icmp .ge 14, 3) := by decide +kernel
theorem dX5_take_25 : decode cX5_take 25 = .ok (.aload_n 0, 1) := by decide +kernel
theorem dX5_take_26 : decode cX5_take 26 = .ok (.getfield 9, 3) := by decide +kernel
theorem dX5_take_29 : decode cX5_take 29 = .ok (.iload 4, 2) := by decide +kernel
theorem dX5_take_31 : decode cX5_take 31 = .ok (.dup2, 1) := by decide +kernel
theorem dX5_take_32 : decode cX5_take 32 = .ok (.iaload, 1) := by decide +kernel
theorem dX5_take_33 : decode cX5_take 33 = .ok (.iload_n 2, 1) := by decide +kernel
theorem dX5_take_34 : decode cX5_take 34 = .ok (.iadd, 1) := by decide +kernel
theorem dX5_take_35 : decode cX5_take 35 = .ok (.iastore, 1) := by decide +kernel
theorem dX5_take_36 : decode cX5_take 36 = .ok (.iinc 3 1, 3) := by decide +kernel
theorem dX5_take_39 : decode cX5_take 39 = .ok (.goto (-37), 3) := by decide +kernel
theorem dX5_take_42 : decode cX5_take 42 = .ok (.return_, 1) := by decide +kernel
theorem dX5_join_0 : decode cX5_join 0 = .ok (.aload_n 1, 1) := by decide +kernel
theorem dX5_join_1 : decode cX5_join 1 = .ok (.instanceof 10, 3) := by decide +kernel
theorem dX5_join_4 : decode cX5_join 4 = .ok (.ifCond .eq 49, 3) := by decide +kernel
theorem dX5_join_7 : decode cX5_join 7 = .ok (.aload_n 1, 1) := by decide +kernel
theorem dX5_join_8 : decode cX5_join 8 = .ok (.checkcast 10, 3) := by decide +kernel
theorem dX5_join_11 : decode cX5_join 11 = .ok (.astore_n 2, 1) := by decide +kernel
theorem dX5_join_12 : decode cX5_join 12 = .ok (.iconst 0, 1) := by decide +kernel
theorem dX5_join_13 : decode cX5_join 13 = .ok (.istore_n 3, 1) := by decide +kernel
theorem dX5_join_14 : decode cX5_join 14 = .ok (.iload_n 3, 1) := by decide +kernel
theorem dX5_join_15 : decode cX5_join 15 = .ok (.aload_n 0, 1) := by decide +kernel
theorem dX5_join_16 : decode cX5_join 16 = .ok (.getfield 9, 3) := by decide +kernel
theorem dX5_join_19 : decode cX5_join 19 = .ok (.arraylength, 1) := by decide +kernel
theorem dX5_join_20 : decode cX5_join 20 = .ok (.if_icmp .ge 33, 3) := by decide +kernel
theorem dX5_join_23 : decode cX5_join 23 = .ok (.iload_n 3, 1) := by decide +kernel
theorem dX5_join_24 : decode cX5_join 24 = .ok (.aload_n 2, 1) := by decide +kernel
theorem dX5_join_25 : decode cX5_join 25 = .ok (.getfield 9, 3) := by decide +kernel
theorem dX5_join_28 : decode cX5_join 28 = .ok (.arraylength, 1) := by decide +kernel
theorem dX5_join_29 : decode cX5_join 29 = .ok (.if_icmp .ge 24, 3) := by decide +kernel
theorem dX5_join_32 : decode cX5_join 32 = .ok (.aload_n 0, 1) := by decide +kernel
theorem dX5_join_33 : decode cX5_join 33 = .ok (.getfield 9, 3) := by decide +kernel
theorem dX5_join_36 : decode cX5_join 36 = .ok (.iload_n 3, 1) := by decide +kernel
theorem dX5_join_37 : decode cX5_join 37 = .ok (.dup2, 1) := by decide +kernel
theorem dX5_join_38 : decode cX5_join 38 = .ok (.iaload, 1) := by decide +kernel
theorem dX5_join_39 : decode cX5_join 39 = .ok (.aload_n 2, 1) := by decide +kernel
theorem dX5_join_40 : decode cX5_join 40 = .ok (.getfield 9, 3) := by decide +kernel
theorem dX5_join_43 : decode cX5_join 43 = .ok (.iload_n 3, 1) := by decide +kernel
theorem dX5_join_44 : decode cX5_join 44 = .ok (.iaload, 1) := by decide +kernel
theorem dX5_join_45 : decode cX5_join 45 = .ok (.iadd, 1) := by decide +kernel
theorem dX5_join_46 : decode cX5_join 46 = .ok (.iastore, 1) := by decide +kernel
theorem dX5_join_47 : decode cX5_join 47 = .ok (.iinc 3 1, 3) := by decide +kernel
theorem dX5_join_50 : decode cX5_join 50 = .ok (.goto (-36), 3) := by decide +kernel
theorem dX5_join_53 : decode cX5_join 53 = .ok (.return_, 1) := by decide +kernel
theorem dX5_howManyKept_0 : decode cX5_howManyKept 0 = .ok (.aload_n 0, 1) := by decide +kernel
theorem dX5_howManyKept_1 : decode cX5_howManyKept 1 = .ok (.getfield 9, 3) := by decide +kernel
theorem dX5_howManyKept_4 : decode cX5_howManyKept 4 = .ok (.invokestatic 41, 3) := by decide +kernel
theorem dX5_howManyKept_7 : decode cX5_howManyKept 7 = .ok (.ireturn, 1) := by decide +kernel
theorem dX5_keptAt_0 : decode cX5_keptAt 0 = .ok (.iload_n 1, 1) := by decide +kernel
theorem dX5_keptAt_1 : decode cX5_keptAt 1 = .ok (.ifCond .lt 16, 3) := by decide +kernel
theorem dX5_keptAt_4 : decode cX5_keptAt 4 = .ok (.iload_n 1, 1) := by decide +kernel
theorem dX5_keptAt_5 : decode cX5_keptAt 5 = .ok (.aload_n 0, 1) := by decide +kernel
theorem dX5_keptAt_6 : decode cX5_keptAt 6 = .ok (.getfield 9, 3) := by decide +kernel
theorem dX5_keptAt_9 : decode cX5_keptAt 9 = .ok (.arraylength, 1) := by decide +kernel
theorem dX5_keptAt_10 : decode cX5_keptAt 10 = .ok (.if_icmp .ge 7, 3) := by decide +kernel
theorem dX5_keptAt_13 : decode cX5_keptAt 13 = .ok (.iload_n 2, 1) := by decide +kernel
theorem dX5_keptAt_14 : decode cX5_keptAt 14 = .ok (.ifCond .eq 7, 3) := by decide +kernel
theorem dX5_keptAt_17 : decode cX5_keptAt 17 = .ok (.iconst (-1), 1) := by decide +kernel
theorem dX5_keptAt_18 : decode cX5_keptAt 18 = .ok (.goto 12, 3) := by decide +kernel
theorem dX5_keptAt_21 : decode cX5_keptAt 21 = .ok (.aload_n 0, 1) := by decide +kernel
theorem dX5_keptAt_22 : decode cX5_keptAt 22 = .ok (.getfield 9, 3) := by decide +kernel
theorem dX5_keptAt_25 : decode cX5_keptAt 25 = .ok (.iload_n 1, 1) := by decide +kernel
theorem dX5_keptAt_26 : decode cX5_keptAt 26 = .ok (.iaload, 1) := by decide +kernel
theorem dX5_keptAt_27 : decode cX5_keptAt 27 = .ok (.ldc 45, 2) := by decide +kernel
theorem dX5_keptAt_29 : decode cX5_keptAt 29 = .ok (.iadd, 1) := by decide +kernel
theorem dX5_keptAt_30 : decode cX5_keptAt 30 = .ok (.ireturn, 1) := by decide +kernel
theorem dX5_atMost_0 : decode cX5_atMost 0 = .ok (.ldc 45, 2) := by decide +kernel
theorem dX5_atMost_2 : decode cX5_atMost 2 = .ok (.istore_n 2, 1) := by decide +kernel
theorem dX5_atMost_3 : decode cX5_atMost 3 = .ok (.iconst 0, 1) := by decide +kernel
theorem dX5_atMost_4 : decode cX5_atMost 4 = .ok (.istore_n 3, 1) := by decide +kernel
theorem dX5_atMost_5 : decode cX5_atMost 5 = .ok (.iload_n 3, 1) := by decide +kernel
theorem dX5_atMost_6 : decode cX5_atMost 6 = .ok (.iconst 4, 1) := by decide +kernel
theorem dX5_atMost_7 : decode cX5_atMost 7 = .ok (.if_icmp .ge 39, 3) := by decide +kernel
theorem dX5_atMost_10 : decode cX5_atMost 10 = .ok (.aload_n 0, 1) := by decide +kernel
theorem dX5_atMost_11 : decode cX5_atMost 11 = .ok (.iload_n 3, 1) := by decide +kernel
theorem dX5_atMost_12 : decode cX5_atMost 12 = .ok (.iload_n 1, 1) := by decide +kernel
theorem dX5_atMost_13 : decode cX5_atMost 13 = .ok (.invokevirtual 37, 3) := by decide +kernel
theorem dX5_atMost_16 : decode cX5_atMost 16 = .ok (.istore 4, 2) := by decide +kernel
theorem dX5_atMost_18 : decode cX5_atMost 18 = .ok (.iload 4, 2) := by decide +kernel
theorem dX5_atMost_20 : decode cX5_atMost 20 = .ok (.aload_n 0, 1) := by decide +kernel
theorem dX5_atMost_21 : decode cX5_atMost 21 = .ok (.getfield 9, 3) := by decide +kernel
theorem dX5_atMost_24 : decode cX5_atMost 24 = .ok (.arraylength, 1) := by decide +kernel
theorem dX5_atMost_25 : decode cX5_atMost 25 = .ok (.if_icmp .ge 15, 3) := by decide +kernel
theorem dX5_atMost_28 : decode cX5_atMost 28 = .ok (.iload_n 2, 1) := by decide +kernel
theorem dX5_atMost_29 : decode cX5_atMost 29 = .ok (.aload_n 0, 1) := by decide +kernel
theorem dX5_atMost_30 : decode cX5_atMost 30 = .ok (.getfield 9, 3) := by decide +kernel
theorem dX5_atMost_33 : decode cX5_atMost 33 = .ok (.iload 4, 2) := by decide +kernel
theorem dX5_atMost_35 : decode cX5_atMost 35 = .ok (.iaload, 1) := by decide +kernel
theorem dX5_atMost_36 : decode cX5_atMost 36 = .ok (.invokestatic 46, 3) := by decide +kernel
theorem dX5_atMost_39 : decode cX5_atMost 39 = .ok (.istore_n 2, 1) := by decide +kernel
theorem dX5_atMost_40 : decode cX5_atMost 40 = .ok (.iinc 3 1, 3) := by decide +kernel
theorem dX5_atMost_43 : decode cX5_atMost 43 = .ok (.goto (-38), 3) := by decide +kernel
theorem dX5_atMost_46 : decode cX5_atMost 46 = .ok (.iload_n 2, 1) := by decide +kernel
theorem dX5_atMost_47 : decode cX5_atMost 47 = .ok (.ireturn, 1) := by decide +kernel
theorem dX5_placeIn_0 : decode cX5_placeIn 0 = .ok (.iload_n 1, 1) := by decide +kernel
theorem dX5_placeIn_1 : decode cX5_placeIn 1 = .ok (.aload_n 0, 1) := by decide +kernel
theorem dX5_placeIn_2 : decode cX5_placeIn 2 = .ok (.getfield 15, 3) := by decide +kernel
theorem dX5_placeIn_5 : decode cX5_placeIn 5 = .ok (.imul, 1) := by decide +kernel
theorem dX5_placeIn_6 : decode cX5_placeIn 6 = .ok (.aload_n 0, 1) := by decide +kernel
theorem dX5_placeIn_7 : decode cX5_placeIn 7 = .ok (.getfield 19, 3) := by decide +kernel
theorem dX5_placeIn_10 : decode cX5_placeIn 10 = .ok (.iload_n 1, 1) := by decide +kernel
theorem dX5_placeIn_11 : decode cX5_placeIn 11 = .ok (.iload_n 2, 1) := by decide +kernel
theorem dX5_placeIn_12 : decode cX5_placeIn 12 = .ok (.aload_n 0, 1) := by decide +kernel
theorem dX5_placeIn_13 : decode cX5_placeIn 13 = .ok (.getfield 15, 3) := by decide +kernel
theorem dX5_placeIn_16 : decode cX5_placeIn 16 = .ok (.invokestatic 51, 3) := by decide +kernel
theorem dX5_placeIn_19 : decode cX5_placeIn 19 = .ok (.iadd, 1) := by decide +kernel
theorem dX5_placeIn_20 : decode cX5_placeIn 20 = .ok (.ireturn, 1) := by decide +kernel
theorem dX6_init_0 : decode cX6_init 0 = .ok (.aload_n 0, 1) := by decide +kernel
theorem dX6_init_1 : decode cX6_init 1 = .ok (.invokespecial 1, 3) := by decide +kernel
theorem dX6_init_4 : decode cX6_init 4 = .ok (.aload_n 0, 1) := by decide +kernel
theorem dX6_init_5 : decode cX6_init 5 = .ok (.bipush 8, 2) := by decide +kernel
theorem dX6_init_7 : decode cX6_init 7 = .ok (.anewarray 9, 3) := by decide +kernel
theorem dX6_init_10 : decode cX6_init 10 = .ok (.putfield 11, 3) := by decide +kernel
theorem dX6_init_13 : decode cX6_init 13 = .ok (.aload_n 0, 1) := by decide +kernel
theorem dX6_init_14 : decode cX6_init 14 = .ok (.iconst 0, 1) := by decide +kernel
theorem dX6_init_15 : decode cX6_init 15 = .ok (.putfield 15, 3) := by decide +kernel
theorem dX6_init_18 : decode cX6_init 18 = .ok (.return_, 1) := by decide +kernel
theorem dX6_sketch_0 : decode cX6_sketch 0 = .ok (.iload_n 1, 1) := by decide +kernel
theorem dX6_sketch_1 : decode cX6_sketch 1 = .ok (.invokestatic 19, 3) := by decide +kernel
theorem dX6_sketch_4 : decode cX6_sketch 4 = .ok (.ifCond .eq 18, 3) := by decide +kernel
theorem dX6_sketch_7 : decode cX6_sketch 7 = .ok (.iload_n 1, 1) := by decide +kernel
theorem dX6_sketch_8 : decode cX6_sketch 8 = .ok (.iload_n 2, 1) := by decide +kernel
theorem dX6_sketch_9 : decode cX6_sketch 9 = .ok (.invokestatic 23, 3) := by decide +kernel
theorem dX6_sketch_12 : decode cX6_sketch 12 = .ok (.ifCond .eq 10, 3) := by decide +kernel
theorem dX6_sketch_15 : decode cX6_sketch 15 = .ok (.iload_n 3, 1) := by decide +kernel
theorem dX6_sketch_16 : decode cX6_sketch 16 = .ok (.invokestatic 27, 3) := by decide +kernel
theorem dX6_sketch_19 : decode cX6_sketch 19 = .ok (.ifCond .ne 5, 3) := by decide +kernel
theorem dX6_sketch_22 : decode cX6_sketch 22 = .ok (.iconst (-1), 1) := by decide +kernel
theorem dX6_sketch_23 : decode cX6_sketch 23 = .ok (.ireturn, 1) := by decide +kernel
theorem dX6_sketch_24 : decode cX6_sketch 24 = .ok (.aload_n 0, 1) := by decide +kernel
theorem dX6_sketch_25 : decode cX6_sketch 25 = .ok (.getfield 15, 3) := by decide +kernel
theorem dX6_sketch_28 : decode cX6_sketch 28 = .ok (.bipush 8, 2) := by decide +kernel
theorem dX6_sketch_30 : decode cX6_sketch 30 = .ok (.if_icmp .lt 6, 3) := by decide +kernel
theorem dX6_sketch_33 : decode cX6_sketch 33 = .ok (.bipush (-3), 2) := by decide +kernel
theorem dX6_sketch_35 : decode cX6_sketch 35 = .ok (.ireturn, 1) := by decide +kernel
theorem dX6_sketch_36 : decode cX6_sketch 36 = .ok (.aload_n 0, 1) := by decide +kernel
theorem dX6_sketch_37 : decode cX6_sketch 37 = .ok (.iload_n 1, 1) := by decide +kernel
theorem dX6_sketch_38 : decode cX6_sketch 38 = .ok (.iload_n 2, 1) := by decide +kernel
theorem dX6_sketch_39 : decode cX6_sketch 39 = .ok (.iload_n 3, 1) := by decide +kernel
theorem dX6_sketch_40 : decode cX6_sketch 40 = .ok (.invokestatic 30, 3) := by decide +kernel
theorem dX6_sketch_43 : decode cX6_sketch 43 = .ok (.invokevirtual 34, 3) := by decide +kernel
theorem dX6_sketch_46 : decode cX6_sketch 46 = .ok (.ireturn, 1) := by decide +kernel
theorem dX6_copy_0 : decode cX6_copy 0 = .ok (.aload_n 0, 1) := by decide +kernel
theorem dX6_copy_1 : decode cX6_copy 1 = .ok (.iload_n 1, 1) := by decide +kernel
theorem dX6_copy_2 : decode cX6_copy 2 = .ok (.invokevirtual 38, 3) := by decide +kernel
theorem dX6_copy_5 : decode cX6_copy 5 = .ok (.astore_n 2, 1) := by decide +kernel
theorem dX6_copy_6 : decode cX6_copy 6 = .ok (.aload_n 2, 1) := by decide +kernel
theorem dX6_copy_7 : decode cX6_copy 7 = .ok (.ifnonnull 5, 3) := by decide +kernel
theorem dX6_copy_10 : decode cX6_copy 10 = .ok (.iconst (-1), 1) := by decide +kernel
theorem dX6_copy_11 : decode cX6_copy 11 = .ok (.ireturn, 1) := by decide +kernel
theorem dX6_copy_12 : decode cX6_copy 12 = .ok (.aload_n 0, 1) := by decide +kernel
theorem dX6_copy_13 : decode cX6_copy 13 = .ok (.getfield 15, 3) := by decide +kernel
theorem dX6_copy_16 : decode cX6_copy 16 = .ok (.bipush 8, 2) := by decide +kernel
theorem dX6_copy_18 : decode cX6_copy 18 = .ok (.if_icmp .lt 6, 3) := by decide +kernel
theorem dX6_copy_21 : decode cX6_copy 21 = .ok (.bipush (-3), 2) := by decide +kernel
theorem dX6_copy_23 : decode cX6_copy 23 = .ok (.ireturn, 1) := by decide +kernel
theorem dX6_copy_24 : decode cX6_copy 24 = .ok (.aload_n 0, 1) := by decide +kernel
theorem dX6_copy_25 : decode cX6_copy 25 = .ok (.aload_n 2, 1) := by decide +kernel
theorem dX6_copy_26 : decode cX6_copy 26 = .ok (.invokevirtual 42, 3) := by decide +kernel
theorem dX6_copy_29 : decode cX6_copy 29 = .ok (.invokevirtual 34, 3) := by decide +kernel
theorem dX6_copy_32 : decode cX6_copy 32 = .ok (.ireturn, 1) := by decide +kernel
theorem dX6_clear_0 : decode cX6_clear 0 = .ok (.aload_n 0, 1) := by decide +kernel
theorem dX6_clear_1 : decode cX6_clear 1 = .ok (.iload_n 1, 1) := by decide +kernel
theorem dX6_clear_2 : decode cX6_clear 2 = .ok (.invokevirtual 38, 3) := by decide +kernel
theorem dX6_clear_5 : decode cX6_clear 5 = .ok (.astore_n 2, 1) := by decide +kernel
theorem dX6_clear_6 : decode cX6_clear 6 = .ok (.aload_n 2, 1) := by decide +kernel
theorem dX6_clear_7 : decode cX6_clear 7 = .ok (.ifnonnull 5, 3) := by decide +kernel
theorem dX6_clear_10 : decode cX6_clear 10 = .ok (.iconst (-1), 1) := by decide +kernel
theorem dX6_clear_11 : decode cX6_clear 11 = .ok (.ireturn, 1) := by decide +kernel
theorem dX6_clear_12 : decode cX6_clear 12 = .ok (.aload_n 2, 1) := by decide +kernel
theorem dX6_clear_13 : decode cX6_clear 13 = .ok (.getfield 46, 3) := by decide +kernel
theorem dX6_clear_16 : decode cX6_clear 16 = .ok (.istore_n 3, 1) := by decide +kernel
theorem dX6_clear_17 : decode cX6_clear 17 = .ok (.aload_n 2, 1) := by decide +kernel
theorem dX6_clear_18 : decode cX6_clear 18 = .ok (.iconst 0, 1) := by decide +kernel
theorem dX6_clear_19 : decode cX6_clear 19 = .ok (.putfield 46, 3) := by decide +kernel
theorem dX6_clear_22 : decode cX6_clear 22 = .ok (.aload_n 2, 1) := by decide +kernel
theorem dX6_clear_23 : decode cX6_clear 23 = .ok (.iconst 0, 1) := by decide +kernel
theorem dX6_clear_24 : decode cX6_clear 24 = .ok (.putfield 49, 3) := by decide +kernel
theorem dX6_clear_27 : decode cX6_clear 27 = .ok (.aload_n 2, 1) := by decide +kernel
theorem dX6_clear_28 : decode cX6_clear 28 = .ok (.invokevirtual 52, 3) := by decide +kernel
theorem dX6_clear_31 : decode cX6_clear 31 = .ok (.iload_n 3, 1) := by decide +kernel
theorem dX6_clear_32 : decode cX6_clear 32 = .ok (.ldc 55, 2) := by decide +kernel
theorem dX6_clear_34 : decode cX6_clear 34 = .ok (.iadd, 1) := by decide +kernel
theorem dX6_clear_35 : decode cX6_clear 35 = .ok (.ireturn, 1) := by decide +kernel
theorem dX6_come_0 : decode cX6_come 0 = .ok (.aload_n 0, 1) := by decide +kernel
theorem dX6_come_1 : decode cX6_come 1 = .ok (.iload_n 1, 1) := by decide +kernel
theorem dX6_come_2 : decode cX6_come 2 = .ok (.invokevirtual 38, 3) := by decide +kernel
theorem dX6_come_5 : decode cX6_come 5 = .ok (.astore 4, 2) := by decide +kernel
theorem dX6_come_7 : decode cX6_come 7 = .ok (.aload 4, 2) := by decide +kernel
theorem dX6_come_9 : decode cX6_come 9 = .ok (.ifnull 19, 3) := by decide +kernel
theorem dX6_come_12 : decode cX6_come 12 = .ok (.iload_n 2, 1) := by decide +kernel
theorem dX6_come_13 : decode cX6_come 13 = .ok (.invokestatic 56, 3) := by decide +kernel
theorem dX6_come_16 : decode cX6_come 16 = .ok (.ifCond .eq 12, 3) := by decide +kernel
theorem dX6_come_19 : decode cX6_come 19 = .ok (.aload 4, 2) := by decide +kernel
theorem dX6_come_21 : decode cX6_come 21 = .ok (.iload_n 3, 1) := by decide +kernel
theorem dX6_come_22 : decode cX6_come 22 = .ok (.invokevirtual 59, 3) := by decide +kernel
theorem dX6_come_25 : decode cX6_come 25 = .ok (.ifCond .ne 5, 3) := by decide +kernel
theorem dX6_come_28 : decode cX6_come 28 = .ok (.iconst (-1), 1) := by decide +kernel
theorem dX6_come_29 : decode cX6_come 29 = .ok (.ireturn, 1) := by decide +kernel
theorem dX6_come_30 : decode cX6_come 30 = .ok (.aload 4, 2) := by decide +kernel
theorem dX6_come_32 : decode cX6_come 32 = .ok (.getfield 49, 3) := by decide +kernel
theorem dX6_come_35 : decode cX6_come 35 = .ok (.iload_n 3, 1) := by decide +kernel
theorem dX6_come_36 : decode cX6_come 36 = .ok (.invokestatic 62, 3) := by decide +kernel
theorem dX6_come_39 : decode cX6_come 39 = .ok (.iadd, 1) := by decide +kernel
theorem dX6_come_40 : decode cX6_come 40 = .ok (.ldc 55, 2) := by decide +kernel
theorem dX6_come_42 : decode cX6_come 42 = .ok (.if_icmp .le 6, 3) := by decide +kernel
theorem dX6_come_45 : decode cX6_come 45 = .ok (.bipush (-3), 2) := by decide +kernel
theorem dX6_come_47 : decode cX6_come 47 = .ok (.ireturn, 1) := by decide +kernel
theorem dX6_come_48 : decode cX6_come 48 = .ok (.aload 4, 2) := by decide +kernel
theorem dX6_come_50 : decode cX6_come 50 = .ok (.dup, 1) := by decide +kernel
theorem dX6_come_51 : decode cX6_come 51 = .ok (.getfield 46, 3) := by decide +kernel
theorem dX6_come_54 : decode cX6_come 54 = .ok (.iload_n 3, 1) := by decide +kernel
theorem dX6_come_55 : decode cX6_come 55 = .ok (.iadd, 1) := by decide +kernel
theorem dX6_come_56 : decode cX6_come 56 = .ok (.putfield 46, 3) := by decide +kernel
theorem dX6_come_59 : decode cX6_come 59 = .ok (.aload 4, 2) := by decide +kernel
theorem dX6_come_61 : decode cX6_come 61 = .ok (.dup, 1) := by decide +kernel
theorem dX6_come_62 : decode cX6_come 62 = .ok (.getfield 49, 3) := by decide +kernel
theorem dX6_come_65 : decode cX6_come 65 = .ok (.iload_n 3, 1) := by decide +kernel
theorem dX6_come_66 : decode cX6_come 66 = .ok (.invokestatic 62, 3) := by decide +kernel
theorem dX6_come_69 : decode cX6_come 69 = .ok (.iadd, 1) := by decide +kernel
theorem dX6_come_70 : decode cX6_come 70 = .ok (.putfield 49, 3) := by decide +kernel
theorem dX6_come_73 : decode cX6_come 73 = .ok (.aload 4, 2) := by decide +kernel
theorem dX6_come_75 : decode cX6_come 75 = .ok (.iload_n 2, 1) := by decide +kernel
theorem dX6_come_76 : decode cX6_come 76 = .ok (.iload_n 3, 1) := by decide +kernel
theorem dX6_come_77 : decode cX6_come 77 = .ok (.invokevirtual 68, 3) := by decide +kernel
theorem dX6_come_80 : decode cX6_come 80 = .ok (.aload 4, 2) := by decide +kernel
theorem dX6_come_82 : decode cX6_come 82 = .ok (.getfield 46, 3) := by decide +kernel
theorem dX6_come_85 : decode cX6_come 85 = .ok (.ldc 55, 2) := by decide +kernel
theorem dX6_come_87 : decode cX6_come 87 = .ok (.iadd, 1) := by decide +kernel
theorem dX6_come_88 : decode cX6_come 88 = .ok (.ireturn, 1) := by decide +kernel
theorem dX6_merge_0 : decode cX6_merge 0 = .ok (.aload_n 0, 1) := by decide +kernel
theorem dX6_merge_1 : decode cX6_merge 1 = .ok (.iload_n 1, 1) := by decide +kernel
theorem dX6_merge_2 : decode cX6_merge 2 = .ok (.invokevirtual 38, 3) := by decide +kernel
theorem dX6_merge_5 : decode cX6_merge 5 = .ok (.astore_n 3, 1) := by decide +kernel
theorem dX6_merge_6 : decode cX6_merge 6 = .ok (.aload_n 0, 1) := by decide +kernel
theorem dX6_merge_7 : decode cX6_merge 7 = .ok (.iload_n 2, 1) := by decide +kernel
theorem dX6_merge_8 : decode cX6_merge 8 = .ok (.invokevirtual 38, 3) := by decide +kernel
theorem dX6_merge_11 : decode cX6_merge 11 = .ok (.astore 4, 2) := by decide +kernel
theorem dX6_merge_13 : decode cX6_merge 13 = .ok (.aload_n 3, 1) := by decide +kernel
theorem dX6_merge_14 : decode cX6_merge 14 = .ok (.ifnull 22, 3) := by decide +kernel
theorem dX6_merge_17 : decode cX6_merge 17 = .ok (.aload 4, 2) := by decide +kernel
theorem dX6_merge_19 : decode cX6_merge 19 = .ok (.ifnull 17, 3) := by decide +kernel
theorem dX6_merge_22 : decode cX6_merge 22 = .ok (.iload_n 1, 1) := by decide +kernel
theorem dX6_merge_23 : decode cX6_merge 23 = .ok (.iload_n 2, 1) := by decide +kernel
theorem dX6_merge_24 : decode cX6_merge 24 = .ok (.if_icmp .eq 12, 3) := by decide +kernel
theorem dX6_merge_27 : decode cX6_merge 27 = .ok (.aload_n 3, 1) := by decide +kernel
theorem dX6_merge_28 : decode cX6_merge 28 = .ok (.aload 4, 2) := by decide +kernel
