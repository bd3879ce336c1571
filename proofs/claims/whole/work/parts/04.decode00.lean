theorem dX0_init_0 : decode cX0_init 0 = .ok (.aload_n 0, 1) := by decide +kernel
theorem dX0_init_1 : decode cX0_init 1 = .ok (.iconst 2, 1) := by decide +kernel
theorem dX0_init_2 : decode cX0_init 2 = .ok (.iload_n 1, 1) := by decide +kernel
theorem dX0_init_3 : decode cX0_init 3 = .ok (.iload_n 2, 1) := by decide +kernel
theorem dX0_init_4 : decode cX0_init 4 = .ok (.invokespecial 3, 3) := by decide +kernel
theorem dX0_init_7 : decode cX0_init 7 = .ok (.aload_n 0, 1) := by decide +kernel
theorem dX0_init_8 : decode cX0_init 8 = .ok (.iload_n 1, 1) := by decide +kernel
theorem dX0_init_9 : decode cX0_init 9 = .ok (.newarray .int, 2) := by decide +kernel
theorem dX0_init_11 : decode cX0_init 11 = .ok (.putfield 9, 3) := by decide +kernel
theorem dX0_init_14 : decode cX0_init 14 = .ok (.return_, 1) := by decide +kernel
theorem dX0_twin_0 : decode cX0_twin 0 = .ok (.new 10, 3) := by decide +kernel
theorem dX0_twin_3 : decode cX0_twin 3 = .ok (.dup, 1) := by decide +kernel
theorem dX0_twin_4 : decode cX0_twin 4 = .ok (.aload_n 0, 1) := by decide +kernel
theorem dX0_twin_5 : decode cX0_twin 5 = .ok (.getfield 15, 3) := by decide +kernel
theorem dX0_twin_8 : decode cX0_twin 8 = .ok (.aload_n 0, 1) := by decide +kernel
theorem dX0_twin_9 : decode cX0_twin 9 = .ok (.getfield 19, 3) := by decide +kernel
theorem dX0_twin_12 : decode cX0_twin 12 = .ok (.invokespecial 22, 3) := by decide +kernel
theorem dX0_twin_15 : decode cX0_twin 15 = .ok (.astore_n 1, 1) := by decide +kernel
theorem dX0_twin_16 : decode cX0_twin 16 = .ok (.aload_n 1, 1) := by decide +kernel
theorem dX0_twin_17 : decode cX0_twin 17 = .ok (.aload_n 0, 1) := by decide +kernel
theorem dX0_twin_18 : decode cX0_twin 18 = .ok (.invokevirtual 25, 3) := by decide +kernel
theorem dX0_twin_21 : decode cX0_twin 21 = .ok (.aload_n 0, 1) := by decide +kernel
theorem dX0_twin_22 : decode cX0_twin 22 = .ok (.getfield 9, 3) := by decide +kernel
theorem dX0_twin_25 : decode cX0_twin 25 = .ok (.aload_n 1, 1) := by decide +kernel
theorem dX0_twin_26 : decode cX0_twin 26 = .ok (.getfield 9, 3) := by decide +kernel
theorem dX0_twin_29 : decode cX0_twin 29 = .ok (.invokestatic 29, 3) := by decide +kernel
theorem dX0_twin_32 : decode cX0_twin 32 = .ok (.aload_n 1, 1) := by decide +kernel
theorem dX0_twin_33 : decode cX0_twin 33 = .ok (.areturn, 1) := by decide +kernel
theorem dX0_forget_0 : decode cX0_forget 0 = .ok (.aload_n 0, 1) := by decide +kernel
theorem dX0_forget_1 : decode cX0_forget 1 = .ok (.getfield 9, 3) := by decide +kernel
theorem dX0_forget_4 : decode cX0_forget 4 = .ok (.invokestatic 33, 3) := by decide +kernel
theorem dX0_forget_7 : decode cX0_forget 7 = .ok (.return_, 1) := by decide +kernel
theorem dX0_take_0 : decode cX0_take 0 = .ok (.iconst 0, 1) := by decide +kernel
theorem dX0_take_1 : decode cX0_take 1 = .ok (.istore_n 3, 1) := by decide +kernel
theorem dX0_take_2 : decode cX0_take 2 = .ok (.iload_n 3, 1) := by decide +kernel
theorem dX0_take_3 : decode cX0_take 3 = .ok (.iconst 4, 1) := by decide +kernel
theorem dX0_take_4 : decode cX0_take 4 = .ok (.if_icmp .ge 42, 3) := by decide +kernel
theorem dX0_take_7 : decode cX0_take 7 = .ok (.aload_n 0, 1) := by decide +kernel
theorem dX0_take_8 : decode cX0_take 8 = .ok (.getfield 19, 3) := by decide +kernel
theorem dX0_take_11 : decode cX0_take 11 = .ok (.iload_n 3, 1) := by decide +kernel
theorem dX0_take_12 : decode cX0_take 12 = .ok (.iload_n 1, 1) := by decide +kernel
theorem dX0_take_13 : decode cX0_take 13 = .ok (.aload_n 0, 1) := by decide +kernel
theorem dX0_take_14 : decode cX0_take 14 = .ok (.getfield 15, 3) := by decide +kernel
theorem dX0_take_17 : decode cX0_take 17 = .ok (.invokestatic 37, 3) := by decide +kernel
theorem dX0_take_20 : decode cX0_take 20 = .ok (.istore 4, 2) := by decide +kernel
theorem dX0_take_22 : decode cX0_take 22 = .ok (.iload 4, 2) := by decide +kernel
theorem dX0_take_24 : decode cX0_take 24 = .ok (.aload_n 0, 1) := by decide +kernel
theorem dX0_take_25 : decode cX0_take 25 = .ok (.getfield 9, 3) := by decide +kernel
theorem dX0_take_28 : decode cX0_take 28 = .ok (.arraylength, 1) := by decide +kernel
theorem dX0_take_29 : decode cX0_take 29 = .ok (.if_icmp .ge 11, 3) := by decide +kernel
theorem dX0_take_32 : decode cX0_take 32 = .ok (.aload_n 0, 1) := by decide +kernel
theorem dX0_take_33 : decode cX0_take 33 = .ok (.getfield 9, 3) := by decide +kernel
theorem dX0_take_36 : decode cX0_take 36 = .ok (.iload 4, 2) := by decide +kernel
theorem dX0_take_38 : decode cX0_take 38 = .ok (.iconst 1, 1) := by decide +kernel
theorem dX0_take_39 : decode cX0_take 39 = .ok (.iastore, 1) := by decide +kernel
theorem dX0_take_40 : decode cX0_take 40 = .ok (.iinc 3 1, 3) := by decide +kernel
theorem dX0_take_43 : decode cX0_take 43 = .ok (.goto (-41), 3) := by decide +kernel
theorem dX0_take_46 : decode cX0_take 46 = .ok (.return_, 1) := by decide +kernel
theorem dX0_join_0 : decode cX0_join 0 = .ok (.aload_n 1, 1) := by decide +kernel
theorem dX0_join_1 : decode cX0_join 1 = .ok (.instanceof 10, 3) := by decide +kernel
theorem dX0_join_4 : decode cX0_join 4 = .ok (.ifCond .eq 49, 3) := by decide +kernel
theorem dX0_join_7 : decode cX0_join 7 = .ok (.aload_n 1, 1) := by decide +kernel
theorem dX0_join_8 : decode cX0_join 8 = .ok (.checkcast 10, 3) := by decide +kernel
theorem dX0_join_11 : decode cX0_join 11 = .ok (.astore_n 2, 1) := by decide +kernel
theorem dX0_join_12 : decode cX0_join 12 = .ok (.iconst 0, 1) := by decide +kernel
theorem dX0_join_13 : decode cX0_join 13 = .ok (.istore_n 3, 1) := by decide +kernel
theorem dX0_join_14 : decode cX0_join 14 = .ok (.iload_n 3, 1) := by decide +kernel
theorem dX0_join_15 : decode cX0_join 15 = .ok (.aload_n 0, 1) := by decide +kernel
theorem dX0_join_16 : decode cX0_join 16 = .ok (.getfield 9, 3) := by decide +kernel
theorem dX0_join_19 : decode cX0_join 19 = .ok (.arraylength, 1) := by decide +kernel
theorem dX0_join_20 : decode cX0_join 20 = .ok (.if_icmp .ge 33, 3) := by decide +kernel
theorem dX0_join_23 : decode cX0_join 23 = .ok (.iload_n 3, 1) := by decide +kernel
theorem dX0_join_24 : decode cX0_join 24 = .ok (.aload_n 2, 1) := by decide +kernel
theorem dX0_join_25 : decode cX0_join 25 = .ok (.getfield 9, 3) := by decide +kernel
theorem dX0_join_28 : decode cX0_join 28 = .ok (.arraylength, 1) := by decide +kernel
theorem dX0_join_29 : decode cX0_join 29 = .ok (.if_icmp .ge 24, 3) := by decide +kernel
theorem dX0_join_32 : decode cX0_join 32 = .ok (.aload_n 0, 1) := by decide +kernel
theorem dX0_join_33 : decode cX0_join 33 = .ok (.getfield 9, 3) := by decide +kernel
theorem dX0_join_36 : decode cX0_join 36 = .ok (.iload_n 3, 1) := by decide +kernel
theorem dX0_join_37 : decode cX0_join 37 = .ok (.dup2, 1) := by decide +kernel
theorem dX0_join_38 : decode cX0_join 38 = .ok (.iaload, 1) := by decide +kernel
theorem dX0_join_39 : decode cX0_join 39 = .ok (.aload_n 2, 1) := by decide +kernel
theorem dX0_join_40 : decode cX0_join 40 = .ok (.getfield 9, 3) := by decide +kernel
theorem dX0_join_43 : decode cX0_join 43 = .ok (.iload_n 3, 1) := by decide +kernel
theorem dX0_join_44 : decode cX0_join 44 = .ok (.iaload, 1) := by decide +kernel
theorem dX0_join_45 : decode cX0_join 45 = .ok (.ior, 1) := by decide +kernel
theorem dX0_join_46 : decode cX0_join 46 = .ok (.iastore, 1) := by decide +kernel
theorem dX0_join_47 : decode cX0_join 47 = .ok (.iinc 3 1, 3) := by decide +kernel
theorem dX0_join_50 : decode cX0_join 50 = .ok (.goto (-36), 3) := by decide +kernel
theorem dX0_join_53 : decode cX0_join 53 = .ok (.return_, 1) := by decide +kernel
theorem dX0_howManyKept_0 : decode cX0_howManyKept 0 = .ok (.aload_n 0, 1) := by decide +kernel
theorem dX0_howManyKept_1 : decode cX0_howManyKept 1 = .ok (.getfield 9, 3) := by decide +kernel
theorem dX0_howManyKept_4 : decode cX0_howManyKept 4 = .ok (.invokestatic 41, 3) := by decide +kernel
theorem dX0_howManyKept_7 : decode cX0_howManyKept 7 = .ok (.ireturn, 1) := by decide +kernel
theorem dX0_keptAt_0 : decode cX0_keptAt 0 = .ok (.iload_n 1, 1) := by decide +kernel
theorem dX0_keptAt_1 : decode cX0_keptAt 1 = .ok (.ifCond .lt 16, 3) := by decide +kernel
theorem dX0_keptAt_4 : decode cX0_keptAt 4 = .ok (.iload_n 1, 1) := by decide +kernel
theorem dX0_keptAt_5 : decode cX0_keptAt 5 = .ok (.aload_n 0, 1) := by decide +kernel
theorem dX0_keptAt_6 : decode cX0_keptAt 6 = .ok (.getfield 9, 3) := by decide +kernel
theorem dX0_keptAt_9 : decode cX0_keptAt 9 = .ok (.arraylength, 1) := by decide +kernel
theorem dX0_keptAt_10 : decode cX0_keptAt 10 = .ok (.if_icmp .ge 7, 3) := by decide +kernel
theorem dX0_keptAt_13 : decode cX0_keptAt 13 = .ok (.iload_n 2, 1) := by decide +kernel
theorem dX0_keptAt_14 : decode cX0_keptAt 14 = .ok (.ifCond .eq 7, 3) := by decide +kernel
theorem dX0_keptAt_17 : decode cX0_keptAt 17 = .ok (.iconst (-1), 1) := by decide +kernel
theorem dX0_keptAt_18 : decode cX0_keptAt 18 = .ok (.goto 9, 3) := by decide +kernel
theorem dX0_keptAt_21 : decode cX0_keptAt 21 = .ok (.aload_n 0, 1) := by decide +kernel
theorem dX0_keptAt_22 : decode cX0_keptAt 22 = .ok (.getfield 9, 3) := by decide +kernel
theorem dX0_keptAt_25 : decode cX0_keptAt 25 = .ok (.iload_n 1, 1) := by decide +kernel
theorem dX0_keptAt_26 : decode cX0_keptAt 26 = .ok (.iaload, 1) := by decide +kernel
theorem dX0_keptAt_27 : decode cX0_keptAt 27 = .ok (.ireturn, 1) := by decide +kernel
theorem dX0_holds_0 : decode cX0_holds 0 = .ok (.iconst 1, 1) := by decide +kernel
theorem dX0_holds_1 : decode cX0_holds 1 = .ok (.istore_n 2, 1) := by decide +kernel
theorem dX0_holds_2 : decode cX0_holds 2 = .ok (.iconst 0, 1) := by decide +kernel
theorem dX0_holds_3 : decode cX0_holds 3 = .ok (.istore_n 3, 1) := by decide +kernel
theorem dX0_holds_4 : decode cX0_holds 4 = .ok (.iload_n 3, 1) := by decide +kernel
theorem dX0_holds_5 : decode cX0_holds 5 = .ok (.iconst 4, 1) := by decide +kernel
theorem dX0_holds_6 : decode cX0_holds 6 = .ok (.if_icmp .ge 44, 3) := by decide +kernel
theorem dX0_holds_9 : decode cX0_holds 9 = .ok (.aload_n 0, 1) := by decide +kernel
theorem dX0_holds_10 : decode cX0_holds 10 = .ok (.getfield 19, 3) := by decide +kernel
theorem dX0_holds_13 : decode cX0_holds 13 = .ok (.iload_n 3, 1) := by decide +kernel
theorem dX0_holds_14 : decode cX0_holds 14 = .ok (.iload_n 1, 1) := by decide +kernel
theorem dX0_holds_15 : decode cX0_holds 15 = .ok (.aload_n 0, 1) := by decide +kernel
theorem dX0_holds_16 : decode cX0_holds 16 = .ok (.getfield 15, 3) := by decide +kernel
theorem dX0_holds_19 : decode cX0_holds 19 = .ok (.invokestatic 37, 3) := by decide +kernel
theorem dX0_holds_22 : decode cX0_holds 22 = .ok (.istore 4, 2) := by decide +kernel
theorem dX0_holds_24 : decode cX0_holds 24 = .ok (.iload 4, 2) := by decide +kernel
theorem dX0_holds_26 : decode cX0_holds 26 = .ok (.aload_n 0, 1) := by decide +kernel
theorem dX0_holds_27 : decode cX0_holds 27 = .ok (.getfield 9, 3) := by decide +kernel
theorem dX0_holds_30 : decode cX0_holds 30 = .ok (.arraylength, 1) := by decide +kernel
theorem dX0_holds_31 : decode cX0_holds 31 = .ok (.if_icmp .ge 13, 3) := by decide +kernel
theorem dX0_holds_34 : decode cX0_holds 34 = .ok (.iload_n 2, 1) := by decide +kernel
theorem dX0_holds_35 : decode cX0_holds 35 = .ok (.aload_n 0, 1) := by decide +kernel
theorem dX0_holds_36 : decode cX0_holds 36 = .ok (.getfield 9, 3) := by decide +kernel
theorem dX0_holds_39 : decode cX0_holds 39 = .ok (.iload 4, 2) := by decide +kernel
theorem dX0_holds_41 : decode cX0_holds 41 = .ok (.iaload, 1) := by decide +kernel
theorem dX0_holds_42 : decode cX0_holds 42 = .ok (.iand, 1) := by decide +kernel
theorem dX0_holds_43 : decode cX0_holds 43 = .ok (.istore_n 2, 1) := by decide +kernel
theorem dX0_holds_44 : decode cX0_holds 44 = .ok (.iinc 3 1, 3) := by decide +kernel
theorem dX0_holds_47 : decode cX0_holds 47 = .ok (.goto (-43), 3) := by decide +kernel
theorem dX0_holds_50 : decode cX0_holds 50 = .ok (.iload_n 2, 1) := by decide +kernel
theorem dX0_holds_51 : decode cX0_holds 51 = .ok (.ireturn, 1) := by decide +kernel
theorem dX1_init_0 : decode cX1_init 0 = .ok (.aload_n 0, 1) := by decide +kernel
theorem dX1_init_1 : decode cX1_init 1 = .ok (.iconst 0, 1) := by decide +kernel
theorem dX1_init_2 : decode cX1_init 2 = .ok (.iload_n 1, 1) := by decide +kernel
theorem dX1_init_3 : decode cX1_init 3 = .ok (.iload_n 2, 1) := by decide +kernel
theorem dX1_init_4 : decode cX1_init 4 = .ok (.invokespecial 3, 3) := by decide +kernel
theorem dX1_init_7 : decode cX1_init 7 = .ok (.aload_n 0, 1) := by decide +kernel
theorem dX1_init_8 : decode cX1_init 8 = .ok (.iconst 2, 1) := by decide +kernel
theorem dX1_init_9 : decode cX1_init 9 = .ok (.iload_n 1, 1) := by decide +kernel
theorem dX1_init_10 : decode cX1_init 10 = .ok (.imul, 1) := by decide +kernel
theorem dX1_init_11 : decode cX1_init 11 = .ok (.newarray .int, 2) := by decide +kernel
theorem dX1_init_13 : decode cX1_init 13 = .ok (.putfield 9, 3) := by decide +kernel
theorem dX1_init_16 : decode cX1_init 16 = .ok (.aload_n 0, 1) := by decide +kernel
theorem dX1_init_17 : decode cX1_init 17 = .ok (.iconst 2, 1) := by decide +kernel
theorem dX1_init_18 : decode cX1_init 18 = .ok (.iload_n 1, 1) := by decide +kernel
theorem dX1_init_19 : decode cX1_init 19 = .ok (.imul, 1) := by decide +kernel
theorem dX1_init_20 : decode cX1_init 20 = .ok (.newarray .int, 2) := by decide +kernel
theorem dX1_init_22 : decode cX1_init 22 = .ok (.putfield 15, 3) := by decide +kernel
theorem dX1_init_25 : decode cX1_init 25 = .ok (.aload_n 0, 1) := by decide +kernel
theorem dX1_init_26 : decode cX1_init 26 = .ok (.iconst 0, 1) := by decide +kernel
theorem dX1_init_27 : decode cX1_init 27 = .ok (.putfield 18, 3) := by decide +kernel
theorem dX1_init_30 : decode cX1_init 30 = .ok (.aload_n 0, 1) := by decide +kernel
theorem dX1_init_31 : decode cX1_init 31 = .ok (.iconst 0, 1) := by decide +kernel
theorem dX1_init_32 : decode cX1_init 32 = .ok (.putfield 22, 3) := by decide +kernel
theorem dX1_init_35 : decode cX1_init 35 = .ok (.return_, 1) := by decide +kernel
theorem dX1_twin_0 : decode cX1_twin 0 = .ok (.new 10, 3) := by decide +kernel
theorem dX1_twin_3 : decode cX1_twin 3 = .ok (.dup, 1) := by decide +kernel
theorem dX1_twin_4 : decode cX1_twin 4 = .ok (.aload_n 0, 1) := by decide +kernel
theorem dX1_twin_5 : decode cX1_twin 5 = .ok (.getfield 25, 3) := by decide +kernel
theorem dX1_twin_8 : decode cX1_twin 8 = .ok (.aload_n 0, 1) := by decide +kernel
theorem dX1_twin_9 : decode cX1_twin 9 = .ok (.getfield 28, 3) := by decide +kernel
theorem dX1_twin_12 : decode cX1_twin 12 = .ok (.invokespecial 31, 3) := by decide +kernel
theorem dX1_twin_15 : decode cX1_twin 15 = .ok (.astore_n 1, 1) := by decide +kernel
theorem dX1_twin_16 : decode cX1_twin 16 = .ok (.aload_n 1, 1) := by decide +kernel
theorem dX1_twin_17 : decode cX1_twin 17 = .ok (.aload_n 0, 1) := by decide +kernel
theorem dX1_twin_18 : decode cX1_twin 18 = .ok (.invokevirtual 34, 3) := by decide +kernel
theorem dX1_twin_21 : decode cX1_twin 21 = .ok (.aload_n 0, 1) := by decide +kernel
theorem dX1_twin_22 : decode cX1_twin 22 = .ok (.getfield 9, 3) := by decide +kernel
theorem dX1_twin_25 : decode cX1_twin 25 = .ok (.aload_n 1, 1) := by decide +kernel
theorem dX1_twin_26 : decode cX1_twin 26 = .ok (.getfield 9, 3) := by decide +kernel
theorem dX1_twin_29 : decode cX1_twin 29 = .ok (.invokestatic 38, 3) := by decide +kernel
theorem dX1_twin_32 : decode cX1_twin 32 = .ok (.aload_n 0, 1) := by decide +kernel
theorem dX1_twin_33 : decode cX1_twin 33 = .ok (.getfield 15, 3) := by decide +kernel
theorem dX1_twin_36 : decode cX1_twin 36 = .ok (.aload_n 1, 1) := by decide +kernel
theorem dX1_twin_37 : decode cX1_twin 37 = .ok (.getfield 15, 3) := by decide +kernel
theorem dX1_twin_40 : decode cX1_twin 40 = .ok (.invokestatic 38, 3) := by decide +kernel
theorem dX1_twin_43 : decode cX1_twin 43 = .ok (.aload_n 1, 1) := by decide +kernel
theorem dX1_twin_44 : decode cX1_twin 44 = .ok (.aload_n 0, 1) := by decide +kernel
theorem dX1_twin_45 : decode cX1_twin 45 = .ok (.getfield 18, 3) := by decide +kernel
theorem dX1_twin_48 : decode cX1_twin 48 = .ok (.putfield 18, 3) := by decide +kernel
theorem dX1_twin_51 : decode cX1_twin 51 = .ok (.aload_n 1, 1) := by decide +kernel
theorem dX1_twin_52 : decode cX1_twin 52 = .ok (.aload_n 0, 1) := by decide +kernel
theorem dX1_twin_53 : decode cX1_twin 53 = .ok (.getfield 22, 3) := by decide +kernel
theorem dX1_twin_56 : decode cX1_twin 56 = .ok (.putfield 22, 3) := by decide +kernel
theorem dX1_twin_59 : decode cX1_twin 59 = .ok (.aload_n 1, 1) := by decide +kernel
theorem dX1_twin_60 : decode cX1_twin 60 = .ok (.areturn, 1) := by decide +kernel
theorem dX1_forget_0 : decode cX1_forget 0 = .ok (.aload_n 0, 1) := by decide +kernel
theorem dX1_forget_1 : decode cX1_forget 1 = .ok (.iconst 0, 1) := by decide +kernel
theorem dX1_forget_2 : decode cX1_forget 2 = .ok (.putfield 18, 3) := by decide +kernel
theorem dX1_forget_5 : decode cX1_forget 5 = .ok (.aload_n 0, 1) := by decide +kernel
theorem dX1_forget_6 : decode cX1_forget 6 = .ok (.iconst 0, 1) := by decide +kernel
theorem dX1_forget_7 : decode cX1_forget 7 = .ok (.putfield 22, 3) := by decide +kernel
theorem dX1_forget_10 : decode cX1_forget 10 = .ok (.return_, 1) := by decide +kernel
theorem dX1_take_0 : decode cX1_take 0 = .ok (.iload_n 2, 1) := by decide +kernel
theorem dX1_take_1 : decode cX1_take 1 = .ok (.istore_n 3, 1) := by decide +kernel
theorem dX1_take_2 : decode cX1_take 2 = .ok (.aload_n 0, 1) := by decide +kernel
theorem dX1_take_3 : decode cX1_take 3 = .ok (.getfield 18, 3) := by decide +kernel
theorem dX1_take_6 : decode cX1_take 6 = .ok (.aload_n 0, 1) := by decide +kernel
theorem dX1_take_7 : decode cX1_take 7 = .ok (.getfield 25, 3) := by decide +kernel
theorem dX1_take_10 : decode cX1_take 10 = .ok (.if_icmp .lt 48, 3) := by decide +kernel
theorem dX1_take_13 : decode cX1_take 13 = .ok (.iload_n 1, 1) := by decide +kernel
theorem dX1_take_14 : decode cX1_take 14 = .ok (.aload_n 0, 1) := by decide +kernel
theorem dX1_take_15 : decode cX1_take 15 = .ok (.getfield 9, 3) := by decide +kernel
theorem dX1_take_18 : decode cX1_take 18 = .ok (.aload_n 0, 1) := by decide +kernel
theorem dX1_take_19 : decode cX1_take 19 = .ok (.getfield 18, 3) := by decide +kernel
theorem dX1_take_22 : decode cX1_take 22 = .ok (.invokestatic 42, 3) := by decide +kernel
theorem dX1_take_25 : decode cX1_take 25 = .ok (.iload_n 1, 1) := by decide +kernel
theorem dX1_take_26 : decode cX1_take 26 = .ok (.aload_n 0, 1) := by decide +kernel
theorem dX1_take_27 : decode cX1_take 27 = .ok (.getfield 9, 3) := by decide +kernel
theorem dX1_take_30 : decode cX1_take 30 = .ok (.aload_n 0, 1) := by decide +kernel
theorem dX1_take_31 : decode cX1_take 31 = .ok (.getfield 18, 3) := by decide +kernel
theorem dX1_take_34 : decode cX1_take 34 = .ok (.invokestatic 46, 3) := by decide +kernel
theorem dX1_take_37 : decode cX1_take 37 = .ok (.ifCond .ne 21, 3) := by decide +kernel
theorem dX1_take_40 : decode cX1_take 40 = .ok (.aload_n 0, 1) := by decide +kernel
theorem dX1_take_41 : decode cX1_take 41 = .ok (.iload_n 3, 1) := by decide +kernel
theorem dX1_take_42 : decode cX1_take 42 = .ok (.invokevirtual 50, 3) := by decide +kernel
theorem dX1_take_45 : decode cX1_take 45 = .ok (.istore 4, 2) := by decide +kernel
theorem dX1_take_47 : decode cX1_take 47 = .ok (.iload_n 3, 1) := by decide +kernel
theorem dX1_take_48 : decode cX1_take 48 = .ok (.iload 4, 2) := by decide +kernel
theorem dX1_take_50 : decode cX1_take 50 = .ok (.isub, 1) := by decide +kernel
theorem dX1_take_51 : decode cX1_take 51 = .ok (.istore_n 3, 1) := by decide +kernel
theorem dX1_take_52 : decode cX1_take 52 = .ok (.aload_n 0, 1) := by decide +kernel
theorem dX1_take_53 : decode cX1_take 53 = .ok (.iload 4, 2) := by decide +kernel
theorem dX1_take_55 : decode cX1_take 55 = .ok (.invokevirtual 54, 3) := by decide +kernel
theorem dX1_take_58 : decode cX1_take 58 = .ok (.iload_n 3, 1) := by decide +kernel
theorem dX1_take_59 : decode cX1_take 59 = .ok (.ifCond .le 9, 3) := by decide +kernel
theorem dX1_take_62 : decode cX1_take 62 = .ok (.aload_n 0, 1) := by decide +kernel
theorem dX1_take_63 : decode cX1_take 63 = .ok (.iload_n 1, 1) := by decide +kernel
theorem dX1_take_64 : decode cX1_take 64 = .ok (.iload_n 3, 1) := by decide +kernel
theorem dX1_take_65 : decode cX1_take 65 = .ok (.invokevirtual 58, 3) := by decide +kernel
theorem dX1_take_68 : decode cX1_take 68 = .ok (.return_, 1) := by decide +kernel
theorem dX1_join_0 : decode cX1_join 0 = .ok (.aload_n 1, 1) := by decide +kernel
theorem dX1_join_1 : decode cX1_join 1 = .ok (.instanceof 10, 3) := by decide +kernel
theorem dX1_join_4 : decode cX1_join 4 = .ok (.ifCond .eq 81, 3) := by decide +kernel
theorem dX1_join_7 : decode cX1_join 7 = .ok (.aload_n 1, 1) := by decide +kernel
theorem dX1_join_8 : decode cX1_join 8 = .ok (.checkcast 10, 3) := by decide +kernel
theorem dX1_join_11 : decode cX1_join 11 = .ok (.astore_n 2, 1) := by decide +kernel
theorem dX1_join_12 : decode cX1_join 12 = .ok (.iconst 0, 1) := by decide +kernel
theorem dX1_join_13 : decode cX1_join 13 = .ok (.istore_n 3, 1) := by decide +kernel
theorem dX1_join_14 : decode cX1_join 14 = .ok (.iload_n 3, 1) := by decide +kernel
theorem dX1_join_15 : decode cX1_join 15 = .ok (.aload_n 2, 1) := by decide +kernel
theorem dX1_join_16 : decode cX1_join 16 = .ok (.getfield 18, 3) := by decide +kernel
theorem dX1_join_19 : decode cX1_join 19 = .ok (.if_icmp .ge 34, 3) := by decide +kernel
theorem dX1_join_22 : decode cX1_join 22 = .ok (.iload_n 3, 1) := by decide +kernel
theorem dX1_join_23 : decode cX1_join 23 = .ok (.aload_n 2, 1) := by decide +kernel
theorem dX1_join_24 : decode cX1_join 24 = .ok (.getfield 9, 3) := by decide +kernel
theorem dX1_join_27 : decode cX1_join 27 = .ok (.arraylength, 1) := by decide +kernel
theorem dX1_join_28 : decode cX1_join 28 = .ok (.if_icmp .ge 25, 3) := by decide +kernel
theorem dX1_join_31 : decode cX1_join 31 = .ok (.aload_n 0, 1) := by decide +kernel
theorem dX1_join_32 : decode cX1_join 32 = .ok (.aload_n 2, 1) := by decide +kernel
theorem dX1_join_33 : decode cX1_join 33 = .ok (.getfield 9, 3) := by decide +kernel
theorem dX1_join_36 : decode cX1_join 36 = .ok (.iload_n 3, 1) := by decide +kernel
theorem dX1_join_37 : decode cX1_join 37 = .ok (.iaload, 1) := by decide +kernel
theorem dX1_join_38 : decode cX1_join 38 = .ok (.aload_n 2, 1) := by decide +kernel
theorem dX1_join_39 : decode cX1_join 39 = .ok (.getfield 15, 3) := by decide +kernel
theorem dX1_join_42 : decode cX1_join 42 = .ok (.iload_n 3, 1) := by decide +kernel
theorem dX1_join_43 : decode cX1_join 43 = .ok (.iaload, 1) := by decide +kernel
theorem dX1_join_44 : decode cX1_join 44 = .ok (.invokevirtual 58, 3) := by decide +kernel
theorem dX1_join_47 : decode cX1_join 47 = .ok (.iinc 3 1, 3) := by decide +kernel
theorem dX1_join_50 : decode cX1_join 50 = .ok (.goto (-36), 3) := by decide +kernel
theorem dX1_join_53 : decode cX1_join 53 = .ok (.aload_n 0, 1) := by decide +kernel
theorem dX1_join_54 : decode cX1_join 54 = .ok (.dup, 1) := by decide +kernel
theorem dX1_join_55 : decode cX1_join 55 = .ok (.getfield 22, 3) := by decide +kernel
theorem dX1_join_58 : decode cX1_join 58 = .ok (.aload_n 2, 1) := by decide +kernel
theorem dX1_join_59 : decode cX1_join 59 = .ok (.getfield 22, 3) := by decide +kernel
theorem dX1_join_62 : decode cX1_join 62 = .ok (.iadd, 1) := by decide +kernel
theorem dX1_join_63 : decode cX1_join 63 = .ok (.putfield 22, 3) := by decide +kernel
theorem dX1_join_66 : decode cX1_join 66 = .ok (.aload_n 0, 1) := by decide +kernel
theorem dX1_join_67 : decode cX1_join 67 = .ok (.getfield 18, 3) := by decide +kernel
theorem dX1_join_70 : decode cX1_join 70 = .ok (.aload_n 0, 1) := by decide +kernel
theorem dX1_join_71 : decode cX1_join 71 = .ok (.getfield 25, 3) := by decide +kernel
theorem dX1_join_74 : decode cX1_join 74 = .ok (.if_icmp .le 11, 3) := by decide +kernel
theorem dX1_join_77 : decode cX1_join 77 = .ok (.aload_n 0, 1) := by decide +kernel
theorem dX1_join_78 : decode cX1_join 78 = .ok (.aload_n 0, 1) := by decide +kernel
theorem dX1_join_79 : decode cX1_join 79 = .ok (.invokevirtual 61, 3) := by decide +kernel
theorem dX1_join_82 : decode cX1_join 82 = .ok (.invokevirtual 54, 3) := by decide +kernel
theorem dX1_join_85 : decode cX1_join 85 = .ok (.return_, 1) := by decide +kernel
theorem dX1_howManyKept_0 : decode cX1_howManyKept 0 = .ok (.aload_n 0, 1) := by decide +kernel
theorem dX1_howManyKept_1 : decode cX1_howManyKept 1 = .ok (.getfield 18, 3) := by decide +kernel
theorem dX1_howManyKept_4 : decode cX1_howManyKept 4 = .ok (.ireturn, 1) := by decide +kernel
theorem dX1_keptAt_0 : decode cX1_keptAt 0 = .ok (.iload_n 1, 1) := by decide +kernel
theorem dX1_keptAt_1 : decode cX1_keptAt 1 = .ok (.ifCond .lt 29, 3) := by decide +kernel
theorem dX1_keptAt_4 : decode cX1_keptAt 4 = .ok (.iload_n 1, 1) := by decide +kernel
theorem dX1_keptAt_5 : decode cX1_keptAt 5 = .ok (.aload_n 0, 1) := by decide +kernel
theorem dX1_keptAt_6 : decode cX1_keptAt 6 = .ok (.getfield 18, 3) := by decide +kernel
theorem dX1_keptAt_9 : decode cX1_keptAt 9 = .ok (.if_icmp .ge 21, 3) := by decide +kernel
theorem dX1_keptAt_12 : decode cX1_keptAt 12 = .ok (.iload_n 1, 1) := by decide +kernel
theorem dX1_keptAt_13 : decode cX1_keptAt 13 = .ok (.aload_n 0, 1) := by decide +kernel
theorem dX1_keptAt_14 : decode cX1_keptAt 14 = .ok (.getfield 9, 3) := by decide +kernel
theorem dX1_keptAt_17 : decode cX1_keptAt 17 = .ok (.arraylength, 1) := by decide +kernel
theorem dX1_keptAt_18 : decode cX1_keptAt 18 = .ok (.if_icmp .ge 12, 3) := by decide +kernel
theorem dX1_keptAt_21 : decode cX1_keptAt 21 = .ok (.iload_n 2, 1) := by decide +kernel
theorem dX1_keptAt_22 : decode cX1_keptAt 22 = .ok (.ifCond .lt 8, 3) := by decide +kernel
theorem dX1_keptAt_25 : decode cX1_keptAt 25 = .ok (.iload_n 2, 1) := by decide +kernel
theorem dX1_keptAt_26 : decode cX1_keptAt 26 = .ok (.iconst 1, 1) := by decide +kernel
theorem dX1_keptAt_27 : decode cX1_keptAt 27 = .ok (.if_icmp .le 5, 3) := by decide +kernel
theorem dX1_keptAt_30 : decode cX1_keptAt 30 = .ok (.iconst (-1), 1) := by decide +kernel
theorem dX1_keptAt_31 : decode cX1_keptAt 31 = .ok (.ireturn, 1) := by decide +kernel
theorem dX1_keptAt_32 : decode cX1_keptAt 32 = .ok (.iload_n 2, 1) := by decide +kernel
theorem dX1_keptAt_33 : decode cX1_keptAt 33 = .ok (.ifCond .ne 12, 3) := by decide +kernel
theorem dX1_keptAt_36 : decode cX1_keptAt 36 = .ok (.aload_n 0, 1) := by decide +kernel
theorem dX1_keptAt_37 : decode cX1_keptAt 37 = .ok (.getfield 9, 3) := by decide +kernel
theorem dX1_keptAt_40 : decode cX1_keptAt 40 = .ok (.iload_n 1, 1) := by decide +kernel
theorem dX1_keptAt_41 : decode cX1_keptAt 41 = .ok (.iaload, 1) := by decide +kernel
theorem dX1_keptAt_42 : decode cX1_keptAt 42 = .ok (.goto 9, 3) := by decide +kernel
theorem dX1_keptAt_45 : decode cX1_keptAt 45 = .ok (.aload_n 0, 1) := by decide +kernel
theorem dX1_keptAt_46 : decode cX1_keptAt 46 = .ok (.getfield 15, 3) := by decide +kernel
theorem dX1_keptAt_49 : decode cX1_keptAt 49 = .ok (.iload_n 1, 1) := by decide +kernel
theorem dX1_keptAt_50 : decode cX1_keptAt 50 = .ok (.iaload, 1) := by decide +kernel
theorem dX1_keptAt_51 : decode cX1_keptAt 51 = .ok (.ireturn, 1) := by decide +kernel
theorem dX1_mayLack_0 : decode cX1_mayLack 0 = .ok (.aload_n 0, 1) := by decide +kernel
theorem dX1_mayLack_1 : decode cX1_mayLack 1 = .ok (.getfield 22, 3) := by decide +kernel
theorem dX1_mayLack_4 : decode cX1_mayLack 4 = .ok (.ireturn, 1) := by decide +kernel
theorem dX1_atLeast_0 : decode cX1_atLeast 0 = .ok (.iload_n 1, 1) := by decide +kernel
theorem dX1_atLeast_1 : decode cX1_atLeast 1 = .ok (.aload_n 0, 1) := by decide +kernel
theorem dX1_atLeast_2 : decode cX1_atLeast 2 = .ok (.getfield 9, 3) := by decide +kernel
theorem dX1_atLeast_5 : decode cX1_atLeast 5 = .ok (.aload_n 0, 1) := by decide +kernel
theorem dX1_atLeast_6 : decode cX1_atLeast 6 = .ok (.getfield 18, 3) := by decide +kernel
theorem dX1_atLeast_9 : decode cX1_atLeast 9 = .ok (.invokestatic 42, 3) := by decide +kernel
theorem dX1_atLeast_12 : decode cX1_atLeast 12 = .ok (.istore_n 2, 1) := by decide +kernel
theorem dX1_atLeast_13 : decode cX1_atLeast 13 = .ok (.iload_n 2, 1) := by decide +kernel
theorem dX1_atLeast_14 : decode cX1_atLeast 14 = .ok (.iload_n 1, 1) := by decide +kernel
theorem dX1_atLeast_15 : decode cX1_atLeast 15 = .ok (.aload_n 0, 1) := by decide +kernel
theorem dX1_atLeast_16 : decode cX1_atLeast 16 = .ok (.getfield 9, 3) := by decide +kernel
theorem dX1_atLeast_19 : decode cX1_atLeast 19 = .ok (.aload_n 0, 1) := by decide +kernel
theorem dX1_atLeast_20 : decode cX1_atLeast 20 = .ok (.getfield 18, 3) := by decide +kernel
theorem dX1_atLeast_23 : decode cX1_atLeast 23 = .ok (.invokestatic 46, 3) := by decide +kernel
theorem dX1_atLeast_26 : decode cX1_atLeast 26 = .ok (.ifCond .eq 12, 3) := by decide +kernel
theorem dX1_atLeast_29 : decode cX1_atLeast 29 = .ok (.aload_n 0, 1) := by decide +kernel
theorem dX1_atLeast_30 : decode cX1_atLeast 30 = .ok (.getfield 15, 3) := by decide +kernel
theorem dX1_atLeast_33 : decode cX1_atLeast 33 = .ok (.iload_n 2, 1) := by decide +kernel
theorem dX1_atLeast_34 : decode cX1_atLeast 34 = .ok (.iaload, 1) := by decide +kernel
theorem dX1_atLeast_35 : decode cX1_atLeast 35 = .ok (.goto 4, 3) := by decide +kernel
theorem dX1_atLeast_38 : decode cX1_atLeast 38 = .ok (.iconst 0, 1) := by decide +kernel
theorem dX1_atLeast_39 : decode cX1_atLeast 39 = .ok (.ireturn, 1) := by decide +kernel
theorem dX1_atMost_0 : decode cX1_atMost 0 = .ok (.aload_n 0, 1) := by decide +kernel
theorem dX1_atMost_1 : decode cX1_atMost 1 = .ok (.iload_n 1, 1) := by decide +kernel
theorem dX1_atMost_2 : decode cX1_atMost 2 = .ok (.invokevirtual 65, 3) := by decide +kernel
theorem dX1_atMost_5 : decode cX1_atMost 5 = .ok (.aload_n 0, 1) := by decide +kernel
theorem dX1_atMost_6 : decode cX1_atMost 6 = .ok (.getfield 22, 3) := by decide +kernel
theorem dX1_atMost_9 : decode cX1_atMost 9 = .ok (.iadd, 1) := by decide +kernel
theorem dX1_atMost_10 : decode cX1_atMost 10 = .ok (.ireturn, 1) := by decide +kernel
theorem dX1_add_0 : decode cX1_add 0 = .ok (.iload_n 1, 1) := by decide +kernel
theorem dX1_add_1 : decode cX1_add 1 = .ok (.aload_n 0, 1) := by decide +kernel
theorem dX1_add_2 : decode cX1_add 2 = .ok (.getfield 9, 3) := by decide +kernel
theorem dX1_add_5 : decode cX1_add 5 = .ok (.aload_n 0, 1) := by decide +kernel
theorem dX1_add_6 : decode cX1_add 6 = .ok (.getfield 18, 3) := by decide +kernel
theorem dX1_add_9 : decode cX1_add 9 = .ok (.invokestatic 42, 3) := by decide +kernel
theorem dX1_add_12 : decode cX1_add 12 = .ok (.istore_n 3, 1) := by decide +kernel
theorem dX1_add_13 : decode cX1_add 13 = .ok (.iload_n 3, 1) := by decide +kernel
theorem dX1_add_14 : decode cX1_add 14 = .ok (.iload_n 1, 1) := by decide +kernel
theorem dX1_add_15 : decode cX1_add 15 = .ok (.aload_n 0, 1) := by decide +kernel
theorem dX1_add_16 : decode cX1_add 16 = .ok (.getfield 9, 3) := by decide +kernel
theorem dX1_add_19 : decode cX1_add 19 = .ok (.aload_n 0, 1) := by decide +kernel
theorem dX1_add_20 : decode cX1_add 20 = .ok (.getfield 18, 3) := by decide +kernel
theorem dX1_add_23 : decode cX1_add 23 = .ok (.invokestatic 46, 3) := by decide +kernel
theorem dX1_add_26 : decode cX1_add 26 = .ok (.ifCond .eq 16, 3) := by decide +kernel
theorem dX1_add_29 : decode cX1_add 29 = .ok (.aload_n 0, 1) := by decide +kernel
theorem dX1_add_30 : decode cX1_add 30 = .ok (.getfield 15, 3) := by decide +kernel
theorem dX1_add_33 : decode cX1_add 33 = .ok (.iload_n 3, 1) := by decide +kernel
theorem dX1_add_34 : decode cX1_add 34 = .ok (.dup2, 1) := by decide +kernel
theorem dX1_add_35 : decode cX1_add 35 = .ok (.iaload, 1) := by decide +kernel
theorem dX1_add_36 : decode cX1_add 36 = .ok (.iload_n 2, 1) := by decide +kernel
theorem dX1_add_37 : decode cX1_add 37 = .ok (.iadd, 1) := by decide +kernel
theorem dX1_add_38 : decode cX1_add 38 = .ok (.iastore, 1) := by decide +kernel
theorem dX1_add_39 : decode cX1_add 39 = .ok (.goto 89, 3) := by decide +kernel
theorem dX1_add_42 : decode cX1_add 42 = .ok (.aload_n 0, 1) := by decide +kernel
theorem dX1_add_43 : decode cX1_add 43 = .ok (.getfield 18, 3) := by decide +kernel
theorem dX1_add_46 : decode cX1_add 46 = .ok (.aload_n 0, 1) := by decide +kernel
theorem dX1_add_47 : decode cX1_add 47 = .ok (.getfield 9, 3) := by decide +kernel
theorem dX1_add_50 : decode cX1_add 50 = .ok (.arraylength, 1) := by decide +kernel
theorem dX1_add_51 : decode cX1_add 51 = .ok (.if_icmp .ge 77, 3) := by decide +kernel
theorem dX1_add_54 : decode cX1_add 54 = .ok (.aload_n 0, 1) := by decide +kernel
theorem dX1_add_55 : decode cX1_add 55 = .ok (.getfield 18, 3) := by decide +kernel
theorem dX1_add_58 : decode cX1_add 58 = .ok (.istore 4, 2) := by decide +kernel
theorem dX1_add_60 : decode cX1_add 60 = .ok (.iload 4, 2) := by decide +kernel
theorem dX1_add_62 : decode cX1_add 62 = .ok (.iload_n 3, 1) := by decide +kernel
theorem dX1_add_63 : decode cX1_add 63 = .ok (.if_icmp .le 41, 3) := by decide +kernel
theorem dX1_add_66 : decode cX1_add 66 = .ok (.aload_n 0, 1) := by decide +kernel
theorem dX1_add_67 : decode cX1_add 67 = .ok (.getfield 9, 3) := by decide +kernel
theorem dX1_add_70 : decode cX1_add 70 = .ok (.iload 4, 2) := by decide +kernel
theorem dX1_add_72 : decode cX1_add 72 = .ok (.aload_n 0, 1) := by decide +kernel
theorem dX1_add_73 : decode cX1_add 73 = .ok (.getfield 9, 3) := by decide +kernel
theorem dX1_add_76 : decode cX1_add 76 = .ok (.iload 4, 2) := by decide +kernel
theorem dX1_add_78 : decode cX1_add 78 = .ok (.iconst 1, 1) := by decide +kernel
theorem dX1_add_79 : decode cX1_add 79 = .ok (.isub, 1) := by decide +kernel
theorem dX1_add_80 : decode cX1_add 80 = .ok (.iaload, 1) := by decide +kernel
theorem dX1_add_81 : decode cX1_add 81 = .ok (.iastore, 1) := by decide +kernel
theorem dX1_add_82 : decode cX1_add 82 = .ok (.aload_n 0, 1) := by decide +kernel
theorem dX1_add_83 : decode cX1_add 83 = .ok (.getfield 15, 3) := by decide +kernel
theorem dX1_add_86 : decode cX1_add 86 = .ok (.iload 4, 2) := by decide +kernel
theorem dX1_add_88 : decode cX1_add 88 = .ok (.aload_n 0, 1) := by decide +kernel
theorem dX1_add_89 : decode cX1_add 89 = .ok (.getfield 15, 3) := by decide +kernel
theorem dX1_add_92 : decode cX1_add 92 = .ok (.iload 4, 2) := by decide +kernel
theorem dX1_add_94 : decode cX1_add 94 = .ok (.iconst 1, 1) := by decide +kernel
theorem dX1_add_95 : decode cX1_add 95 = .ok (.isub, 1) := by decide +kernel
theorem dX1_add_96 : decode cX1_add 96 = .ok (.iaload, 1) := by decide +kernel
theorem dX1_add_97 : decode cX1_add 97 = .ok (.iastore, 1) := by decide +kernel
theorem dX1_add_98 : decode cX1_add 98 = .ok (.iinc 4 (-1), 3) := by decide +kernel
theorem dX1_add_101 : decode cX1_add 101 = .ok (.goto (-41), 3) := by decide +kernel
theorem dX1_add_104 : decode cX1_add 104 = .ok (.aload_n 0, 1) := by decide +kernel
theorem dX1_add_105 : decode cX1_add 105 = .ok (.getfield 9, 3) := by decide +kernel
theorem dX1_add_108 : decode cX1_add 108 = .ok (.iload_n 3, 1) := by decide +kernel
theorem dX1_add_109 : decode cX1_add 109 = .ok (.iload_n 1, 1) := by decide +kernel
theorem dX1_add_110 : decode cX1_add 110 = .ok (.iastore, 1) := by decide +kernel
theorem dX1_add_111 : decode cX1_add 111 = .ok (.aload_n 0, 1) := by decide +kernel
theorem dX1_add_112 : decode cX1_add 112 = .ok (.getfield 15, 3) := by decide +kernel
theorem dX1_add_115 : decode cX1_add 115 = .ok (.iload_n 3, 1) := by decide +kernel
theorem dX1_add_116 : decode cX1_add 116 = .ok (.iload_n 2, 1) := by decide +kernel
theorem dX1_add_117 : decode cX1_add 117 = .ok (.iastore, 1) := by decide +kernel
theorem dX1_add_118 : decode cX1_add 118 = .ok (.aload_n 0, 1) := by decide +kernel
theorem dX1_add_119 : decode cX1_add 119 = .ok (.dup, 1) := by decide +kernel
theorem dX1_add_120 : decode cX1_add 120 = .ok (.getfield 18, 3) := by decide +kernel
theorem dX1_add_123 : decode cX1_add 123 = .ok (.iconst 1, 1) := by decide +kernel
theorem dX1_add_124 : decode cX1_add 124 = .ok (.iadd, 1) := by decide +kernel
theorem dX1_add_125 : decode cX1_add 125 = .ok (.putfield 18, 3) := by decide +kernel
theorem dX1_add_128 : decode cX1_add 128 = .ok (.return_, 1) := by decide +kernel
theorem dX1_leastNumber_0 : decode cX1_leastNumber 0 = .ok (.iload_n 1, 1) := by decide +kernel
theorem dX1_leastNumber_1 : decode cX1_leastNumber 1 = .ok (.istore_n 2, 1) := by decide +kernel
theorem dX1_leastNumber_2 : decode cX1_leastNumber 2 = .ok (.iconst 0, 1) := by decide +kernel
theorem dX1_leastNumber_3 : decode cX1_leastNumber 3 = .ok (.istore_n 3, 1) := by decide +kernel
theorem dX1_leastNumber_4 : decode cX1_leastNumber 4 = .ok (.iload_n 3, 1) := by decide +kernel
theorem dX1_leastNumber_5 : decode cX1_leastNumber 5 = .ok (.aload_n 0, 1) := by decide +kernel
theorem dX1_leastNumber_6 : decode cX1_leastNumber 6 = .ok (.getfield 18, 3) := by decide +kernel
theorem dX1_leastNumber_9 : decode cX1_leastNumber 9 = .ok (.if_icmp .ge 29, 3) := by decide +kernel
theorem dX1_leastNumber_12 : decode cX1_leastNumber 12 = .ok (.iload_n 3, 1) := by decide +kernel
theorem dX1_leastNumber_13 : decode cX1_leastNumber 13 = .ok (.aload_n 0, 1) := by decide +kernel
theorem dX1_leastNumber_14 : decode cX1_leastNumber 14 = .ok (.getfield 15, 3) := by decide +kernel
theorem dX1_leastNumber_17 : decode cX1_leastNumber 17 = .ok (.arraylength, 1) := by decide +kernel
theorem dX1_leastNumber_18 : decode cX1_leastNumber 18 = .ok (.if_icmp .ge 20, 3) := by decide +kernel
theorem dX1_leastNumber_21 : decode cX1_leastNumber 21 = .ok (.iload_n 2, 1) := by decide +kernel
theorem dX1_leastNumber_22 : decode cX1_leastNumber 22 = .ok (.aload_n 0, 1) := by decide +kernel
theorem dX1_leastNumber_23 : decode cX1_leastNumber 23 = .ok (.getfield 15, 3) := by decide +kernel
theorem dX1_leastNumber_26 : decode cX1_leastNumber 26 = .ok (.iload_n 3, 1) := by decide +kernel
theorem dX1_leastNumber_27 : decode cX1_leastNumber 27 = .ok (.iaload, 1) := by decide +kernel
theorem dX1_leastNumber_28 : decode cX1_leastNumber 28 = .ok (.invokestatic 68, 3) := by decide +kernel
theorem dX1_leastNumber_31 : decode cX1_leastNumber 31 = .ok (.istore_n 2, 1) := by decide +kernel
theorem dX1_leastNumber_32 : decode cX1_leastNumber 32 = .ok (.iinc 3 1, 3) := by decide +kernel
theorem dX1_leastNumber_35 : decode cX1_leastNumber 35 = .ok (.goto (-31), 3) := by decide +kernel
theorem dX1_leastNumber_38 : decode cX1_leastNumber 38 = .ok (.iload_n 2, 1) := by decide +kernel
theorem dX1_leastNumber_39 : decode cX1_leastNumber 39 = .ok (.ireturn, 1) := by decide +kernel
theorem dX1_lower_0 : decode cX1_lower 0 = .ok (.aload_n 0, 1) := by decide +kernel
theorem dX1_lower_1 : decode cX1_lower 1 = .ok (.dup, 1) := by decide +kernel
theorem dX1_lower_2 : decode cX1_lower 2 = .ok (.getfield 22, 3) := by decide +kernel
theorem dX1_lower_5 : decode cX1_lower 5 = .ok (.iload_n 1, 1) := by decide +kernel
theorem dX1_lower_6 : decode cX1_lower 6 = .ok (.iadd, 1) := by decide +kernel
theorem dX1_lower_7 : decode cX1_lower 7 = .ok (.putfield 22, 3) := by decide +kernel
theorem dX1_lower_10 : decode cX1_lower 10 = .ok (.iconst 0, 1) := by decide +kernel
theorem dX1_lower_11 : decode cX1_lower 11 = .ok (.istore_n 2, 1) := by decide +kernel
theorem dX1_lower_12 : decode cX1_lower 12 = .ok (.iconst 0, 1) := by decide +kernel
theorem dX1_lower_13 : decode cX1_lower 13 = .ok (.istore_n 3, 1) := by decide +kernel
theorem dX1_lower_14 : decode cX1_lower 14 = .ok (.iload_n 3, 1) := by decide +kernel
theorem dX1_lower_15 : decode cX1_lower 15 = .ok (.aload_n 0, 1) := by decide +kernel
theorem dX1_lower_16 : decode cX1_lower 16 = .ok (.getfield 18, 3) := by decide +kernel
theorem dX1_lower_19 : decode cX1_lower 19 = .ok (.if_icmp .ge 57, 3) := by decide +kernel
theorem dX1_lower_22 : decode cX1_lower 22 = .ok (.iload_n 3, 1) := by decide +kernel
theorem dX1_lower_23 : decode cX1_lower 23 = .ok (.aload_n 0, 1) := by decide +kernel
theorem dX1_lower_24 : decode cX1_lower 24 = .ok (.getfield 9, 3) := by decide +kernel
theorem dX1_lower_27 : decode cX1_lower 27 = .ok (.arraylength, 1) := by decide +kernel
theorem dX1_lower_28 : decode cX1_lower 28 = .ok (.if_icmp .ge 48, 3) := by decide +kernel
theorem dX1_lower_31 : decode cX1_lower 31 = .ok (.aload_n 0, 1) := by decide +kernel
theorem dX1_lower_32 : decode cX1_lower 32 = .ok (.getfield 15, 3) := by decide +kernel
theorem dX1_lower_35 : decode cX1_lower 35 = .ok (.iload_n 3, 1) := by decide +kernel
theorem dX1_lower_36 : decode cX1_lower 36 = .ok (.iaload, 1) := by decide +kernel
theorem dX1_lower_37 : decode cX1_lower 37 = .ok (.iload_n 1, 1) := by decide +kernel
theorem dX1_lower_38 : decode cX1_lower 38 = .ok (.if_icmp .le 32, 3) := by decide +kernel
theorem dX1_lower_41 : decode cX1_lower 41 = .ok (.aload_n 0, 1) := by decide +kernel
theorem dX1_lower_42 : decode cX1_lower 42 = .ok (.getfield 9, 3) := by decide +kernel
theorem dX1_lower_45 : decode cX1_lower 45 = .ok (.iload_n 2, 1) := by decide +kernel
theorem dX1_lower_46 : decode cX1_lower 46 = .ok (.aload_n 0, 1) := by decide +kernel
theorem dX1_lower_47 : decode cX1_lower 47 = .ok (.getfield 9, 3) := by decide +kernel
theorem dX1_lower_50 : decode cX1_lower 50 = .ok (.iload_n 3, 1) := by decide +kernel
theorem dX1_lower_51 : decode cX1_lower 51 = .ok (.iaload, 1) := by decide +kernel
theorem dX1_lower_52 : decode cX1_lower 52 = .ok (.iastore, 1) := by decide +kernel
theorem dX1_lower_53 : decode cX1_lower 53 = .ok (.aload_n 0, 1) := by decide +kernel
theorem dX1_lower_54 : decode cX1_lower 54 = .ok (.getfield 15, 3) := by decide +kernel
theorem dX1_lower_57 : decode cX1_lower 57 = .ok (.iload_n 2, 1) := by decide +kernel
theorem dX1_lower_58 : decode cX1_lower 58 = .ok (.aload_n 0, 1) := by decide +kernel
theorem dX1_lower_59 : decode cX1_lower 59 = .ok (.getfield 15, 3) := by decide +kernel
theorem dX1_lower_62 : decode cX1_lower 62 = .ok (.iload_n 3, 1) := by decide +kernel
theorem dX1_lower_63 : decode cX1_lower 63 = .ok (.iaload, 1) := by decide +kernel
theorem dX1_lower_64 : decode cX1_lower 64 = .ok (.iload_n 1, 1) := by decide +kernel
theorem dX1_lower_65 : decode cX1_lower 65 = .ok (.isub, 1) := by decide +kernel
theorem dX1_lower_66 : decode cX1_lower 66 = .ok (.iastore, 1) := by decide +kernel
theorem dX1_lower_67 : decode cX1_lower 67 = .ok (.iinc 2 1, 3) := by decide +kernel
theorem dX1_lower_70 : decode cX1_lower 70 = .ok (.iinc 3 1, 3) := by decide +kernel
theorem dX1_lower_73 : decode cX1_lower 73 = .ok (.goto (-59), 3) := by decide +kernel
theorem dX1_lower_76 : decode cX1_lower 76 = .ok (.aload_n 0, 1) := by decide +kernel
theorem dX1_lower_77 : decode cX1_lower 77 = .ok (.iload_n 2, 1) := by decide +kernel
theorem dX1_lower_78 : decode cX1_lower 78 = .ok (.putfield 18, 3) := by decide +kernel
theorem dX1_lower_81 : decode cX1_lower 81 = .ok (.return_, 1) := by decide +kernel
theorem dX1_firstNumberTooMany_0 : decode cX1_firstNumberTooMany 0 = .ok (.iconst 0, 1) := by decide +kernel
theorem dX1_firstNumberTooMany_1 : decode cX1_firstNumberTooMany 1 = .ok (.istore_n 1, 1) := by decide +kernel
theorem dX1_firstNumberTooMany_2 : decode cX1_firstNumberTooMany 2 = .ok (.iconst 0, 1) := by decide +kernel
theorem dX1_firstNumberTooMany_3 : decode cX1_firstNumberTooMany 3 = .ok (.istore_n 2, 1) := by decide +kernel
theorem dX1_firstNumberTooMany_4 : decode cX1_firstNumberTooMany 4 = .ok (.iload_n 2, 1) := by decide +kernel
theorem dX1_firstNumberTooMany_5 : decode cX1_firstNumberTooMany 5 = .ok (.aload_n 0, 1) := by decide +kernel
theorem dX1_firstNumberTooMany_6 : decode cX1_firstNumberTooMany 6 = .ok (.getfield 18, 3) := by decide +kernel
theorem dX1_firstNumberTooMany_9 : decode cX1_firstNumberTooMany 9 = .ok (.if_icmp .ge 52, 3) := by decide +kernel
theorem dX1_firstNumberTooMany_12 : decode cX1_firstNumberTooMany 12 = .ok (.iload_n 2, 1) := by decide +kernel
theorem dX1_firstNumberTooMany_13 : decode cX1_firstNumberTooMany 13 = .ok (.aload_n 0, 1) := by decide +kernel
theorem dX1_firstNumberTooMany_14 : decode cX1_firstNumberTooMany 14 = .ok (.getfield 15, 3) := by decide +kernel
theorem dX1_firstNumberTooMany_17 : decode cX1_firstNumberTooMany 17 = .ok (.arraylength, 1) := by decide +kernel
theorem dX1_firstNumberTooMany_18 : decode cX1_firstNumberTooMany 18 = .ok (.if_icmp .ge 43, 3) := by decide +kernel
theorem dX1_firstNumberTooMany_21 : decode cX1_firstNumberTooMany 21 = .ok (.aload_n 0, 1) := by decide +kernel
theorem dX1_firstNumberTooMany_22 : decode cX1_firstNumberTooMany 22 = .ok (.getfield 15, 3) := by decide +kernel
theorem dX1_firstNumberTooMany_25 : decode cX1_firstNumberTooMany 25 = .ok (.iload_n 2, 1) := by decide +kernel
theorem dX1_firstNumberTooMany_26 : decode cX1_firstNumberTooMany 26 = .ok (.iaload, 1) := by decide +kernel
theorem dX1_firstNumberTooMany_27 : decode cX1_firstNumberTooMany 27 = .ok (.iload_n 1, 1) := by decide +kernel
theorem dX1_firstNumberTooMany_28 : decode cX1_firstNumberTooMany 28 = .ok (.if_icmp .le 27, 3) := by decide +kernel
theorem dX1_firstNumberTooMany_31 : decode cX1_firstNumberTooMany 31 = .ok (.aload_n 0, 1) := by decide +kernel
theorem dX1_firstNumberTooMany_32 : decode cX1_firstNumberTooMany 32 = .ok (.aload_n 0, 1) := by decide +kernel
theorem dX1_firstNumberTooMany_33 : decode cX1_firstNumberTooMany 33 = .ok (.getfield 15, 3) := by decide +kernel
theorem dX1_firstNumberTooMany_36 : decode cX1_firstNumberTooMany 36 = .ok (.iload_n 2, 1) := by decide +kernel
theorem dX1_firstNumberTooMany_37 : decode cX1_firstNumberTooMany 37 = .ok (.iaload, 1) := by decide +kernel
theorem dX1_firstNumberTooMany_38 : decode cX1_firstNumberTooMany 38 = .ok (.invokevirtual 74, 3) := by decide +kernel
theorem dX1_firstNumberTooMany_41 : decode cX1_firstNumberTooMany 41 = .ok (.aload_n 0, 1) := by decide +kernel
theorem dX1_firstNumberTooMany_42 : decode cX1_firstNumberTooMany 42 = .ok (.getfield 25, 3) := by decide +kernel
theorem dX1_firstNumberTooMany_45 : decode cX1_firstNumberTooMany 45 = .ok (.if_icmp .le 10, 3) := by decide +kernel
theorem dX1_firstNumberTooMany_48 : decode cX1_firstNumberTooMany 48 = .ok (.aload_n 0, 1) := by decide +kernel
theorem dX1_firstNumberTooMany_49 : decode cX1_firstNumberTooMany 49 = .ok (.getfield 15, 3) := by decide +kernel
theorem dX1_firstNumberTooMany_52 : decode cX1_firstNumberTooMany 52 = .ok (.iload_n 2, 1) := by decide +kernel
theorem dX1_firstNumberTooMany_53 : decode cX1_firstNumberTooMany 53 = .ok (.iaload, 1) := by decide +kernel
theorem dX1_firstNumberTooMany_54 : decode cX1_firstNumberTooMany 54 = .ok (.istore_n 1, 1) := by decide +kernel
theorem dX1_firstNumberTooMany_55 : decode cX1_firstNumberTooMany 55 = .ok (.iinc 2 1, 3) := by decide +kernel
theorem dX1_firstNumberTooMany_58 : decode cX1_firstNumberTooMany 58 = .ok (.goto (-54), 3) := by decide +kernel
theorem dX1_firstNumberTooMany_61 : decode cX1_firstNumberTooMany 61 = .ok (.iload_n 1, 1) := by decide +kernel
theorem dX1_firstNumberTooMany_62 : decode cX1_firstNumberTooMany 62 = .ok (.ireturn, 1) := by decide +kernel
theorem dX1_howManyNotBelow_0 : decode cX1_howManyNotBelow 0 = .ok (.iconst 0, 1) := by decide +kernel
theorem dX1_howManyNotBelow_1 : decode cX1_howManyNotBelow 1 = .ok (.istore_n 2, 1) := by decide +kernel
theorem dX1_howManyNotBelow_2 : decode cX1_howManyNotBelow 2 = .ok (.iconst 0, 1) := by decide +kernel
theorem dX1_howManyNotBelow_3 : decode cX1_howManyNotBelow 3 = .ok (.istore_n 3, 1) := by decide +kernel
theorem dX1_howManyNotBelow_4 : decode cX1_howManyNotBelow 4 = .ok (.iload_n 3, 1) := by decide +kernel
theorem dX1_howManyNotBelow_5 : decode cX1_howManyNotBelow 5 = .ok (.aload_n 0, 1) := by decide +kernel
theorem dX1_howManyNotBelow_6 : decode cX1_howManyNotBelow 6 = .ok (.getfield 18, 3) := by decide +kernel
theorem dX1_howManyNotBelow_9 : decode cX1_howManyNotBelow 9 = .ok (.if_icmp .ge 31, 3) := by decide +kernel
theorem dX1_howManyNotBelow_12 : decode cX1_howManyNotBelow 12 = .ok (.iload_n 3, 1) := by decide +kernel
theorem dX1_howManyNotBelow_13 : decode cX1_howManyNotBelow 13 = .ok (.aload_n 0, 1) := by decide +kernel
theorem dX1_howManyNotBelow_14 : decode cX1_howManyNotBelow 14 = .ok (.getfield 15, 3) := by decide +kernel
theorem dX1_howManyNotBelow_17 : decode cX1_howManyNotBelow 17 = .ok (.arraylength, 1) := by decide +kernel
theorem dX1_howManyNotBelow_18 : decode cX1_howManyNotBelow 18 = .ok (.if_icmp .ge 22, 3) := by decide +kernel
theorem dX1_howManyNotBelow_21 : decode cX1_howManyNotBelow 21 = .ok (.aload_n 0, 1) := by decide +kernel
theorem dX1_howManyNotBelow_22 : decode cX1_howManyNotBelow 22 = .ok (.getfield 15, 3) := by decide +kernel
theorem dX1_howManyNotBelow_25 : decode cX1_howManyNotBelow 25 = .ok (.iload_n 3, 1) := by decide +kernel
theorem dX1_howManyNotBelow_26 : decode cX1_howManyNotBelow 26 = .ok (.iaload, 1) := by decide +kernel
theorem dX1_howManyNotBelow_27 : decode cX1_howManyNotBelow 27 = .ok (.iload_n 1, 1) := by decide +kernel
theorem dX1_howManyNotBelow_28 : decode cX1_howManyNotBelow 28 = .ok (.if_icmp .lt 6, 3) := by decide +kernel
theorem dX1_howManyNotBelow_31 : decode cX1_howManyNotBelow 31 = .ok (.iinc 2 1, 3) := by decide +kernel
theorem dX1_howManyNotBelow_34 : decode cX1_howManyNotBelow 34 = .ok (.iinc 3 1, 3) := by decide +kernel
theorem dX1_howManyNotBelow_37 : decode cX1_howManyNotBelow 37 = .ok (.goto (-33), 3) := by decide +kernel
theorem dX1_howManyNotBelow_40 : decode cX1_howManyNotBelow 40 = .ok (.iload_n 2, 1) := by decide +kernel
theorem dX1_howManyNotBelow_41 : decode cX1_howManyNotBelow 41 = .ok (.ireturn, 1) := by decide +kernel
theorem dX2_init_0 : decode cX2_init 0 = .ok (.aload_n 0, 1) := by decide +kernel
theorem dX2_init_1 : decode cX2_init 1 = .ok (.iconst 3, 1) := by decide +kernel
theorem dX2_init_2 : decode cX2_init 2 = .ok (.iload_n 1, 1) := by decide +kernel
theorem dX2_init_3 : decode cX2_init 3 = .ok (.iload_n 2, 1) := by decide +kernel
theorem dX2_init_4 : decode cX2_init 4 = .ok (.invokespecial 3, 3) := by decide +kernel
theorem dX2_init_7 : decode cX2_init 7 = .ok (.aload_n 0, 1) := by decide +kernel
theorem dX2_init_8 : decode cX2_init 8 = .ok (.iload_n 1, 1) := by decide +kernel
theorem dX2_init_9 : decode cX2_init 9 = .ok (.newarray .int, 2) := by decide +kernel
theorem dX2_init_11 : decode cX2_init 11 = .ok (.putfield 9, 3) := by decide +kernel
theorem dX2_init_14 : decode cX2_init 14 = .ok (.aload_n 0, 1) := by decide +kernel
theorem dX2_init_15 : decode cX2_init 15 = .ok (.iconst 0, 1) := by decide +kernel
theorem dX2_init_16 : decode cX2_init 16 = .ok (.putfield 15, 3) := by decide +kernel
theorem dX2_init_19 : decode cX2_init 19 = .ok (.return_, 1) := by decide +kernel
theorem dX2_twin_0 : decode cX2_twin 0 = .ok (.new 10, 3) := by decide +kernel
theorem dX2_twin_3 : decode cX2_twin 3 = .ok (.dup, 1) := by decide +kernel
theorem dX2_twin_4 : decode cX2_twin 4 = .ok (.aload_n 0, 1) := by decide +kernel
theorem dX2_twin_5 : decode cX2_twin 5 = .ok (.getfield 19, 3) := by decide +kernel
theorem dX2_twin_8 : decode cX2_twin 8 = .ok (.aload_n 0, 1) := by decide +kernel
theorem dX2_twin_9 : decode cX2_twin 9 = .ok (.getfield 22, 3) := by decide +kernel
theorem dX2_twin_12 : decode cX2_twin 12 = .ok (.invokespecial 25, 3) := by decide +kernel
theorem dX2_twin_15 : decode cX2_twin 15 = .ok (.astore_n 1, 1) := by decide +kernel
theorem dX2_twin_16 : decode cX2_twin 16 = .ok (.aload_n 1, 1) := by decide +kernel
theorem dX2_twin_17 : decode cX2_twin 17 = .ok (.aload_n 0, 1) := by decide +kernel
theorem dX2_twin_18 : decode cX2_twin 18 = .ok (.invokevirtual 28, 3) := by decide +kernel
theorem dX2_twin_21 : decode cX2_twin 21 = .ok (.aload_n 0, 1) := by decide +kernel
theorem dX2_twin_22 : decode cX2_twin 22 = .ok (.getfield 9, 3) := by decide +kernel
theorem dX2_twin_25 : decode cX2_twin 25 = .ok (.aload_n 1, 1) := by decide +kernel
theorem dX2_twin_26 : decode cX2_twin 26 = .ok (.getfield 9, 3) := by decide +kernel
theorem dX2_twin_29 : decode cX2_twin 29 = .ok (.invokestatic 32, 3) := by decide +kernel
theorem dX2_twin_32 : decode cX2_twin 32 = .ok (.aload_n 1, 1) := by decide +kernel
theorem dX2_twin_33 : decode cX2_twin 33 = .ok (.aload_n 0, 1) := by decide +kernel
theorem dX2_twin_34 : decode cX2_twin 34 = .ok (.getfield 15, 3) := by decide +kernel
theorem dX2_twin_37 : decode cX2_twin 37 = .ok (.putfield 15, 3) := by decide +kernel
theorem dX2_twin_40 : decode cX2_twin 40 = .ok (.aload_n 1, 1) := by decide +kernel
theorem dX2_twin_41 : decode cX2_twin 41 = .ok (.areturn, 1) := by decide +kernel
theorem dX2_forget_0 : decode cX2_forget 0 = .ok (.aload_n 0, 1) := by decide +kernel
theorem dX2_forget_1 : decode cX2_forget 1 = .ok (.iconst 0, 1) := by decide +kernel
theorem dX2_forget_2 : decode cX2_forget 2 = .ok (.putfield 15, 3) := by decide +kernel
theorem dX2_forget_5 : decode cX2_forget 5 = .ok (.return_, 1) := by decide +kernel
theorem dX2_take_0 : decode cX2_take 0 = .ok (.aload_n 0, 1) := by decide +kernel
theorem dX2_take_1 : decode cX2_take 1 = .ok (.aload_n 0, 1) := by decide +kernel
theorem dX2_take_2 : decode cX2_take 2 = .ok (.getfield 22, 3) := by decide +kernel
theorem dX2_take_5 : decode cX2_take 5 = .ok (.iconst 0, 1) := by decide +kernel
theorem dX2_take_6 : decode cX2_take 6 = .ok (.iload_n 1, 1) := by decide +kernel
theorem dX2_take_7 : decode cX2_take 7 = .ok (.invokestatic 36, 3) := by decide +kernel
theorem dX2_take_10 : decode cX2_take 10 = .ok (.invokevirtual 40, 3) := by decide +kernel
theorem dX2_take_13 : decode cX2_take 13 = .ok (.return_, 1) := by decide +kernel
theorem dX2_join_0 : decode cX2_join 0 = .ok (.aload_n 1, 1) := by decide +kernel
theorem dX2_join_1 : decode cX2_join 1 = .ok (.instanceof 10, 3) := by decide +kernel
theorem dX2_join_4 : decode cX2_join 4 = .ok (.ifCond .eq 43, 3) := by decide +kernel
theorem dX2_join_7 : decode cX2_join 7 = .ok (.aload_n 1, 1) := by decide +kernel
theorem dX2_join_8 : decode cX2_join 8 = .ok (.checkcast 10, 3) := by decide +kernel
theorem dX2_join_11 : decode cX2_join 11 = .ok (.astore_n 2, 1) := by decide +kernel
theorem dX2_join_12 : decode cX2_join 12 = .ok (.iconst 0, 1) := by decide +kernel
theorem dX2_join_13 : decode cX2_join 13 = .ok (.istore_n 3, 1) := by decide +kernel
theorem dX2_join_14 : decode cX2_join 14 = .ok (.iload_n 3, 1) := by decide +kernel
theorem dX2_join_15 : decode cX2_join 15 = .ok (.aload_n 2, 1) := by decide +kernel
theorem dX2_join_16 : decode cX2_join 16 = .ok (.getfield 15, 3) := by decide +kernel
theorem dX2_join_19 : decode cX2_join 19 = .ok (.if_icmp .ge 28, 3) := by decide +kernel
theorem dX2_join_22 : decode cX2_join 22 = .ok (.iload_n 3, 1) := by decide +kernel
theorem dX2_join_23 : decode cX2_join 23 = .ok (.aload_n 2, 1) := by decide +kernel
theorem dX2_join_24 : decode cX2_join 24 = .ok (.getfield 9, 3) := by decide +kernel
theorem dX2_join_27 : decode cX2_join 27 = .ok (.arraylength, 1) := by decide +kernel
theorem dX2_join_28 : decode cX2_join 28 = .ok (.if_icmp .ge 19, 3) := by decide +kernel
theorem dX2_join_31 : decode cX2_join 31 = .ok (.aload_n 0, 1) := by decide +kernel
theorem dX2_join_32 : decode cX2_join 32 = .ok (.aload_n 2, 1) := by decide +kernel
theorem dX2_join_33 : decode cX2_join 33 = .ok (.getfield 9, 3) := by decide +kernel
theorem dX2_join_36 : decode cX2_join 36 = .ok (.iload_n 3, 1) := by decide +kernel
theorem dX2_join_37 : decode cX2_join 37 = .ok (.iaload, 1) := by decide +kernel
theorem dX2_join_38 : decode cX2_join 38 = .ok (.invokevirtual 40, 3) := by decide +kernel
theorem dX2_join_41 : decode cX2_join 41 = .ok (.iinc 3 1, 3) := by decide +kernel
theorem dX2_join_44 : decode cX2_join 44 = .ok (.goto (-30), 3) := by decide +kernel
theorem dX2_join_47 : decode cX2_join 47 = .ok (.return_, 1) := by decide +kernel
theorem dX2_howManyKept_0 : decode cX2_howManyKept 0 = .ok (.aload_n 0, 1) := by decide +kernel
theorem dX2_howManyKept_1 : decode cX2_howManyKept 1 = .ok (.getfield 15, 3) := by decide +kernel
theorem dX2_howManyKept_4 : decode cX2_howManyKept 4 = .ok (.ireturn, 1) := by decide +kernel
theorem dX2_keptAt_0 : decode cX2_keptAt 0 = .ok (.iload_n 1, 1) := by decide +kernel
theorem dX2_keptAt_1 : decode cX2_keptAt 1 = .ok (.ifCond .lt 24, 3) := by decide +kernel
theorem dX2_keptAt_4 : decode cX2_keptAt 4 = .ok (.iload_n 1, 1) := by decide +kernel
theorem dX2_keptAt_5 : decode cX2_keptAt 5 = .ok (.aload_n 0, 1) := by decide +kernel
theorem dX2_keptAt_6 : decode cX2_keptAt 6 = .ok (.getfield 15, 3) := by decide +kernel
theorem dX2_keptAt_9 : decode cX2_keptAt 9 = .ok (.if_icmp .ge 16, 3) := by decide +kernel
theorem dX2_keptAt_12 : decode cX2_keptAt 12 = .ok (.iload_n 1, 1) := by decide +kernel
theorem dX2_keptAt_13 : decode cX2_keptAt 13 = .ok (.aload_n 0, 1) := by decide +kernel
theorem dX2_keptAt_14 : decode cX2_keptAt 14 = .ok (.getfield 9, 3) := by decide +kernel
theorem dX2_keptAt_17 : decode cX2_keptAt 17 = .ok (.arraylength, 1) := by decide +kernel
theorem dX2_keptAt_18 : decode cX2_keptAt 18 = .ok (.if_icmp .ge 7, 3) := by decide +kernel
theorem dX2_keptAt_21 : decode cX2_keptAt 21 = .ok (.iload_n 2, 1) := by decide +kernel
theorem dX2_keptAt_22 : decode cX2_keptAt 22 = .ok (.ifCond .eq 7, 3) := by decide +kernel
theorem dX2_keptAt_25 : decode cX2_keptAt 25 = .ok (.iconst (-1), 1) := by decide +kernel
theorem dX2_keptAt_26 : decode cX2_keptAt 26 = .ok (.goto 9, 3) := by decide +kernel
theorem dX2_keptAt_29 : decode cX2_keptAt 29 = .ok (.aload_n 0, 1) := by decide +kernel
theorem dX2_keptAt_30 : decode cX2_keptAt 30 = .ok (.getfield 9, 3) := by decide +kernel
theorem dX2_keptAt_33 : decode cX2_keptAt 33 = .ok (.iload_n 1, 1) := by decide +kernel
theorem dX2_keptAt_34 : decode cX2_keptAt 34 = .ok (.iaload, 1) := by decide +kernel
theorem dX2_keptAt_35 : decode cX2_keptAt 35 = .ok (.ireturn, 1) := by decide +kernel
theorem dX2_holds_0 : decode cX2_holds 0 = .ok (.aload_n 0, 1) := by decide +kernel
theorem dX2_holds_1 : decode cX2_holds 1 = .ok (.getfield 22, 3) := by decide +kernel
theorem dX2_holds_4 : decode cX2_holds 4 = .ok (.iconst 0, 1) := by decide +kernel
theorem dX2_holds_5 : decode cX2_holds 5 = .ok (.iload_n 1, 1) := by decide +kernel
theorem dX2_holds_6 : decode cX2_holds 6 = .ok (.invokestatic 36, 3) := by decide +kernel
theorem dX2_holds_9 : decode cX2_holds 9 = .ok (.istore_n 2, 1) := by decide +kernel
theorem dX2_holds_10 : decode cX2_holds 10 = .ok (.iload_n 2, 1) := by decide +kernel
theorem dX2_holds_11 : decode cX2_holds 11 = .ok (.aload_n 0, 1) := by decide +kernel
theorem dX2_holds_12 : decode cX2_holds 12 = .ok (.getfield 9, 3) := by decide +kernel
theorem dX2_holds_15 : decode cX2_holds 15 = .ok (.aload_n 0, 1) := by decide +kernel
theorem dX2_holds_16 : decode cX2_holds 16 = .ok (.getfield 15, 3) := by decide +kernel
theorem dX2_holds_19 : decode cX2_holds 19 = .ok (.invokestatic 44, 3) := by decide +kernel
theorem dX2_holds_22 : decode cX2_holds 22 = .ok (.iload_n 2, 1) := by decide +kernel
theorem dX2_holds_23 : decode cX2_holds 23 = .ok (.aload_n 0, 1) := by decide +kernel
theorem dX2_holds_24 : decode cX2_holds 24 = .ok (.getfield 9, 3) := by decide +kernel
theorem dX2_holds_27 : decode cX2_holds 27 = .ok (.aload_n 0, 1) := by decide +kernel
theorem dX2_holds_28 : decode cX2_holds 28 = .ok (.getfield 15, 3) := by decide +kernel
theorem dX2_holds_31 : decode cX2_holds 31 = .ok (.invokestatic 48, 3) := by decide +kernel
theorem dX2_holds_34 : decode cX2_holds 34 = .ok (.ifCond .eq 7, 3) := by decide +kernel
theorem dX2_holds_37 : decode cX2_holds 37 = .ok (.iconst 1, 1) := by decide +kernel
theorem dX2_holds_38 : decode cX2_holds 38 = .ok (.goto 4, 3) := by decide +kernel
theorem dX2_holds_41 : decode cX2_holds 41 = .ok (.iconst 0, 1) := by decide +kernel
theorem dX2_holds_42 : decode cX2_holds 42 = .ok (.ireturn, 1) := by decide +kernel
theorem dX2_differentKeys_0 : decode cX2_differentKeys 0 = .ok (.aload_n 0, 1) := by decide +kernel
theorem dX2_differentKeys_1 : decode cX2_differentKeys 1 = .ok (.getfield 15, 3) := by decide +kernel
theorem dX2_differentKeys_4 : decode cX2_differentKeys 4 = .ok (.aload_n 0, 1) := by decide +kernel
theorem dX2_differentKeys_5 : decode cX2_differentKeys 5 = .ok (.getfield 19, 3) := by decide +kernel
theorem dX2_differentKeys_8 : decode cX2_differentKeys 8 = .ok (.if_icmp .lt 23, 3) := by decide +kernel
theorem dX2_differentKeys_11 : decode cX2_differentKeys 11 = .ok (.aload_n 0, 1) := by decide +kernel
theorem dX2_differentKeys_12 : decode cX2_differentKeys 12 = .ok (.getfield 15, 3) := by decide +kernel
theorem dX2_differentKeys_15 : decode cX2_differentKeys 15 = .ok (.iconst 1, 1) := by decide +kernel
theorem dX2_differentKeys_16 : decode cX2_differentKeys 16 = .ok (.if_icmp .lt 15, 3) := by decide +kernel
theorem dX2_differentKeys_19 : decode cX2_differentKeys 19 = .ok (.aload_n 0, 1) := by decide +kernel
theorem dX2_differentKeys_20 : decode cX2_differentKeys 20 = .ok (.getfield 15, 3) := by decide +kernel
theorem dX2_differentKeys_23 : decode cX2_differentKeys 23 = .ok (.aload_n 0, 1) := by decide +kernel
theorem dX2_differentKeys_24 : decode cX2_differentKeys 24 = .ok (.getfield 9, 3) := by decide +kernel
theorem dX2_differentKeys_27 : decode cX2_differentKeys 27 = .ok (.arraylength, 1) := by decide +kernel
theorem dX2_differentKeys_28 : decode cX2_differentKeys 28 = .ok (.if_icmp .le 8, 3) := by decide +kernel
theorem dX2_differentKeys_31 : decode cX2_differentKeys 31 = .ok (.aload_n 0, 1) := by decide +kernel
theorem dX2_differentKeys_32 : decode cX2_differentKeys 32 = .ok (.getfield 15, 3) := by decide +kernel
theorem dX2_differentKeys_35 : decode cX2_differentKeys 35 = .ok (.ireturn, 1) := by decide +kernel
theorem dX2_differentKeys_36 : decode cX2_differentKeys 36 = .ok (.aload_n 0, 1) := by decide +kernel
theorem dX2_differentKeys_37 : decode cX2_differentKeys 37 = .ok (.getfield 9, 3) := by decide +kernel
theorem dX2_differentKeys_40 : decode cX2_differentKeys 40 = .ok (.aload_n 0, 1) := by decide +kernel
theorem dX2_differentKeys_41 : decode cX2_differentKeys 41 = .ok (.getfield 15, 3) := by decide +kernel
theorem dX2_differentKeys_44 : decode cX2_differentKeys 44 = .ok (.iconst 1, 1) := by decide +kernel
theorem dX2_differentKeys_45 : decode cX2_differentKeys 45 = .ok (.isub, 1) := by decide +kernel
theorem dX2_differentKeys_46 : decode cX2_differentKeys 46 = .ok (.iaload, 1) := by decide +kernel
theorem dX2_differentKeys_47 : decode cX2_differentKeys 47 = .ok (.istore_n 1, 1) := by decide +kernel
theorem dX2_differentKeys_48 : decode cX2_differentKeys 48 = .ok (.iload_n 1, 1) := by decide +kernel
theorem dX2_differentKeys_49 : decode cX2_differentKeys 49 = .ok (.iconst 1, 1) := by decide +kernel
theorem dX2_differentKeys_50 : decode cX2_differentKeys 50 = .ok (.if_icmp .ge 10, 3) := by decide +kernel
theorem dX2_differentKeys_53 : decode cX2_differentKeys 53 = .ok (.aload_n 0, 1) := by decide +kernel
theorem dX2_differentKeys_54 : decode cX2_differentKeys 54 = .ok (.getfield 15, 3) := by decide +kernel
theorem dX2_differentKeys_57 : decode cX2_differentKeys 57 = .ok (.goto 14, 3) := by decide +kernel
theorem dX2_differentKeys_60 : decode cX2_differentKeys 60 = .ok (.aload_n 0, 1) := by decide +kernel
theorem dX2_differentKeys_61 : decode cX2_differentKeys 61 = .ok (.getfield 19, 3) := by decide +kernel
theorem dX2_differentKeys_64 : decode cX2_differentKeys 64 = .ok (.iconst 1, 1) := by decide +kernel
theorem dX2_differentKeys_65 : decode cX2_differentKeys 65 = .ok (.isub, 1) := by decide +kernel
theorem dX2_differentKeys_66 : decode cX2_differentKeys 66 = .ok (.ldc 52, 2) := by decide +kernel
theorem dX2_differentKeys_68 : decode cX2_differentKeys 68 = .ok (.imul, 1) := by decide +kernel
theorem dX2_differentKeys_69 : decode cX2_differentKeys 69 = .ok (.iload_n 1, 1) := by decide +kernel
theorem dX2_differentKeys_70 : decode cX2_differentKeys 70 = .ok (.idiv, 1) := by decide +kernel
theorem dX2_differentKeys_71 : decode cX2_differentKeys 71 = .ok (.ireturn, 1) := by decide +kernel
theorem dX2_add_0 : decode cX2_add 0 = .ok (.iload_n 1, 1) := by decide +kernel
theorem dX2_add_1 : decode cX2_add 1 = .ok (.aload_n 0, 1) := by decide +kernel
theorem dX2_add_2 : decode cX2_add 2 = .ok (.getfield 9, 3) := by decide +kernel
theorem dX2_add_5 : decode cX2_add 5 = .ok (.aload_n 0, 1) := by decide +kernel
theorem dX2_add_6 : decode cX2_add 6 = .ok (.getfield 15, 3) := by decide +kernel
theorem dX2_add_9 : decode cX2_add 9 = .ok (.invokestatic 44, 3) := by decide +kernel
theorem dX2_add_12 : decode cX2_add 12 = .ok (.istore_n 2, 1) := by decide +kernel
theorem dX2_add_13 : decode cX2_add 13 = .ok (.iload_n 2, 1) := by decide +kernel
theorem dX2_add_14 : decode cX2_add 14 = .ok (.aload_n 0, 1) := by decide +kernel
theorem dX2_add_15 : decode cX2_add 15 = .ok (.getfield 9, 3) := by decide +kernel
theorem dX2_add_18 : decode cX2_add 18 = .ok (.arraylength, 1) := by decide +kernel
theorem dX2_add_19 : decode cX2_add 19 = .ok (.if_icmp .ge 19, 3) := by decide +kernel
theorem dX2_add_22 : decode cX2_add 22 = .ok (.iload_n 2, 1) := by decide +kernel
theorem dX2_add_23 : decode cX2_add 23 = .ok (.iload_n 1, 1) := by decide +kernel
theorem dX2_add_24 : decode cX2_add 24 = .ok (.aload_n 0, 1) := by decide +kernel
theorem dX2_add_25 : decode cX2_add 25 = .ok (.getfield 9, 3) := by decide +kernel
theorem dX2_add_28 : decode cX2_add 28 = .ok (.aload_n 0, 1) := by decide +kernel
theorem dX2_add_29 : decode cX2_add 29 = .ok (.getfield 15, 3) := by decide +kernel
theorem dX2_add_32 : decode cX2_add 32 = .ok (.invokestatic 48, 3) := by decide +kernel
theorem dX2_add_35 : decode cX2_add 35 = .ok (.ifCond .eq 4, 3) := by decide +kernel
theorem dX2_add_38 : decode cX2_add 38 = .ok (.return_, 1) := by decide +kernel
theorem dX2_add_39 : decode cX2_add 39 = .ok (.aload_n 0, 1) := by decide +kernel
theorem dX2_add_40 : decode cX2_add 40 = .ok (.aload_n 0, 1) := by decide +kernel
theorem dX2_add_41 : decode cX2_add 41 = .ok (.getfield 15, 3) := by decide +kernel
theorem dX2_add_44 : decode cX2_add 44 = .ok (.iconst 1, 1) := by decide +kernel
theorem dX2_add_45 : decode cX2_add 45 = .ok (.iadd, 1) := by decide +kernel
theorem dX2_add_46 : decode cX2_add 46 = .ok (.aload_n 0, 1) := by decide +kernel
theorem dX2_add_47 : decode cX2_add 47 = .ok (.getfield 9, 3) := by decide +kernel
theorem dX2_add_50 : decode cX2_add 50 = .ok (.arraylength, 1) := by decide +kernel
theorem dX2_add_51 : decode cX2_add 51 = .ok (.invokestatic 53, 3) := by decide +kernel
theorem dX2_add_54 : decode cX2_add 54 = .ok (.putfield 15, 3) := by decide +kernel
theorem dX2_add_57 : decode cX2_add 57 = .ok (.aload_n 0, 1) := by decide +kernel
theorem dX2_add_58 : decode cX2_add 58 = .ok (.getfield 15, 3) := by decide +kernel
theorem dX2_add_61 : decode cX2_add 61 = .ok (.iconst 1, 1) := by decide +kernel
theorem dX2_add_62 : decode cX2_add 62 = .ok (.isub, 1) := by decide +kernel
theorem dX2_add_63 : decode cX2_add 63 = .ok (.istore_n 3, 1) := by decide +kernel
theorem dX2_add_64 : decode cX2_add 64 = .ok (.iload_n 3, 1) := by decide +kernel
theorem dX2_add_65 : decode cX2_add 65 = .ok (.iload_n 2, 1) := by decide +kernel
theorem dX2_add_66 : decode cX2_add 66 = .ok (.if_icmp .le 23, 3) := by decide +kernel
theorem dX2_add_69 : decode cX2_add 69 = .ok (.aload_n 0, 1) := by decide +kernel
theorem dX2_add_70 : decode cX2_add 70 = .ok (.getfield 9, 3) := by decide +kernel
theorem dX2_add_73 : decode cX2_add 73 = .ok (.iload_n 3, 1) := by decide +kernel
theorem dX2_add_74 : decode cX2_add 74 = .ok (.aload_n 0, 1) := by decide +kernel
theorem dX2_add_75 : decode cX2_add 75 = .ok (.getfield 9, 3) := by decide +kernel
theorem dX2_add_78 : decode cX2_add 78 = .ok (.iload_n 3, 1) := by decide +kernel
theorem dX2_add_79 : decode cX2_add 79 = .ok (.iconst 1, 1) := by decide +kernel
theorem dX2_add_80 : decode cX2_add 80 = .ok (.isub, 1) := by decide +kernel
theorem dX2_add_81 : decode cX2_add 81 = .ok (.iaload, 1) := by decide +kernel
theorem dX2_add_82 : decode cX2_add 82 = .ok (.iastore, 1) := by decide +kernel
theorem dX2_add_83 : decode cX2_add 83 = .ok (.iinc 3 (-1), 3) := by decide +kernel
theorem dX2_add_86 : decode cX2_add 86 = .ok (.goto (-22), 3) := by decide +kernel
theorem dX2_add_89 : decode cX2_add 89 = .ok (.aload_n 0, 1) := by decide +kernel
theorem dX2_add_90 : decode cX2_add 90 = .ok (.getfield 9, 3) := by decide +kernel
theorem dX2_add_93 : decode cX2_add 93 = .ok (.iload_n 2, 1) := by decide +kernel
theorem dX2_add_94 : decode cX2_add 94 = .ok (.iload_n 1, 1) := by decide +kernel
theorem dX2_add_95 : decode cX2_add 95 = .ok (.iastore, 1) := by decide +kernel
theorem dX2_add_96 : decode cX2_add 96 = .ok (.return_, 1) := by decide +kernel
theorem dX3_init_0 : decode cX3_init 0 = .ok (.aload_n 0, 1) := by decide +kernel
theorem dX3_init_1 : decode cX3_init 1 = .ok (.iconst 4, 1) := by decide +kernel
theorem dX3_init_2 : decode cX3_init 2 = .ok (.iload_n 1, 1) := by decide +kernel
theorem dX3_init_3 : decode cX3_init 3 = .ok (.iload_n 2, 1) := by decide +kernel
theorem dX3_init_4 : decode cX3_init 4 = .ok (.invokespecial 3, 3) := by decide +kernel
theorem dX3_init_7 : decode cX3_init 7 = .ok (.aload_n 0, 1) := by decide +kernel
theorem dX3_init_8 : decode cX3_init 8 = .ok (.bipush 31, 2) := by decide +kernel
theorem dX3_init_10 : decode cX3_init 10 = .ok (.iload_n 1, 1) := by decide +kernel
theorem dX3_init_11 : decode cX3_init 11 = .ok (.imul, 1) := by decide +kernel
theorem dX3_init_12 : decode cX3_init 12 = .ok (.newarray .int, 2) := by decide +kernel
theorem dX3_init_14 : decode cX3_init 14 = .ok (.putfield 11, 3) := by decide +kernel
theorem dX3_init_17 : decode cX3_init 17 = .ok (.aload_n 0, 1) := by decide +kernel
theorem dX3_init_18 : decode cX3_init 18 = .ok (.bipush 31, 2) := by decide +kernel
theorem dX3_init_20 : decode cX3_init 20 = .ok (.newarray .int, 2) := by decide +kernel
theorem dX3_init_22 : decode cX3_init 22 = .ok (.putfield 15, 3) := by decide +kernel
theorem dX3_init_25 : decode cX3_init 25 = .ok (.aload_n 0, 1) := by decide +kernel
theorem dX3_init_26 : decode cX3_init 26 = .ok (.bipush 31, 2) := by decide +kernel
theorem dX3_init_28 : decode cX3_init 28 = .ok (.newarray .int, 2) := by decide +kernel
theorem dX3_init_30 : decode cX3_init 30 = .ok (.putfield 18, 3) := by decide +kernel
theorem dX3_init_33 : decode cX3_init 33 = .ok (.aload_n 0, 1) := by decide +kernel
theorem dX3_init_34 : decode cX3_init 34 = .ok (.iconst 0, 1) := by decide +kernel
