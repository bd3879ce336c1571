theorem dX7_counterOf_11 : decode cX7_counterOf 11 = .ok (.aload_n 0, 1) := by decide +kernel
theorem dX7_counterOf_12 : decode cX7_counterOf 12 = .ok (.getfield 32, 3) := by decide +kernel
theorem dX7_counterOf_15 : decode cX7_counterOf 15 = .ok (.aload_n 0, 1) := by decide +kernel
theorem dX7_counterOf_16 : decode cX7_counterOf 16 = .ok (.iload_n 1, 1) := by decide +kernel
theorem dX7_counterOf_17 : decode cX7_counterOf 17 = .ok (.iload_n 3, 1) := by decide +kernel
theorem dX7_counterOf_18 : decode cX7_counterOf 18 = .ok (.invokevirtual 59, 3) := by decide +kernel
theorem dX7_counterOf_21 : decode cX7_counterOf 21 = .ok (.iaload, 1) := by decide +kernel
theorem dX7_counterOf_22 : decode cX7_counterOf 22 = .ok (.iload_n 2, 1) := by decide +kernel
theorem dX7_counterOf_23 : decode cX7_counterOf 23 = .ok (.if_icmp .ne 5, 3) := by decide +kernel
theorem dX7_counterOf_26 : decode cX7_counterOf 26 = .ok (.iload_n 3, 1) := by decide +kernel
theorem dX7_counterOf_27 : decode cX7_counterOf 27 = .ok (.ireturn, 1) := by decide +kernel
theorem dX7_counterOf_28 : decode cX7_counterOf 28 = .ok (.iinc 3 1, 3) := by decide +kernel
theorem dX7_counterOf_31 : decode cX7_counterOf 31 = .ok (.goto (-29), 3) := by decide +kernel
theorem dX7_counterOf_34 : decode cX7_counterOf 34 = .ok (.iconst (-1), 1) := by decide +kernel
theorem dX7_counterOf_35 : decode cX7_counterOf 35 = .ok (.ireturn, 1) := by decide +kernel
theorem dX7_add_0 : decode cX7_add 0 = .ok (.aload_n 0, 1) := by decide +kernel
theorem dX7_add_1 : decode cX7_add 1 = .ok (.iload_n 1, 1) := by decide +kernel
theorem dX7_add_2 : decode cX7_add 2 = .ok (.iload_n 2, 1) := by decide +kernel
theorem dX7_add_3 : decode cX7_add 3 = .ok (.invokevirtual 63, 3) := by decide +kernel
theorem dX7_add_6 : decode cX7_add 6 = .ok (.istore 4, 2) := by decide +kernel
theorem dX7_add_8 : decode cX7_add 8 = .ok (.iload 4, 2) := by decide +kernel
theorem dX7_add_10 : decode cX7_add 10 = .ok (.ifCond .ge 52, 3) := by decide +kernel
theorem dX7_add_13 : decode cX7_add 13 = .ok (.aload_n 0, 1) := by decide +kernel
theorem dX7_add_14 : decode cX7_add 14 = .ok (.iload_n 1, 1) := by decide +kernel
theorem dX7_add_15 : decode cX7_add 15 = .ok (.invokevirtual 55, 3) := by decide +kernel
theorem dX7_add_18 : decode cX7_add 18 = .ok (.istore 4, 2) := by decide +kernel
theorem dX7_add_20 : decode cX7_add 20 = .ok (.aload_n 0, 1) := by decide +kernel
theorem dX7_add_21 : decode cX7_add 21 = .ok (.getfield 32, 3) := by decide +kernel
theorem dX7_add_24 : decode cX7_add 24 = .ok (.aload_n 0, 1) := by decide +kernel
theorem dX7_add_25 : decode cX7_add 25 = .ok (.iload_n 1, 1) := by decide +kernel
theorem dX7_add_26 : decode cX7_add 26 = .ok (.iload 4, 2) := by decide +kernel
theorem dX7_add_28 : decode cX7_add 28 = .ok (.invokevirtual 59, 3) := by decide +kernel
theorem dX7_add_31 : decode cX7_add 31 = .ok (.iload_n 2, 1) := by decide +kernel
theorem dX7_add_32 : decode cX7_add 32 = .ok (.iastore, 1) := by decide +kernel
theorem dX7_add_33 : decode cX7_add 33 = .ok (.aload_n 0, 1) := by decide +kernel
theorem dX7_add_34 : decode cX7_add 34 = .ok (.getfield 32, 3) := by decide +kernel
theorem dX7_add_37 : decode cX7_add 37 = .ok (.aload_n 0, 1) := by decide +kernel
theorem dX7_add_38 : decode cX7_add 38 = .ok (.iload_n 1, 1) := by decide +kernel
theorem dX7_add_39 : decode cX7_add 39 = .ok (.iload 4, 2) := by decide +kernel
theorem dX7_add_41 : decode cX7_add 41 = .ok (.invokevirtual 59, 3) := by decide +kernel
theorem dX7_add_44 : decode cX7_add 44 = .ok (.iconst 1, 1) := by decide +kernel
theorem dX7_add_45 : decode cX7_add 45 = .ok (.iadd, 1) := by decide +kernel
theorem dX7_add_46 : decode cX7_add 46 = .ok (.iconst 0, 1) := by decide +kernel
theorem dX7_add_47 : decode cX7_add 47 = .ok (.iastore, 1) := by decide +kernel
theorem dX7_add_48 : decode cX7_add 48 = .ok (.aload_n 0, 1) := by decide +kernel
theorem dX7_add_49 : decode cX7_add 49 = .ok (.getfield 32, 3) := by decide +kernel
theorem dX7_add_52 : decode cX7_add 52 = .ok (.sipush 1200, 3) := by decide +kernel
theorem dX7_add_55 : decode cX7_add 55 = .ok (.iload_n 1, 1) := by decide +kernel
theorem dX7_add_56 : decode cX7_add 56 = .ok (.imul, 1) := by decide +kernel
theorem dX7_add_57 : decode cX7_add 57 = .ok (.iload 4, 2) := by decide +kernel
theorem dX7_add_59 : decode cX7_add 59 = .ok (.iconst 1, 1) := by decide +kernel
theorem dX7_add_60 : decode cX7_add 60 = .ok (.iadd, 1) := by decide +kernel
theorem dX7_add_61 : decode cX7_add 61 = .ok (.iastore, 1) := by decide +kernel
theorem dX7_add_62 : decode cX7_add 62 = .ok (.aload_n 0, 1) := by decide +kernel
theorem dX7_add_63 : decode cX7_add 63 = .ok (.getfield 32, 3) := by decide +kernel
theorem dX7_add_66 : decode cX7_add 66 = .ok (.aload_n 0, 1) := by decide +kernel
theorem dX7_add_67 : decode cX7_add 67 = .ok (.iload_n 1, 1) := by decide +kernel
theorem dX7_add_68 : decode cX7_add 68 = .ok (.iload 4, 2) := by decide +kernel
theorem dX7_add_70 : decode cX7_add 70 = .ok (.invokevirtual 59, 3) := by decide +kernel
theorem dX7_add_73 : decode cX7_add 73 = .ok (.iconst 1, 1) := by decide +kernel
theorem dX7_add_74 : decode cX7_add 74 = .ok (.iadd, 1) := by decide +kernel
theorem dX7_add_75 : decode cX7_add 75 = .ok (.aload_n 0, 1) := by decide +kernel
theorem dX7_add_76 : decode cX7_add 76 = .ok (.getfield 32, 3) := by decide +kernel
theorem dX7_add_79 : decode cX7_add 79 = .ok (.aload_n 0, 1) := by decide +kernel
theorem dX7_add_80 : decode cX7_add 80 = .ok (.iload_n 1, 1) := by decide +kernel
theorem dX7_add_81 : decode cX7_add 81 = .ok (.iload 4, 2) := by decide +kernel
theorem dX7_add_83 : decode cX7_add 83 = .ok (.invokevirtual 59, 3) := by decide +kernel
theorem dX7_add_86 : decode cX7_add 86 = .ok (.iconst 1, 1) := by decide +kernel
theorem dX7_add_87 : decode cX7_add 87 = .ok (.iadd, 1) := by decide +kernel
theorem dX7_add_88 : decode cX7_add 88 = .ok (.iaload, 1) := by decide +kernel
theorem dX7_add_89 : decode cX7_add 89 = .ok (.iload_n 3, 1) := by decide +kernel
theorem dX7_add_90 : decode cX7_add 90 = .ok (.iadd, 1) := by decide +kernel
theorem dX7_add_91 : decode cX7_add 91 = .ok (.iastore, 1) := by decide +kernel
theorem dX7_add_92 : decode cX7_add 92 = .ok (.return_, 1) := by decide +kernel
theorem dX7_lessen_0 : decode cX7_lessen 0 = .ok (.iconst 0, 1) := by decide +kernel
theorem dX7_lessen_1 : decode cX7_lessen 1 = .ok (.istore_n 3, 1) := by decide +kernel
theorem dX7_lessen_2 : decode cX7_lessen 2 = .ok (.iconst 0, 1) := by decide +kernel
theorem dX7_lessen_3 : decode cX7_lessen 3 = .ok (.istore 4, 2) := by decide +kernel
theorem dX7_lessen_5 : decode cX7_lessen 5 = .ok (.iload 4, 2) := by decide +kernel
theorem dX7_lessen_7 : decode cX7_lessen 7 = .ok (.aload_n 0, 1) := by decide +kernel
theorem dX7_lessen_8 : decode cX7_lessen 8 = .ok (.iload_n 1, 1) := by decide +kernel
theorem dX7_lessen_9 : decode cX7_lessen 9 = .ok (.invokevirtual 55, 3) := by decide +kernel
theorem dX7_lessen_12 : decode cX7_lessen 12 = .ok (.if_icmp .ge 73, 3) := by decide +kernel
theorem dX7_lessen_15 : decode cX7_lessen 15 = .ok (.aload_n 0, 1) := by decide +kernel
theorem dX7_lessen_16 : decode cX7_lessen 16 = .ok (.getfield 32, 3) := by decide +kernel
theorem dX7_lessen_19 : decode cX7_lessen 19 = .ok (.aload_n 0, 1) := by decide +kernel
theorem dX7_lessen_20 : decode cX7_lessen 20 = .ok (.iload_n 1, 1) := by decide +kernel
theorem dX7_lessen_21 : decode cX7_lessen 21 = .ok (.iload 4, 2) := by decide +kernel
theorem dX7_lessen_23 : decode cX7_lessen 23 = .ok (.invokevirtual 59, 3) := by decide +kernel
theorem dX7_lessen_26 : decode cX7_lessen 26 = .ok (.iconst 1, 1) := by decide +kernel
theorem dX7_lessen_27 : decode cX7_lessen 27 = .ok (.iadd, 1) := by decide +kernel
theorem dX7_lessen_28 : decode cX7_lessen 28 = .ok (.iaload, 1) := by decide +kernel
theorem dX7_lessen_29 : decode cX7_lessen 29 = .ok (.iload_n 2, 1) := by decide +kernel
theorem dX7_lessen_30 : decode cX7_lessen 30 = .ok (.isub, 1) := by decide +kernel
theorem dX7_lessen_31 : decode cX7_lessen 31 = .ok (.istore 5, 2) := by decide +kernel
theorem dX7_lessen_33 : decode cX7_lessen 33 = .ok (.iload 5, 2) := by decide +kernel
theorem dX7_lessen_35 : decode cX7_lessen 35 = .ok (.ifCond .le 44, 3) := by decide +kernel
theorem dX7_lessen_38 : decode cX7_lessen 38 = .ok (.aload_n 0, 1) := by decide +kernel
theorem dX7_lessen_39 : decode cX7_lessen 39 = .ok (.getfield 32, 3) := by decide +kernel
theorem dX7_lessen_42 : decode cX7_lessen 42 = .ok (.aload_n 0, 1) := by decide +kernel
theorem dX7_lessen_43 : decode cX7_lessen 43 = .ok (.iload_n 1, 1) := by decide +kernel
theorem dX7_lessen_44 : decode cX7_lessen 44 = .ok (.iload_n 3, 1) := by decide +kernel
theorem dX7_lessen_45 : decode cX7_lessen 45 = .ok (.invokevirtual 59, 3) := by decide +kernel
theorem dX7_lessen_48 : decode cX7_lessen 48 = .ok (.aload_n 0, 1) := by decide +kernel
theorem dX7_lessen_49 : decode cX7_lessen 49 = .ok (.getfield 32, 3) := by decide +kernel
theorem dX7_lessen_52 : decode cX7_lessen 52 = .ok (.aload_n 0, 1) := by decide +kernel
theorem dX7_lessen_53 : decode cX7_lessen 53 = .ok (.iload_n 1, 1) := by decide +kernel
theorem dX7_lessen_54 : decode cX7_lessen 54 = .ok (.iload 4, 2) := by decide +kernel
theorem dX7_lessen_56 : decode cX7_lessen 56 = .ok (.invokevirtual 59, 3) := by decide +kernel
theorem dX7_lessen_59 : decode cX7_lessen 59 = .ok (.iaload, 1) := by decide +kernel
theorem dX7_lessen_60 : decode cX7_lessen 60 = .ok (.iastore, 1) := by decide +kernel
theorem dX7_lessen_61 : decode cX7_lessen 61 = .ok (.aload_n 0, 1) := by decide +kernel
theorem dX7_lessen_62 : decode cX7_lessen 62 = .ok (.getfield 32, 3) := by decide +kernel
theorem dX7_lessen_65 : decode cX7_lessen 65 = .ok (.aload_n 0, 1) := by decide +kernel
theorem dX7_lessen_66 : decode cX7_lessen 66 = .ok (.iload_n 1, 1) := by decide +kernel
theorem dX7_lessen_67 : decode cX7_lessen 67 = .ok (.iload_n 3, 1) := by decide +kernel
theorem dX7_lessen_68 : decode cX7_lessen 68 = .ok (.invokevirtual 59, 3) := by decide +kernel
theorem dX7_lessen_71 : decode cX7_lessen 71 = .ok (.iconst 1, 1) := by decide +kernel
theorem dX7_lessen_72 : decode cX7_lessen 72 = .ok (.iadd, 1) := by decide +kernel
theorem dX7_lessen_73 : decode cX7_lessen 73 = .ok (.iload 5, 2) := by decide +kernel
theorem dX7_lessen_75 : decode cX7_lessen 75 = .ok (.iastore, 1) := by decide +kernel
theorem dX7_lessen_76 : decode cX7_lessen 76 = .ok (.iinc 3 1, 3) := by decide +kernel
theorem dX7_lessen_79 : decode cX7_lessen 79 = .ok (.iinc 4 1, 3) := by decide +kernel
theorem dX7_lessen_82 : decode cX7_lessen 82 = .ok (.goto (-77), 3) := by decide +kernel
theorem dX7_lessen_85 : decode cX7_lessen 85 = .ok (.aload_n 0, 1) := by decide +kernel
theorem dX7_lessen_86 : decode cX7_lessen 86 = .ok (.getfield 32, 3) := by decide +kernel
theorem dX7_lessen_89 : decode cX7_lessen 89 = .ok (.sipush 1200, 3) := by decide +kernel
theorem dX7_lessen_92 : decode cX7_lessen 92 = .ok (.iload_n 1, 1) := by decide +kernel
theorem dX7_lessen_93 : decode cX7_lessen 93 = .ok (.imul, 1) := by decide +kernel
theorem dX7_lessen_94 : decode cX7_lessen 94 = .ok (.iload_n 3, 1) := by decide +kernel
theorem dX7_lessen_95 : decode cX7_lessen 95 = .ok (.iastore, 1) := by decide +kernel
theorem dX7_lessen_96 : decode cX7_lessen 96 = .ok (.aload_n 0, 1) := by decide +kernel
theorem dX7_lessen_97 : decode cX7_lessen 97 = .ok (.getfield 29, 3) := by decide +kernel
theorem dX7_lessen_100 : decode cX7_lessen 100 = .ok (.iload_n 1, 1) := by decide +kernel
theorem dX7_lessen_101 : decode cX7_lessen 101 = .ok (.aload_n 0, 1) := by decide +kernel
theorem dX7_lessen_102 : decode cX7_lessen 102 = .ok (.getfield 29, 3) := by decide +kernel
theorem dX7_lessen_105 : decode cX7_lessen 105 = .ok (.iload_n 1, 1) := by decide +kernel
theorem dX7_lessen_106 : decode cX7_lessen 106 = .ok (.iaload, 1) := by decide +kernel
theorem dX7_lessen_107 : decode cX7_lessen 107 = .ok (.iload_n 2, 1) := by decide +kernel
theorem dX7_lessen_108 : decode cX7_lessen 108 = .ok (.iadd, 1) := by decide +kernel
theorem dX7_lessen_109 : decode cX7_lessen 109 = .ok (.iastore, 1) := by decide +kernel
theorem dX7_lessen_110 : decode cX7_lessen 110 = .ok (.return_, 1) := by decide +kernel
theorem dX7_comeHeavy_0 : decode cX7_comeHeavy 0 = .ok (.iload_n 3, 1) := by decide +kernel
theorem dX7_comeHeavy_1 : decode cX7_comeHeavy 1 = .ok (.istore 4, 2) := by decide +kernel
theorem dX7_comeHeavy_3 : decode cX7_comeHeavy 3 = .ok (.iload 4, 2) := by decide +kernel
theorem dX7_comeHeavy_5 : decode cX7_comeHeavy 5 = .ok (.ifCond .le 120, 3) := by decide +kernel
theorem dX7_comeHeavy_8 : decode cX7_comeHeavy 8 = .ok (.aload_n 0, 1) := by decide +kernel
theorem dX7_comeHeavy_9 : decode cX7_comeHeavy 9 = .ok (.iload_n 1, 1) := by decide +kernel
theorem dX7_comeHeavy_10 : decode cX7_comeHeavy 10 = .ok (.iload_n 2, 1) := by decide +kernel
theorem dX7_comeHeavy_11 : decode cX7_comeHeavy 11 = .ok (.invokevirtual 63, 3) := by decide +kernel
theorem dX7_comeHeavy_14 : decode cX7_comeHeavy 14 = .ok (.ifCond .ge 17, 3) := by decide +kernel
theorem dX7_comeHeavy_17 : decode cX7_comeHeavy 17 = .ok (.aload_n 0, 1) := by decide +kernel
theorem dX7_comeHeavy_18 : decode cX7_comeHeavy 18 = .ok (.iload_n 1, 1) := by decide +kernel
theorem dX7_comeHeavy_19 : decode cX7_comeHeavy 19 = .ok (.invokevirtual 55, 3) := by decide +kernel
theorem dX7_comeHeavy_22 : decode cX7_comeHeavy 22 = .ok (.aload_n 0, 1) := by decide +kernel
theorem dX7_comeHeavy_23 : decode cX7_comeHeavy 23 = .ok (.getfield 17, 3) := by decide +kernel
theorem dX7_comeHeavy_26 : decode cX7_comeHeavy 26 = .ok (.iload_n 1, 1) := by decide +kernel
theorem dX7_comeHeavy_27 : decode cX7_comeHeavy 27 = .ok (.iaload, 1) := by decide +kernel
theorem dX7_comeHeavy_28 : decode cX7_comeHeavy 28 = .ok (.if_icmp .ge 17, 3) := by decide +kernel
theorem dX7_comeHeavy_31 : decode cX7_comeHeavy 31 = .ok (.aload_n 0, 1) := by decide +kernel
theorem dX7_comeHeavy_32 : decode cX7_comeHeavy 32 = .ok (.iload_n 1, 1) := by decide +kernel
theorem dX7_comeHeavy_33 : decode cX7_comeHeavy 33 = .ok (.iload_n 2, 1) := by decide +kernel
theorem dX7_comeHeavy_34 : decode cX7_comeHeavy 34 = .ok (.iload 4, 2) := by decide +kernel
theorem dX7_comeHeavy_36 : decode cX7_comeHeavy 36 = .ok (.invokevirtual 66, 3) := by decide +kernel
theorem dX7_comeHeavy_39 : decode cX7_comeHeavy 39 = .ok (.iconst 0, 1) := by decide +kernel
theorem dX7_comeHeavy_40 : decode cX7_comeHeavy 40 = .ok (.istore 4, 2) := by decide +kernel
theorem dX7_comeHeavy_42 : decode cX7_comeHeavy 42 = .ok (.goto (-39), 3) := by decide +kernel
theorem dX7_comeHeavy_45 : decode cX7_comeHeavy 45 = .ok (.iload 4, 2) := by decide +kernel
theorem dX7_comeHeavy_47 : decode cX7_comeHeavy 47 = .ok (.istore 5, 2) := by decide +kernel
theorem dX7_comeHeavy_49 : decode cX7_comeHeavy 49 = .ok (.iconst 0, 1) := by decide +kernel
theorem dX7_comeHeavy_50 : decode cX7_comeHeavy 50 = .ok (.istore 6, 2) := by decide +kernel
theorem dX7_comeHeavy_52 : decode cX7_comeHeavy 52 = .ok (.iload 6, 2) := by decide +kernel
theorem dX7_comeHeavy_54 : decode cX7_comeHeavy 54 = .ok (.aload_n 0, 1) := by decide +kernel
theorem dX7_comeHeavy_55 : decode cX7_comeHeavy 55 = .ok (.iload_n 1, 1) := by decide +kernel
theorem dX7_comeHeavy_56 : decode cX7_comeHeavy 56 = .ok (.invokevirtual 55, 3) := by decide +kernel
theorem dX7_comeHeavy_59 : decode cX7_comeHeavy 59 = .ok (.if_icmp .ge 49, 3) := by decide +kernel
theorem dX7_comeHeavy_62 : decode cX7_comeHeavy 62 = .ok (.aload_n 0, 1) := by decide +kernel
theorem dX7_comeHeavy_63 : decode cX7_comeHeavy 63 = .ok (.getfield 32, 3) := by decide +kernel
theorem dX7_comeHeavy_66 : decode cX7_comeHeavy 66 = .ok (.aload_n 0, 1) := by decide +kernel
theorem dX7_comeHeavy_67 : decode cX7_comeHeavy 67 = .ok (.iload_n 1, 1) := by decide +kernel
theorem dX7_comeHeavy_68 : decode cX7_comeHeavy 68 = .ok (.iload 6, 2) := by decide +kernel
theorem dX7_comeHeavy_70 : decode cX7_comeHeavy 70 = .ok (.invokevirtual 59, 3) := by decide +kernel
theorem dX7_comeHeavy_73 : decode cX7_comeHeavy 73 = .ok (.iconst 1, 1) := by decide +kernel
theorem dX7_comeHeavy_74 : decode cX7_comeHeavy 74 = .ok (.iadd, 1) := by decide +kernel
theorem dX7_comeHeavy_75 : decode cX7_comeHeavy 75 = .ok (.iaload, 1) := by decide +kernel
theorem dX7_comeHeavy_76 : decode cX7_comeHeavy 76 = .ok (.iload 5, 2) := by decide +kernel
theorem dX7_comeHeavy_78 : decode cX7_comeHeavy 78 = .ok (.if_icmp .ge 20, 3) := by decide +kernel
theorem dX7_comeHeavy_81 : decode cX7_comeHeavy 81 = .ok (.aload_n 0, 1) := by decide +kernel
theorem dX7_comeHeavy_82 : decode cX7_comeHeavy 82 = .ok (.getfield 32, 3) := by decide +kernel
theorem dX7_comeHeavy_85 : decode cX7_comeHeavy 85 = .ok (.aload_n 0, 1) := by decide +kernel
theorem dX7_comeHeavy_86 : decode cX7_comeHeavy 86 = .ok (.iload_n 1, 1) := by decide +kernel
theorem dX7_comeHeavy_87 : decode cX7_comeHeavy 87 = .ok (.iload 6, 2) := by decide +kernel
theorem dX7_comeHeavy_89 : decode cX7_comeHeavy 89 = .ok (.invokevirtual 59, 3) := by decide +kernel
theorem dX7_comeHeavy_92 : decode cX7_comeHeavy 92 = .ok (.iconst 1, 1) := by decide +kernel
theorem dX7_comeHeavy_93 : decode cX7_comeHeavy 93 = .ok (.iadd, 1) := by decide +kernel
theorem dX7_comeHeavy_94 : decode cX7_comeHeavy 94 = .ok (.iaload, 1) := by decide +kernel
theorem dX7_comeHeavy_95 : decode cX7_comeHeavy 95 = .ok (.goto 5, 3) := by decide +kernel
theorem dX7_comeHeavy_98 : decode cX7_comeHeavy 98 = .ok (.iload 5, 2) := by decide +kernel
theorem dX7_comeHeavy_100 : decode cX7_comeHeavy 100 = .ok (.istore 5, 2) := by decide +kernel
theorem dX7_comeHeavy_102 : decode cX7_comeHeavy 102 = .ok (.iinc 6 1, 3) := by decide +kernel
theorem dX7_comeHeavy_105 : decode cX7_comeHeavy 105 = .ok (.goto (-53), 3) := by decide +kernel
theorem dX7_comeHeavy_108 : decode cX7_comeHeavy 108 = .ok (.aload_n 0, 1) := by decide +kernel
theorem dX7_comeHeavy_109 : decode cX7_comeHeavy 109 = .ok (.iload_n 1, 1) := by decide +kernel
theorem dX7_comeHeavy_110 : decode cX7_comeHeavy 110 = .ok (.iload 5, 2) := by decide +kernel
theorem dX7_comeHeavy_112 : decode cX7_comeHeavy 112 = .ok (.invokevirtual 70, 3) := by decide +kernel
theorem dX7_comeHeavy_115 : decode cX7_comeHeavy 115 = .ok (.iload 4, 2) := by decide +kernel
theorem dX7_comeHeavy_117 : decode cX7_comeHeavy 117 = .ok (.iload 5, 2) := by decide +kernel
theorem dX7_comeHeavy_119 : decode cX7_comeHeavy 119 = .ok (.isub, 1) := by decide +kernel
theorem dX7_comeHeavy_120 : decode cX7_comeHeavy 120 = .ok (.istore 4, 2) := by decide +kernel
theorem dX7_comeHeavy_122 : decode cX7_comeHeavy 122 = .ok (.goto (-119), 3) := by decide +kernel
theorem dX7_comeHeavy_125 : decode cX7_comeHeavy 125 = .ok (.return_, 1) := by decide +kernel
theorem dX7_joinHeavy_0 : decode cX7_joinHeavy 0 = .ok (.iconst 0, 1) := by decide +kernel
theorem dX7_joinHeavy_1 : decode cX7_joinHeavy 1 = .ok (.istore_n 3, 1) := by decide +kernel
theorem dX7_joinHeavy_2 : decode cX7_joinHeavy 2 = .ok (.iload_n 3, 1) := by decide +kernel
theorem dX7_joinHeavy_3 : decode cX7_joinHeavy 3 = .ok (.aload_n 0, 1) := by decide +kernel
theorem dX7_joinHeavy_4 : decode cX7_joinHeavy 4 = .ok (.iload_n 2, 1) := by decide +kernel
theorem dX7_joinHeavy_5 : decode cX7_joinHeavy 5 = .ok (.invokevirtual 55, 3) := by decide +kernel
theorem dX7_joinHeavy_8 : decode cX7_joinHeavy 8 = .ok (.if_icmp .ge 38, 3) := by decide +kernel
theorem dX7_joinHeavy_11 : decode cX7_joinHeavy 11 = .ok (.aload_n 0, 1) := by decide +kernel
theorem dX7_joinHeavy_12 : decode cX7_joinHeavy 12 = .ok (.iload_n 1, 1) := by decide +kernel
theorem dX7_joinHeavy_13 : decode cX7_joinHeavy 13 = .ok (.aload_n 0, 1) := by decide +kernel
theorem dX7_joinHeavy_14 : decode cX7_joinHeavy 14 = .ok (.getfield 32, 3) := by decide +kernel
theorem dX7_joinHeavy_17 : decode cX7_joinHeavy 17 = .ok (.aload_n 0, 1) := by decide +kernel
theorem dX7_joinHeavy_18 : decode cX7_joinHeavy 18 = .ok (.iload_n 2, 1) := by decide +kernel
theorem dX7_joinHeavy_19 : decode cX7_joinHeavy 19 = .ok (.iload_n 3, 1) := by decide +kernel
theorem dX7_joinHeavy_20 : decode cX7_joinHeavy 20 = .ok (.invokevirtual 59, 3) := by decide +kernel
theorem dX7_joinHeavy_23 : decode cX7_joinHeavy 23 = .ok (.iaload, 1) := by decide +kernel
theorem dX7_joinHeavy_24 : decode cX7_joinHeavy 24 = .ok (.aload_n 0, 1) := by decide +kernel
theorem dX7_joinHeavy_25 : decode cX7_joinHeavy 25 = .ok (.getfield 32, 3) := by decide +kernel
theorem dX7_joinHeavy_28 : decode cX7_joinHeavy 28 = .ok (.aload_n 0, 1) := by decide +kernel
theorem dX7_joinHeavy_29 : decode cX7_joinHeavy 29 = .ok (.iload_n 2, 1) := by decide +kernel
theorem dX7_joinHeavy_30 : decode cX7_joinHeavy 30 = .ok (.iload_n 3, 1) := by decide +kernel
theorem dX7_joinHeavy_31 : decode cX7_joinHeavy 31 = .ok (.invokevirtual 59, 3) := by decide +kernel
theorem dX7_joinHeavy_34 : decode cX7_joinHeavy 34 = .ok (.iconst 1, 1) := by decide +kernel
theorem dX7_joinHeavy_35 : decode cX7_joinHeavy 35 = .ok (.iadd, 1) := by decide +kernel
theorem dX7_joinHeavy_36 : decode cX7_joinHeavy 36 = .ok (.iaload, 1) := by decide +kernel
theorem dX7_joinHeavy_37 : decode cX7_joinHeavy 37 = .ok (.invokevirtual 66, 3) := by decide +kernel
theorem dX7_joinHeavy_40 : decode cX7_joinHeavy 40 = .ok (.iinc 3 1, 3) := by decide +kernel
theorem dX7_joinHeavy_43 : decode cX7_joinHeavy 43 = .ok (.goto (-41), 3) := by decide +kernel
theorem dX7_joinHeavy_46 : decode cX7_joinHeavy 46 = .ok (.aload_n 0, 1) := by decide +kernel
theorem dX7_joinHeavy_47 : decode cX7_joinHeavy 47 = .ok (.getfield 29, 3) := by decide +kernel
theorem dX7_joinHeavy_50 : decode cX7_joinHeavy 50 = .ok (.iload_n 1, 1) := by decide +kernel
theorem dX7_joinHeavy_51 : decode cX7_joinHeavy 51 = .ok (.aload_n 0, 1) := by decide +kernel
theorem dX7_joinHeavy_52 : decode cX7_joinHeavy 52 = .ok (.getfield 29, 3) := by decide +kernel
theorem dX7_joinHeavy_55 : decode cX7_joinHeavy 55 = .ok (.iload_n 1, 1) := by decide +kernel
theorem dX7_joinHeavy_56 : decode cX7_joinHeavy 56 = .ok (.iaload, 1) := by decide +kernel
theorem dX7_joinHeavy_57 : decode cX7_joinHeavy 57 = .ok (.aload_n 0, 1) := by decide +kernel
theorem dX7_joinHeavy_58 : decode cX7_joinHeavy 58 = .ok (.getfield 29, 3) := by decide +kernel
theorem dX7_joinHeavy_61 : decode cX7_joinHeavy 61 = .ok (.iload_n 2, 1) := by decide +kernel
theorem dX7_joinHeavy_62 : decode cX7_joinHeavy 62 = .ok (.iaload, 1) := by decide +kernel
theorem dX7_joinHeavy_63 : decode cX7_joinHeavy 63 = .ok (.iadd, 1) := by decide +kernel
theorem dX7_joinHeavy_64 : decode cX7_joinHeavy 64 = .ok (.iastore, 1) := by decide +kernel
theorem dX7_joinHeavy_65 : decode cX7_joinHeavy 65 = .ok (.aload_n 0, 1) := by decide +kernel
theorem dX7_joinHeavy_66 : decode cX7_joinHeavy 66 = .ok (.iload_n 1, 1) := by decide +kernel
theorem dX7_joinHeavy_67 : decode cX7_joinHeavy 67 = .ok (.invokevirtual 55, 3) := by decide +kernel
theorem dX7_joinHeavy_70 : decode cX7_joinHeavy 70 = .ok (.aload_n 0, 1) := by decide +kernel
theorem dX7_joinHeavy_71 : decode cX7_joinHeavy 71 = .ok (.getfield 17, 3) := by decide +kernel
theorem dX7_joinHeavy_74 : decode cX7_joinHeavy 74 = .ok (.iload_n 1, 1) := by decide +kernel
theorem dX7_joinHeavy_75 : decode cX7_joinHeavy 75 = .ok (.iaload, 1) := by decide +kernel
theorem dX7_joinHeavy_76 : decode cX7_joinHeavy 76 = .ok (.if_icmp .le 129, 3) := by decide +kernel
theorem dX7_joinHeavy_79 : decode cX7_joinHeavy 79 = .ok (.iconst 0, 1) := by decide +kernel
theorem dX7_joinHeavy_80 : decode cX7_joinHeavy 80 = .ok (.istore_n 3, 1) := by decide +kernel
theorem dX7_joinHeavy_81 : decode cX7_joinHeavy 81 = .ok (.iload_n 3, 1) := by decide +kernel
theorem dX7_joinHeavy_82 : decode cX7_joinHeavy 82 = .ok (.aload_n 0, 1) := by decide +kernel
theorem dX7_joinHeavy_83 : decode cX7_joinHeavy 83 = .ok (.iload_n 1, 1) := by decide +kernel
theorem dX7_joinHeavy_84 : decode cX7_joinHeavy 84 = .ok (.invokevirtual 55, 3) := by decide +kernel
theorem dX7_joinHeavy_87 : decode cX7_joinHeavy 87 = .ok (.if_icmp .ge 118, 3) := by decide +kernel
theorem dX7_joinHeavy_90 : decode cX7_joinHeavy 90 = .ok (.iconst 0, 1) := by decide +kernel
theorem dX7_joinHeavy_91 : decode cX7_joinHeavy 91 = .ok (.istore 4, 2) := by decide +kernel
theorem dX7_joinHeavy_93 : decode cX7_joinHeavy 93 = .ok (.iconst 0, 1) := by decide +kernel
theorem dX7_joinHeavy_94 : decode cX7_joinHeavy 94 = .ok (.istore 5, 2) := by decide +kernel
theorem dX7_joinHeavy_96 : decode cX7_joinHeavy 96 = .ok (.iload 5, 2) := by decide +kernel
theorem dX7_joinHeavy_98 : decode cX7_joinHeavy 98 = .ok (.aload_n 0, 1) := by decide +kernel
theorem dX7_joinHeavy_99 : decode cX7_joinHeavy 99 = .ok (.iload_n 1, 1) := by decide +kernel
theorem dX7_joinHeavy_100 : decode cX7_joinHeavy 100 = .ok (.invokevirtual 55, 3) := by decide +kernel
theorem dX7_joinHeavy_103 : decode cX7_joinHeavy 103 = .ok (.if_icmp .ge 66, 3) := by decide +kernel
theorem dX7_joinHeavy_106 : decode cX7_joinHeavy 106 = .ok (.aload_n 0, 1) := by decide +kernel
theorem dX7_joinHeavy_107 : decode cX7_joinHeavy 107 = .ok (.getfield 32, 3) := by decide +kernel
theorem dX7_joinHeavy_110 : decode cX7_joinHeavy 110 = .ok (.aload_n 0, 1) := by decide +kernel
theorem dX7_joinHeavy_111 : decode cX7_joinHeavy 111 = .ok (.iload_n 1, 1) := by decide +kernel
theorem dX7_joinHeavy_112 : decode cX7_joinHeavy 112 = .ok (.iload 5, 2) := by decide +kernel
theorem dX7_joinHeavy_114 : decode cX7_joinHeavy 114 = .ok (.invokevirtual 59, 3) := by decide +kernel
theorem dX7_joinHeavy_117 : decode cX7_joinHeavy 117 = .ok (.iconst 1, 1) := by decide +kernel
theorem dX7_joinHeavy_118 : decode cX7_joinHeavy 118 = .ok (.iadd, 1) := by decide +kernel
theorem dX7_joinHeavy_119 : decode cX7_joinHeavy 119 = .ok (.iaload, 1) := by decide +kernel
theorem dX7_joinHeavy_120 : decode cX7_joinHeavy 120 = .ok (.aload_n 0, 1) := by decide +kernel
theorem dX7_joinHeavy_121 : decode cX7_joinHeavy 121 = .ok (.getfield 32, 3) := by decide +kernel
theorem dX7_joinHeavy_124 : decode cX7_joinHeavy 124 = .ok (.aload_n 0, 1) := by decide +kernel
theorem dX7_joinHeavy_125 : decode cX7_joinHeavy 125 = .ok (.iload_n 1, 1) := by decide +kernel
theorem dX7_joinHeavy_126 : decode cX7_joinHeavy 126 = .ok (.iload_n 3, 1) := by decide +kernel
theorem dX7_joinHeavy_127 : decode cX7_joinHeavy 127 = .ok (.invokevirtual 59, 3) := by decide +kernel
theorem dX7_joinHeavy_130 : decode cX7_joinHeavy 130 = .ok (.iconst 1, 1) := by decide +kernel
theorem dX7_joinHeavy_131 : decode cX7_joinHeavy 131 = .ok (.iadd, 1) := by decide +kernel
theorem dX7_joinHeavy_132 : decode cX7_joinHeavy 132 = .ok (.iaload, 1) := by decide +kernel
theorem dX7_joinHeavy_133 : decode cX7_joinHeavy 133 = .ok (.isub, 1) := by decide +kernel
theorem dX7_joinHeavy_134 : decode cX7_joinHeavy 134 = .ok (.istore 6, 2) := by decide +kernel
theorem dX7_joinHeavy_136 : decode cX7_joinHeavy 136 = .ok (.iload 6, 2) := by decide +kernel
theorem dX7_joinHeavy_138 : decode cX7_joinHeavy 138 = .ok (.ifCond .gt 14, 3) := by decide +kernel
theorem dX7_joinHeavy_141 : decode cX7_joinHeavy 141 = .ok (.iload 6, 2) := by decide +kernel
theorem dX7_joinHeavy_143 : decode cX7_joinHeavy 143 = .ok (.ifCond .ne 16, 3) := by decide +kernel
theorem dX7_joinHeavy_146 : decode cX7_joinHeavy 146 = .ok (.iload 5, 2) := by decide +kernel
theorem dX7_joinHeavy_148 : decode cX7_joinHeavy 148 = .ok (.iload_n 3, 1) := by decide +kernel
theorem dX7_joinHeavy_149 : decode cX7_joinHeavy 149 = .ok (.if_icmp .ge 10, 3) := by decide +kernel
theorem dX7_joinHeavy_152 : decode cX7_joinHeavy 152 = .ok (.iload 4, 2) := by decide +kernel
theorem dX7_joinHeavy_154 : decode cX7_joinHeavy 154 = .ok (.iconst 1, 1) := by decide +kernel
theorem dX7_joinHeavy_155 : decode cX7_joinHeavy 155 = .ok (.iadd, 1) := by decide +kernel
theorem dX7_joinHeavy_156 : decode cX7_joinHeavy 156 = .ok (.goto 5, 3) := by decide +kernel
theorem dX7_joinHeavy_159 : decode cX7_joinHeavy 159 = .ok (.iload 4, 2) := by decide +kernel
theorem dX7_joinHeavy_161 : decode cX7_joinHeavy 161 = .ok (.istore 4, 2) := by decide +kernel
theorem dX7_joinHeavy_163 : decode cX7_joinHeavy 163 = .ok (.iinc 5 1, 3) := by decide +kernel
theorem dX7_joinHeavy_166 : decode cX7_joinHeavy 166 = .ok (.goto (-70), 3) := by decide +kernel
theorem dX7_joinHeavy_169 : decode cX7_joinHeavy 169 = .ok (.iload 4, 2) := by decide +kernel
theorem dX7_joinHeavy_171 : decode cX7_joinHeavy 171 = .ok (.aload_n 0, 1) := by decide +kernel
theorem dX7_joinHeavy_172 : decode cX7_joinHeavy 172 = .ok (.getfield 17, 3) := by decide +kernel
theorem dX7_joinHeavy_175 : decode cX7_joinHeavy 175 = .ok (.iload_n 1, 1) := by decide +kernel
theorem dX7_joinHeavy_176 : decode cX7_joinHeavy 176 = .ok (.iaload, 1) := by decide +kernel
theorem dX7_joinHeavy_177 : decode cX7_joinHeavy 177 = .ok (.if_icmp .ne 22, 3) := by decide +kernel
theorem dX7_joinHeavy_180 : decode cX7_joinHeavy 180 = .ok (.aload_n 0, 1) := by decide +kernel
theorem dX7_joinHeavy_181 : decode cX7_joinHeavy 181 = .ok (.iload_n 1, 1) := by decide +kernel
theorem dX7_joinHeavy_182 : decode cX7_joinHeavy 182 = .ok (.aload_n 0, 1) := by decide +kernel
theorem dX7_joinHeavy_183 : decode cX7_joinHeavy 183 = .ok (.getfield 32, 3) := by decide +kernel
theorem dX7_joinHeavy_186 : decode cX7_joinHeavy 186 = .ok (.aload_n 0, 1) := by decide +kernel
theorem dX7_joinHeavy_187 : decode cX7_joinHeavy 187 = .ok (.iload_n 1, 1) := by decide +kernel
theorem dX7_joinHeavy_188 : decode cX7_joinHeavy 188 = .ok (.iload_n 3, 1) := by decide +kernel
theorem dX7_joinHeavy_189 : decode cX7_joinHeavy 189 = .ok (.invokevirtual 59, 3) := by decide +kernel
theorem dX7_joinHeavy_192 : decode cX7_joinHeavy 192 = .ok (.iconst 1, 1) := by decide +kernel
theorem dX7_joinHeavy_193 : decode cX7_joinHeavy 193 = .ok (.iadd, 1) := by decide +kernel
theorem dX7_joinHeavy_194 : decode cX7_joinHeavy 194 = .ok (.iaload, 1) := by decide +kernel
theorem dX7_joinHeavy_195 : decode cX7_joinHeavy 195 = .ok (.invokevirtual 70, 3) := by decide +kernel
theorem dX7_joinHeavy_198 : decode cX7_joinHeavy 198 = .ok (.return_, 1) := by decide +kernel
theorem dX7_joinHeavy_199 : decode cX7_joinHeavy 199 = .ok (.iinc 3 1, 3) := by decide +kernel
theorem dX7_joinHeavy_202 : decode cX7_joinHeavy 202 = .ok (.goto (-121), 3) := by decide +kernel
theorem dX7_joinHeavy_205 : decode cX7_joinHeavy 205 = .ok (.return_, 1) := by decide +kernel
theorem dX7_cell_0 : decode cX7_cell 0 = .ok (.aload_n 0, 1) := by decide +kernel
theorem dX7_cell_1 : decode cX7_cell 1 = .ok (.getfield 20, 3) := by decide +kernel
theorem dX7_cell_4 : decode cX7_cell 4 = .ok (.iload_n 1, 1) := by decide +kernel
theorem dX7_cell_5 : decode cX7_cell 5 = .ok (.iaload, 1) := by decide +kernel
theorem dX7_cell_6 : decode cX7_cell 6 = .ok (.iload_n 2, 1) := by decide +kernel
theorem dX7_cell_7 : decode cX7_cell 7 = .ok (.iload_n 3, 1) := by decide +kernel
theorem dX7_cell_8 : decode cX7_cell 8 = .ok (.invokestatic 74, 3) := by decide +kernel
theorem dX7_cell_11 : decode cX7_cell 11 = .ok (.aload_n 0, 1) := by decide +kernel
theorem dX7_cell_12 : decode cX7_cell 12 = .ok (.getfield 17, 3) := by decide +kernel
theorem dX7_cell_15 : decode cX7_cell 15 = .ok (.iload_n 1, 1) := by decide +kernel
theorem dX7_cell_16 : decode cX7_cell 16 = .ok (.iaload, 1) := by decide +kernel
theorem dX7_cell_17 : decode cX7_cell 17 = .ok (.irem, 1) := by decide +kernel
theorem dX7_cell_18 : decode cX7_cell 18 = .ok (.istore 4, 2) := by decide +kernel
theorem dX7_cell_20 : decode cX7_cell 20 = .ok (.sipush 1200, 3) := by decide +kernel
theorem dX7_cell_23 : decode cX7_cell 23 = .ok (.iload_n 1, 1) := by decide +kernel
theorem dX7_cell_24 : decode cX7_cell 24 = .ok (.imul, 1) := by decide +kernel
theorem dX7_cell_25 : decode cX7_cell 25 = .ok (.bipush 100, 2) := by decide +kernel
theorem dX7_cell_27 : decode cX7_cell 27 = .ok (.iadd, 1) := by decide +kernel
theorem dX7_cell_28 : decode cX7_cell 28 = .ok (.aload_n 0, 1) := by decide +kernel
theorem dX7_cell_29 : decode cX7_cell 29 = .ok (.getfield 13, 3) := by decide +kernel
theorem dX7_cell_32 : decode cX7_cell 32 = .ok (.iload_n 1, 1) := by decide +kernel
theorem dX7_cell_33 : decode cX7_cell 33 = .ok (.iaload, 1) := by decide +kernel
theorem dX7_cell_34 : decode cX7_cell 34 = .ok (.iconst 1, 1) := by decide +kernel
theorem dX7_cell_35 : decode cX7_cell 35 = .ok (.if_icmp .ne 17, 3) := by decide +kernel
theorem dX7_cell_38 : decode cX7_cell 38 = .ok (.aload_n 0, 1) := by decide +kernel
theorem dX7_cell_39 : decode cX7_cell 39 = .ok (.getfield 17, 3) := by decide +kernel
theorem dX7_cell_42 : decode cX7_cell 42 = .ok (.iload_n 1, 1) := by decide +kernel
theorem dX7_cell_43 : decode cX7_cell 43 = .ok (.iaload, 1) := by decide +kernel
theorem dX7_cell_44 : decode cX7_cell 44 = .ok (.iload_n 2, 1) := by decide +kernel
theorem dX7_cell_45 : decode cX7_cell 45 = .ok (.imul, 1) := by decide +kernel
theorem dX7_cell_46 : decode cX7_cell 46 = .ok (.iload 4, 2) := by decide +kernel
theorem dX7_cell_48 : decode cX7_cell 48 = .ok (.iadd, 1) := by decide +kernel
theorem dX7_cell_49 : decode cX7_cell 49 = .ok (.goto 5, 3) := by decide +kernel
theorem dX7_cell_52 : decode cX7_cell 52 = .ok (.iload 4, 2) := by decide +kernel
theorem dX7_cell_54 : decode cX7_cell 54 = .ok (.iadd, 1) := by decide +kernel
theorem dX7_cell_55 : decode cX7_cell 55 = .ok (.ireturn, 1) := by decide +kernel
theorem dX7_keep_0 : decode cX7_keep 0 = .ok (.iconst (-1), 1) := by decide +kernel
theorem dX7_keep_1 : decode cX7_keep 1 = .ok (.istore_n 3, 1) := by decide +kernel
theorem dX7_keep_2 : decode cX7_keep 2 = .ok (.iconst 0, 1) := by decide +kernel
theorem dX7_keep_3 : decode cX7_keep 3 = .ok (.istore 4, 2) := by decide +kernel
theorem dX7_keep_5 : decode cX7_keep 5 = .ok (.iload 4, 2) := by decide +kernel
theorem dX7_keep_7 : decode cX7_keep 7 = .ok (.aload_n 0, 1) := by decide +kernel
theorem dX7_keep_8 : decode cX7_keep 8 = .ok (.iload_n 1, 1) := by decide +kernel
theorem dX7_keep_9 : decode cX7_keep 9 = .ok (.invokevirtual 55, 3) := by decide +kernel
theorem dX7_keep_12 : decode cX7_keep 12 = .ok (.if_icmp .ge 65, 3) := by decide +kernel
theorem dX7_keep_15 : decode cX7_keep 15 = .ok (.aload_n 0, 1) := by decide +kernel
theorem dX7_keep_16 : decode cX7_keep 16 = .ok (.getfield 32, 3) := by decide +kernel
theorem dX7_keep_19 : decode cX7_keep 19 = .ok (.sipush 1200, 3) := by decide +kernel
theorem dX7_keep_22 : decode cX7_keep 22 = .ok (.iload_n 1, 1) := by decide +kernel
theorem dX7_keep_23 : decode cX7_keep 23 = .ok (.imul, 1) := by decide +kernel
theorem dX7_keep_24 : decode cX7_keep 24 = .ok (.bipush 100, 2) := by decide +kernel
theorem dX7_keep_26 : decode cX7_keep 26 = .ok (.iadd, 1) := by decide +kernel
theorem dX7_keep_27 : decode cX7_keep 27 = .ok (.iload 4, 2) := by decide +kernel
theorem dX7_keep_29 : decode cX7_keep 29 = .ok (.iadd, 1) := by decide +kernel
theorem dX7_keep_30 : decode cX7_keep 30 = .ok (.iaload, 1) := by decide +kernel
theorem dX7_keep_31 : decode cX7_keep 31 = .ok (.istore 5, 2) := by decide +kernel
theorem dX7_keep_33 : decode cX7_keep 33 = .ok (.iload 5, 2) := by decide +kernel
theorem dX7_keep_35 : decode cX7_keep 35 = .ok (.iload_n 2, 1) := by decide +kernel
theorem dX7_keep_36 : decode cX7_keep 36 = .ok (.if_icmp .ne 4, 3) := by decide +kernel
theorem dX7_keep_39 : decode cX7_keep 39 = .ok (.return_, 1) := by decide +kernel
theorem dX7_keep_40 : decode cX7_keep 40 = .ok (.iload_n 3, 1) := by decide +kernel
theorem dX7_keep_41 : decode cX7_keep 41 = .ok (.ifCond .lt 23, 3) := by decide +kernel
theorem dX7_keep_44 : decode cX7_keep 44 = .ok (.iload 5, 2) := by decide +kernel
theorem dX7_keep_46 : decode cX7_keep 46 = .ok (.aload_n 0, 1) := by decide +kernel
theorem dX7_keep_47 : decode cX7_keep 47 = .ok (.getfield 32, 3) := by decide +kernel
theorem dX7_keep_50 : decode cX7_keep 50 = .ok (.sipush 1200, 3) := by decide +kernel
theorem dX7_keep_53 : decode cX7_keep 53 = .ok (.iload_n 1, 1) := by decide +kernel
theorem dX7_keep_54 : decode cX7_keep 54 = .ok (.imul, 1) := by decide +kernel
theorem dX7_keep_55 : decode cX7_keep 55 = .ok (.bipush 100, 2) := by decide +kernel
theorem dX7_keep_57 : decode cX7_keep 57 = .ok (.iadd, 1) := by decide +kernel
theorem dX7_keep_58 : decode cX7_keep 58 = .ok (.iload_n 3, 1) := by decide +kernel
theorem dX7_keep_59 : decode cX7_keep 59 = .ok (.iadd, 1) := by decide +kernel
theorem dX7_keep_60 : decode cX7_keep 60 = .ok (.iaload, 1) := by decide +kernel
theorem dX7_keep_61 : decode cX7_keep 61 = .ok (.if_icmp .le 8, 3) := by decide +kernel
theorem dX7_keep_64 : decode cX7_keep 64 = .ok (.iload 4, 2) := by decide +kernel
theorem dX7_keep_66 : decode cX7_keep 66 = .ok (.goto 4, 3) := by decide +kernel
theorem dX7_keep_69 : decode cX7_keep 69 = .ok (.iload_n 3, 1) := by decide +kernel
theorem dX7_keep_70 : decode cX7_keep 70 = .ok (.istore_n 3, 1) := by decide +kernel
theorem dX7_keep_71 : decode cX7_keep 71 = .ok (.iinc 4 1, 3) := by decide +kernel
theorem dX7_keep_74 : decode cX7_keep 74 = .ok (.goto (-69), 3) := by decide +kernel
theorem dX7_keep_77 : decode cX7_keep 77 = .ok (.aload_n 0, 1) := by decide +kernel
theorem dX7_keep_78 : decode cX7_keep 78 = .ok (.iload_n 1, 1) := by decide +kernel
theorem dX7_keep_79 : decode cX7_keep 79 = .ok (.invokevirtual 55, 3) := by decide +kernel
theorem dX7_keep_82 : decode cX7_keep 82 = .ok (.aload_n 0, 1) := by decide +kernel
theorem dX7_keep_83 : decode cX7_keep 83 = .ok (.getfield 17, 3) := by decide +kernel
theorem dX7_keep_86 : decode cX7_keep 86 = .ok (.iload_n 1, 1) := by decide +kernel
theorem dX7_keep_87 : decode cX7_keep 87 = .ok (.iaload, 1) := by decide +kernel
theorem dX7_keep_88 : decode cX7_keep 88 = .ok (.if_icmp .ge 43, 3) := by decide +kernel
theorem dX7_keep_91 : decode cX7_keep 91 = .ok (.aload_n 0, 1) := by decide +kernel
theorem dX7_keep_92 : decode cX7_keep 92 = .ok (.getfield 32, 3) := by decide +kernel
theorem dX7_keep_95 : decode cX7_keep 95 = .ok (.sipush 1200, 3) := by decide +kernel
theorem dX7_keep_98 : decode cX7_keep 98 = .ok (.iload_n 1, 1) := by decide +kernel
theorem dX7_keep_99 : decode cX7_keep 99 = .ok (.imul, 1) := by decide +kernel
theorem dX7_keep_100 : decode cX7_keep 100 = .ok (.bipush 100, 2) := by decide +kernel
theorem dX7_keep_102 : decode cX7_keep 102 = .ok (.iadd, 1) := by decide +kernel
theorem dX7_keep_103 : decode cX7_keep 103 = .ok (.aload_n 0, 1) := by decide +kernel
theorem dX7_keep_104 : decode cX7_keep 104 = .ok (.iload_n 1, 1) := by decide +kernel
theorem dX7_keep_105 : decode cX7_keep 105 = .ok (.invokevirtual 55, 3) := by decide +kernel
theorem dX7_keep_108 : decode cX7_keep 108 = .ok (.iadd, 1) := by decide +kernel
theorem dX7_keep_109 : decode cX7_keep 109 = .ok (.iload_n 2, 1) := by decide +kernel
theorem dX7_keep_110 : decode cX7_keep 110 = .ok (.iastore, 1) := by decide +kernel
theorem dX7_keep_111 : decode cX7_keep 111 = .ok (.aload_n 0, 1) := by decide +kernel
theorem dX7_keep_112 : decode cX7_keep 112 = .ok (.getfield 32, 3) := by decide +kernel
theorem dX7_keep_115 : decode cX7_keep 115 = .ok (.sipush 1200, 3) := by decide +kernel
theorem dX7_keep_118 : decode cX7_keep 118 = .ok (.iload_n 1, 1) := by decide +kernel
theorem dX7_keep_119 : decode cX7_keep 119 = .ok (.imul, 1) := by decide +kernel
theorem dX7_keep_120 : decode cX7_keep 120 = .ok (.aload_n 0, 1) := by decide +kernel
theorem dX7_keep_121 : decode cX7_keep 121 = .ok (.iload_n 1, 1) := by decide +kernel
theorem dX7_keep_122 : decode cX7_keep 122 = .ok (.invokevirtual 55, 3) := by decide +kernel
theorem dX7_keep_125 : decode cX7_keep 125 = .ok (.iconst 1, 1) := by decide +kernel
theorem dX7_keep_126 : decode cX7_keep 126 = .ok (.iadd, 1) := by decide +kernel
theorem dX7_keep_127 : decode cX7_keep 127 = .ok (.iastore, 1) := by decide +kernel
theorem dX7_keep_128 : decode cX7_keep 128 = .ok (.goto 38, 3) := by decide +kernel
theorem dX7_keep_131 : decode cX7_keep 131 = .ok (.iload_n 2, 1) := by decide +kernel
theorem dX7_keep_132 : decode cX7_keep 132 = .ok (.aload_n 0, 1) := by decide +kernel
theorem dX7_keep_133 : decode cX7_keep 133 = .ok (.getfield 32, 3) := by decide +kernel
theorem dX7_keep_136 : decode cX7_keep 136 = .ok (.sipush 1200, 3) := by decide +kernel
theorem dX7_keep_139 : decode cX7_keep 139 = .ok (.iload_n 1, 1) := by decide +kernel
theorem dX7_keep_140 : decode cX7_keep 140 = .ok (.imul, 1) := by decide +kernel
theorem dX7_keep_141 : decode cX7_keep 141 = .ok (.bipush 100, 2) := by decide +kernel
theorem dX7_keep_143 : decode cX7_keep 143 = .ok (.iadd, 1) := by decide +kernel
theorem dX7_keep_144 : decode cX7_keep 144 = .ok (.iload_n 3, 1) := by decide +kernel
theorem dX7_keep_145 : decode cX7_keep 145 = .ok (.iadd, 1) := by decide +kernel
theorem dX7_keep_146 : decode cX7_keep 146 = .ok (.iaload, 1) := by decide +kernel
theorem dX7_keep_147 : decode cX7_keep 147 = .ok (.if_icmp .ge 19, 3) := by decide +kernel
theorem dX7_keep_150 : decode cX7_keep 150 = .ok (.aload_n 0, 1) := by decide +kernel
theorem dX7_keep_151 : decode cX7_keep 151 = .ok (.getfield 32, 3) := by decide +kernel
theorem dX7_keep_154 : decode cX7_keep 154 = .ok (.sipush 1200, 3) := by decide +kernel
theorem dX7_keep_157 : decode cX7_keep 157 = .ok (.iload_n 1, 1) := by decide +kernel
theorem dX7_keep_158 : decode cX7_keep 158 = .ok (.imul, 1) := by decide +kernel
theorem dX7_keep_159 : decode cX7_keep 159 = .ok (.bipush 100, 2) := by decide +kernel
theorem dX7_keep_161 : decode cX7_keep 161 = .ok (.iadd, 1) := by decide +kernel
theorem dX7_keep_162 : decode cX7_keep 162 = .ok (.iload_n 3, 1) := by decide +kernel
theorem dX7_keep_163 : decode cX7_keep 163 = .ok (.iadd, 1) := by decide +kernel
theorem dX7_keep_164 : decode cX7_keep 164 = .ok (.iload_n 2, 1) := by decide +kernel
theorem dX7_keep_165 : decode cX7_keep 165 = .ok (.iastore, 1) := by decide +kernel
theorem dX7_keep_166 : decode cX7_keep 166 = .ok (.return_, 1) := by decide +kernel
theorem dX7_keyAt_0 : decode cX7_keyAt 0 = .ok (.sipush 1200, 3) := by decide +kernel
theorem dX7_keyAt_3 : decode cX7_keyAt 3 = .ok (.iload_n 1, 1) := by decide +kernel
theorem dX7_keyAt_4 : decode cX7_keyAt 4 = .ok (.imul, 1) := by decide +kernel
theorem dX7_keyAt_5 : decode cX7_keyAt 5 = .ok (.bipush 100, 2) := by decide +kernel
theorem dX7_keyAt_7 : decode cX7_keyAt 7 = .ok (.iadd, 1) := by decide +kernel
theorem dX7_keyAt_8 : decode cX7_keyAt 8 = .ok (.bipush 32, 2) := by decide +kernel
theorem dX7_keyAt_10 : decode cX7_keyAt 10 = .ok (.iload_n 2, 1) := by decide +kernel
theorem dX7_keyAt_11 : decode cX7_keyAt 11 = .ok (.imul, 1) := by decide +kernel
theorem dX7_keyAt_12 : decode cX7_keyAt 12 = .ok (.iadd, 1) := by decide +kernel
theorem dX7_keyAt_13 : decode cX7_keyAt 13 = .ok (.iload_n 3, 1) := by decide +kernel
theorem dX7_keyAt_14 : decode cX7_keyAt 14 = .ok (.iadd, 1) := by decide +kernel
theorem dX7_keyAt_15 : decode cX7_keyAt 15 = .ok (.ireturn, 1) := by decide +kernel
theorem dX7_put_0 : decode cX7_put 0 = .ok (.sipush 1200, 3) := by decide +kernel
theorem dX7_put_3 : decode cX7_put 3 = .ok (.iload_n 1, 1) := by decide +kernel
theorem dX7_put_4 : decode cX7_put 4 = .ok (.imul, 1) := by decide +kernel
theorem dX7_put_5 : decode cX7_put 5 = .ok (.istore 4, 2) := by decide +kernel
theorem dX7_put_7 : decode cX7_put 7 = .ok (.aload_n 0, 1) := by decide +kernel
theorem dX7_put_8 : decode cX7_put 8 = .ok (.getfield 32, 3) := by decide +kernel
theorem dX7_put_11 : decode cX7_put 11 = .ok (.iload 4, 2) := by decide +kernel
theorem dX7_put_13 : decode cX7_put 13 = .ok (.iload_n 2, 1) := by decide +kernel
theorem dX7_put_14 : decode cX7_put 14 = .ok (.iadd, 1) := by decide +kernel
theorem dX7_put_15 : decode cX7_put 15 = .ok (.iaload, 1) := by decide +kernel
theorem dX7_put_16 : decode cX7_put 16 = .ok (.istore 5, 2) := by decide +kernel
theorem dX7_put_18 : decode cX7_put 18 = .ok (.aload_n 0, 1) := by decide +kernel
theorem dX7_put_19 : decode cX7_put 19 = .ok (.getfield 32, 3) := by decide +kernel
theorem dX7_put_22 : decode cX7_put 22 = .ok (.aload_n 0, 1) := by decide +kernel
theorem dX7_put_23 : decode cX7_put 23 = .ok (.iload_n 1, 1) := by decide +kernel
theorem dX7_put_24 : decode cX7_put 24 = .ok (.iload_n 2, 1) := by decide +kernel
theorem dX7_put_25 : decode cX7_put 25 = .ok (.iload 5, 2) := by decide +kernel
theorem dX7_put_27 : decode cX7_put 27 = .ok (.invokevirtual 78, 3) := by decide +kernel
theorem dX7_put_30 : decode cX7_put 30 = .ok (.iload_n 3, 1) := by decide +kernel
theorem dX7_put_31 : decode cX7_put 31 = .ok (.iastore, 1) := by decide +kernel
theorem dX7_put_32 : decode cX7_put 32 = .ok (.aload_n 0, 1) := by decide +kernel
theorem dX7_put_33 : decode cX7_put 33 = .ok (.getfield 32, 3) := by decide +kernel
theorem dX7_put_36 : decode cX7_put 36 = .ok (.iload 4, 2) := by decide +kernel
theorem dX7_put_38 : decode cX7_put 38 = .ok (.iload_n 2, 1) := by decide +kernel
theorem dX7_put_39 : decode cX7_put 39 = .ok (.iadd, 1) := by decide +kernel
theorem dX7_put_40 : decode cX7_put 40 = .ok (.iload 5, 2) := by decide +kernel
theorem dX7_put_42 : decode cX7_put 42 = .ok (.iconst 1, 1) := by decide +kernel
theorem dX7_put_43 : decode cX7_put 43 = .ok (.iadd, 1) := by decide +kernel
theorem dX7_put_44 : decode cX7_put 44 = .ok (.iastore, 1) := by decide +kernel
theorem dX7_put_45 : decode cX7_put 45 = .ok (.iload 5, 2) := by decide +kernel
theorem dX7_put_47 : decode cX7_put 47 = .ok (.iconst 1, 1) := by decide +kernel
theorem dX7_put_48 : decode cX7_put 48 = .ok (.iadd, 1) := by decide +kernel
theorem dX7_put_49 : decode cX7_put 49 = .ok (.aload_n 0, 1) := by decide +kernel
theorem dX7_put_50 : decode cX7_put 50 = .ok (.getfield 17, 3) := by decide +kernel
theorem dX7_put_53 : decode cX7_put 53 = .ok (.iload_n 1, 1) := by decide +kernel
theorem dX7_put_54 : decode cX7_put 54 = .ok (.iaload, 1) := by decide +kernel
theorem dX7_put_55 : decode cX7_put 55 = .ok (.if_icmp .ge 4, 3) := by decide +kernel
theorem dX7_put_58 : decode cX7_put 58 = .ok (.return_, 1) := by decide +kernel
theorem dX7_put_59 : decode cX7_put 59 = .ok (.iconst 0, 1) := by decide +kernel
theorem dX7_put_60 : decode cX7_put 60 = .ok (.istore 6, 2) := by decide +kernel
theorem dX7_put_62 : decode cX7_put 62 = .ok (.iload 6, 2) := by decide +kernel
theorem dX7_put_64 : decode cX7_put 64 = .ok (.iload 5, 2) := by decide +kernel
theorem dX7_put_66 : decode cX7_put 66 = .ok (.if_icmp .gt 98, 3) := by decide +kernel
theorem dX7_put_69 : decode cX7_put 69 = .ok (.aload_n 0, 1) := by decide +kernel
theorem dX7_put_70 : decode cX7_put 70 = .ok (.getfield 32, 3) := by decide +kernel
theorem dX7_put_73 : decode cX7_put 73 = .ok (.aload_n 0, 1) := by decide +kernel
theorem dX7_put_74 : decode cX7_put 74 = .ok (.iload_n 1, 1) := by decide +kernel
theorem dX7_put_75 : decode cX7_put 75 = .ok (.iload_n 2, 1) := by decide +kernel
theorem dX7_put_76 : decode cX7_put 76 = .ok (.iload 6, 2) := by decide +kernel
theorem dX7_put_78 : decode cX7_put 78 = .ok (.invokevirtual 78, 3) := by decide +kernel
theorem dX7_put_81 : decode cX7_put 81 = .ok (.iaload, 1) := by decide +kernel
theorem dX7_put_82 : decode cX7_put 82 = .ok (.istore 7, 2) := by decide +kernel
theorem dX7_put_84 : decode cX7_put 84 = .ok (.iload 6, 2) := by decide +kernel
theorem dX7_put_86 : decode cX7_put 86 = .ok (.istore 8, 2) := by decide +kernel
theorem dX7_put_88 : decode cX7_put 88 = .ok (.iload 8, 2) := by decide +kernel
theorem dX7_put_90 : decode cX7_put 90 = .ok (.ifCond .le 54, 3) := by decide +kernel
theorem dX7_put_93 : decode cX7_put 93 = .ok (.aload_n 0, 1) := by decide +kernel
theorem dX7_put_94 : decode cX7_put 94 = .ok (.getfield 35, 3) := by decide +kernel
theorem dX7_put_97 : decode cX7_put 97 = .ok (.bipush 32, 2) := by decide +kernel
theorem dX7_put_99 : decode cX7_put 99 = .ok (.iload_n 2, 1) := by decide +kernel
theorem dX7_put_100 : decode cX7_put 100 = .ok (.imul, 1) := by decide +kernel
theorem dX7_put_101 : decode cX7_put 101 = .ok (.iload 8, 2) := by decide +kernel
theorem dX7_put_103 : decode cX7_put 103 = .ok (.iadd, 1) := by decide +kernel
theorem dX7_put_104 : decode cX7_put 104 = .ok (.iconst 1, 1) := by decide +kernel
theorem dX7_put_105 : decode cX7_put 105 = .ok (.isub, 1) := by decide +kernel
theorem dX7_put_106 : decode cX7_put 106 = .ok (.iaload, 1) := by decide +kernel
theorem dX7_put_107 : decode cX7_put 107 = .ok (.iload 7, 2) := by decide +kernel
theorem dX7_put_109 : decode cX7_put 109 = .ok (.if_icmp .le 35, 3) := by decide +kernel
theorem dX7_put_112 : decode cX7_put 112 = .ok (.aload_n 0, 1) := by decide +kernel
theorem dX7_put_113 : decode cX7_put 113 = .ok (.getfield 35, 3) := by decide +kernel
theorem dX7_put_116 : decode cX7_put 116 = .ok (.bipush 32, 2) := by decide +kernel
theorem dX7_put_118 : decode cX7_put 118 = .ok (.iload_n 2, 1) := by decide +kernel
theorem dX7_put_119 : decode cX7_put 119 = .ok (.imul, 1) := by decide +kernel
theorem dX7_put_120 : decode cX7_put 120 = .ok (.iload 8, 2) := by decide +kernel
theorem dX7_put_122 : decode cX7_put 122 = .ok (.iadd, 1) := by decide +kernel
theorem dX7_put_123 : decode cX7_put 123 = .ok (.aload_n 0, 1) := by decide +kernel
theorem dX7_put_124 : decode cX7_put 124 = .ok (.getfield 35, 3) := by decide +kernel
theorem dX7_put_127 : decode cX7_put 127 = .ok (.bipush 32, 2) := by decide +kernel
theorem dX7_put_129 : decode cX7_put 129 = .ok (.iload_n 2, 1) := by decide +kernel
theorem dX7_put_130 : decode cX7_put 130 = .ok (.imul, 1) := by decide +kernel
theorem dX7_put_131 : decode cX7_put 131 = .ok (.iload 8, 2) := by decide +kernel
theorem dX7_put_133 : decode cX7_put 133 = .ok (.iadd, 1) := by decide +kernel
theorem dX7_put_134 : decode cX7_put 134 = .ok (.iconst 1, 1) := by decide +kernel
theorem dX7_put_135 : decode cX7_put 135 = .ok (.isub, 1) := by decide +kernel
theorem dX7_put_136 : decode cX7_put 136 = .ok (.iaload, 1) := by decide +kernel
theorem dX7_put_137 : decode cX7_put 137 = .ok (.iastore, 1) := by decide +kernel
theorem dX7_put_138 : decode cX7_put 138 = .ok (.iinc 8 (-1), 3) := by decide +kernel
theorem dX7_put_141 : decode cX7_put 141 = .ok (.goto (-53), 3) := by decide +kernel
theorem dX7_put_144 : decode cX7_put 144 = .ok (.aload_n 0, 1) := by decide +kernel
theorem dX7_put_145 : decode cX7_put 145 = .ok (.getfield 35, 3) := by decide +kernel
theorem dX7_put_148 : decode cX7_put 148 = .ok (.bipush 32, 2) := by decide +kernel
theorem dX7_put_150 : decode cX7_put 150 = .ok (.iload_n 2, 1) := by decide +kernel
theorem dX7_put_151 : decode cX7_put 151 = .ok (.imul, 1) := by decide +kernel
theorem dX7_put_152 : decode cX7_put 152 = .ok (.iload 8, 2) := by decide +kernel
theorem dX7_put_154 : decode cX7_put 154 = .ok (.iadd, 1) := by decide +kernel
theorem dX7_put_155 : decode cX7_put 155 = .ok (.iload 7, 2) := by decide +kernel
theorem dX7_put_157 : decode cX7_put 157 = .ok (.iastore, 1) := by decide +kernel
theorem dX7_put_158 : decode cX7_put 158 = .ok (.iinc 6 1, 3) := by decide +kernel
theorem dX7_put_161 : decode cX7_put 161 = .ok (.goto (-99), 3) := by decide +kernel
theorem dX7_put_164 : decode cX7_put 164 = .ok (.aload_n 0, 1) := by decide +kernel
theorem dX7_put_165 : decode cX7_put 165 = .ok (.getfield 32, 3) := by decide +kernel
theorem dX7_put_168 : decode cX7_put 168 = .ok (.iload 4, 2) := by decide +kernel
theorem dX7_put_170 : decode cX7_put 170 = .ok (.iload_n 2, 1) := by decide +kernel
theorem dX7_put_171 : decode cX7_put 171 = .ok (.iadd, 1) := by decide +kernel
theorem dX7_put_172 : decode cX7_put 172 = .ok (.iconst 0, 1) := by decide +kernel
theorem dX7_put_173 : decode cX7_put 173 = .ok (.iastore, 1) := by decide +kernel
theorem dX7_put_174 : decode cX7_put 174 = .ok (.aload_n 0, 1) := by decide +kernel
theorem dX7_put_175 : decode cX7_put 175 = .ok (.getfield 32, 3) := by decide +kernel
theorem dX7_put_178 : decode cX7_put 178 = .ok (.iload 4, 2) := by decide +kernel
theorem dX7_put_180 : decode cX7_put 180 = .ok (.bipush 40, 2) := by decide +kernel
theorem dX7_put_182 : decode cX7_put 182 = .ok (.iadd, 1) := by decide +kernel
theorem dX7_put_183 : decode cX7_put 183 = .ok (.iload_n 2, 1) := by decide +kernel
theorem dX7_put_184 : decode cX7_put 184 = .ok (.iadd, 1) := by decide +kernel
theorem dX7_put_185 : decode cX7_put 185 = .ok (.iaload, 1) := by decide +kernel
theorem dX7_put_186 : decode cX7_put 186 = .ok (.istore 6, 2) := by decide +kernel
theorem dX7_put_188 : decode cX7_put 188 = .ok (.aload_n 0, 1) := by decide +kernel
theorem dX7_put_189 : decode cX7_put 189 = .ok (.getfield 32, 3) := by decide +kernel
theorem dX7_put_192 : decode cX7_put 192 = .ok (.iload 4, 2) := by decide +kernel
theorem dX7_put_194 : decode cX7_put 194 = .ok (.bipush 40, 2) := by decide +kernel
theorem dX7_put_196 : decode cX7_put 196 = .ok (.iadd, 1) := by decide +kernel
theorem dX7_put_197 : decode cX7_put 197 = .ok (.iload_n 2, 1) := by decide +kernel
theorem dX7_put_198 : decode cX7_put 198 = .ok (.iadd, 1) := by decide +kernel
theorem dX7_put_199 : decode cX7_put 199 = .ok (.iconst 1, 1) := by decide +kernel
theorem dX7_put_200 : decode cX7_put 200 = .ok (.iload 6, 2) := by decide +kernel
theorem dX7_put_202 : decode cX7_put 202 = .ok (.isub, 1) := by decide +kernel
theorem dX7_put_203 : decode cX7_put 203 = .ok (.iastore, 1) := by decide +kernel
theorem dX7_put_204 : decode cX7_put 204 = .ok (.aload_n 0, 1) := by decide +kernel
theorem dX7_put_205 : decode cX7_put 205 = .ok (.getfield 29, 3) := by decide +kernel
theorem dX7_put_208 : decode cX7_put 208 = .ok (.iload_n 1, 1) := by decide +kernel
theorem dX7_put_209 : decode cX7_put 209 = .ok (.aload_n 0, 1) := by decide +kernel
theorem dX7_put_210 : decode cX7_put 210 = .ok (.getfield 29, 3) := by decide +kernel
theorem dX7_put_213 : decode cX7_put 213 = .ok (.iload_n 1, 1) := by decide +kernel
theorem dX7_put_214 : decode cX7_put 214 = .ok (.iaload, 1) := by decide +kernel
theorem dX7_put_215 : decode cX7_put 215 = .ok (.iconst 1, 1) := by decide +kernel
theorem dX7_put_216 : decode cX7_put 216 = .ok (.iload_n 2, 1) := by decide +kernel
theorem dX7_put_217 : decode cX7_put 217 = .ok (.ishl, 1) := by decide +kernel
theorem dX7_put_218 : decode cX7_put 218 = .ok (.iadd, 1) := by decide +kernel
theorem dX7_put_219 : decode cX7_put 219 = .ok (.iastore, 1) := by decide +kernel
theorem dX7_put_220 : decode cX7_put 220 = .ok (.iload 6, 2) := by decide +kernel
theorem dX7_put_222 : decode cX7_put 222 = .ok (.istore 7, 2) := by decide +kernel
theorem dX7_put_224 : decode cX7_put 224 = .ok (.iload 7, 2) := by decide +kernel
theorem dX7_put_226 : decode cX7_put 226 = .ok (.iload 5, 2) := by decide +kernel
theorem dX7_put_228 : decode cX7_put 228 = .ok (.if_icmp .gt 29, 3) := by decide +kernel
theorem dX7_put_231 : decode cX7_put 231 = .ok (.aload_n 0, 1) := by decide +kernel
theorem dX7_put_232 : decode cX7_put 232 = .ok (.iload_n 1, 1) := by decide +kernel
theorem dX7_put_233 : decode cX7_put 233 = .ok (.iload_n 2, 1) := by decide +kernel
theorem dX7_put_234 : decode cX7_put 234 = .ok (.iconst 1, 1) := by decide +kernel
theorem dX7_put_235 : decode cX7_put 235 = .ok (.iadd, 1) := by decide +kernel
theorem dX7_put_236 : decode cX7_put 236 = .ok (.aload_n 0, 1) := by decide +kernel
theorem dX7_put_237 : decode cX7_put 237 = .ok (.getfield 35, 3) := by decide +kernel
theorem dX7_put_240 : decode cX7_put 240 = .ok (.bipush 32, 2) := by decide +kernel
theorem dX7_put_242 : decode cX7_put 242 = .ok (.iload_n 2, 1) := by decide +kernel
theorem dX7_put_243 : decode cX7_put 243 = .ok (.imul, 1) := by decide +kernel
theorem dX7_put_244 : decode cX7_put 244 = .ok (.iload 7, 2) := by decide +kernel
theorem dX7_put_246 : decode cX7_put 246 = .ok (.iadd, 1) := by decide +kernel
theorem dX7_put_247 : decode cX7_put 247 = .ok (.iaload, 1) := by decide +kernel
theorem dX7_put_248 : decode cX7_put 248 = .ok (.invokestatic 81, 3) := by decide +kernel
theorem dX7_put_251 : decode cX7_put 251 = .ok (.iinc 7 2, 3) := by decide +kernel
theorem dX7_put_254 : decode cX7_put 254 = .ok (.goto (-30), 3) := by decide +kernel
theorem dX7_put_257 : decode cX7_put 257 = .ok (.return_, 1) := by decide +kernel
theorem dX7_weightTo_0 : decode cX7_weightTo 0 = .ok (.iconst 0, 1) := by decide +kernel
theorem dX7_weightTo_1 : decode cX7_weightTo 1 = .ok (.istore_n 3, 1) := by decide +kernel
theorem dX7_weightTo_2 : decode cX7_weightTo 2 = .ok (.iconst 0, 1) := by decide +kernel
theorem dX7_weightTo_3 : decode cX7_weightTo 3 = .ok (.istore 4, 2) := by decide +kernel
theorem dX7_weightTo_5 : decode cX7_weightTo 5 = .ok (.iload 4, 2) := by decide +kernel
theorem dX7_weightTo_7 : decode cX7_weightTo 7 = .ok (.bipush 31, 2) := by decide +kernel
theorem dX7_weightTo_9 : decode cX7_weightTo 9 = .ok (.if_icmp .ge 65, 3) := by decide +kernel
theorem dX7_weightTo_12 : decode cX7_weightTo 12 = .ok (.iconst 0, 1) := by decide +kernel
theorem dX7_weightTo_13 : decode cX7_weightTo 13 = .ok (.istore 5, 2) := by decide +kernel
theorem dX7_weightTo_15 : decode cX7_weightTo 15 = .ok (.iload 5, 2) := by decide +kernel
theorem dX7_weightTo_17 : decode cX7_weightTo 17 = .ok (.aload_n 0, 1) := by decide +kernel
theorem dX7_weightTo_18 : decode cX7_weightTo 18 = .ok (.getfield 32, 3) := by decide +kernel
theorem dX7_weightTo_21 : decode cX7_weightTo 21 = .ok (.sipush 1200, 3) := by decide +kernel
theorem dX7_weightTo_24 : decode cX7_weightTo 24 = .ok (.iload_n 1, 1) := by decide +kernel
theorem dX7_weightTo_25 : decode cX7_weightTo 25 = .ok (.imul, 1) := by decide +kernel
theorem dX7_weightTo_26 : decode cX7_weightTo 26 = .ok (.iload 4, 2) := by decide +kernel
theorem dX7_weightTo_28 : decode cX7_weightTo 28 = .ok (.iadd, 1) := by decide +kernel
theorem dX7_weightTo_29 : decode cX7_weightTo 29 = .ok (.iaload, 1) := by decide +kernel
theorem dX7_weightTo_30 : decode cX7_weightTo 30 = .ok (.if_icmp .ge 38, 3) := by decide +kernel
theorem dX7_weightTo_33 : decode cX7_weightTo 33 = .ok (.aload_n 0, 1) := by decide +kernel
theorem dX7_weightTo_34 : decode cX7_weightTo 34 = .ok (.getfield 32, 3) := by decide +kernel
theorem dX7_weightTo_37 : decode cX7_weightTo 37 = .ok (.aload_n 0, 1) := by decide +kernel
theorem dX7_weightTo_38 : decode cX7_weightTo 38 = .ok (.iload_n 1, 1) := by decide +kernel
theorem dX7_weightTo_39 : decode cX7_weightTo 39 = .ok (.iload 4, 2) := by decide +kernel
theorem dX7_weightTo_41 : decode cX7_weightTo 41 = .ok (.iload 5, 2) := by decide +kernel
theorem dX7_weightTo_43 : decode cX7_weightTo 43 = .ok (.invokevirtual 78, 3) := by decide +kernel
theorem dX7_weightTo_46 : decode cX7_weightTo 46 = .ok (.iaload, 1) := by decide +kernel
theorem dX7_weightTo_47 : decode cX7_weightTo 47 = .ok (.iload_n 2, 1) := by decide +kernel
theorem dX7_weightTo_48 : decode cX7_weightTo 48 = .ok (.if_icmp .gt 12, 3) := by decide +kernel
theorem dX7_weightTo_51 : decode cX7_weightTo 51 = .ok (.iload_n 3, 1) := by decide +kernel
theorem dX7_weightTo_52 : decode cX7_weightTo 52 = .ok (.iconst 1, 1) := by decide +kernel
theorem dX7_weightTo_53 : decode cX7_weightTo 53 = .ok (.iload 4, 2) := by decide +kernel
theorem dX7_weightTo_55 : decode cX7_weightTo 55 = .ok (.ishl, 1) := by decide +kernel
theorem dX7_weightTo_56 : decode cX7_weightTo 56 = .ok (.iadd, 1) := by decide +kernel
theorem dX7_weightTo_57 : decode cX7_weightTo 57 = .ok (.goto 4, 3) := by decide +kernel
theorem dX7_weightTo_60 : decode cX7_weightTo 60 = .ok (.iload_n 3, 1) := by decide +kernel
theorem dX7_weightTo_61 : decode cX7_weightTo 61 = .ok (.istore_n 3, 1) := by decide +kernel
theorem dX7_weightTo_62 : decode cX7_weightTo 62 = .ok (.iinc 5 1, 3) := by decide +kernel
theorem dX7_weightTo_65 : decode cX7_weightTo 65 = .ok (.goto (-50), 3) := by decide +kernel
theorem dX7_weightTo_68 : decode cX7_weightTo 68 = .ok (.iinc 4 1, 3) := by decide +kernel
theorem dX7_weightTo_71 : decode cX7_weightTo 71 = .ok (.goto (-66), 3) := by decide +kernel
theorem dX7_weightTo_74 : decode cX7_weightTo 74 = .ok (.iload_n 3, 1) := by decide +kernel
theorem dX7_weightTo_75 : decode cX7_weightTo 75 = .ok (.ireturn, 1) := by decide +kernel
theorem dX7_comeOnce_0 : decode cX7_comeOnce 0 = .ok (.aload_n 0, 1) := by decide +kernel
theorem dX7_comeOnce_1 : decode cX7_comeOnce 1 = .ok (.getfield 13, 3) := by decide +kernel
theorem dX7_comeOnce_4 : decode cX7_comeOnce 4 = .ok (.iload_n 1, 1) := by decide +kernel
theorem dX7_comeOnce_5 : decode cX7_comeOnce 5 = .ok (.iaload, 1) := by decide +kernel
theorem dX7_comeOnce_6 : decode cX7_comeOnce 6 = .ok (.tableswitch 137 0 3 #[30, 40, 86, 118], 30) := by decide +kernel
theorem dX7_comeOnce_36 : decode cX7_comeOnce 36 = .ok (.aload_n 0, 1) := by decide +kernel
theorem dX7_comeOnce_37 : decode cX7_comeOnce 37 = .ok (.iload_n 1, 1) := by decide +kernel
theorem dX7_comeOnce_38 : decode cX7_comeOnce 38 = .ok (.iload_n 2, 1) := by decide +kernel
theorem dX7_comeOnce_39 : decode cX7_comeOnce 39 = .ok (.iload_n 3, 1) := by decide +kernel
theorem dX7_comeOnce_40 : decode cX7_comeOnce 40 = .ok (.invokevirtual 85, 3) := by decide +kernel
theorem dX7_comeOnce_43 : decode cX7_comeOnce 43 = .ok (.goto 122, 3) := by decide +kernel
theorem dX7_comeOnce_46 : decode cX7_comeOnce 46 = .ok (.iconst 0, 1) := by decide +kernel
theorem dX7_comeOnce_47 : decode cX7_comeOnce 47 = .ok (.istore 4, 2) := by decide +kernel
theorem dX7_comeOnce_49 : decode cX7_comeOnce 49 = .ok (.iload 4, 2) := by decide +kernel
theorem dX7_comeOnce_51 : decode cX7_comeOnce 51 = .ok (.iconst 4, 1) := by decide +kernel
theorem dX7_comeOnce_52 : decode cX7_comeOnce 52 = .ok (.if_icmp .ge 37, 3) := by decide +kernel
theorem dX7_comeOnce_55 : decode cX7_comeOnce 55 = .ok (.aload_n 0, 1) := by decide +kernel
theorem dX7_comeOnce_56 : decode cX7_comeOnce 56 = .ok (.getfield 32, 3) := by decide +kernel
theorem dX7_comeOnce_59 : decode cX7_comeOnce 59 = .ok (.aload_n 0, 1) := by decide +kernel
theorem dX7_comeOnce_60 : decode cX7_comeOnce 60 = .ok (.iload_n 1, 1) := by decide +kernel
theorem dX7_comeOnce_61 : decode cX7_comeOnce 61 = .ok (.iload 4, 2) := by decide +kernel
theorem dX7_comeOnce_63 : decode cX7_comeOnce 63 = .ok (.iload_n 2, 1) := by decide +kernel
theorem dX7_comeOnce_64 : decode cX7_comeOnce 64 = .ok (.invokevirtual 88, 3) := by decide +kernel
theorem dX7_comeOnce_67 : decode cX7_comeOnce 67 = .ok (.aload_n 0, 1) := by decide +kernel
theorem dX7_comeOnce_68 : decode cX7_comeOnce 68 = .ok (.getfield 32, 3) := by decide +kernel
theorem dX7_comeOnce_71 : decode cX7_comeOnce 71 = .ok (.aload_n 0, 1) := by decide +kernel
theorem dX7_comeOnce_72 : decode cX7_comeOnce 72 = .ok (.iload_n 1, 1) := by decide +kernel
theorem dX7_comeOnce_73 : decode cX7_comeOnce 73 = .ok (.iload 4, 2) := by decide +kernel
theorem dX7_comeOnce_75 : decode cX7_comeOnce 75 = .ok (.iload_n 2, 1) := by decide +kernel
theorem dX7_comeOnce_76 : decode cX7_comeOnce 76 = .ok (.invokevirtual 88, 3) := by decide +kernel
theorem dX7_comeOnce_79 : decode cX7_comeOnce 79 = .ok (.iaload, 1) := by decide +kernel
theorem dX7_comeOnce_80 : decode cX7_comeOnce 80 = .ok (.iload_n 3, 1) := by decide +kernel
theorem dX7_comeOnce_81 : decode cX7_comeOnce 81 = .ok (.iadd, 1) := by decide +kernel
theorem dX7_comeOnce_82 : decode cX7_comeOnce 82 = .ok (.iastore, 1) := by decide +kernel
theorem dX7_comeOnce_83 : decode cX7_comeOnce 83 = .ok (.iinc 4 1, 3) := by decide +kernel
theorem dX7_comeOnce_86 : decode cX7_comeOnce 86 = .ok (.goto (-37), 3) := by decide +kernel
theorem dX7_comeOnce_89 : decode cX7_comeOnce 89 = .ok (.goto 76, 3) := by decide +kernel
theorem dX7_comeOnce_92 : decode cX7_comeOnce 92 = .ok (.iconst 0, 1) := by decide +kernel
theorem dX7_comeOnce_93 : decode cX7_comeOnce 93 = .ok (.istore 4, 2) := by decide +kernel
theorem dX7_comeOnce_95 : decode cX7_comeOnce 95 = .ok (.iload 4, 2) := by decide +kernel
theorem dX7_comeOnce_97 : decode cX7_comeOnce 97 = .ok (.iconst 4, 1) := by decide +kernel
theorem dX7_comeOnce_98 : decode cX7_comeOnce 98 = .ok (.if_icmp .ge 23, 3) := by decide +kernel
theorem dX7_comeOnce_101 : decode cX7_comeOnce 101 = .ok (.aload_n 0, 1) := by decide +kernel
theorem dX7_comeOnce_102 : decode cX7_comeOnce 102 = .ok (.getfield 32, 3) := by decide +kernel
theorem dX7_comeOnce_105 : decode cX7_comeOnce 105 = .ok (.aload_n 0, 1) := by decide +kernel
theorem dX7_comeOnce_106 : decode cX7_comeOnce 106 = .ok (.iload_n 1, 1) := by decide +kernel
theorem dX7_comeOnce_107 : decode cX7_comeOnce 107 = .ok (.iload 4, 2) := by decide +kernel
theorem dX7_comeOnce_109 : decode cX7_comeOnce 109 = .ok (.iload_n 2, 1) := by decide +kernel
theorem dX7_comeOnce_110 : decode cX7_comeOnce 110 = .ok (.invokevirtual 88, 3) := by decide +kernel
theorem dX7_comeOnce_113 : decode cX7_comeOnce 113 = .ok (.iconst 1, 1) := by decide +kernel
theorem dX7_comeOnce_114 : decode cX7_comeOnce 114 = .ok (.iastore, 1) := by decide +kernel
theorem dX7_comeOnce_115 : decode cX7_comeOnce 115 = .ok (.iinc 4 1, 3) := by decide +kernel
theorem dX7_comeOnce_118 : decode cX7_comeOnce 118 = .ok (.goto (-23), 3) := by decide +kernel
theorem dX7_comeOnce_121 : decode cX7_comeOnce 121 = .ok (.goto 44, 3) := by decide +kernel
theorem dX7_comeOnce_124 : decode cX7_comeOnce 124 = .ok (.aload_n 0, 1) := by decide +kernel
theorem dX7_comeOnce_125 : decode cX7_comeOnce 125 = .ok (.iload_n 1, 1) := by decide +kernel
theorem dX7_comeOnce_126 : decode cX7_comeOnce 126 = .ok (.aload_n 0, 1) := by decide +kernel
theorem dX7_comeOnce_127 : decode cX7_comeOnce 127 = .ok (.getfield 20, 3) := by decide +kernel
theorem dX7_comeOnce_130 : decode cX7_comeOnce 130 = .ok (.iload_n 1, 1) := by decide +kernel
theorem dX7_comeOnce_131 : decode cX7_comeOnce 131 = .ok (.iaload, 1) := by decide +kernel
theorem dX7_comeOnce_132 : decode cX7_comeOnce 132 = .ok (.iconst 0, 1) := by decide +kernel
theorem dX7_comeOnce_133 : decode cX7_comeOnce 133 = .ok (.iload_n 2, 1) := by decide +kernel
theorem dX7_comeOnce_134 : decode cX7_comeOnce 134 = .ok (.invokestatic 74, 3) := by decide +kernel
theorem dX7_comeOnce_137 : decode cX7_comeOnce 137 = .ok (.invokevirtual 91, 3) := by decide +kernel
theorem dX7_comeOnce_140 : decode cX7_comeOnce 140 = .ok (.goto 25, 3) := by decide +kernel
theorem dX7_comeOnce_143 : decode cX7_comeOnce 143 = .ok (.iconst 0, 1) := by decide +kernel
theorem dX7_comeOnce_144 : decode cX7_comeOnce 144 = .ok (.istore 4, 2) := by decide +kernel
theorem dX7_comeOnce_146 : decode cX7_comeOnce 146 = .ok (.iload 4, 2) := by decide +kernel
theorem dX7_comeOnce_148 : decode cX7_comeOnce 148 = .ok (.iload_n 3, 1) := by decide +kernel
theorem dX7_comeOnce_149 : decode cX7_comeOnce 149 = .ok (.if_icmp .ge 16, 3) := by decide +kernel
theorem dX7_comeOnce_152 : decode cX7_comeOnce 152 = .ok (.aload_n 0, 1) := by decide +kernel
theorem dX7_comeOnce_153 : decode cX7_comeOnce 153 = .ok (.iload_n 1, 1) := by decide +kernel
theorem dX7_comeOnce_154 : decode cX7_comeOnce 154 = .ok (.iconst 0, 1) := by decide +kernel
theorem dX7_comeOnce_155 : decode cX7_comeOnce 155 = .ok (.iload_n 2, 1) := by decide +kernel
theorem dX7_comeOnce_156 : decode cX7_comeOnce 156 = .ok (.invokestatic 81, 3) := by decide +kernel
theorem dX7_comeOnce_159 : decode cX7_comeOnce 159 = .ok (.iinc 4 1, 3) := by decide +kernel
theorem dX7_comeOnce_162 : decode cX7_comeOnce 162 = .ok (.goto (-16), 3) := by decide +kernel
theorem dX7_comeOnce_165 : decode cX7_comeOnce 165 = .ok (.return_, 1) := by decide +kernel
theorem dX7_come_0 : decode cX7_come 0 = .ok (.aload_n 0, 1) := by decide +kernel
theorem dX7_come_1 : decode cX7_come 1 = .ok (.iconst 0, 1) := by decide +kernel
theorem dX7_come_2 : decode cX7_come 2 = .ok (.putfield 1, 3) := by decide +kernel
theorem dX7_come_5 : decode cX7_come 5 = .ok (.aload_n 0, 1) := by decide +kernel
theorem dX7_come_6 : decode cX7_come 6 = .ok (.iload_n 1, 1) := by decide +kernel
theorem dX7_come_7 : decode cX7_come 7 = .ok (.invokevirtual 50, 3) := by decide +kernel
theorem dX7_come_10 : decode cX7_come 10 = .ok (.ifCond .ne 14, 3) := by decide +kernel
theorem dX7_come_13 : decode cX7_come 13 = .ok (.iload_n 2, 1) := by decide +kernel
theorem dX7_come_14 : decode cX7_come 14 = .ok (.iconst 0, 1) := by decide +kernel
theorem dX7_come_15 : decode cX7_come 15 = .ok (.sipush 9999, 3) := by decide +kernel
theorem dX7_come_18 : decode cX7_come 18 = .ok (.invokestatic 41, 3) := by decide +kernel
theorem dX7_come_21 : decode cX7_come 21 = .ok (.ifCond .ne 5, 3) := by decide +kernel
theorem dX7_come_24 : decode cX7_come 24 = .ok (.iconst (-1), 1) := by decide +kernel
theorem dX7_come_25 : decode cX7_come 25 = .ok (.ireturn, 1) := by decide +kernel
theorem dX7_come_26 : decode cX7_come 26 = .ok (.aload_n 0, 1) := by decide +kernel
theorem dX7_come_27 : decode cX7_come 27 = .ok (.getfield 13, 3) := by decide +kernel
theorem dX7_come_30 : decode cX7_come 30 = .ok (.iload_n 1, 1) := by decide +kernel
theorem dX7_come_31 : decode cX7_come 31 = .ok (.iaload, 1) := by decide +kernel
theorem dX7_come_32 : decode cX7_come 32 = .ok (.iconst 1, 1) := by decide +kernel
theorem dX7_come_33 : decode cX7_come 33 = .ok (.if_icmp .ne 28, 3) := by decide +kernel
theorem dX7_come_36 : decode cX7_come 36 = .ok (.iload_n 3, 1) := by decide +kernel
theorem dX7_come_37 : decode cX7_come 37 = .ok (.sipush (-1000), 3) := by decide +kernel
theorem dX7_come_40 : decode cX7_come 40 = .ok (.sipush 1000, 3) := by decide +kernel
theorem dX7_come_43 : decode cX7_come 43 = .ok (.invokestatic 41, 3) := by decide +kernel
theorem dX7_come_46 : decode cX7_come 46 = .ok (.ifCond .eq 11, 3) := by decide +kernel
theorem dX7_come_49 : decode cX7_come 49 = .ok (.iload_n 3, 1) := by decide +kernel
theorem dX7_come_50 : decode cX7_come 50 = .ok (.ifCond .eq 7, 3) := by decide +kernel
theorem dX7_come_53 : decode cX7_come 53 = .ok (.iconst 1, 1) := by decide +kernel
theorem dX7_come_54 : decode cX7_come 54 = .ok (.goto 30, 3) := by decide +kernel
theorem dX7_come_57 : decode cX7_come 57 = .ok (.iconst 0, 1) := by decide +kernel
theorem dX7_come_58 : decode cX7_come 58 = .ok (.goto 26, 3) := by decide +kernel
theorem dX7_come_61 : decode cX7_come 61 = .ok (.iload_n 3, 1) := by decide +kernel
theorem dX7_come_62 : decode cX7_come 62 = .ok (.iconst 1, 1) := by decide +kernel
theorem dX7_come_63 : decode cX7_come 63 = .ok (.aload_n 0, 1) := by decide +kernel
theorem dX7_come_64 : decode cX7_come 64 = .ok (.getfield 13, 3) := by decide +kernel
theorem dX7_come_67 : decode cX7_come 67 = .ok (.iload_n 1, 1) := by decide +kernel
theorem dX7_come_68 : decode cX7_come 68 = .ok (.iaload, 1) := by decide +kernel
