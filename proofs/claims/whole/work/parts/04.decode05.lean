theorem dX7_keptOf_131 : decode cX7_keptOf 131 = .ok (.iinc 3 1, 3) := by decide +kernel
theorem dX7_keptOf_134 : decode cX7_keptOf 134 = .ok (.goto (-24), 3) := by decide +kernel
theorem dX7_keptOf_137 : decode cX7_keptOf 137 = .ok (.iload_n 2, 1) := by decide +kernel
theorem dX7_keptOf_138 : decode cX7_keptOf 138 = .ok (.ireturn, 1) := by decide +kernel
theorem dX7_told_0 : decode cX7_told 0 = .ok (.aload_n 0, 1) := by decide +kernel
theorem dX7_told_1 : decode cX7_told 1 = .ok (.iconst 0, 1) := by decide +kernel
theorem dX7_told_2 : decode cX7_told 2 = .ok (.putfield 1, 3) := by decide +kernel
theorem dX7_told_5 : decode cX7_told 5 = .ok (.aload_n 0, 1) := by decide +kernel
theorem dX7_told_6 : decode cX7_told 6 = .ok (.iload_n 1, 1) := by decide +kernel
theorem dX7_told_7 : decode cX7_told 7 = .ok (.invokevirtual 50, 3) := by decide +kernel
theorem dX7_told_10 : decode cX7_told 10 = .ok (.ifCond .eq 5, 3) := by decide +kernel
theorem dX7_told_13 : decode cX7_told 13 = .ok (.iconst (-1), 1) := by decide +kernel
theorem dX7_told_14 : decode cX7_told 14 = .ok (.ireturn, 1) := by decide +kernel
theorem dX7_told_15 : decode cX7_told 15 = .ok (.iload_n 2, 1) := by decide +kernel
theorem dX7_told_16 : decode cX7_told 16 = .ok (.tableswitch 95 0 6 #[44, 51, 58, 65, 75, 82, 89], 44) := by decide +kernel
theorem dX7_told_60 : decode cX7_told 60 = .ok (.aload_n 0, 1) := by decide +kernel
theorem dX7_told_61 : decode cX7_told 61 = .ok (.getfield 13, 3) := by decide +kernel
theorem dX7_told_64 : decode cX7_told 64 = .ok (.iload_n 1, 1) := by decide +kernel
theorem dX7_told_65 : decode cX7_told 65 = .ok (.iaload, 1) := by decide +kernel
theorem dX7_told_66 : decode cX7_told 66 = .ok (.ireturn, 1) := by decide +kernel
theorem dX7_told_67 : decode cX7_told 67 = .ok (.aload_n 0, 1) := by decide +kernel
theorem dX7_told_68 : decode cX7_told 68 = .ok (.getfield 17, 3) := by decide +kernel
theorem dX7_told_71 : decode cX7_told 71 = .ok (.iload_n 1, 1) := by decide +kernel
theorem dX7_told_72 : decode cX7_told 72 = .ok (.iaload, 1) := by decide +kernel
theorem dX7_told_73 : decode cX7_told 73 = .ok (.ireturn, 1) := by decide +kernel
theorem dX7_told_74 : decode cX7_told 74 = .ok (.aload_n 0, 1) := by decide +kernel
theorem dX7_told_75 : decode cX7_told 75 = .ok (.getfield 20, 3) := by decide +kernel
theorem dX7_told_78 : decode cX7_told 78 = .ok (.iload_n 1, 1) := by decide +kernel
theorem dX7_told_79 : decode cX7_told 79 = .ok (.iaload, 1) := by decide +kernel
theorem dX7_told_80 : decode cX7_told 80 = .ok (.ireturn, 1) := by decide +kernel
theorem dX7_told_81 : decode cX7_told 81 = .ok (.aload_n 0, 1) := by decide +kernel
theorem dX7_told_82 : decode cX7_told 82 = .ok (.getfield 23, 3) := by decide +kernel
theorem dX7_told_85 : decode cX7_told 85 = .ok (.iload_n 1, 1) := by decide +kernel
theorem dX7_told_86 : decode cX7_told 86 = .ok (.iaload, 1) := by decide +kernel
theorem dX7_told_87 : decode cX7_told 87 = .ok (.ldc 54, 2) := by decide +kernel
theorem dX7_told_89 : decode cX7_told 89 = .ok (.iadd, 1) := by decide +kernel
theorem dX7_told_90 : decode cX7_told 90 = .ok (.ireturn, 1) := by decide +kernel
theorem dX7_told_91 : decode cX7_told 91 = .ok (.aload_n 0, 1) := by decide +kernel
theorem dX7_told_92 : decode cX7_told 92 = .ok (.getfield 26, 3) := by decide +kernel
theorem dX7_told_95 : decode cX7_told 95 = .ok (.iload_n 1, 1) := by decide +kernel
theorem dX7_told_96 : decode cX7_told 96 = .ok (.iaload, 1) := by decide +kernel
theorem dX7_told_97 : decode cX7_told 97 = .ok (.ireturn, 1) := by decide +kernel
theorem dX7_told_98 : decode cX7_told 98 = .ok (.aload_n 0, 1) := by decide +kernel
theorem dX7_told_99 : decode cX7_told 99 = .ok (.getfield 29, 3) := by decide +kernel
theorem dX7_told_102 : decode cX7_told 102 = .ok (.iload_n 1, 1) := by decide +kernel
theorem dX7_told_103 : decode cX7_told 103 = .ok (.iaload, 1) := by decide +kernel
theorem dX7_told_104 : decode cX7_told 104 = .ok (.ireturn, 1) := by decide +kernel
theorem dX7_told_105 : decode cX7_told 105 = .ok (.aload_n 0, 1) := by decide +kernel
theorem dX7_told_106 : decode cX7_told 106 = .ok (.iload_n 1, 1) := by decide +kernel
theorem dX7_told_107 : decode cX7_told 107 = .ok (.invokevirtual 113, 3) := by decide +kernel
theorem dX7_told_110 : decode cX7_told 110 = .ok (.ireturn, 1) := by decide +kernel
theorem dX7_told_111 : decode cX7_told 111 = .ok (.iconst (-1), 1) := by decide +kernel
theorem dX7_told_112 : decode cX7_told 112 = .ok (.ireturn, 1) := by decide +kernel
theorem dX7_nth_0 : decode cX7_nth 0 = .ok (.iconst 0, 1) := by decide +kernel
theorem dX7_nth_1 : decode cX7_nth 1 = .ok (.istore 4, 2) := by decide +kernel
theorem dX7_nth_3 : decode cX7_nth 3 = .ok (.iload 4, 2) := by decide +kernel
theorem dX7_nth_5 : decode cX7_nth 5 = .ok (.aload_n 0, 1) := by decide +kernel
theorem dX7_nth_6 : decode cX7_nth 6 = .ok (.iload_n 1, 1) := by decide +kernel
theorem dX7_nth_7 : decode cX7_nth 7 = .ok (.invokevirtual 55, 3) := by decide +kernel
theorem dX7_nth_10 : decode cX7_nth 10 = .ok (.if_icmp .ge 90, 3) := by decide +kernel
theorem dX7_nth_13 : decode cX7_nth 13 = .ok (.iconst 0, 1) := by decide +kernel
theorem dX7_nth_14 : decode cX7_nth 14 = .ok (.istore 5, 2) := by decide +kernel
theorem dX7_nth_16 : decode cX7_nth 16 = .ok (.iconst 0, 1) := by decide +kernel
theorem dX7_nth_17 : decode cX7_nth 17 = .ok (.istore 6, 2) := by decide +kernel
theorem dX7_nth_19 : decode cX7_nth 19 = .ok (.iload 6, 2) := by decide +kernel
theorem dX7_nth_21 : decode cX7_nth 21 = .ok (.aload_n 0, 1) := by decide +kernel
theorem dX7_nth_22 : decode cX7_nth 22 = .ok (.iload_n 1, 1) := by decide +kernel
theorem dX7_nth_23 : decode cX7_nth 23 = .ok (.invokevirtual 55, 3) := by decide +kernel
theorem dX7_nth_26 : decode cX7_nth 26 = .ok (.if_icmp .ge 59, 3) := by decide +kernel
theorem dX7_nth_29 : decode cX7_nth 29 = .ok (.aload_n 0, 1) := by decide +kernel
theorem dX7_nth_30 : decode cX7_nth 30 = .ok (.getfield 32, 3) := by decide +kernel
theorem dX7_nth_33 : decode cX7_nth 33 = .ok (.sipush 1200, 3) := by decide +kernel
theorem dX7_nth_36 : decode cX7_nth 36 = .ok (.iload_n 1, 1) := by decide +kernel
theorem dX7_nth_37 : decode cX7_nth 37 = .ok (.imul, 1) := by decide +kernel
theorem dX7_nth_38 : decode cX7_nth 38 = .ok (.bipush 100, 2) := by decide +kernel
theorem dX7_nth_40 : decode cX7_nth 40 = .ok (.iadd, 1) := by decide +kernel
theorem dX7_nth_41 : decode cX7_nth 41 = .ok (.iload_n 2, 1) := by decide +kernel
theorem dX7_nth_42 : decode cX7_nth 42 = .ok (.iload 6, 2) := by decide +kernel
theorem dX7_nth_44 : decode cX7_nth 44 = .ok (.imul, 1) := by decide +kernel
theorem dX7_nth_45 : decode cX7_nth 45 = .ok (.iadd, 1) := by decide +kernel
theorem dX7_nth_46 : decode cX7_nth 46 = .ok (.iaload, 1) := by decide +kernel
theorem dX7_nth_47 : decode cX7_nth 47 = .ok (.aload_n 0, 1) := by decide +kernel
theorem dX7_nth_48 : decode cX7_nth 48 = .ok (.getfield 32, 3) := by decide +kernel
theorem dX7_nth_51 : decode cX7_nth 51 = .ok (.sipush 1200, 3) := by decide +kernel
theorem dX7_nth_54 : decode cX7_nth 54 = .ok (.iload_n 1, 1) := by decide +kernel
theorem dX7_nth_55 : decode cX7_nth 55 = .ok (.imul, 1) := by decide +kernel
theorem dX7_nth_56 : decode cX7_nth 56 = .ok (.bipush 100, 2) := by decide +kernel
theorem dX7_nth_58 : decode cX7_nth 58 = .ok (.iadd, 1) := by decide +kernel
theorem dX7_nth_59 : decode cX7_nth 59 = .ok (.iload_n 2, 1) := by decide +kernel
theorem dX7_nth_60 : decode cX7_nth 60 = .ok (.iload 4, 2) := by decide +kernel
theorem dX7_nth_62 : decode cX7_nth 62 = .ok (.imul, 1) := by decide +kernel
theorem dX7_nth_63 : decode cX7_nth 63 = .ok (.iadd, 1) := by decide +kernel
theorem dX7_nth_64 : decode cX7_nth 64 = .ok (.iaload, 1) := by decide +kernel
theorem dX7_nth_65 : decode cX7_nth 65 = .ok (.if_icmp .ge 10, 3) := by decide +kernel
theorem dX7_nth_68 : decode cX7_nth 68 = .ok (.iload 5, 2) := by decide +kernel
theorem dX7_nth_70 : decode cX7_nth 70 = .ok (.iconst 1, 1) := by decide +kernel
theorem dX7_nth_71 : decode cX7_nth 71 = .ok (.iadd, 1) := by decide +kernel
theorem dX7_nth_72 : decode cX7_nth 72 = .ok (.goto 5, 3) := by decide +kernel
theorem dX7_nth_75 : decode cX7_nth 75 = .ok (.iload 5, 2) := by decide +kernel
theorem dX7_nth_77 : decode cX7_nth 77 = .ok (.istore 5, 2) := by decide +kernel
theorem dX7_nth_79 : decode cX7_nth 79 = .ok (.iinc 6 1, 3) := by decide +kernel
theorem dX7_nth_82 : decode cX7_nth 82 = .ok (.goto (-63), 3) := by decide +kernel
theorem dX7_nth_85 : decode cX7_nth 85 = .ok (.iload 5, 2) := by decide +kernel
theorem dX7_nth_87 : decode cX7_nth 87 = .ok (.iload_n 3, 1) := by decide +kernel
theorem dX7_nth_88 : decode cX7_nth 88 = .ok (.if_icmp .ne 6, 3) := by decide +kernel
theorem dX7_nth_91 : decode cX7_nth 91 = .ok (.iload 4, 2) := by decide +kernel
theorem dX7_nth_93 : decode cX7_nth 93 = .ok (.ireturn, 1) := by decide +kernel
theorem dX7_nth_94 : decode cX7_nth 94 = .ok (.iinc 4 1, 3) := by decide +kernel
theorem dX7_nth_97 : decode cX7_nth 97 = .ok (.goto (-94), 3) := by decide +kernel
theorem dX7_nth_100 : decode cX7_nth 100 = .ok (.iconst (-1), 1) := by decide +kernel
theorem dX7_nth_101 : decode cX7_nth 101 = .ok (.ireturn, 1) := by decide +kernel
theorem dX7_kept_0 : decode cX7_kept 0 = .ok (.aload_n 0, 1) := by decide +kernel
theorem dX7_kept_1 : decode cX7_kept 1 = .ok (.iconst 0, 1) := by decide +kernel
theorem dX7_kept_2 : decode cX7_kept 2 = .ok (.putfield 1, 3) := by decide +kernel
theorem dX7_kept_5 : decode cX7_kept 5 = .ok (.aload_n 0, 1) := by decide +kernel
theorem dX7_kept_6 : decode cX7_kept 6 = .ok (.iload_n 1, 1) := by decide +kernel
theorem dX7_kept_7 : decode cX7_kept 7 = .ok (.invokevirtual 50, 3) := by decide +kernel
theorem dX7_kept_10 : decode cX7_kept 10 = .ok (.ifCond .eq 5, 3) := by decide +kernel
theorem dX7_kept_13 : decode cX7_kept 13 = .ok (.iconst (-1), 1) := by decide +kernel
theorem dX7_kept_14 : decode cX7_kept 14 = .ok (.ireturn, 1) := by decide +kernel
theorem dX7_kept_15 : decode cX7_kept 15 = .ok (.iconst 0, 1) := by decide +kernel
theorem dX7_kept_16 : decode cX7_kept 16 = .ok (.istore 4, 2) := by decide +kernel
theorem dX7_kept_18 : decode cX7_kept 18 = .ok (.aload_n 0, 1) := by decide +kernel
theorem dX7_kept_19 : decode cX7_kept 19 = .ok (.getfield 13, 3) := by decide +kernel
theorem dX7_kept_22 : decode cX7_kept 22 = .ok (.iload_n 1, 1) := by decide +kernel
theorem dX7_kept_23 : decode cX7_kept 23 = .ok (.iaload, 1) := by decide +kernel
theorem dX7_kept_24 : decode cX7_kept 24 = .ok (.tableswitch 206 0 3 #[32, 78, 123, 163], 32) := by decide +kernel
theorem dX7_kept_56 : decode cX7_kept 56 = .ok (.iload_n 3, 1) := by decide +kernel
theorem dX7_kept_57 : decode cX7_kept 57 = .ok (.iconst 0, 1) := by decide +kernel
theorem dX7_kept_58 : decode cX7_kept 58 = .ok (.iconst 1, 1) := by decide +kernel
theorem dX7_kept_59 : decode cX7_kept 59 = .ok (.invokestatic 41, 3) := by decide +kernel
theorem dX7_kept_62 : decode cX7_kept 62 = .ok (.ifCond .eq 13, 3) := by decide +kernel
theorem dX7_kept_65 : decode cX7_kept 65 = .ok (.aload_n 0, 1) := by decide +kernel
theorem dX7_kept_66 : decode cX7_kept 66 = .ok (.iload_n 1, 1) := by decide +kernel
theorem dX7_kept_67 : decode cX7_kept 67 = .ok (.iconst 2, 1) := by decide +kernel
theorem dX7_kept_68 : decode cX7_kept 68 = .ok (.iload_n 2, 1) := by decide +kernel
theorem dX7_kept_69 : decode cX7_kept 69 = .ok (.invokevirtual 116, 3) := by decide +kernel
theorem dX7_kept_72 : decode cX7_kept 72 = .ok (.goto 4, 3) := by decide +kernel
theorem dX7_kept_75 : decode cX7_kept 75 = .ok (.iconst (-1), 1) := by decide +kernel
theorem dX7_kept_76 : decode cX7_kept 76 = .ok (.istore 4, 2) := by decide +kernel
theorem dX7_kept_78 : decode cX7_kept 78 = .ok (.iload 4, 2) := by decide +kernel
theorem dX7_kept_80 : decode cX7_kept 80 = .ok (.ifCond .ge 7, 3) := by decide +kernel
theorem dX7_kept_83 : decode cX7_kept 83 = .ok (.iconst (-1), 1) := by decide +kernel
theorem dX7_kept_84 : decode cX7_kept 84 = .ok (.goto 17, 3) := by decide +kernel
theorem dX7_kept_87 : decode cX7_kept 87 = .ok (.aload_n 0, 1) := by decide +kernel
theorem dX7_kept_88 : decode cX7_kept 88 = .ok (.getfield 32, 3) := by decide +kernel
theorem dX7_kept_91 : decode cX7_kept 91 = .ok (.aload_n 0, 1) := by decide +kernel
theorem dX7_kept_92 : decode cX7_kept 92 = .ok (.iload_n 1, 1) := by decide +kernel
theorem dX7_kept_93 : decode cX7_kept 93 = .ok (.iload 4, 2) := by decide +kernel
theorem dX7_kept_95 : decode cX7_kept 95 = .ok (.invokevirtual 59, 3) := by decide +kernel
theorem dX7_kept_98 : decode cX7_kept 98 = .ok (.iload_n 3, 1) := by decide +kernel
theorem dX7_kept_99 : decode cX7_kept 99 = .ok (.iadd, 1) := by decide +kernel
theorem dX7_kept_100 : decode cX7_kept 100 = .ok (.iaload, 1) := by decide +kernel
theorem dX7_kept_101 : decode cX7_kept 101 = .ok (.ireturn, 1) := by decide +kernel
theorem dX7_kept_102 : decode cX7_kept 102 = .ok (.iload_n 3, 1) := by decide +kernel
theorem dX7_kept_103 : decode cX7_kept 103 = .ok (.ifCond .ne 42, 3) := by decide +kernel
theorem dX7_kept_106 : decode cX7_kept 106 = .ok (.iload_n 2, 1) := by decide +kernel
theorem dX7_kept_107 : decode cX7_kept 107 = .ok (.iconst 0, 1) := by decide +kernel
theorem dX7_kept_108 : decode cX7_kept 108 = .ok (.iconst 4, 1) := by decide +kernel
theorem dX7_kept_109 : decode cX7_kept 109 = .ok (.aload_n 0, 1) := by decide +kernel
theorem dX7_kept_110 : decode cX7_kept 110 = .ok (.getfield 17, 3) := by decide +kernel
theorem dX7_kept_113 : decode cX7_kept 113 = .ok (.iload_n 1, 1) := by decide +kernel
theorem dX7_kept_114 : decode cX7_kept 114 = .ok (.iaload, 1) := by decide +kernel
theorem dX7_kept_115 : decode cX7_kept 115 = .ok (.imul, 1) := by decide +kernel
theorem dX7_kept_116 : decode cX7_kept 116 = .ok (.iconst 1, 1) := by decide +kernel
theorem dX7_kept_117 : decode cX7_kept 117 = .ok (.isub, 1) := by decide +kernel
theorem dX7_kept_118 : decode cX7_kept 118 = .ok (.invokestatic 41, 3) := by decide +kernel
theorem dX7_kept_121 : decode cX7_kept 121 = .ok (.ifCond .eq 24, 3) := by decide +kernel
theorem dX7_kept_124 : decode cX7_kept 124 = .ok (.aload_n 0, 1) := by decide +kernel
theorem dX7_kept_125 : decode cX7_kept 125 = .ok (.getfield 32, 3) := by decide +kernel
theorem dX7_kept_128 : decode cX7_kept 128 = .ok (.sipush 1200, 3) := by decide +kernel
theorem dX7_kept_131 : decode cX7_kept 131 = .ok (.iload_n 1, 1) := by decide +kernel
theorem dX7_kept_132 : decode cX7_kept 132 = .ok (.imul, 1) := by decide +kernel
theorem dX7_kept_133 : decode cX7_kept 133 = .ok (.bipush 100, 2) := by decide +kernel
theorem dX7_kept_135 : decode cX7_kept 135 = .ok (.iadd, 1) := by decide +kernel
theorem dX7_kept_136 : decode cX7_kept 136 = .ok (.iload_n 2, 1) := by decide +kernel
theorem dX7_kept_137 : decode cX7_kept 137 = .ok (.iadd, 1) := by decide +kernel
theorem dX7_kept_138 : decode cX7_kept 138 = .ok (.iaload, 1) := by decide +kernel
theorem dX7_kept_139 : decode cX7_kept 139 = .ok (.ldc 54, 2) := by decide +kernel
theorem dX7_kept_141 : decode cX7_kept 141 = .ok (.iadd, 1) := by decide +kernel
theorem dX7_kept_142 : decode cX7_kept 142 = .ok (.goto 4, 3) := by decide +kernel
theorem dX7_kept_145 : decode cX7_kept 145 = .ok (.iconst (-1), 1) := by decide +kernel
theorem dX7_kept_146 : decode cX7_kept 146 = .ok (.ireturn, 1) := by decide +kernel
theorem dX7_kept_147 : decode cX7_kept 147 = .ok (.iload_n 3, 1) := by decide +kernel
theorem dX7_kept_148 : decode cX7_kept 148 = .ok (.ifCond .ne 37, 3) := by decide +kernel
theorem dX7_kept_151 : decode cX7_kept 151 = .ok (.iload_n 2, 1) := by decide +kernel
theorem dX7_kept_152 : decode cX7_kept 152 = .ok (.iconst 0, 1) := by decide +kernel
theorem dX7_kept_153 : decode cX7_kept 153 = .ok (.aload_n 0, 1) := by decide +kernel
theorem dX7_kept_154 : decode cX7_kept 154 = .ok (.getfield 17, 3) := by decide +kernel
theorem dX7_kept_157 : decode cX7_kept 157 = .ok (.iload_n 1, 1) := by decide +kernel
theorem dX7_kept_158 : decode cX7_kept 158 = .ok (.iaload, 1) := by decide +kernel
theorem dX7_kept_159 : decode cX7_kept 159 = .ok (.iconst 1, 1) := by decide +kernel
theorem dX7_kept_160 : decode cX7_kept 160 = .ok (.isub, 1) := by decide +kernel
theorem dX7_kept_161 : decode cX7_kept 161 = .ok (.invokestatic 41, 3) := by decide +kernel
theorem dX7_kept_164 : decode cX7_kept 164 = .ok (.ifCond .eq 21, 3) := by decide +kernel
theorem dX7_kept_167 : decode cX7_kept 167 = .ok (.aload_n 0, 1) := by decide +kernel
theorem dX7_kept_168 : decode cX7_kept 168 = .ok (.getfield 32, 3) := by decide +kernel
theorem dX7_kept_171 : decode cX7_kept 171 = .ok (.sipush 1200, 3) := by decide +kernel
theorem dX7_kept_174 : decode cX7_kept 174 = .ok (.iload_n 1, 1) := by decide +kernel
theorem dX7_kept_175 : decode cX7_kept 175 = .ok (.imul, 1) := by decide +kernel
theorem dX7_kept_176 : decode cX7_kept 176 = .ok (.bipush 100, 2) := by decide +kernel
theorem dX7_kept_178 : decode cX7_kept 178 = .ok (.iadd, 1) := by decide +kernel
theorem dX7_kept_179 : decode cX7_kept 179 = .ok (.iload_n 2, 1) := by decide +kernel
theorem dX7_kept_180 : decode cX7_kept 180 = .ok (.iadd, 1) := by decide +kernel
theorem dX7_kept_181 : decode cX7_kept 181 = .ok (.iaload, 1) := by decide +kernel
theorem dX7_kept_182 : decode cX7_kept 182 = .ok (.goto 4, 3) := by decide +kernel
theorem dX7_kept_185 : decode cX7_kept 185 = .ok (.iconst (-1), 1) := by decide +kernel
theorem dX7_kept_186 : decode cX7_kept 186 = .ok (.ireturn, 1) := by decide +kernel
theorem dX7_kept_187 : decode cX7_kept 187 = .ok (.iload_n 3, 1) := by decide +kernel
theorem dX7_kept_188 : decode cX7_kept 188 = .ok (.ifCond .ne 13, 3) := by decide +kernel
theorem dX7_kept_191 : decode cX7_kept 191 = .ok (.aload_n 0, 1) := by decide +kernel
theorem dX7_kept_192 : decode cX7_kept 192 = .ok (.iload_n 1, 1) := by decide +kernel
theorem dX7_kept_193 : decode cX7_kept 193 = .ok (.iconst 1, 1) := by decide +kernel
theorem dX7_kept_194 : decode cX7_kept 194 = .ok (.iload_n 2, 1) := by decide +kernel
theorem dX7_kept_195 : decode cX7_kept 195 = .ok (.invokevirtual 116, 3) := by decide +kernel
theorem dX7_kept_198 : decode cX7_kept 198 = .ok (.goto 4, 3) := by decide +kernel
theorem dX7_kept_201 : decode cX7_kept 201 = .ok (.iconst (-1), 1) := by decide +kernel
theorem dX7_kept_202 : decode cX7_kept 202 = .ok (.istore 4, 2) := by decide +kernel
theorem dX7_kept_204 : decode cX7_kept 204 = .ok (.iload 4, 2) := by decide +kernel
theorem dX7_kept_206 : decode cX7_kept 206 = .ok (.ifCond .ge 7, 3) := by decide +kernel
theorem dX7_kept_209 : decode cX7_kept 209 = .ok (.iconst (-1), 1) := by decide +kernel
theorem dX7_kept_210 : decode cX7_kept 210 = .ok (.goto 19, 3) := by decide +kernel
theorem dX7_kept_213 : decode cX7_kept 213 = .ok (.aload_n 0, 1) := by decide +kernel
theorem dX7_kept_214 : decode cX7_kept 214 = .ok (.getfield 32, 3) := by decide +kernel
theorem dX7_kept_217 : decode cX7_kept 217 = .ok (.sipush 1200, 3) := by decide +kernel
theorem dX7_kept_220 : decode cX7_kept 220 = .ok (.iload_n 1, 1) := by decide +kernel
theorem dX7_kept_221 : decode cX7_kept 221 = .ok (.imul, 1) := by decide +kernel
theorem dX7_kept_222 : decode cX7_kept 222 = .ok (.bipush 100, 2) := by decide +kernel
theorem dX7_kept_224 : decode cX7_kept 224 = .ok (.iadd, 1) := by decide +kernel
theorem dX7_kept_225 : decode cX7_kept 225 = .ok (.iload 4, 2) := by decide +kernel
theorem dX7_kept_227 : decode cX7_kept 227 = .ok (.iadd, 1) := by decide +kernel
theorem dX7_kept_228 : decode cX7_kept 228 = .ok (.iaload, 1) := by decide +kernel
theorem dX7_kept_229 : decode cX7_kept 229 = .ok (.ireturn, 1) := by decide +kernel
theorem dX7_kept_230 : decode cX7_kept 230 = .ok (.iload_n 3, 1) := by decide +kernel
theorem dX7_kept_231 : decode cX7_kept 231 = .ok (.iconst 0, 1) := by decide +kernel
theorem dX7_kept_232 : decode cX7_kept 232 = .ok (.bipush 30, 2) := by decide +kernel
theorem dX7_kept_234 : decode cX7_kept 234 = .ok (.invokestatic 41, 3) := by decide +kernel
theorem dX7_kept_237 : decode cX7_kept 237 = .ok (.ifCond .eq 25, 3) := by decide +kernel
theorem dX7_kept_240 : decode cX7_kept 240 = .ok (.iload_n 2, 1) := by decide +kernel
theorem dX7_kept_241 : decode cX7_kept 241 = .ok (.iconst (-1), 1) := by decide +kernel
theorem dX7_kept_242 : decode cX7_kept 242 = .ok (.aload_n 0, 1) := by decide +kernel
theorem dX7_kept_243 : decode cX7_kept 243 = .ok (.getfield 32, 3) := by decide +kernel
theorem dX7_kept_246 : decode cX7_kept 246 = .ok (.sipush 1200, 3) := by decide +kernel
theorem dX7_kept_249 : decode cX7_kept 249 = .ok (.iload_n 1, 1) := by decide +kernel
theorem dX7_kept_250 : decode cX7_kept 250 = .ok (.imul, 1) := by decide +kernel
theorem dX7_kept_251 : decode cX7_kept 251 = .ok (.iload_n 3, 1) := by decide +kernel
theorem dX7_kept_252 : decode cX7_kept 252 = .ok (.iadd, 1) := by decide +kernel
theorem dX7_kept_253 : decode cX7_kept 253 = .ok (.iaload, 1) := by decide +kernel
theorem dX7_kept_254 : decode cX7_kept 254 = .ok (.iconst 1, 1) := by decide +kernel
theorem dX7_kept_255 : decode cX7_kept 255 = .ok (.isub, 1) := by decide +kernel
theorem dX7_kept_256 : decode cX7_kept 256 = .ok (.invokestatic 41, 3) := by decide +kernel
theorem dX7_kept_259 : decode cX7_kept 259 = .ok (.ifCond .ne 5, 3) := by decide +kernel
theorem dX7_kept_262 : decode cX7_kept 262 = .ok (.iconst (-1), 1) := by decide +kernel
theorem dX7_kept_263 : decode cX7_kept 263 = .ok (.ireturn, 1) := by decide +kernel
theorem dX7_kept_264 : decode cX7_kept 264 = .ok (.iload_n 2, 1) := by decide +kernel
theorem dX7_kept_265 : decode cX7_kept 265 = .ok (.ifCond .ge 18, 3) := by decide +kernel
theorem dX7_kept_268 : decode cX7_kept 268 = .ok (.aload_n 0, 1) := by decide +kernel
theorem dX7_kept_269 : decode cX7_kept 269 = .ok (.getfield 32, 3) := by decide +kernel
theorem dX7_kept_272 : decode cX7_kept 272 = .ok (.sipush 1200, 3) := by decide +kernel
theorem dX7_kept_275 : decode cX7_kept 275 = .ok (.iload_n 1, 1) := by decide +kernel
theorem dX7_kept_276 : decode cX7_kept 276 = .ok (.imul, 1) := by decide +kernel
theorem dX7_kept_277 : decode cX7_kept 277 = .ok (.iload_n 3, 1) := by decide +kernel
theorem dX7_kept_278 : decode cX7_kept 278 = .ok (.iadd, 1) := by decide +kernel
theorem dX7_kept_279 : decode cX7_kept 279 = .ok (.iaload, 1) := by decide +kernel
theorem dX7_kept_280 : decode cX7_kept 280 = .ok (.goto 15, 3) := by decide +kernel
theorem dX7_kept_283 : decode cX7_kept 283 = .ok (.aload_n 0, 1) := by decide +kernel
theorem dX7_kept_284 : decode cX7_kept 284 = .ok (.getfield 32, 3) := by decide +kernel
theorem dX7_kept_287 : decode cX7_kept 287 = .ok (.aload_n 0, 1) := by decide +kernel
theorem dX7_kept_288 : decode cX7_kept 288 = .ok (.iload_n 1, 1) := by decide +kernel
theorem dX7_kept_289 : decode cX7_kept 289 = .ok (.iload_n 3, 1) := by decide +kernel
theorem dX7_kept_290 : decode cX7_kept 290 = .ok (.iload_n 2, 1) := by decide +kernel
theorem dX7_kept_291 : decode cX7_kept 291 = .ok (.invokevirtual 78, 3) := by decide +kernel
theorem dX7_kept_294 : decode cX7_kept 294 = .ok (.iaload, 1) := by decide +kernel
theorem dX7_kept_295 : decode cX7_kept 295 = .ok (.ireturn, 1) := by decide +kernel
theorem dX7_count_0 : decode cX7_count 0 = .ok (.aload_n 0, 1) := by decide +kernel
theorem dX7_count_1 : decode cX7_count 1 = .ok (.iconst 0, 1) := by decide +kernel
theorem dX7_count_2 : decode cX7_count 2 = .ok (.putfield 1, 3) := by decide +kernel
theorem dX7_count_5 : decode cX7_count 5 = .ok (.aload_n 0, 1) := by decide +kernel
theorem dX7_count_6 : decode cX7_count 6 = .ok (.getfield 38, 3) := by decide +kernel
theorem dX7_count_9 : decode cX7_count 9 = .ok (.ireturn, 1) := by decide +kernel
theorem dJ9_abs_0f7a4_0 : decode cJ9_abs_0f7a4 0 = .ok (.iload_n 0, 1) := by decide +kernel
theorem dJ9_abs_0f7a4_1 : decode cJ9_abs_0f7a4 1 = .ok (.ifCond .ge 8, 3) := by decide +kernel
theorem dJ9_abs_0f7a4_4 : decode cJ9_abs_0f7a4 4 = .ok (.iload_n 0, 1) := by decide +kernel
theorem dJ9_abs_0f7a4_5 : decode cJ9_abs_0f7a4 5 = .ok (.ineg, 1) := by decide +kernel
theorem dJ9_abs_0f7a4_6 : decode cJ9_abs_0f7a4 6 = .ok (.goto 4, 3) := by decide +kernel
theorem dJ9_abs_0f7a4_9 : decode cJ9_abs_0f7a4 9 = .ok (.iload_n 0, 1) := by decide +kernel
theorem dJ9_abs_0f7a4_10 : decode cJ9_abs_0f7a4 10 = .ok (.ireturn, 1) := by decide +kernel
theorem dJ9_max_7cf53_0 : decode cJ9_max_7cf53 0 = .ok (.iload_n 0, 1) := by decide +kernel
theorem dJ9_max_7cf53_1 : decode cJ9_max_7cf53 1 = .ok (.iload_n 1, 1) := by decide +kernel
theorem dJ9_max_7cf53_2 : decode cJ9_max_7cf53 2 = .ok (.if_icmp .lt 7, 3) := by decide +kernel
theorem dJ9_max_7cf53_5 : decode cJ9_max_7cf53 5 = .ok (.iload_n 0, 1) := by decide +kernel
theorem dJ9_max_7cf53_6 : decode cJ9_max_7cf53 6 = .ok (.goto 4, 3) := by decide +kernel
theorem dJ9_max_7cf53_9 : decode cJ9_max_7cf53 9 = .ok (.iload_n 1, 1) := by decide +kernel
theorem dJ9_max_7cf53_10 : decode cJ9_max_7cf53 10 = .ok (.ireturn, 1) := by decide +kernel
theorem dJ9_min_7cf53_0 : decode cJ9_min_7cf53 0 = .ok (.iload_n 0, 1) := by decide +kernel
theorem dJ9_min_7cf53_1 : decode cJ9_min_7cf53 1 = .ok (.iload_n 1, 1) := by decide +kernel
theorem dJ9_min_7cf53_2 : decode cJ9_min_7cf53 2 = .ok (.if_icmp .gt 7, 3) := by decide +kernel
theorem dJ9_min_7cf53_5 : decode cJ9_min_7cf53 5 = .ok (.iload_n 0, 1) := by decide +kernel
theorem dJ9_min_7cf53_6 : decode cJ9_min_7cf53 6 = .ok (.goto 4, 3) := by decide +kernel
theorem dJ9_min_7cf53_9 : decode cJ9_min_7cf53 9 = .ok (.iload_n 1, 1) := by decide +kernel
theorem dJ9_min_7cf53_10 : decode cJ9_min_7cf53 10 = .ok (.ireturn, 1) := by decide +kernel
theorem dL_law_0 : decode cL_law 0 = .ok (.new 7, 3) := by decide +kernel
theorem dL_law_3 : decode cL_law 3 = .ok (.dup, 1) := by decide +kernel
theorem dL_law_4 : decode cL_law 4 = .ok (.invokespecial 9, 3) := by decide +kernel
theorem dL_law_7 : decode cL_law 7 = .ok (.astore_n 1, 1) := by decide +kernel
theorem dL_law_8 : decode cL_law 8 = .ok (.new 10, 3) := by decide +kernel
theorem dL_law_11 : decode cL_law 11 = .ok (.dup, 1) := by decide +kernel
theorem dL_law_12 : decode cL_law 12 = .ok (.invokespecial 12, 3) := by decide +kernel
theorem dL_law_15 : decode cL_law 15 = .ok (.astore_n 2, 1) := by decide +kernel
theorem dL_law_16 : decode cL_law 16 = .ok (.iconst 0, 1) := by decide +kernel
theorem dL_law_17 : decode cL_law 17 = .ok (.istore_n 3, 1) := by decide +kernel
theorem dL_law_18 : decode cL_law 18 = .ok (.iload_n 3, 1) := by decide +kernel
theorem dL_law_19 : decode cL_law 19 = .ok (.aload_n 0, 1) := by decide +kernel
theorem dL_law_20 : decode cL_law 20 = .ok (.arraylength, 1) := by decide +kernel
theorem dL_law_21 : decode cL_law 21 = .ok (.iconst 4, 1) := by decide +kernel
theorem dL_law_22 : decode cL_law 22 = .ok (.isub, 1) := by decide +kernel
theorem dL_law_23 : decode cL_law 23 = .ok (.if_icmp .gt 539, 3) := by decide +kernel
theorem dL_law_26 : decode cL_law 26 = .ok (.aload_n 0, 1) := by decide +kernel
theorem dL_law_27 : decode cL_law 27 = .ok (.iload_n 3, 1) := by decide +kernel
theorem dL_law_28 : decode cL_law 28 = .ok (.iaload, 1) := by decide +kernel
theorem dL_law_29 : decode cL_law 29 = .ok (.bipush 15, 2) := by decide +kernel
theorem dL_law_31 : decode cL_law 31 = .ok (.iand, 1) := by decide +kernel
theorem dL_law_32 : decode cL_law 32 = .ok (.tableswitch 524 0 13 #[72, 115, 138, 161, 204, 237, 280, 313, 346, 379, 402, 435, 468, 511], 72) := by decide +kernel
theorem dL_law_104 : decode cL_law 104 = .ok (.aload_n 1, 1) := by decide +kernel
theorem dL_law_105 : decode cL_law 105 = .ok (.aload_n 0, 1) := by decide +kernel
theorem dL_law_106 : decode cL_law 106 = .ok (.iload_n 3, 1) := by decide +kernel
theorem dL_law_107 : decode cL_law 107 = .ok (.iconst 1, 1) := by decide +kernel
theorem dL_law_108 : decode cL_law 108 = .ok (.iadd, 1) := by decide +kernel
theorem dL_law_109 : decode cL_law 109 = .ok (.iaload, 1) := by decide +kernel
theorem dL_law_110 : decode cL_law 110 = .ok (.aload_n 0, 1) := by decide +kernel
theorem dL_law_111 : decode cL_law 111 = .ok (.iload_n 3, 1) := by decide +kernel
theorem dL_law_112 : decode cL_law 112 = .ok (.iconst 2, 1) := by decide +kernel
theorem dL_law_113 : decode cL_law 113 = .ok (.iadd, 1) := by decide +kernel
theorem dL_law_114 : decode cL_law 114 = .ok (.iaload, 1) := by decide +kernel
theorem dL_law_115 : decode cL_law 115 = .ok (.aload_n 0, 1) := by decide +kernel
theorem dL_law_116 : decode cL_law 116 = .ok (.iload_n 3, 1) := by decide +kernel
theorem dL_law_117 : decode cL_law 117 = .ok (.iconst 3, 1) := by decide +kernel
theorem dL_law_118 : decode cL_law 118 = .ok (.iadd, 1) := by decide +kernel
theorem dL_law_119 : decode cL_law 119 = .ok (.iaload, 1) := by decide +kernel
theorem dL_law_120 : decode cL_law 120 = .ok (.invokevirtual 13, 3) := by decide +kernel
theorem dL_law_123 : decode cL_law 123 = .ok (.aload_n 2, 1) := by decide +kernel
theorem dL_law_124 : decode cL_law 124 = .ok (.aload_n 0, 1) := by decide +kernel
theorem dL_law_125 : decode cL_law 125 = .ok (.iload_n 3, 1) := by decide +kernel
theorem dL_law_126 : decode cL_law 126 = .ok (.iconst 1, 1) := by decide +kernel
theorem dL_law_127 : decode cL_law 127 = .ok (.iadd, 1) := by decide +kernel
theorem dL_law_128 : decode cL_law 128 = .ok (.iaload, 1) := by decide +kernel
theorem dL_law_129 : decode cL_law 129 = .ok (.aload_n 0, 1) := by decide +kernel
theorem dL_law_130 : decode cL_law 130 = .ok (.iload_n 3, 1) := by decide +kernel
theorem dL_law_131 : decode cL_law 131 = .ok (.iconst 2, 1) := by decide +kernel
theorem dL_law_132 : decode cL_law 132 = .ok (.iadd, 1) := by decide +kernel
theorem dL_law_133 : decode cL_law 133 = .ok (.iaload, 1) := by decide +kernel
theorem dL_law_134 : decode cL_law 134 = .ok (.aload_n 0, 1) := by decide +kernel
theorem dL_law_135 : decode cL_law 135 = .ok (.iload_n 3, 1) := by decide +kernel
theorem dL_law_136 : decode cL_law 136 = .ok (.iconst 3, 1) := by decide +kernel
theorem dL_law_137 : decode cL_law 137 = .ok (.iadd, 1) := by decide +kernel
theorem dL_law_138 : decode cL_law 138 = .ok (.iaload, 1) := by decide +kernel
theorem dL_law_139 : decode cL_law 139 = .ok (.invokevirtual 17, 3) := by decide +kernel
theorem dL_law_142 : decode cL_law 142 = .ok (.if_icmp .eq 414, 3) := by decide +kernel
theorem dL_law_145 : decode cL_law 145 = .ok (.iconst 0, 1) := by decide +kernel
theorem dL_law_146 : decode cL_law 146 = .ok (.ireturn, 1) := by decide +kernel
theorem dL_law_147 : decode cL_law 147 = .ok (.aload_n 1, 1) := by decide +kernel
theorem dL_law_148 : decode cL_law 148 = .ok (.aload_n 0, 1) := by decide +kernel
theorem dL_law_149 : decode cL_law 149 = .ok (.iload_n 3, 1) := by decide +kernel
theorem dL_law_150 : decode cL_law 150 = .ok (.iconst 1, 1) := by decide +kernel
theorem dL_law_151 : decode cL_law 151 = .ok (.iadd, 1) := by decide +kernel
theorem dL_law_152 : decode cL_law 152 = .ok (.iaload, 1) := by decide +kernel
theorem dL_law_153 : decode cL_law 153 = .ok (.invokevirtual 18, 3) := by decide +kernel
theorem dL_law_156 : decode cL_law 156 = .ok (.aload_n 2, 1) := by decide +kernel
theorem dL_law_157 : decode cL_law 157 = .ok (.aload_n 0, 1) := by decide +kernel
theorem dL_law_158 : decode cL_law 158 = .ok (.iload_n 3, 1) := by decide +kernel
theorem dL_law_159 : decode cL_law 159 = .ok (.iconst 1, 1) := by decide +kernel
theorem dL_law_160 : decode cL_law 160 = .ok (.iadd, 1) := by decide +kernel
theorem dL_law_161 : decode cL_law 161 = .ok (.iaload, 1) := by decide +kernel
theorem dL_law_162 : decode cL_law 162 = .ok (.invokevirtual 22, 3) := by decide +kernel
theorem dL_law_165 : decode cL_law 165 = .ok (.if_icmp .eq 391, 3) := by decide +kernel
theorem dL_law_168 : decode cL_law 168 = .ok (.iconst 0, 1) := by decide +kernel
theorem dL_law_169 : decode cL_law 169 = .ok (.ireturn, 1) := by decide +kernel
theorem dL_law_170 : decode cL_law 170 = .ok (.aload_n 1, 1) := by decide +kernel
theorem dL_law_171 : decode cL_law 171 = .ok (.aload_n 0, 1) := by decide +kernel
theorem dL_law_172 : decode cL_law 172 = .ok (.iload_n 3, 1) := by decide +kernel
theorem dL_law_173 : decode cL_law 173 = .ok (.iconst 1, 1) := by decide +kernel
theorem dL_law_174 : decode cL_law 174 = .ok (.iadd, 1) := by decide +kernel
theorem dL_law_175 : decode cL_law 175 = .ok (.iaload, 1) := by decide +kernel
theorem dL_law_176 : decode cL_law 176 = .ok (.invokevirtual 23, 3) := by decide +kernel
theorem dL_law_179 : decode cL_law 179 = .ok (.aload_n 2, 1) := by decide +kernel
theorem dL_law_180 : decode cL_law 180 = .ok (.aload_n 0, 1) := by decide +kernel
theorem dL_law_181 : decode cL_law 181 = .ok (.iload_n 3, 1) := by decide +kernel
theorem dL_law_182 : decode cL_law 182 = .ok (.iconst 1, 1) := by decide +kernel
theorem dL_law_183 : decode cL_law 183 = .ok (.iadd, 1) := by decide +kernel
theorem dL_law_184 : decode cL_law 184 = .ok (.iaload, 1) := by decide +kernel
theorem dL_law_185 : decode cL_law 185 = .ok (.invokevirtual 26, 3) := by decide +kernel
theorem dL_law_188 : decode cL_law 188 = .ok (.if_icmp .eq 368, 3) := by decide +kernel
theorem dL_law_191 : decode cL_law 191 = .ok (.iconst 0, 1) := by decide +kernel
theorem dL_law_192 : decode cL_law 192 = .ok (.ireturn, 1) := by decide +kernel
theorem dL_law_193 : decode cL_law 193 = .ok (.aload_n 1, 1) := by decide +kernel
theorem dL_law_194 : decode cL_law 194 = .ok (.aload_n 0, 1) := by decide +kernel
theorem dL_law_195 : decode cL_law 195 = .ok (.iload_n 3, 1) := by decide +kernel
theorem dL_law_196 : decode cL_law 196 = .ok (.iconst 1, 1) := by decide +kernel
theorem dL_law_197 : decode cL_law 197 = .ok (.iadd, 1) := by decide +kernel
theorem dL_law_198 : decode cL_law 198 = .ok (.iaload, 1) := by decide +kernel
theorem dL_law_199 : decode cL_law 199 = .ok (.aload_n 0, 1) := by decide +kernel
theorem dL_law_200 : decode cL_law 200 = .ok (.iload_n 3, 1) := by decide +kernel
theorem dL_law_201 : decode cL_law 201 = .ok (.iconst 2, 1) := by decide +kernel
theorem dL_law_202 : decode cL_law 202 = .ok (.iadd, 1) := by decide +kernel
theorem dL_law_203 : decode cL_law 203 = .ok (.iaload, 1) := by decide +kernel
theorem dL_law_204 : decode cL_law 204 = .ok (.aload_n 0, 1) := by decide +kernel
theorem dL_law_205 : decode cL_law 205 = .ok (.iload_n 3, 1) := by decide +kernel
theorem dL_law_206 : decode cL_law 206 = .ok (.iconst 3, 1) := by decide +kernel
theorem dL_law_207 : decode cL_law 207 = .ok (.iadd, 1) := by decide +kernel
theorem dL_law_208 : decode cL_law 208 = .ok (.iaload, 1) := by decide +kernel
theorem dL_law_209 : decode cL_law 209 = .ok (.invokevirtual 27, 3) := by decide +kernel
theorem dL_law_212 : decode cL_law 212 = .ok (.aload_n 2, 1) := by decide +kernel
theorem dL_law_213 : decode cL_law 213 = .ok (.aload_n 0, 1) := by decide +kernel
theorem dL_law_214 : decode cL_law 214 = .ok (.iload_n 3, 1) := by decide +kernel
theorem dL_law_215 : decode cL_law 215 = .ok (.iconst 1, 1) := by decide +kernel
theorem dL_law_216 : decode cL_law 216 = .ok (.iadd, 1) := by decide +kernel
theorem dL_law_217 : decode cL_law 217 = .ok (.iaload, 1) := by decide +kernel
theorem dL_law_218 : decode cL_law 218 = .ok (.aload_n 0, 1) := by decide +kernel
theorem dL_law_219 : decode cL_law 219 = .ok (.iload_n 3, 1) := by decide +kernel
theorem dL_law_220 : decode cL_law 220 = .ok (.iconst 2, 1) := by decide +kernel
theorem dL_law_221 : decode cL_law 221 = .ok (.iadd, 1) := by decide +kernel
theorem dL_law_222 : decode cL_law 222 = .ok (.iaload, 1) := by decide +kernel
theorem dL_law_223 : decode cL_law 223 = .ok (.aload_n 0, 1) := by decide +kernel
theorem dL_law_224 : decode cL_law 224 = .ok (.iload_n 3, 1) := by decide +kernel
theorem dL_law_225 : decode cL_law 225 = .ok (.iconst 3, 1) := by decide +kernel
theorem dL_law_226 : decode cL_law 226 = .ok (.iadd, 1) := by decide +kernel
theorem dL_law_227 : decode cL_law 227 = .ok (.iaload, 1) := by decide +kernel
theorem dL_law_228 : decode cL_law 228 = .ok (.invokevirtual 30, 3) := by decide +kernel
theorem dL_law_231 : decode cL_law 231 = .ok (.if_icmp .eq 325, 3) := by decide +kernel
theorem dL_law_234 : decode cL_law 234 = .ok (.iconst 0, 1) := by decide +kernel
theorem dL_law_235 : decode cL_law 235 = .ok (.ireturn, 1) := by decide +kernel
theorem dL_law_236 : decode cL_law 236 = .ok (.aload_n 1, 1) := by decide +kernel
theorem dL_law_237 : decode cL_law 237 = .ok (.aload_n 0, 1) := by decide +kernel
theorem dL_law_238 : decode cL_law 238 = .ok (.iload_n 3, 1) := by decide +kernel
theorem dL_law_239 : decode cL_law 239 = .ok (.iconst 1, 1) := by decide +kernel
theorem dL_law_240 : decode cL_law 240 = .ok (.iadd, 1) := by decide +kernel
theorem dL_law_241 : decode cL_law 241 = .ok (.iaload, 1) := by decide +kernel
theorem dL_law_242 : decode cL_law 242 = .ok (.aload_n 0, 1) := by decide +kernel
theorem dL_law_243 : decode cL_law 243 = .ok (.iload_n 3, 1) := by decide +kernel
theorem dL_law_244 : decode cL_law 244 = .ok (.iconst 2, 1) := by decide +kernel
theorem dL_law_245 : decode cL_law 245 = .ok (.iadd, 1) := by decide +kernel
theorem dL_law_246 : decode cL_law 246 = .ok (.iaload, 1) := by decide +kernel
theorem dL_law_247 : decode cL_law 247 = .ok (.invokevirtual 31, 3) := by decide +kernel
theorem dL_law_250 : decode cL_law 250 = .ok (.aload_n 2, 1) := by decide +kernel
theorem dL_law_251 : decode cL_law 251 = .ok (.aload_n 0, 1) := by decide +kernel
theorem dL_law_252 : decode cL_law 252 = .ok (.iload_n 3, 1) := by decide +kernel
theorem dL_law_253 : decode cL_law 253 = .ok (.iconst 1, 1) := by decide +kernel
theorem dL_law_254 : decode cL_law 254 = .ok (.iadd, 1) := by decide +kernel
theorem dL_law_255 : decode cL_law 255 = .ok (.iaload, 1) := by decide +kernel
theorem dL_law_256 : decode cL_law 256 = .ok (.aload_n 0, 1) := by decide +kernel
theorem dL_law_257 : decode cL_law 257 = .ok (.iload_n 3, 1) := by decide +kernel
theorem dL_law_258 : decode cL_law 258 = .ok (.iconst 2, 1) := by decide +kernel
theorem dL_law_259 : decode cL_law 259 = .ok (.iadd, 1) := by decide +kernel
theorem dL_law_260 : decode cL_law 260 = .ok (.iaload, 1) := by decide +kernel
theorem dL_law_261 : decode cL_law 261 = .ok (.invokevirtual 35, 3) := by decide +kernel
theorem dL_law_264 : decode cL_law 264 = .ok (.if_icmp .eq 292, 3) := by decide +kernel
theorem dL_law_267 : decode cL_law 267 = .ok (.iconst 0, 1) := by decide +kernel
theorem dL_law_268 : decode cL_law 268 = .ok (.ireturn, 1) := by decide +kernel
theorem dL_law_269 : decode cL_law 269 = .ok (.aload_n 1, 1) := by decide +kernel
theorem dL_law_270 : decode cL_law 270 = .ok (.aload_n 0, 1) := by decide +kernel
theorem dL_law_271 : decode cL_law 271 = .ok (.iload_n 3, 1) := by decide +kernel
theorem dL_law_272 : decode cL_law 272 = .ok (.iconst 1, 1) := by decide +kernel
theorem dL_law_273 : decode cL_law 273 = .ok (.iadd, 1) := by decide +kernel
theorem dL_law_274 : decode cL_law 274 = .ok (.iaload, 1) := by decide +kernel
theorem dL_law_275 : decode cL_law 275 = .ok (.aload_n 0, 1) := by decide +kernel
theorem dL_law_276 : decode cL_law 276 = .ok (.iload_n 3, 1) := by decide +kernel
theorem dL_law_277 : decode cL_law 277 = .ok (.iconst 2, 1) := by decide +kernel
theorem dL_law_278 : decode cL_law 278 = .ok (.iadd, 1) := by decide +kernel
theorem dL_law_279 : decode cL_law 279 = .ok (.iaload, 1) := by decide +kernel
theorem dL_law_280 : decode cL_law 280 = .ok (.aload_n 0, 1) := by decide +kernel
theorem dL_law_281 : decode cL_law 281 = .ok (.iload_n 3, 1) := by decide +kernel
theorem dL_law_282 : decode cL_law 282 = .ok (.iconst 3, 1) := by decide +kernel
theorem dL_law_283 : decode cL_law 283 = .ok (.iadd, 1) := by decide +kernel
theorem dL_law_284 : decode cL_law 284 = .ok (.iaload, 1) := by decide +kernel
theorem dL_law_285 : decode cL_law 285 = .ok (.invokevirtual 36, 3) := by decide +kernel
theorem dL_law_288 : decode cL_law 288 = .ok (.aload_n 2, 1) := by decide +kernel
theorem dL_law_289 : decode cL_law 289 = .ok (.aload_n 0, 1) := by decide +kernel
theorem dL_law_290 : decode cL_law 290 = .ok (.iload_n 3, 1) := by decide +kernel
theorem dL_law_291 : decode cL_law 291 = .ok (.iconst 1, 1) := by decide +kernel
theorem dL_law_292 : decode cL_law 292 = .ok (.iadd, 1) := by decide +kernel
theorem dL_law_293 : decode cL_law 293 = .ok (.iaload, 1) := by decide +kernel
theorem dL_law_294 : decode cL_law 294 = .ok (.aload_n 0, 1) := by decide +kernel
theorem dL_law_295 : decode cL_law 295 = .ok (.iload_n 3, 1) := by decide +kernel
theorem dL_law_296 : decode cL_law 296 = .ok (.iconst 2, 1) := by decide +kernel
theorem dL_law_297 : decode cL_law 297 = .ok (.iadd, 1) := by decide +kernel
theorem dL_law_298 : decode cL_law 298 = .ok (.iaload, 1) := by decide +kernel
theorem dL_law_299 : decode cL_law 299 = .ok (.aload_n 0, 1) := by decide +kernel
theorem dL_law_300 : decode cL_law 300 = .ok (.iload_n 3, 1) := by decide +kernel
theorem dL_law_301 : decode cL_law 301 = .ok (.iconst 3, 1) := by decide +kernel
theorem dL_law_302 : decode cL_law 302 = .ok (.iadd, 1) := by decide +kernel
theorem dL_law_303 : decode cL_law 303 = .ok (.iaload, 1) := by decide +kernel
theorem dL_law_304 : decode cL_law 304 = .ok (.invokevirtual 39, 3) := by decide +kernel
theorem dL_law_307 : decode cL_law 307 = .ok (.if_icmp .eq 249, 3) := by decide +kernel
theorem dL_law_310 : decode cL_law 310 = .ok (.iconst 0, 1) := by decide +kernel
theorem dL_law_311 : decode cL_law 311 = .ok (.ireturn, 1) := by decide +kernel
theorem dL_law_312 : decode cL_law 312 = .ok (.aload_n 1, 1) := by decide +kernel
theorem dL_law_313 : decode cL_law 313 = .ok (.aload_n 0, 1) := by decide +kernel
theorem dL_law_314 : decode cL_law 314 = .ok (.iload_n 3, 1) := by decide +kernel
theorem dL_law_315 : decode cL_law 315 = .ok (.iconst 1, 1) := by decide +kernel
theorem dL_law_316 : decode cL_law 316 = .ok (.iadd, 1) := by decide +kernel
theorem dL_law_317 : decode cL_law 317 = .ok (.iaload, 1) := by decide +kernel
theorem dL_law_318 : decode cL_law 318 = .ok (.aload_n 0, 1) := by decide +kernel
theorem dL_law_319 : decode cL_law 319 = .ok (.iload_n 3, 1) := by decide +kernel
theorem dL_law_320 : decode cL_law 320 = .ok (.iconst 2, 1) := by decide +kernel
theorem dL_law_321 : decode cL_law 321 = .ok (.iadd, 1) := by decide +kernel
theorem dL_law_322 : decode cL_law 322 = .ok (.iaload, 1) := by decide +kernel
theorem dL_law_323 : decode cL_law 323 = .ok (.invokevirtual 40, 3) := by decide +kernel
theorem dL_law_326 : decode cL_law 326 = .ok (.aload_n 2, 1) := by decide +kernel
theorem dL_law_327 : decode cL_law 327 = .ok (.aload_n 0, 1) := by decide +kernel
theorem dL_law_328 : decode cL_law 328 = .ok (.iload_n 3, 1) := by decide +kernel
theorem dL_law_329 : decode cL_law 329 = .ok (.iconst 1, 1) := by decide +kernel
theorem dL_law_330 : decode cL_law 330 = .ok (.iadd, 1) := by decide +kernel
theorem dL_law_331 : decode cL_law 331 = .ok (.iaload, 1) := by decide +kernel
theorem dL_law_332 : decode cL_law 332 = .ok (.aload_n 0, 1) := by decide +kernel
theorem dL_law_333 : decode cL_law 333 = .ok (.iload_n 3, 1) := by decide +kernel
theorem dL_law_334 : decode cL_law 334 = .ok (.iconst 2, 1) := by decide +kernel
theorem dL_law_335 : decode cL_law 335 = .ok (.iadd, 1) := by decide +kernel
theorem dL_law_336 : decode cL_law 336 = .ok (.iaload, 1) := by decide +kernel
theorem dL_law_337 : decode cL_law 337 = .ok (.invokevirtual 43, 3) := by decide +kernel
theorem dL_law_340 : decode cL_law 340 = .ok (.if_icmp .eq 216, 3) := by decide +kernel
theorem dL_law_343 : decode cL_law 343 = .ok (.iconst 0, 1) := by decide +kernel
theorem dL_law_344 : decode cL_law 344 = .ok (.ireturn, 1) := by decide +kernel
theorem dL_law_345 : decode cL_law 345 = .ok (.aload_n 1, 1) := by decide +kernel
theorem dL_law_346 : decode cL_law 346 = .ok (.aload_n 0, 1) := by decide +kernel
theorem dL_law_347 : decode cL_law 347 = .ok (.iload_n 3, 1) := by decide +kernel
theorem dL_law_348 : decode cL_law 348 = .ok (.iconst 1, 1) := by decide +kernel
theorem dL_law_349 : decode cL_law 349 = .ok (.iadd, 1) := by decide +kernel
theorem dL_law_350 : decode cL_law 350 = .ok (.iaload, 1) := by decide +kernel
theorem dL_law_351 : decode cL_law 351 = .ok (.aload_n 0, 1) := by decide +kernel
theorem dL_law_352 : decode cL_law 352 = .ok (.iload_n 3, 1) := by decide +kernel
theorem dL_law_353 : decode cL_law 353 = .ok (.iconst 2, 1) := by decide +kernel
theorem dL_law_354 : decode cL_law 354 = .ok (.iadd, 1) := by decide +kernel
theorem dL_law_355 : decode cL_law 355 = .ok (.iaload, 1) := by decide +kernel
theorem dL_law_356 : decode cL_law 356 = .ok (.invokevirtual 44, 3) := by decide +kernel
theorem dL_law_359 : decode cL_law 359 = .ok (.aload_n 2, 1) := by decide +kernel
theorem dL_law_360 : decode cL_law 360 = .ok (.aload_n 0, 1) := by decide +kernel
theorem dL_law_361 : decode cL_law 361 = .ok (.iload_n 3, 1) := by decide +kernel
theorem dL_law_362 : decode cL_law 362 = .ok (.iconst 1, 1) := by decide +kernel
theorem dL_law_363 : decode cL_law 363 = .ok (.iadd, 1) := by decide +kernel
theorem dL_law_364 : decode cL_law 364 = .ok (.iaload, 1) := by decide +kernel
theorem dL_law_365 : decode cL_law 365 = .ok (.aload_n 0, 1) := by decide +kernel
theorem dL_law_366 : decode cL_law 366 = .ok (.iload_n 3, 1) := by decide +kernel
theorem dL_law_367 : decode cL_law 367 = .ok (.iconst 2, 1) := by decide +kernel
theorem dL_law_368 : decode cL_law 368 = .ok (.iadd, 1) := by decide +kernel
theorem dL_law_369 : decode cL_law 369 = .ok (.iaload, 1) := by decide +kernel
theorem dL_law_370 : decode cL_law 370 = .ok (.invokevirtual 47, 3) := by decide +kernel
theorem dL_law_373 : decode cL_law 373 = .ok (.if_icmp .eq 183, 3) := by decide +kernel
theorem dL_law_376 : decode cL_law 376 = .ok (.iconst 0, 1) := by decide +kernel
theorem dL_law_377 : decode cL_law 377 = .ok (.ireturn, 1) := by decide +kernel
theorem dL_law_378 : decode cL_law 378 = .ok (.aload_n 1, 1) := by decide +kernel
theorem dL_law_379 : decode cL_law 379 = .ok (.aload_n 0, 1) := by decide +kernel
theorem dL_law_380 : decode cL_law 380 = .ok (.iload_n 3, 1) := by decide +kernel
theorem dL_law_381 : decode cL_law 381 = .ok (.iconst 1, 1) := by decide +kernel
theorem dL_law_382 : decode cL_law 382 = .ok (.iadd, 1) := by decide +kernel
theorem dL_law_383 : decode cL_law 383 = .ok (.iaload, 1) := by decide +kernel
theorem dL_law_384 : decode cL_law 384 = .ok (.aload_n 0, 1) := by decide +kernel
theorem dL_law_385 : decode cL_law 385 = .ok (.iload_n 3, 1) := by decide +kernel
theorem dL_law_386 : decode cL_law 386 = .ok (.iconst 2, 1) := by decide +kernel
theorem dL_law_387 : decode cL_law 387 = .ok (.iadd, 1) := by decide +kernel
theorem dL_law_388 : decode cL_law 388 = .ok (.iaload, 1) := by decide +kernel
theorem dL_law_389 : decode cL_law 389 = .ok (.invokevirtual 48, 3) := by decide +kernel
theorem dL_law_392 : decode cL_law 392 = .ok (.aload_n 2, 1) := by decide +kernel
theorem dL_law_393 : decode cL_law 393 = .ok (.aload_n 0, 1) := by decide +kernel
theorem dL_law_394 : decode cL_law 394 = .ok (.iload_n 3, 1) := by decide +kernel
theorem dL_law_395 : decode cL_law 395 = .ok (.iconst 1, 1) := by decide +kernel
theorem dL_law_396 : decode cL_law 396 = .ok (.iadd, 1) := by decide +kernel
theorem dL_law_397 : decode cL_law 397 = .ok (.iaload, 1) := by decide +kernel
theorem dL_law_398 : decode cL_law 398 = .ok (.aload_n 0, 1) := by decide +kernel
theorem dL_law_399 : decode cL_law 399 = .ok (.iload_n 3, 1) := by decide +kernel
theorem dL_law_400 : decode cL_law 400 = .ok (.iconst 2, 1) := by decide +kernel
theorem dL_law_401 : decode cL_law 401 = .ok (.iadd, 1) := by decide +kernel
theorem dL_law_402 : decode cL_law 402 = .ok (.iaload, 1) := by decide +kernel
theorem dL_law_403 : decode cL_law 403 = .ok (.invokevirtual 51, 3) := by decide +kernel
theorem dL_law_406 : decode cL_law 406 = .ok (.if_icmp .eq 150, 3) := by decide +kernel
theorem dL_law_409 : decode cL_law 409 = .ok (.iconst 0, 1) := by decide +kernel
theorem dL_law_410 : decode cL_law 410 = .ok (.ireturn, 1) := by decide +kernel
theorem dL_law_411 : decode cL_law 411 = .ok (.aload_n 1, 1) := by decide +kernel
theorem dL_law_412 : decode cL_law 412 = .ok (.aload_n 0, 1) := by decide +kernel
theorem dL_law_413 : decode cL_law 413 = .ok (.iload_n 3, 1) := by decide +kernel
theorem dL_law_414 : decode cL_law 414 = .ok (.iconst 1, 1) := by decide +kernel
theorem dL_law_415 : decode cL_law 415 = .ok (.iadd, 1) := by decide +kernel
theorem dL_law_416 : decode cL_law 416 = .ok (.iaload, 1) := by decide +kernel
theorem dL_law_417 : decode cL_law 417 = .ok (.invokevirtual 52, 3) := by decide +kernel
theorem dL_law_420 : decode cL_law 420 = .ok (.aload_n 2, 1) := by decide +kernel
theorem dL_law_421 : decode cL_law 421 = .ok (.aload_n 0, 1) := by decide +kernel
theorem dL_law_422 : decode cL_law 422 = .ok (.iload_n 3, 1) := by decide +kernel
theorem dL_law_423 : decode cL_law 423 = .ok (.iconst 1, 1) := by decide +kernel
theorem dL_law_424 : decode cL_law 424 = .ok (.iadd, 1) := by decide +kernel
theorem dL_law_425 : decode cL_law 425 = .ok (.iaload, 1) := by decide +kernel
theorem dL_law_426 : decode cL_law 426 = .ok (.invokevirtual 55, 3) := by decide +kernel
theorem dL_law_429 : decode cL_law 429 = .ok (.if_icmp .eq 127, 3) := by decide +kernel
theorem dL_law_432 : decode cL_law 432 = .ok (.iconst 0, 1) := by decide +kernel
theorem dL_law_433 : decode cL_law 433 = .ok (.ireturn, 1) := by decide +kernel
theorem dL_law_434 : decode cL_law 434 = .ok (.aload_n 1, 1) := by decide +kernel
theorem dL_law_435 : decode cL_law 435 = .ok (.aload_n 0, 1) := by decide +kernel
theorem dL_law_436 : decode cL_law 436 = .ok (.iload_n 3, 1) := by decide +kernel
theorem dL_law_437 : decode cL_law 437 = .ok (.iconst 1, 1) := by decide +kernel
theorem dL_law_438 : decode cL_law 438 = .ok (.iadd, 1) := by decide +kernel
theorem dL_law_439 : decode cL_law 439 = .ok (.iaload, 1) := by decide +kernel
theorem dL_law_440 : decode cL_law 440 = .ok (.aload_n 0, 1) := by decide +kernel
theorem dL_law_441 : decode cL_law 441 = .ok (.iload_n 3, 1) := by decide +kernel
theorem dL_law_442 : decode cL_law 442 = .ok (.iconst 2, 1) := by decide +kernel
theorem dL_law_443 : decode cL_law 443 = .ok (.iadd, 1) := by decide +kernel
theorem dL_law_444 : decode cL_law 444 = .ok (.iaload, 1) := by decide +kernel
theorem dL_law_445 : decode cL_law 445 = .ok (.invokevirtual 56, 3) := by decide +kernel
theorem dL_law_448 : decode cL_law 448 = .ok (.aload_n 2, 1) := by decide +kernel
theorem dL_law_449 : decode cL_law 449 = .ok (.aload_n 0, 1) := by decide +kernel
theorem dL_law_450 : decode cL_law 450 = .ok (.iload_n 3, 1) := by decide +kernel
theorem dL_law_451 : decode cL_law 451 = .ok (.iconst 1, 1) := by decide +kernel
theorem dL_law_452 : decode cL_law 452 = .ok (.iadd, 1) := by decide +kernel
theorem dL_law_453 : decode cL_law 453 = .ok (.iaload, 1) := by decide +kernel
theorem dL_law_454 : decode cL_law 454 = .ok (.aload_n 0, 1) := by decide +kernel
theorem dL_law_455 : decode cL_law 455 = .ok (.iload_n 3, 1) := by decide +kernel
theorem dL_law_456 : decode cL_law 456 = .ok (.iconst 2, 1) := by decide +kernel
theorem dL_law_457 : decode cL_law 457 = .ok (.iadd, 1) := by decide +kernel
theorem dL_law_458 : decode cL_law 458 = .ok (.iaload, 1) := by decide +kernel
theorem dL_law_459 : decode cL_law 459 = .ok (.invokevirtual 59, 3) := by decide +kernel
theorem dL_law_462 : decode cL_law 462 = .ok (.if_icmp .eq 94, 3) := by decide +kernel
theorem dL_law_465 : decode cL_law 465 = .ok (.iconst 0, 1) := by decide +kernel
theorem dL_law_466 : decode cL_law 466 = .ok (.ireturn, 1) := by decide +kernel
theorem dL_law_467 : decode cL_law 467 = .ok (.aload_n 1, 1) := by decide +kernel
theorem dL_law_468 : decode cL_law 468 = .ok (.aload_n 0, 1) := by decide +kernel
theorem dL_law_469 : decode cL_law 469 = .ok (.iload_n 3, 1) := by decide +kernel
theorem dL_law_470 : decode cL_law 470 = .ok (.iconst 1, 1) := by decide +kernel
theorem dL_law_471 : decode cL_law 471 = .ok (.iadd, 1) := by decide +kernel
theorem dL_law_472 : decode cL_law 472 = .ok (.iaload, 1) := by decide +kernel
theorem dL_law_473 : decode cL_law 473 = .ok (.aload_n 0, 1) := by decide +kernel
theorem dL_law_474 : decode cL_law 474 = .ok (.iload_n 3, 1) := by decide +kernel
theorem dL_law_475 : decode cL_law 475 = .ok (.iconst 2, 1) := by decide +kernel
theorem dL_law_476 : decode cL_law 476 = .ok (.iadd, 1) := by decide +kernel
theorem dL_law_477 : decode cL_law 477 = .ok (.iaload, 1) := by decide +kernel
theorem dL_law_478 : decode cL_law 478 = .ok (.invokevirtual 60, 3) := by decide +kernel
theorem dL_law_481 : decode cL_law 481 = .ok (.aload_n 2, 1) := by decide +kernel
theorem dL_law_482 : decode cL_law 482 = .ok (.aload_n 0, 1) := by decide +kernel
theorem dL_law_483 : decode cL_law 483 = .ok (.iload_n 3, 1) := by decide +kernel
theorem dL_law_484 : decode cL_law 484 = .ok (.iconst 1, 1) := by decide +kernel
theorem dL_law_485 : decode cL_law 485 = .ok (.iadd, 1) := by decide +kernel
theorem dL_law_486 : decode cL_law 486 = .ok (.iaload, 1) := by decide +kernel
theorem dL_law_487 : decode cL_law 487 = .ok (.aload_n 0, 1) := by decide +kernel
theorem dL_law_488 : decode cL_law 488 = .ok (.iload_n 3, 1) := by decide +kernel
theorem dL_law_489 : decode cL_law 489 = .ok (.iconst 2, 1) := by decide +kernel
theorem dL_law_490 : decode cL_law 490 = .ok (.iadd, 1) := by decide +kernel
theorem dL_law_491 : decode cL_law 491 = .ok (.iaload, 1) := by decide +kernel
theorem dL_law_492 : decode cL_law 492 = .ok (.invokevirtual 63, 3) := by decide +kernel
theorem dL_law_495 : decode cL_law 495 = .ok (.if_icmp .eq 61, 3) := by decide +kernel
theorem dL_law_498 : decode cL_law 498 = .ok (.iconst 0, 1) := by decide +kernel
theorem dL_law_499 : decode cL_law 499 = .ok (.ireturn, 1) := by decide +kernel
theorem dL_law_500 : decode cL_law 500 = .ok (.aload_n 1, 1) := by decide +kernel
theorem dL_law_501 : decode cL_law 501 = .ok (.aload_n 0, 1) := by decide +kernel
theorem dL_law_502 : decode cL_law 502 = .ok (.iload_n 3, 1) := by decide +kernel
theorem dL_law_503 : decode cL_law 503 = .ok (.iconst 1, 1) := by decide +kernel
theorem dL_law_504 : decode cL_law 504 = .ok (.iadd, 1) := by decide +kernel
theorem dL_law_505 : decode cL_law 505 = .ok (.iaload, 1) := by decide +kernel
theorem dL_law_506 : decode cL_law 506 = .ok (.aload_n 0, 1) := by decide +kernel
theorem dL_law_507 : decode cL_law 507 = .ok (.iload_n 3, 1) := by decide +kernel
theorem dL_law_508 : decode cL_law 508 = .ok (.iconst 2, 1) := by decide +kernel
theorem dL_law_509 : decode cL_law 509 = .ok (.iadd, 1) := by decide +kernel
theorem dL_law_510 : decode cL_law 510 = .ok (.iaload, 1) := by decide +kernel
theorem dL_law_511 : decode cL_law 511 = .ok (.aload_n 0, 1) := by decide +kernel
theorem dL_law_512 : decode cL_law 512 = .ok (.iload_n 3, 1) := by decide +kernel
theorem dL_law_513 : decode cL_law 513 = .ok (.iconst 3, 1) := by decide +kernel
theorem dL_law_514 : decode cL_law 514 = .ok (.iadd, 1) := by decide +kernel
theorem dL_law_515 : decode cL_law 515 = .ok (.iaload, 1) := by decide +kernel
theorem dL_law_516 : decode cL_law 516 = .ok (.invokevirtual 64, 3) := by decide +kernel
theorem dL_law_519 : decode cL_law 519 = .ok (.aload_n 2, 1) := by decide +kernel
theorem dL_law_520 : decode cL_law 520 = .ok (.aload_n 0, 1) := by decide +kernel
theorem dL_law_521 : decode cL_law 521 = .ok (.iload_n 3, 1) := by decide +kernel
theorem dL_law_522 : decode cL_law 522 = .ok (.iconst 1, 1) := by decide +kernel
theorem dL_law_523 : decode cL_law 523 = .ok (.iadd, 1) := by decide +kernel
theorem dL_law_524 : decode cL_law 524 = .ok (.iaload, 1) := by decide +kernel
theorem dL_law_525 : decode cL_law 525 = .ok (.aload_n 0, 1) := by decide +kernel
theorem dL_law_526 : decode cL_law 526 = .ok (.iload_n 3, 1) := by decide +kernel
theorem dL_law_527 : decode cL_law 527 = .ok (.iconst 2, 1) := by decide +kernel
theorem dL_law_528 : decode cL_law 528 = .ok (.iadd, 1) := by decide +kernel
theorem dL_law_529 : decode cL_law 529 = .ok (.iaload, 1) := by decide +kernel
theorem dL_law_530 : decode cL_law 530 = .ok (.aload_n 0, 1) := by decide +kernel
theorem dL_law_531 : decode cL_law 531 = .ok (.iload_n 3, 1) := by decide +kernel
theorem dL_law_532 : decode cL_law 532 = .ok (.iconst 3, 1) := by decide +kernel
theorem dL_law_533 : decode cL_law 533 = .ok (.iadd, 1) := by decide +kernel
theorem dL_law_534 : decode cL_law 534 = .ok (.iaload, 1) := by decide +kernel
theorem dL_law_535 : decode cL_law 535 = .ok (.invokevirtual 67, 3) := by decide +kernel
theorem dL_law_538 : decode cL_law 538 = .ok (.if_icmp .eq 18, 3) := by decide +kernel
theorem dL_law_541 : decode cL_law 541 = .ok (.iconst 0, 1) := by decide +kernel
theorem dL_law_542 : decode cL_law 542 = .ok (.ireturn, 1) := by decide +kernel
theorem dL_law_543 : decode cL_law 543 = .ok (.aload_n 1, 1) := by decide +kernel
theorem dL_law_544 : decode cL_law 544 = .ok (.invokevirtual 68, 3) := by decide +kernel
theorem dL_law_547 : decode cL_law 547 = .ok (.aload_n 2, 1) := by decide +kernel
theorem dL_law_548 : decode cL_law 548 = .ok (.invokevirtual 72, 3) := by decide +kernel
theorem dL_law_551 : decode cL_law 551 = .ok (.if_icmp .eq 5, 3) := by decide +kernel
theorem dL_law_554 : decode cL_law 554 = .ok (.iconst 0, 1) := by decide +kernel
theorem dL_law_555 : decode cL_law 555 = .ok (.ireturn, 1) := by decide +kernel
theorem dL_law_556 : decode cL_law 556 = .ok (.iinc 3 4, 3) := by decide +kernel
theorem dL_law_559 : decode cL_law 559 = .ok (.goto (-541), 3) := by decide +kernel
theorem dL_law_562 : decode cL_law 562 = .ok (.iconst 1, 1) := by decide +kernel
theorem dL_law_563 : decode cL_law 563 = .ok (.ireturn, 1) := by decide +kernel
