theorem dX7_come_69 : decode cX7_come 69 = .ok (.iconst 4, 1) := by decide +kernel
theorem dX7_come_70 : decode cX7_come 70 = .ok (.if_icmp .ne 8, 3) := by decide +kernel
theorem dX7_come_73 : decode cX7_come 73 = .ok (.bipush 100, 2) := by decide +kernel
theorem dX7_come_75 : decode cX7_come 75 = .ok (.goto 6, 3) := by decide +kernel
theorem dX7_come_78 : decode cX7_come 78 = .ok (.sipush 1000, 3) := by decide +kernel
theorem dX7_come_81 : decode cX7_come 81 = .ok (.invokestatic 41, 3) := by decide +kernel
theorem dX7_come_84 : decode cX7_come 84 = .ok (.istore 4, 2) := by decide +kernel
theorem dX7_come_86 : decode cX7_come 86 = .ok (.iload 4, 2) := by decide +kernel
theorem dX7_come_88 : decode cX7_come 88 = .ok (.ifCond .ne 5, 3) := by decide +kernel
theorem dX7_come_91 : decode cX7_come 91 = .ok (.iconst (-1), 1) := by decide +kernel
theorem dX7_come_92 : decode cX7_come 92 = .ok (.ireturn, 1) := by decide +kernel
theorem dX7_come_93 : decode cX7_come 93 = .ok (.iload_n 3, 1) := by decide +kernel
theorem dX7_come_94 : decode cX7_come 94 = .ok (.ifCond .ge 8, 3) := by decide +kernel
theorem dX7_come_97 : decode cX7_come 97 = .ok (.iload_n 3, 1) := by decide +kernel
theorem dX7_come_98 : decode cX7_come 98 = .ok (.ineg, 1) := by decide +kernel
theorem dX7_come_99 : decode cX7_come 99 = .ok (.goto 4, 3) := by decide +kernel
theorem dX7_come_102 : decode cX7_come 102 = .ok (.iload_n 3, 1) := by decide +kernel
theorem dX7_come_103 : decode cX7_come 103 = .ok (.istore 5, 2) := by decide +kernel
theorem dX7_come_105 : decode cX7_come 105 = .ok (.aload_n 0, 1) := by decide +kernel
theorem dX7_come_106 : decode cX7_come 106 = .ok (.getfield 26, 3) := by decide +kernel
theorem dX7_come_109 : decode cX7_come 109 = .ok (.iload_n 1, 1) := by decide +kernel
theorem dX7_come_110 : decode cX7_come 110 = .ok (.iaload, 1) := by decide +kernel
theorem dX7_come_111 : decode cX7_come 111 = .ok (.iload 5, 2) := by decide +kernel
theorem dX7_come_113 : decode cX7_come 113 = .ok (.iadd, 1) := by decide +kernel
theorem dX7_come_114 : decode cX7_come 114 = .ok (.ldc 54, 2) := by decide +kernel
theorem dX7_come_116 : decode cX7_come 116 = .ok (.if_icmp .le 6, 3) := by decide +kernel
theorem dX7_come_119 : decode cX7_come 119 = .ok (.bipush (-3), 2) := by decide +kernel
theorem dX7_come_121 : decode cX7_come 121 = .ok (.ireturn, 1) := by decide +kernel
theorem dX7_come_122 : decode cX7_come 122 = .ok (.aload_n 0, 1) := by decide +kernel
theorem dX7_come_123 : decode cX7_come 123 = .ok (.iload_n 1, 1) := by decide +kernel
theorem dX7_come_124 : decode cX7_come 124 = .ok (.iload_n 2, 1) := by decide +kernel
theorem dX7_come_125 : decode cX7_come 125 = .ok (.iload_n 3, 1) := by decide +kernel
theorem dX7_come_126 : decode cX7_come 126 = .ok (.invokevirtual 94, 3) := by decide +kernel
theorem dX7_come_129 : decode cX7_come 129 = .ok (.aload_n 0, 1) := by decide +kernel
theorem dX7_come_130 : decode cX7_come 130 = .ok (.getfield 23, 3) := by decide +kernel
theorem dX7_come_133 : decode cX7_come 133 = .ok (.iload_n 1, 1) := by decide +kernel
theorem dX7_come_134 : decode cX7_come 134 = .ok (.aload_n 0, 1) := by decide +kernel
theorem dX7_come_135 : decode cX7_come 135 = .ok (.getfield 23, 3) := by decide +kernel
theorem dX7_come_138 : decode cX7_come 138 = .ok (.iload_n 1, 1) := by decide +kernel
theorem dX7_come_139 : decode cX7_come 139 = .ok (.iaload, 1) := by decide +kernel
theorem dX7_come_140 : decode cX7_come 140 = .ok (.iload_n 3, 1) := by decide +kernel
theorem dX7_come_141 : decode cX7_come 141 = .ok (.iadd, 1) := by decide +kernel
theorem dX7_come_142 : decode cX7_come 142 = .ok (.iastore, 1) := by decide +kernel
theorem dX7_come_143 : decode cX7_come 143 = .ok (.aload_n 0, 1) := by decide +kernel
theorem dX7_come_144 : decode cX7_come 144 = .ok (.getfield 26, 3) := by decide +kernel
theorem dX7_come_147 : decode cX7_come 147 = .ok (.iload_n 1, 1) := by decide +kernel
theorem dX7_come_148 : decode cX7_come 148 = .ok (.aload_n 0, 1) := by decide +kernel
theorem dX7_come_149 : decode cX7_come 149 = .ok (.getfield 26, 3) := by decide +kernel
theorem dX7_come_152 : decode cX7_come 152 = .ok (.iload_n 1, 1) := by decide +kernel
theorem dX7_come_153 : decode cX7_come 153 = .ok (.iaload, 1) := by decide +kernel
theorem dX7_come_154 : decode cX7_come 154 = .ok (.iload 5, 2) := by decide +kernel
theorem dX7_come_156 : decode cX7_come 156 = .ok (.iadd, 1) := by decide +kernel
theorem dX7_come_157 : decode cX7_come 157 = .ok (.iastore, 1) := by decide +kernel
theorem dX7_come_158 : decode cX7_come 158 = .ok (.aload_n 0, 1) := by decide +kernel
theorem dX7_come_159 : decode cX7_come 159 = .ok (.getfield 23, 3) := by decide +kernel
theorem dX7_come_162 : decode cX7_come 162 = .ok (.iload_n 1, 1) := by decide +kernel
theorem dX7_come_163 : decode cX7_come 163 = .ok (.iaload, 1) := by decide +kernel
theorem dX7_come_164 : decode cX7_come 164 = .ok (.ldc 54, 2) := by decide +kernel
theorem dX7_come_166 : decode cX7_come 166 = .ok (.iadd, 1) := by decide +kernel
theorem dX7_come_167 : decode cX7_come 167 = .ok (.ireturn, 1) := by decide +kernel
theorem dX7_merge_0 : decode cX7_merge 0 = .ok (.aload_n 0, 1) := by decide +kernel
theorem dX7_merge_1 : decode cX7_merge 1 = .ok (.iconst 0, 1) := by decide +kernel
theorem dX7_merge_2 : decode cX7_merge 2 = .ok (.putfield 1, 3) := by decide +kernel
theorem dX7_merge_5 : decode cX7_merge 5 = .ok (.aload_n 0, 1) := by decide +kernel
theorem dX7_merge_6 : decode cX7_merge 6 = .ok (.iload_n 1, 1) := by decide +kernel
theorem dX7_merge_7 : decode cX7_merge 7 = .ok (.invokevirtual 50, 3) := by decide +kernel
theorem dX7_merge_10 : decode cX7_merge 10 = .ok (.ifCond .ne 61, 3) := by decide +kernel
theorem dX7_merge_13 : decode cX7_merge 13 = .ok (.aload_n 0, 1) := by decide +kernel
theorem dX7_merge_14 : decode cX7_merge 14 = .ok (.iload_n 2, 1) := by decide +kernel
theorem dX7_merge_15 : decode cX7_merge 15 = .ok (.invokevirtual 50, 3) := by decide +kernel
theorem dX7_merge_18 : decode cX7_merge 18 = .ok (.ifCond .ne 53, 3) := by decide +kernel
theorem dX7_merge_21 : decode cX7_merge 21 = .ok (.iload_n 1, 1) := by decide +kernel
theorem dX7_merge_22 : decode cX7_merge 22 = .ok (.iload_n 2, 1) := by decide +kernel
theorem dX7_merge_23 : decode cX7_merge 23 = .ok (.if_icmp .eq 48, 3) := by decide +kernel
theorem dX7_merge_26 : decode cX7_merge 26 = .ok (.aload_n 0, 1) := by decide +kernel
theorem dX7_merge_27 : decode cX7_merge 27 = .ok (.getfield 13, 3) := by decide +kernel
theorem dX7_merge_30 : decode cX7_merge 30 = .ok (.iload_n 1, 1) := by decide +kernel
theorem dX7_merge_31 : decode cX7_merge 31 = .ok (.iaload, 1) := by decide +kernel
theorem dX7_merge_32 : decode cX7_merge 32 = .ok (.aload_n 0, 1) := by decide +kernel
theorem dX7_merge_33 : decode cX7_merge 33 = .ok (.getfield 13, 3) := by decide +kernel
theorem dX7_merge_36 : decode cX7_merge 36 = .ok (.iload_n 2, 1) := by decide +kernel
theorem dX7_merge_37 : decode cX7_merge 37 = .ok (.iaload, 1) := by decide +kernel
theorem dX7_merge_38 : decode cX7_merge 38 = .ok (.if_icmp .ne 33, 3) := by decide +kernel
theorem dX7_merge_41 : decode cX7_merge 41 = .ok (.aload_n 0, 1) := by decide +kernel
theorem dX7_merge_42 : decode cX7_merge 42 = .ok (.getfield 17, 3) := by decide +kernel
theorem dX7_merge_45 : decode cX7_merge 45 = .ok (.iload_n 1, 1) := by decide +kernel
theorem dX7_merge_46 : decode cX7_merge 46 = .ok (.iaload, 1) := by decide +kernel
theorem dX7_merge_47 : decode cX7_merge 47 = .ok (.aload_n 0, 1) := by decide +kernel
theorem dX7_merge_48 : decode cX7_merge 48 = .ok (.getfield 17, 3) := by decide +kernel
theorem dX7_merge_51 : decode cX7_merge 51 = .ok (.iload_n 2, 1) := by decide +kernel
theorem dX7_merge_52 : decode cX7_merge 52 = .ok (.iaload, 1) := by decide +kernel
theorem dX7_merge_53 : decode cX7_merge 53 = .ok (.if_icmp .ne 18, 3) := by decide +kernel
theorem dX7_merge_56 : decode cX7_merge 56 = .ok (.aload_n 0, 1) := by decide +kernel
theorem dX7_merge_57 : decode cX7_merge 57 = .ok (.getfield 20, 3) := by decide +kernel
theorem dX7_merge_60 : decode cX7_merge 60 = .ok (.iload_n 1, 1) := by decide +kernel
theorem dX7_merge_61 : decode cX7_merge 61 = .ok (.iaload, 1) := by decide +kernel
theorem dX7_merge_62 : decode cX7_merge 62 = .ok (.aload_n 0, 1) := by decide +kernel
theorem dX7_merge_63 : decode cX7_merge 63 = .ok (.getfield 20, 3) := by decide +kernel
theorem dX7_merge_66 : decode cX7_merge 66 = .ok (.iload_n 2, 1) := by decide +kernel
theorem dX7_merge_67 : decode cX7_merge 67 = .ok (.iaload, 1) := by decide +kernel
theorem dX7_merge_68 : decode cX7_merge 68 = .ok (.if_icmp .eq 5, 3) := by decide +kernel
theorem dX7_merge_71 : decode cX7_merge 71 = .ok (.iconst (-1), 1) := by decide +kernel
theorem dX7_merge_72 : decode cX7_merge 72 = .ok (.ireturn, 1) := by decide +kernel
theorem dX7_merge_73 : decode cX7_merge 73 = .ok (.aload_n 0, 1) := by decide +kernel
theorem dX7_merge_74 : decode cX7_merge 74 = .ok (.getfield 26, 3) := by decide +kernel
theorem dX7_merge_77 : decode cX7_merge 77 = .ok (.iload_n 1, 1) := by decide +kernel
theorem dX7_merge_78 : decode cX7_merge 78 = .ok (.iaload, 1) := by decide +kernel
theorem dX7_merge_79 : decode cX7_merge 79 = .ok (.aload_n 0, 1) := by decide +kernel
theorem dX7_merge_80 : decode cX7_merge 80 = .ok (.getfield 26, 3) := by decide +kernel
theorem dX7_merge_83 : decode cX7_merge 83 = .ok (.iload_n 2, 1) := by decide +kernel
theorem dX7_merge_84 : decode cX7_merge 84 = .ok (.iaload, 1) := by decide +kernel
theorem dX7_merge_85 : decode cX7_merge 85 = .ok (.iadd, 1) := by decide +kernel
theorem dX7_merge_86 : decode cX7_merge 86 = .ok (.ldc 54, 2) := by decide +kernel
theorem dX7_merge_88 : decode cX7_merge 88 = .ok (.if_icmp .le 6, 3) := by decide +kernel
theorem dX7_merge_91 : decode cX7_merge 91 = .ok (.bipush (-3), 2) := by decide +kernel
theorem dX7_merge_93 : decode cX7_merge 93 = .ok (.ireturn, 1) := by decide +kernel
theorem dX7_merge_94 : decode cX7_merge 94 = .ok (.sipush 1200, 3) := by decide +kernel
theorem dX7_merge_97 : decode cX7_merge 97 = .ok (.iload_n 2, 1) := by decide +kernel
theorem dX7_merge_98 : decode cX7_merge 98 = .ok (.imul, 1) := by decide +kernel
theorem dX7_merge_99 : decode cX7_merge 99 = .ok (.bipush 100, 2) := by decide +kernel
theorem dX7_merge_101 : decode cX7_merge 101 = .ok (.iadd, 1) := by decide +kernel
theorem dX7_merge_102 : decode cX7_merge 102 = .ok (.istore_n 3, 1) := by decide +kernel
theorem dX7_merge_103 : decode cX7_merge 103 = .ok (.aload_n 0, 1) := by decide +kernel
theorem dX7_merge_104 : decode cX7_merge 104 = .ok (.getfield 13, 3) := by decide +kernel
theorem dX7_merge_107 : decode cX7_merge 107 = .ok (.iload_n 1, 1) := by decide +kernel
theorem dX7_merge_108 : decode cX7_merge 108 = .ok (.iaload, 1) := by decide +kernel
theorem dX7_merge_109 : decode cX7_merge 109 = .ok (.tableswitch 208 0 3 #[31, 40, 107, 172], 31) := by decide +kernel
theorem dX7_merge_140 : decode cX7_merge 140 = .ok (.aload_n 0, 1) := by decide +kernel
theorem dX7_merge_141 : decode cX7_merge 141 = .ok (.iload_n 1, 1) := by decide +kernel
theorem dX7_merge_142 : decode cX7_merge 142 = .ok (.iload_n 2, 1) := by decide +kernel
theorem dX7_merge_143 : decode cX7_merge 143 = .ok (.invokevirtual 97, 3) := by decide +kernel
theorem dX7_merge_146 : decode cX7_merge 146 = .ok (.goto 254, 3) := by decide +kernel
theorem dX7_merge_149 : decode cX7_merge 149 = .ok (.iconst 0, 1) := by decide +kernel
theorem dX7_merge_150 : decode cX7_merge 150 = .ok (.istore 4, 2) := by decide +kernel
theorem dX7_merge_152 : decode cX7_merge 152 = .ok (.iload 4, 2) := by decide +kernel
theorem dX7_merge_154 : decode cX7_merge 154 = .ok (.iconst 4, 1) := by decide +kernel
theorem dX7_merge_155 : decode cX7_merge 155 = .ok (.aload_n 0, 1) := by decide +kernel
theorem dX7_merge_156 : decode cX7_merge 156 = .ok (.getfield 17, 3) := by decide +kernel
theorem dX7_merge_159 : decode cX7_merge 159 = .ok (.iload_n 1, 1) := by decide +kernel
theorem dX7_merge_160 : decode cX7_merge 160 = .ok (.iaload, 1) := by decide +kernel
theorem dX7_merge_161 : decode cX7_merge 161 = .ok (.imul, 1) := by decide +kernel
theorem dX7_merge_162 : decode cX7_merge 162 = .ok (.if_icmp .ge 51, 3) := by decide +kernel
theorem dX7_merge_165 : decode cX7_merge 165 = .ok (.aload_n 0, 1) := by decide +kernel
theorem dX7_merge_166 : decode cX7_merge 166 = .ok (.getfield 32, 3) := by decide +kernel
theorem dX7_merge_169 : decode cX7_merge 169 = .ok (.sipush 1200, 3) := by decide +kernel
theorem dX7_merge_172 : decode cX7_merge 172 = .ok (.iload_n 1, 1) := by decide +kernel
theorem dX7_merge_173 : decode cX7_merge 173 = .ok (.imul, 1) := by decide +kernel
theorem dX7_merge_174 : decode cX7_merge 174 = .ok (.bipush 100, 2) := by decide +kernel
theorem dX7_merge_176 : decode cX7_merge 176 = .ok (.iadd, 1) := by decide +kernel
theorem dX7_merge_177 : decode cX7_merge 177 = .ok (.iload 4, 2) := by decide +kernel
theorem dX7_merge_179 : decode cX7_merge 179 = .ok (.iadd, 1) := by decide +kernel
theorem dX7_merge_180 : decode cX7_merge 180 = .ok (.aload_n 0, 1) := by decide +kernel
theorem dX7_merge_181 : decode cX7_merge 181 = .ok (.getfield 32, 3) := by decide +kernel
theorem dX7_merge_184 : decode cX7_merge 184 = .ok (.sipush 1200, 3) := by decide +kernel
theorem dX7_merge_187 : decode cX7_merge 187 = .ok (.iload_n 1, 1) := by decide +kernel
theorem dX7_merge_188 : decode cX7_merge 188 = .ok (.imul, 1) := by decide +kernel
theorem dX7_merge_189 : decode cX7_merge 189 = .ok (.bipush 100, 2) := by decide +kernel
theorem dX7_merge_191 : decode cX7_merge 191 = .ok (.iadd, 1) := by decide +kernel
theorem dX7_merge_192 : decode cX7_merge 192 = .ok (.iload 4, 2) := by decide +kernel
theorem dX7_merge_194 : decode cX7_merge 194 = .ok (.iadd, 1) := by decide +kernel
theorem dX7_merge_195 : decode cX7_merge 195 = .ok (.iaload, 1) := by decide +kernel
theorem dX7_merge_196 : decode cX7_merge 196 = .ok (.aload_n 0, 1) := by decide +kernel
theorem dX7_merge_197 : decode cX7_merge 197 = .ok (.getfield 32, 3) := by decide +kernel
theorem dX7_merge_200 : decode cX7_merge 200 = .ok (.iload_n 3, 1) := by decide +kernel
theorem dX7_merge_201 : decode cX7_merge 201 = .ok (.iload 4, 2) := by decide +kernel
theorem dX7_merge_203 : decode cX7_merge 203 = .ok (.iadd, 1) := by decide +kernel
theorem dX7_merge_204 : decode cX7_merge 204 = .ok (.iaload, 1) := by decide +kernel
theorem dX7_merge_205 : decode cX7_merge 205 = .ok (.iadd, 1) := by decide +kernel
theorem dX7_merge_206 : decode cX7_merge 206 = .ok (.iastore, 1) := by decide +kernel
theorem dX7_merge_207 : decode cX7_merge 207 = .ok (.iinc 4 1, 3) := by decide +kernel
theorem dX7_merge_210 : decode cX7_merge 210 = .ok (.goto (-58), 3) := by decide +kernel
theorem dX7_merge_213 : decode cX7_merge 213 = .ok (.goto 187, 3) := by decide +kernel
theorem dX7_merge_216 : decode cX7_merge 216 = .ok (.iconst 0, 1) := by decide +kernel
theorem dX7_merge_217 : decode cX7_merge 217 = .ok (.istore 4, 2) := by decide +kernel
theorem dX7_merge_219 : decode cX7_merge 219 = .ok (.iload 4, 2) := by decide +kernel
theorem dX7_merge_221 : decode cX7_merge 221 = .ok (.aload_n 0, 1) := by decide +kernel
theorem dX7_merge_222 : decode cX7_merge 222 = .ok (.getfield 17, 3) := by decide +kernel
theorem dX7_merge_225 : decode cX7_merge 225 = .ok (.iload_n 1, 1) := by decide +kernel
theorem dX7_merge_226 : decode cX7_merge 226 = .ok (.iaload, 1) := by decide +kernel
theorem dX7_merge_227 : decode cX7_merge 227 = .ok (.if_icmp .ge 51, 3) := by decide +kernel
theorem dX7_merge_230 : decode cX7_merge 230 = .ok (.aload_n 0, 1) := by decide +kernel
theorem dX7_merge_231 : decode cX7_merge 231 = .ok (.getfield 32, 3) := by decide +kernel
theorem dX7_merge_234 : decode cX7_merge 234 = .ok (.sipush 1200, 3) := by decide +kernel
theorem dX7_merge_237 : decode cX7_merge 237 = .ok (.iload_n 1, 1) := by decide +kernel
theorem dX7_merge_238 : decode cX7_merge 238 = .ok (.imul, 1) := by decide +kernel
theorem dX7_merge_239 : decode cX7_merge 239 = .ok (.bipush 100, 2) := by decide +kernel
theorem dX7_merge_241 : decode cX7_merge 241 = .ok (.iadd, 1) := by decide +kernel
theorem dX7_merge_242 : decode cX7_merge 242 = .ok (.iload 4, 2) := by decide +kernel
theorem dX7_merge_244 : decode cX7_merge 244 = .ok (.iadd, 1) := by decide +kernel
theorem dX7_merge_245 : decode cX7_merge 245 = .ok (.aload_n 0, 1) := by decide +kernel
theorem dX7_merge_246 : decode cX7_merge 246 = .ok (.getfield 32, 3) := by decide +kernel
theorem dX7_merge_249 : decode cX7_merge 249 = .ok (.sipush 1200, 3) := by decide +kernel
theorem dX7_merge_252 : decode cX7_merge 252 = .ok (.iload_n 1, 1) := by decide +kernel
theorem dX7_merge_253 : decode cX7_merge 253 = .ok (.imul, 1) := by decide +kernel
theorem dX7_merge_254 : decode cX7_merge 254 = .ok (.bipush 100, 2) := by decide +kernel
theorem dX7_merge_256 : decode cX7_merge 256 = .ok (.iadd, 1) := by decide +kernel
theorem dX7_merge_257 : decode cX7_merge 257 = .ok (.iload 4, 2) := by decide +kernel
theorem dX7_merge_259 : decode cX7_merge 259 = .ok (.iadd, 1) := by decide +kernel
theorem dX7_merge_260 : decode cX7_merge 260 = .ok (.iaload, 1) := by decide +kernel
theorem dX7_merge_261 : decode cX7_merge 261 = .ok (.aload_n 0, 1) := by decide +kernel
theorem dX7_merge_262 : decode cX7_merge 262 = .ok (.getfield 32, 3) := by decide +kernel
theorem dX7_merge_265 : decode cX7_merge 265 = .ok (.iload_n 3, 1) := by decide +kernel
theorem dX7_merge_266 : decode cX7_merge 266 = .ok (.iload 4, 2) := by decide +kernel
theorem dX7_merge_268 : decode cX7_merge 268 = .ok (.iadd, 1) := by decide +kernel
theorem dX7_merge_269 : decode cX7_merge 269 = .ok (.iaload, 1) := by decide +kernel
theorem dX7_merge_270 : decode cX7_merge 270 = .ok (.ior, 1) := by decide +kernel
theorem dX7_merge_271 : decode cX7_merge 271 = .ok (.iastore, 1) := by decide +kernel
theorem dX7_merge_272 : decode cX7_merge 272 = .ok (.iinc 4 1, 3) := by decide +kernel
theorem dX7_merge_275 : decode cX7_merge 275 = .ok (.goto (-56), 3) := by decide +kernel
theorem dX7_merge_278 : decode cX7_merge 278 = .ok (.goto 122, 3) := by decide +kernel
theorem dX7_merge_281 : decode cX7_merge 281 = .ok (.iconst 0, 1) := by decide +kernel
theorem dX7_merge_282 : decode cX7_merge 282 = .ok (.istore 4, 2) := by decide +kernel
theorem dX7_merge_284 : decode cX7_merge 284 = .ok (.iload 4, 2) := by decide +kernel
theorem dX7_merge_286 : decode cX7_merge 286 = .ok (.aload_n 0, 1) := by decide +kernel
theorem dX7_merge_287 : decode cX7_merge 287 = .ok (.iload_n 2, 1) := by decide +kernel
theorem dX7_merge_288 : decode cX7_merge 288 = .ok (.invokevirtual 55, 3) := by decide +kernel
theorem dX7_merge_291 : decode cX7_merge 291 = .ok (.if_icmp .ge 23, 3) := by decide +kernel
theorem dX7_merge_294 : decode cX7_merge 294 = .ok (.aload_n 0, 1) := by decide +kernel
theorem dX7_merge_295 : decode cX7_merge 295 = .ok (.iload_n 1, 1) := by decide +kernel
theorem dX7_merge_296 : decode cX7_merge 296 = .ok (.aload_n 0, 1) := by decide +kernel
theorem dX7_merge_297 : decode cX7_merge 297 = .ok (.getfield 32, 3) := by decide +kernel
theorem dX7_merge_300 : decode cX7_merge 300 = .ok (.iload_n 3, 1) := by decide +kernel
theorem dX7_merge_301 : decode cX7_merge 301 = .ok (.iload 4, 2) := by decide +kernel
theorem dX7_merge_303 : decode cX7_merge 303 = .ok (.iadd, 1) := by decide +kernel
theorem dX7_merge_304 : decode cX7_merge 304 = .ok (.iaload, 1) := by decide +kernel
theorem dX7_merge_305 : decode cX7_merge 305 = .ok (.invokevirtual 91, 3) := by decide +kernel
theorem dX7_merge_308 : decode cX7_merge 308 = .ok (.iinc 4 1, 3) := by decide +kernel
theorem dX7_merge_311 : decode cX7_merge 311 = .ok (.goto (-27), 3) := by decide +kernel
theorem dX7_merge_314 : decode cX7_merge 314 = .ok (.goto 86, 3) := by decide +kernel
theorem dX7_merge_317 : decode cX7_merge 317 = .ok (.iconst 0, 1) := by decide +kernel
theorem dX7_merge_318 : decode cX7_merge 318 = .ok (.istore 4, 2) := by decide +kernel
theorem dX7_merge_320 : decode cX7_merge 320 = .ok (.iload 4, 2) := by decide +kernel
theorem dX7_merge_322 : decode cX7_merge 322 = .ok (.bipush 31, 2) := by decide +kernel
theorem dX7_merge_324 : decode cX7_merge 324 = .ok (.if_icmp .ge 57, 3) := by decide +kernel
theorem dX7_merge_327 : decode cX7_merge 327 = .ok (.iconst 0, 1) := by decide +kernel
theorem dX7_merge_328 : decode cX7_merge 328 = .ok (.istore 5, 2) := by decide +kernel
theorem dX7_merge_330 : decode cX7_merge 330 = .ok (.iload 5, 2) := by decide +kernel
theorem dX7_merge_332 : decode cX7_merge 332 = .ok (.aload_n 0, 1) := by decide +kernel
theorem dX7_merge_333 : decode cX7_merge 333 = .ok (.getfield 32, 3) := by decide +kernel
theorem dX7_merge_336 : decode cX7_merge 336 = .ok (.sipush 1200, 3) := by decide +kernel
theorem dX7_merge_339 : decode cX7_merge 339 = .ok (.iload_n 2, 1) := by decide +kernel
theorem dX7_merge_340 : decode cX7_merge 340 = .ok (.imul, 1) := by decide +kernel
theorem dX7_merge_341 : decode cX7_merge 341 = .ok (.iload 4, 2) := by decide +kernel
theorem dX7_merge_343 : decode cX7_merge 343 = .ok (.iadd, 1) := by decide +kernel
theorem dX7_merge_344 : decode cX7_merge 344 = .ok (.iaload, 1) := by decide +kernel
theorem dX7_merge_345 : decode cX7_merge 345 = .ok (.if_icmp .ge 30, 3) := by decide +kernel
theorem dX7_merge_348 : decode cX7_merge 348 = .ok (.aload_n 0, 1) := by decide +kernel
theorem dX7_merge_349 : decode cX7_merge 349 = .ok (.iload_n 1, 1) := by decide +kernel
theorem dX7_merge_350 : decode cX7_merge 350 = .ok (.iload 4, 2) := by decide +kernel
theorem dX7_merge_352 : decode cX7_merge 352 = .ok (.aload_n 0, 1) := by decide +kernel
theorem dX7_merge_353 : decode cX7_merge 353 = .ok (.getfield 32, 3) := by decide +kernel
theorem dX7_merge_356 : decode cX7_merge 356 = .ok (.aload_n 0, 1) := by decide +kernel
theorem dX7_merge_357 : decode cX7_merge 357 = .ok (.iload_n 2, 1) := by decide +kernel
theorem dX7_merge_358 : decode cX7_merge 358 = .ok (.iload 4, 2) := by decide +kernel
theorem dX7_merge_360 : decode cX7_merge 360 = .ok (.iload 5, 2) := by decide +kernel
theorem dX7_merge_362 : decode cX7_merge 362 = .ok (.invokevirtual 78, 3) := by decide +kernel
theorem dX7_merge_365 : decode cX7_merge 365 = .ok (.iaload, 1) := by decide +kernel
theorem dX7_merge_366 : decode cX7_merge 366 = .ok (.invokestatic 81, 3) := by decide +kernel
theorem dX7_merge_369 : decode cX7_merge 369 = .ok (.iinc 5 1, 3) := by decide +kernel
theorem dX7_merge_372 : decode cX7_merge 372 = .ok (.goto (-42), 3) := by decide +kernel
theorem dX7_merge_375 : decode cX7_merge 375 = .ok (.iinc 4 1, 3) := by decide +kernel
theorem dX7_merge_378 : decode cX7_merge 378 = .ok (.goto (-58), 3) := by decide +kernel
theorem dX7_merge_381 : decode cX7_merge 381 = .ok (.aload_n 0, 1) := by decide +kernel
theorem dX7_merge_382 : decode cX7_merge 382 = .ok (.getfield 29, 3) := by decide +kernel
theorem dX7_merge_385 : decode cX7_merge 385 = .ok (.iload_n 1, 1) := by decide +kernel
theorem dX7_merge_386 : decode cX7_merge 386 = .ok (.aload_n 0, 1) := by decide +kernel
theorem dX7_merge_387 : decode cX7_merge 387 = .ok (.getfield 29, 3) := by decide +kernel
theorem dX7_merge_390 : decode cX7_merge 390 = .ok (.iload_n 1, 1) := by decide +kernel
theorem dX7_merge_391 : decode cX7_merge 391 = .ok (.iaload, 1) := by decide +kernel
theorem dX7_merge_392 : decode cX7_merge 392 = .ok (.aload_n 0, 1) := by decide +kernel
theorem dX7_merge_393 : decode cX7_merge 393 = .ok (.getfield 29, 3) := by decide +kernel
theorem dX7_merge_396 : decode cX7_merge 396 = .ok (.iload_n 2, 1) := by decide +kernel
theorem dX7_merge_397 : decode cX7_merge 397 = .ok (.iaload, 1) := by decide +kernel
theorem dX7_merge_398 : decode cX7_merge 398 = .ok (.iadd, 1) := by decide +kernel
theorem dX7_merge_399 : decode cX7_merge 399 = .ok (.iastore, 1) := by decide +kernel
theorem dX7_merge_400 : decode cX7_merge 400 = .ok (.aload_n 0, 1) := by decide +kernel
theorem dX7_merge_401 : decode cX7_merge 401 = .ok (.getfield 23, 3) := by decide +kernel
theorem dX7_merge_404 : decode cX7_merge 404 = .ok (.iload_n 1, 1) := by decide +kernel
theorem dX7_merge_405 : decode cX7_merge 405 = .ok (.aload_n 0, 1) := by decide +kernel
theorem dX7_merge_406 : decode cX7_merge 406 = .ok (.getfield 23, 3) := by decide +kernel
theorem dX7_merge_409 : decode cX7_merge 409 = .ok (.iload_n 1, 1) := by decide +kernel
theorem dX7_merge_410 : decode cX7_merge 410 = .ok (.iaload, 1) := by decide +kernel
theorem dX7_merge_411 : decode cX7_merge 411 = .ok (.aload_n 0, 1) := by decide +kernel
theorem dX7_merge_412 : decode cX7_merge 412 = .ok (.getfield 23, 3) := by decide +kernel
theorem dX7_merge_415 : decode cX7_merge 415 = .ok (.iload_n 2, 1) := by decide +kernel
theorem dX7_merge_416 : decode cX7_merge 416 = .ok (.iaload, 1) := by decide +kernel
theorem dX7_merge_417 : decode cX7_merge 417 = .ok (.iadd, 1) := by decide +kernel
theorem dX7_merge_418 : decode cX7_merge 418 = .ok (.iastore, 1) := by decide +kernel
theorem dX7_merge_419 : decode cX7_merge 419 = .ok (.aload_n 0, 1) := by decide +kernel
theorem dX7_merge_420 : decode cX7_merge 420 = .ok (.getfield 26, 3) := by decide +kernel
theorem dX7_merge_423 : decode cX7_merge 423 = .ok (.iload_n 1, 1) := by decide +kernel
theorem dX7_merge_424 : decode cX7_merge 424 = .ok (.aload_n 0, 1) := by decide +kernel
theorem dX7_merge_425 : decode cX7_merge 425 = .ok (.getfield 26, 3) := by decide +kernel
theorem dX7_merge_428 : decode cX7_merge 428 = .ok (.iload_n 1, 1) := by decide +kernel
theorem dX7_merge_429 : decode cX7_merge 429 = .ok (.iaload, 1) := by decide +kernel
theorem dX7_merge_430 : decode cX7_merge 430 = .ok (.aload_n 0, 1) := by decide +kernel
theorem dX7_merge_431 : decode cX7_merge 431 = .ok (.getfield 26, 3) := by decide +kernel
theorem dX7_merge_434 : decode cX7_merge 434 = .ok (.iload_n 2, 1) := by decide +kernel
theorem dX7_merge_435 : decode cX7_merge 435 = .ok (.iaload, 1) := by decide +kernel
theorem dX7_merge_436 : decode cX7_merge 436 = .ok (.iadd, 1) := by decide +kernel
theorem dX7_merge_437 : decode cX7_merge 437 = .ok (.iastore, 1) := by decide +kernel
theorem dX7_merge_438 : decode cX7_merge 438 = .ok (.aload_n 0, 1) := by decide +kernel
theorem dX7_merge_439 : decode cX7_merge 439 = .ok (.getfield 23, 3) := by decide +kernel
theorem dX7_merge_442 : decode cX7_merge 442 = .ok (.iload_n 1, 1) := by decide +kernel
theorem dX7_merge_443 : decode cX7_merge 443 = .ok (.iaload, 1) := by decide +kernel
theorem dX7_merge_444 : decode cX7_merge 444 = .ok (.ldc 54, 2) := by decide +kernel
theorem dX7_merge_446 : decode cX7_merge 446 = .ok (.iadd, 1) := by decide +kernel
theorem dX7_merge_447 : decode cX7_merge 447 = .ok (.ireturn, 1) := by decide +kernel
theorem dX7_hash_0 : decode cX7_hash 0 = .ok (.aload_n 0, 1) := by decide +kernel
theorem dX7_hash_1 : decode cX7_hash 1 = .ok (.iconst 0, 1) := by decide +kernel
theorem dX7_hash_2 : decode cX7_hash 2 = .ok (.putfield 1, 3) := by decide +kernel
theorem dX7_hash_5 : decode cX7_hash 5 = .ok (.iload_n 1, 1) := by decide +kernel
theorem dX7_hash_6 : decode cX7_hash 6 = .ok (.iconst 0, 1) := by decide +kernel
theorem dX7_hash_7 : decode cX7_hash 7 = .ok (.sipush 999, 3) := by decide +kernel
theorem dX7_hash_10 : decode cX7_hash 10 = .ok (.invokestatic 41, 3) := by decide +kernel
theorem dX7_hash_13 : decode cX7_hash 13 = .ok (.ifCond .eq 32, 3) := by decide +kernel
theorem dX7_hash_16 : decode cX7_hash 16 = .ok (.iload_n 2, 1) := by decide +kernel
theorem dX7_hash_17 : decode cX7_hash 17 = .ok (.iconst 0, 1) := by decide +kernel
theorem dX7_hash_18 : decode cX7_hash 18 = .ok (.iconst 3, 1) := by decide +kernel
theorem dX7_hash_19 : decode cX7_hash 19 = .ok (.invokestatic 41, 3) := by decide +kernel
theorem dX7_hash_22 : decode cX7_hash 22 = .ok (.ifCond .eq 23, 3) := by decide +kernel
theorem dX7_hash_25 : decode cX7_hash 25 = .ok (.iload_n 3, 1) := by decide +kernel
theorem dX7_hash_26 : decode cX7_hash 26 = .ok (.iconst 0, 1) := by decide +kernel
theorem dX7_hash_27 : decode cX7_hash 27 = .ok (.sipush 9999, 3) := by decide +kernel
theorem dX7_hash_30 : decode cX7_hash 30 = .ok (.invokestatic 41, 3) := by decide +kernel
theorem dX7_hash_33 : decode cX7_hash 33 = .ok (.ifCond .eq 12, 3) := by decide +kernel
theorem dX7_hash_36 : decode cX7_hash 36 = .ok (.iload_n 1, 1) := by decide +kernel
theorem dX7_hash_37 : decode cX7_hash 37 = .ok (.iload_n 2, 1) := by decide +kernel
theorem dX7_hash_38 : decode cX7_hash 38 = .ok (.iload_n 3, 1) := by decide +kernel
theorem dX7_hash_39 : decode cX7_hash 39 = .ok (.invokestatic 74, 3) := by decide +kernel
theorem dX7_hash_42 : decode cX7_hash 42 = .ok (.goto 4, 3) := by decide +kernel
theorem dX7_hash_45 : decode cX7_hash 45 = .ok (.iconst (-1), 1) := by decide +kernel
theorem dX7_hash_46 : decode cX7_hash 46 = .ok (.ireturn, 1) := by decide +kernel
theorem dX7_isBad_0 : decode cX7_isBad 0 = .ok (.aload_n 0, 1) := by decide +kernel
theorem dX7_isBad_1 : decode cX7_isBad 1 = .ok (.iload_n 1, 1) := by decide +kernel
theorem dX7_isBad_2 : decode cX7_isBad 2 = .ok (.invokevirtual 50, 3) := by decide +kernel
theorem dX7_isBad_5 : decode cX7_isBad 5 = .ok (.ifCond .ne 18, 3) := by decide +kernel
theorem dX7_isBad_8 : decode cX7_isBad 8 = .ok (.iload_n 2, 1) := by decide +kernel
theorem dX7_isBad_9 : decode cX7_isBad 9 = .ok (.iconst 0, 1) := by decide +kernel
theorem dX7_isBad_10 : decode cX7_isBad 10 = .ok (.sipush 9999, 3) := by decide +kernel
theorem dX7_isBad_13 : decode cX7_isBad 13 = .ok (.invokestatic 41, 3) := by decide +kernel
theorem dX7_isBad_16 : decode cX7_isBad 16 = .ok (.ifCond .eq 7, 3) := by decide +kernel
theorem dX7_isBad_19 : decode cX7_isBad 19 = .ok (.iload_n 3, 1) := by decide +kernel
theorem dX7_isBad_20 : decode cX7_isBad 20 = .ok (.ifCond .ne 7, 3) := by decide +kernel
theorem dX7_isBad_23 : decode cX7_isBad 23 = .ok (.iconst 1, 1) := by decide +kernel
theorem dX7_isBad_24 : decode cX7_isBad 24 = .ok (.goto 4, 3) := by decide +kernel
theorem dX7_isBad_27 : decode cX7_isBad 27 = .ok (.iconst 0, 1) := by decide +kernel
theorem dX7_isBad_28 : decode cX7_isBad 28 = .ok (.ireturn, 1) := by decide +kernel
theorem dX7_isOf_0 : decode cX7_isOf 0 = .ok (.aload_n 0, 1) := by decide +kernel
theorem dX7_isOf_1 : decode cX7_isOf 1 = .ok (.iload_n 1, 1) := by decide +kernel
theorem dX7_isOf_2 : decode cX7_isOf 2 = .ok (.invokevirtual 50, 3) := by decide +kernel
theorem dX7_isOf_5 : decode cX7_isOf 5 = .ok (.ifCond .ne 27, 3) := by decide +kernel
theorem dX7_isOf_8 : decode cX7_isOf 8 = .ok (.aload_n 0, 1) := by decide +kernel
theorem dX7_isOf_9 : decode cX7_isOf 9 = .ok (.getfield 13, 3) := by decide +kernel
theorem dX7_isOf_12 : decode cX7_isOf 12 = .ok (.iload_n 1, 1) := by decide +kernel
theorem dX7_isOf_13 : decode cX7_isOf 13 = .ok (.iaload, 1) := by decide +kernel
theorem dX7_isOf_14 : decode cX7_isOf 14 = .ok (.iload_n 2, 1) := by decide +kernel
theorem dX7_isOf_15 : decode cX7_isOf 15 = .ok (.if_icmp .eq 13, 3) := by decide +kernel
theorem dX7_isOf_18 : decode cX7_isOf 18 = .ok (.aload_n 0, 1) := by decide +kernel
theorem dX7_isOf_19 : decode cX7_isOf 19 = .ok (.getfield 13, 3) := by decide +kernel
theorem dX7_isOf_22 : decode cX7_isOf 22 = .ok (.iload_n 1, 1) := by decide +kernel
theorem dX7_isOf_23 : decode cX7_isOf 23 = .ok (.iaload, 1) := by decide +kernel
theorem dX7_isOf_24 : decode cX7_isOf 24 = .ok (.iload_n 3, 1) := by decide +kernel
theorem dX7_isOf_25 : decode cX7_isOf 25 = .ok (.if_icmp .ne 7, 3) := by decide +kernel
theorem dX7_isOf_28 : decode cX7_isOf 28 = .ok (.iconst 1, 1) := by decide +kernel
theorem dX7_isOf_29 : decode cX7_isOf 29 = .ok (.goto 4, 3) := by decide +kernel
theorem dX7_isOf_32 : decode cX7_isOf 32 = .ok (.iconst 0, 1) := by decide +kernel
theorem dX7_isOf_33 : decode cX7_isOf 33 = .ok (.ireturn, 1) := by decide +kernel
theorem dX7_numberOf_0 : decode cX7_numberOf 0 = .ok (.aload_n 0, 1) := by decide +kernel
theorem dX7_numberOf_1 : decode cX7_numberOf 1 = .ok (.iload_n 1, 1) := by decide +kernel
theorem dX7_numberOf_2 : decode cX7_numberOf 2 = .ok (.iload_n 2, 1) := by decide +kernel
theorem dX7_numberOf_3 : decode cX7_numberOf 3 = .ok (.invokevirtual 63, 3) := by decide +kernel
theorem dX7_numberOf_6 : decode cX7_numberOf 6 = .ok (.istore_n 3, 1) := by decide +kernel
theorem dX7_numberOf_7 : decode cX7_numberOf 7 = .ok (.iload_n 3, 1) := by decide +kernel
theorem dX7_numberOf_8 : decode cX7_numberOf 8 = .ok (.ifCond .ge 7, 3) := by decide +kernel
theorem dX7_numberOf_11 : decode cX7_numberOf 11 = .ok (.iconst 0, 1) := by decide +kernel
theorem dX7_numberOf_12 : decode cX7_numberOf 12 = .ok (.goto 16, 3) := by decide +kernel
theorem dX7_numberOf_15 : decode cX7_numberOf 15 = .ok (.aload_n 0, 1) := by decide +kernel
theorem dX7_numberOf_16 : decode cX7_numberOf 16 = .ok (.getfield 32, 3) := by decide +kernel
theorem dX7_numberOf_19 : decode cX7_numberOf 19 = .ok (.aload_n 0, 1) := by decide +kernel
theorem dX7_numberOf_20 : decode cX7_numberOf 20 = .ok (.iload_n 1, 1) := by decide +kernel
theorem dX7_numberOf_21 : decode cX7_numberOf 21 = .ok (.iload_n 3, 1) := by decide +kernel
theorem dX7_numberOf_22 : decode cX7_numberOf 22 = .ok (.invokevirtual 59, 3) := by decide +kernel
theorem dX7_numberOf_25 : decode cX7_numberOf 25 = .ok (.iconst 1, 1) := by decide +kernel
theorem dX7_numberOf_26 : decode cX7_numberOf 26 = .ok (.iadd, 1) := by decide +kernel
theorem dX7_numberOf_27 : decode cX7_numberOf 27 = .ok (.iaload, 1) := by decide +kernel
theorem dX7_numberOf_28 : decode cX7_numberOf 28 = .ok (.ireturn, 1) := by decide +kernel
theorem dX7_low_0 : decode cX7_low 0 = .ok (.aload_n 0, 1) := by decide +kernel
theorem dX7_low_1 : decode cX7_low 1 = .ok (.iconst 0, 1) := by decide +kernel
theorem dX7_low_2 : decode cX7_low 2 = .ok (.putfield 1, 3) := by decide +kernel
theorem dX7_low_5 : decode cX7_low 5 = .ok (.aload_n 0, 1) := by decide +kernel
theorem dX7_low_6 : decode cX7_low 6 = .ok (.iload_n 1, 1) := by decide +kernel
theorem dX7_low_7 : decode cX7_low 7 = .ok (.iload_n 2, 1) := by decide +kernel
theorem dX7_low_8 : decode cX7_low 8 = .ok (.aload_n 0, 1) := by decide +kernel
theorem dX7_low_9 : decode cX7_low 9 = .ok (.iload_n 1, 1) := by decide +kernel
theorem dX7_low_10 : decode cX7_low 10 = .ok (.iconst 0, 1) := by decide +kernel
theorem dX7_low_11 : decode cX7_low 11 = .ok (.iconst 4, 1) := by decide +kernel
theorem dX7_low_12 : decode cX7_low 12 = .ok (.invokevirtual 100, 3) := by decide +kernel
theorem dX7_low_15 : decode cX7_low 15 = .ok (.invokevirtual 103, 3) := by decide +kernel
theorem dX7_low_18 : decode cX7_low 18 = .ok (.ifCond .eq 5, 3) := by decide +kernel
theorem dX7_low_21 : decode cX7_low 21 = .ok (.iconst (-1), 1) := by decide +kernel
theorem dX7_low_22 : decode cX7_low 22 = .ok (.ireturn, 1) := by decide +kernel
theorem dX7_low_23 : decode cX7_low 23 = .ok (.aload_n 0, 1) := by decide +kernel
theorem dX7_low_24 : decode cX7_low 24 = .ok (.getfield 13, 3) := by decide +kernel
theorem dX7_low_27 : decode cX7_low 27 = .ok (.iload_n 1, 1) := by decide +kernel
theorem dX7_low_28 : decode cX7_low 28 = .ok (.iaload, 1) := by decide +kernel
theorem dX7_low_29 : decode cX7_low 29 = .ok (.ifCond .ne 10, 3) := by decide +kernel
theorem dX7_low_32 : decode cX7_low 32 = .ok (.aload_n 0, 1) := by decide +kernel
theorem dX7_low_33 : decode cX7_low 33 = .ok (.iload_n 1, 1) := by decide +kernel
theorem dX7_low_34 : decode cX7_low 34 = .ok (.iload_n 2, 1) := by decide +kernel
theorem dX7_low_35 : decode cX7_low 35 = .ok (.invokevirtual 107, 3) := by decide +kernel
theorem dX7_low_38 : decode cX7_low 38 = .ok (.ireturn, 1) := by decide +kernel
theorem dX7_low_39 : decode cX7_low 39 = .ok (.aload_n 0, 1) := by decide +kernel
theorem dX7_low_40 : decode cX7_low 40 = .ok (.iload_n 1, 1) := by decide +kernel
theorem dX7_low_41 : decode cX7_low 41 = .ok (.iload_n 2, 1) := by decide +kernel
theorem dX7_low_42 : decode cX7_low 42 = .ok (.invokevirtual 110, 3) := by decide +kernel
theorem dX7_low_45 : decode cX7_low 45 = .ok (.aload_n 0, 1) := by decide +kernel
theorem dX7_low_46 : decode cX7_low 46 = .ok (.getfield 29, 3) := by decide +kernel
theorem dX7_low_49 : decode cX7_low 49 = .ok (.iload_n 1, 1) := by decide +kernel
theorem dX7_low_50 : decode cX7_low 50 = .ok (.iaload, 1) := by decide +kernel
theorem dX7_low_51 : decode cX7_low 51 = .ok (.isub, 1) := by decide +kernel
theorem dX7_low_52 : decode cX7_low 52 = .ok (.istore_n 3, 1) := by decide +kernel
theorem dX7_low_53 : decode cX7_low 53 = .ok (.iload_n 3, 1) := by decide +kernel
theorem dX7_low_54 : decode cX7_low 54 = .ok (.ifCond .ge 7, 3) := by decide +kernel
theorem dX7_low_57 : decode cX7_low 57 = .ok (.iconst 0, 1) := by decide +kernel
theorem dX7_low_58 : decode cX7_low 58 = .ok (.goto 4, 3) := by decide +kernel
theorem dX7_low_61 : decode cX7_low 61 = .ok (.iload_n 3, 1) := by decide +kernel
theorem dX7_low_62 : decode cX7_low 62 = .ok (.ireturn, 1) := by decide +kernel
theorem dX7_high_0 : decode cX7_high 0 = .ok (.aload_n 0, 1) := by decide +kernel
theorem dX7_high_1 : decode cX7_high 1 = .ok (.iconst 0, 1) := by decide +kernel
theorem dX7_high_2 : decode cX7_high 2 = .ok (.putfield 1, 3) := by decide +kernel
theorem dX7_high_5 : decode cX7_high 5 = .ok (.aload_n 0, 1) := by decide +kernel
theorem dX7_high_6 : decode cX7_high 6 = .ok (.iload_n 1, 1) := by decide +kernel
theorem dX7_high_7 : decode cX7_high 7 = .ok (.iload_n 2, 1) := by decide +kernel
theorem dX7_high_8 : decode cX7_high 8 = .ok (.aload_n 0, 1) := by decide +kernel
theorem dX7_high_9 : decode cX7_high 9 = .ok (.iload_n 1, 1) := by decide +kernel
theorem dX7_high_10 : decode cX7_high 10 = .ok (.iconst 0, 1) := by decide +kernel
theorem dX7_high_11 : decode cX7_high 11 = .ok (.iconst 4, 1) := by decide +kernel
theorem dX7_high_12 : decode cX7_high 12 = .ok (.invokevirtual 100, 3) := by decide +kernel
theorem dX7_high_15 : decode cX7_high 15 = .ok (.ifCond .ne 13, 3) := by decide +kernel
theorem dX7_high_18 : decode cX7_high 18 = .ok (.aload_n 0, 1) := by decide +kernel
theorem dX7_high_19 : decode cX7_high 19 = .ok (.iload_n 1, 1) := by decide +kernel
theorem dX7_high_20 : decode cX7_high 20 = .ok (.iconst 1, 1) := by decide +kernel
theorem dX7_high_21 : decode cX7_high 21 = .ok (.iconst 1, 1) := by decide +kernel
theorem dX7_high_22 : decode cX7_high 22 = .ok (.invokevirtual 100, 3) := by decide +kernel
theorem dX7_high_25 : decode cX7_high 25 = .ok (.ifCond .eq 7, 3) := by decide +kernel
theorem dX7_high_28 : decode cX7_high 28 = .ok (.iconst 1, 1) := by decide +kernel
theorem dX7_high_29 : decode cX7_high 29 = .ok (.goto 4, 3) := by decide +kernel
theorem dX7_high_32 : decode cX7_high 32 = .ok (.iconst 0, 1) := by decide +kernel
theorem dX7_high_33 : decode cX7_high 33 = .ok (.invokevirtual 103, 3) := by decide +kernel
theorem dX7_high_36 : decode cX7_high 36 = .ok (.ifCond .eq 5, 3) := by decide +kernel
theorem dX7_high_39 : decode cX7_high 39 = .ok (.iconst (-1), 1) := by decide +kernel
theorem dX7_high_40 : decode cX7_high 40 = .ok (.ireturn, 1) := by decide +kernel
theorem dX7_high_41 : decode cX7_high 41 = .ok (.aload_n 0, 1) := by decide +kernel
theorem dX7_high_42 : decode cX7_high 42 = .ok (.getfield 13, 3) := by decide +kernel
theorem dX7_high_45 : decode cX7_high 45 = .ok (.iload_n 1, 1) := by decide +kernel
theorem dX7_high_46 : decode cX7_high 46 = .ok (.iaload, 1) := by decide +kernel
theorem dX7_high_47 : decode cX7_high 47 = .ok (.ifCond .ne 17, 3) := by decide +kernel
theorem dX7_high_50 : decode cX7_high 50 = .ok (.aload_n 0, 1) := by decide +kernel
theorem dX7_high_51 : decode cX7_high 51 = .ok (.iload_n 1, 1) := by decide +kernel
theorem dX7_high_52 : decode cX7_high 52 = .ok (.iload_n 2, 1) := by decide +kernel
theorem dX7_high_53 : decode cX7_high 53 = .ok (.invokevirtual 107, 3) := by decide +kernel
theorem dX7_high_56 : decode cX7_high 56 = .ok (.aload_n 0, 1) := by decide +kernel
theorem dX7_high_57 : decode cX7_high 57 = .ok (.getfield 29, 3) := by decide +kernel
theorem dX7_high_60 : decode cX7_high 60 = .ok (.iload_n 1, 1) := by decide +kernel
theorem dX7_high_61 : decode cX7_high 61 = .ok (.iaload, 1) := by decide +kernel
theorem dX7_high_62 : decode cX7_high 62 = .ok (.iadd, 1) := by decide +kernel
theorem dX7_high_63 : decode cX7_high 63 = .ok (.ireturn, 1) := by decide +kernel
theorem dX7_high_64 : decode cX7_high 64 = .ok (.aload_n 0, 1) := by decide +kernel
theorem dX7_high_65 : decode cX7_high 65 = .ok (.getfield 13, 3) := by decide +kernel
theorem dX7_high_68 : decode cX7_high 68 = .ok (.iload_n 1, 1) := by decide +kernel
theorem dX7_high_69 : decode cX7_high 69 = .ok (.iaload, 1) := by decide +kernel
theorem dX7_high_70 : decode cX7_high 70 = .ok (.iconst 4, 1) := by decide +kernel
theorem dX7_high_71 : decode cX7_high 71 = .ok (.if_icmp .ne 38, 3) := by decide +kernel
theorem dX7_high_74 : decode cX7_high 74 = .ok (.aload_n 0, 1) := by decide +kernel
theorem dX7_high_75 : decode cX7_high 75 = .ok (.iload_n 1, 1) := by decide +kernel
theorem dX7_high_76 : decode cX7_high 76 = .ok (.iload_n 2, 1) := by decide +kernel
theorem dX7_high_77 : decode cX7_high 77 = .ok (.invokevirtual 110, 3) := by decide +kernel
theorem dX7_high_80 : decode cX7_high 80 = .ok (.aload_n 0, 1) := by decide +kernel
theorem dX7_high_81 : decode cX7_high 81 = .ok (.getfield 29, 3) := by decide +kernel
theorem dX7_high_84 : decode cX7_high 84 = .ok (.iload_n 1, 1) := by decide +kernel
theorem dX7_high_85 : decode cX7_high 85 = .ok (.iaload, 1) := by decide +kernel
theorem dX7_high_86 : decode cX7_high 86 = .ok (.iadd, 1) := by decide +kernel
theorem dX7_high_87 : decode cX7_high 87 = .ok (.istore_n 3, 1) := by decide +kernel
theorem dX7_high_88 : decode cX7_high 88 = .ok (.iload_n 3, 1) := by decide +kernel
theorem dX7_high_89 : decode cX7_high 89 = .ok (.aload_n 0, 1) := by decide +kernel
theorem dX7_high_90 : decode cX7_high 90 = .ok (.getfield 23, 3) := by decide +kernel
theorem dX7_high_93 : decode cX7_high 93 = .ok (.iload_n 1, 1) := by decide +kernel
theorem dX7_high_94 : decode cX7_high 94 = .ok (.iaload, 1) := by decide +kernel
theorem dX7_high_95 : decode cX7_high 95 = .ok (.if_icmp .le 12, 3) := by decide +kernel
theorem dX7_high_98 : decode cX7_high 98 = .ok (.aload_n 0, 1) := by decide +kernel
theorem dX7_high_99 : decode cX7_high 99 = .ok (.getfield 23, 3) := by decide +kernel
theorem dX7_high_102 : decode cX7_high 102 = .ok (.iload_n 1, 1) := by decide +kernel
theorem dX7_high_103 : decode cX7_high 103 = .ok (.iaload, 1) := by decide +kernel
theorem dX7_high_104 : decode cX7_high 104 = .ok (.goto 4, 3) := by decide +kernel
theorem dX7_high_107 : decode cX7_high 107 = .ok (.iload_n 3, 1) := by decide +kernel
theorem dX7_high_108 : decode cX7_high 108 = .ok (.ireturn, 1) := by decide +kernel
theorem dX7_high_109 : decode cX7_high 109 = .ok (.aload_n 0, 1) := by decide +kernel
theorem dX7_high_110 : decode cX7_high 110 = .ok (.getfield 32, 3) := by decide +kernel
theorem dX7_high_113 : decode cX7_high 113 = .ok (.aload_n 0, 1) := by decide +kernel
theorem dX7_high_114 : decode cX7_high 114 = .ok (.iload_n 1, 1) := by decide +kernel
theorem dX7_high_115 : decode cX7_high 115 = .ok (.iconst 0, 1) := by decide +kernel
theorem dX7_high_116 : decode cX7_high 116 = .ok (.iload_n 2, 1) := by decide +kernel
theorem dX7_high_117 : decode cX7_high 117 = .ok (.invokevirtual 88, 3) := by decide +kernel
theorem dX7_high_120 : decode cX7_high 120 = .ok (.iaload, 1) := by decide +kernel
theorem dX7_high_121 : decode cX7_high 121 = .ok (.istore_n 3, 1) := by decide +kernel
theorem dX7_high_122 : decode cX7_high 122 = .ok (.iconst 1, 1) := by decide +kernel
theorem dX7_high_123 : decode cX7_high 123 = .ok (.istore 4, 2) := by decide +kernel
theorem dX7_high_125 : decode cX7_high 125 = .ok (.iload 4, 2) := by decide +kernel
theorem dX7_high_127 : decode cX7_high 127 = .ok (.iconst 4, 1) := by decide +kernel
theorem dX7_high_128 : decode cX7_high 128 = .ok (.if_icmp .ge 44, 3) := by decide +kernel
theorem dX7_high_131 : decode cX7_high 131 = .ok (.aload_n 0, 1) := by decide +kernel
theorem dX7_high_132 : decode cX7_high 132 = .ok (.getfield 32, 3) := by decide +kernel
theorem dX7_high_135 : decode cX7_high 135 = .ok (.aload_n 0, 1) := by decide +kernel
theorem dX7_high_136 : decode cX7_high 136 = .ok (.iload_n 1, 1) := by decide +kernel
theorem dX7_high_137 : decode cX7_high 137 = .ok (.iload 4, 2) := by decide +kernel
theorem dX7_high_139 : decode cX7_high 139 = .ok (.iload_n 2, 1) := by decide +kernel
theorem dX7_high_140 : decode cX7_high 140 = .ok (.invokevirtual 88, 3) := by decide +kernel
theorem dX7_high_143 : decode cX7_high 143 = .ok (.iaload, 1) := by decide +kernel
theorem dX7_high_144 : decode cX7_high 144 = .ok (.iload_n 3, 1) := by decide +kernel
theorem dX7_high_145 : decode cX7_high 145 = .ok (.if_icmp .ge 19, 3) := by decide +kernel
theorem dX7_high_148 : decode cX7_high 148 = .ok (.aload_n 0, 1) := by decide +kernel
theorem dX7_high_149 : decode cX7_high 149 = .ok (.getfield 32, 3) := by decide +kernel
theorem dX7_high_152 : decode cX7_high 152 = .ok (.aload_n 0, 1) := by decide +kernel
theorem dX7_high_153 : decode cX7_high 153 = .ok (.iload_n 1, 1) := by decide +kernel
theorem dX7_high_154 : decode cX7_high 154 = .ok (.iload 4, 2) := by decide +kernel
theorem dX7_high_156 : decode cX7_high 156 = .ok (.iload_n 2, 1) := by decide +kernel
theorem dX7_high_157 : decode cX7_high 157 = .ok (.invokevirtual 88, 3) := by decide +kernel
theorem dX7_high_160 : decode cX7_high 160 = .ok (.iaload, 1) := by decide +kernel
theorem dX7_high_161 : decode cX7_high 161 = .ok (.goto 4, 3) := by decide +kernel
theorem dX7_high_164 : decode cX7_high 164 = .ok (.iload_n 3, 1) := by decide +kernel
theorem dX7_high_165 : decode cX7_high 165 = .ok (.istore_n 3, 1) := by decide +kernel
theorem dX7_high_166 : decode cX7_high 166 = .ok (.iinc 4 1, 3) := by decide +kernel
theorem dX7_high_169 : decode cX7_high 169 = .ok (.goto (-44), 3) := by decide +kernel
theorem dX7_high_172 : decode cX7_high 172 = .ok (.iload_n 3, 1) := by decide +kernel
theorem dX7_high_173 : decode cX7_high 173 = .ok (.ireturn, 1) := by decide +kernel
theorem dX7_has_0 : decode cX7_has 0 = .ok (.aload_n 0, 1) := by decide +kernel
theorem dX7_has_1 : decode cX7_has 1 = .ok (.iconst 0, 1) := by decide +kernel
theorem dX7_has_2 : decode cX7_has 2 = .ok (.putfield 1, 3) := by decide +kernel
theorem dX7_has_5 : decode cX7_has 5 = .ok (.aload_n 0, 1) := by decide +kernel
theorem dX7_has_6 : decode cX7_has 6 = .ok (.iload_n 1, 1) := by decide +kernel
theorem dX7_has_7 : decode cX7_has 7 = .ok (.iload_n 2, 1) := by decide +kernel
theorem dX7_has_8 : decode cX7_has 8 = .ok (.aload_n 0, 1) := by decide +kernel
theorem dX7_has_9 : decode cX7_has 9 = .ok (.iload_n 1, 1) := by decide +kernel
theorem dX7_has_10 : decode cX7_has 10 = .ok (.iconst 2, 1) := by decide +kernel
theorem dX7_has_11 : decode cX7_has 11 = .ok (.iconst 3, 1) := by decide +kernel
theorem dX7_has_12 : decode cX7_has 12 = .ok (.invokevirtual 100, 3) := by decide +kernel
theorem dX7_has_15 : decode cX7_has 15 = .ok (.invokevirtual 103, 3) := by decide +kernel
theorem dX7_has_18 : decode cX7_has 18 = .ok (.ifCond .eq 5, 3) := by decide +kernel
theorem dX7_has_21 : decode cX7_has 21 = .ok (.iconst (-1), 1) := by decide +kernel
theorem dX7_has_22 : decode cX7_has 22 = .ok (.ireturn, 1) := by decide +kernel
theorem dX7_has_23 : decode cX7_has 23 = .ok (.aload_n 0, 1) := by decide +kernel
theorem dX7_has_24 : decode cX7_has 24 = .ok (.getfield 13, 3) := by decide +kernel
theorem dX7_has_27 : decode cX7_has 27 = .ok (.iload_n 1, 1) := by decide +kernel
theorem dX7_has_28 : decode cX7_has 28 = .ok (.iaload, 1) := by decide +kernel
theorem dX7_has_29 : decode cX7_has 29 = .ok (.iconst 2, 1) := by decide +kernel
theorem dX7_has_30 : decode cX7_has 30 = .ok (.if_icmp .ne 38, 3) := by decide +kernel
theorem dX7_has_33 : decode cX7_has 33 = .ok (.iconst 1, 1) := by decide +kernel
theorem dX7_has_34 : decode cX7_has 34 = .ok (.istore_n 3, 1) := by decide +kernel
theorem dX7_has_35 : decode cX7_has 35 = .ok (.iconst 0, 1) := by decide +kernel
theorem dX7_has_36 : decode cX7_has 36 = .ok (.istore 4, 2) := by decide +kernel
theorem dX7_has_38 : decode cX7_has 38 = .ok (.iload 4, 2) := by decide +kernel
theorem dX7_has_40 : decode cX7_has 40 = .ok (.iconst 4, 1) := by decide +kernel
theorem dX7_has_41 : decode cX7_has 41 = .ok (.if_icmp .ge 25, 3) := by decide +kernel
theorem dX7_has_44 : decode cX7_has 44 = .ok (.iload_n 3, 1) := by decide +kernel
theorem dX7_has_45 : decode cX7_has 45 = .ok (.aload_n 0, 1) := by decide +kernel
theorem dX7_has_46 : decode cX7_has 46 = .ok (.getfield 32, 3) := by decide +kernel
theorem dX7_has_49 : decode cX7_has 49 = .ok (.aload_n 0, 1) := by decide +kernel
theorem dX7_has_50 : decode cX7_has 50 = .ok (.iload_n 1, 1) := by decide +kernel
theorem dX7_has_51 : decode cX7_has 51 = .ok (.iload 4, 2) := by decide +kernel
theorem dX7_has_53 : decode cX7_has 53 = .ok (.iload_n 2, 1) := by decide +kernel
theorem dX7_has_54 : decode cX7_has 54 = .ok (.invokevirtual 88, 3) := by decide +kernel
theorem dX7_has_57 : decode cX7_has 57 = .ok (.iaload, 1) := by decide +kernel
theorem dX7_has_58 : decode cX7_has 58 = .ok (.iand, 1) := by decide +kernel
theorem dX7_has_59 : decode cX7_has 59 = .ok (.istore_n 3, 1) := by decide +kernel
theorem dX7_has_60 : decode cX7_has 60 = .ok (.iinc 4 1, 3) := by decide +kernel
theorem dX7_has_63 : decode cX7_has 63 = .ok (.goto (-25), 3) := by decide +kernel
theorem dX7_has_66 : decode cX7_has 66 = .ok (.iload_n 3, 1) := by decide +kernel
theorem dX7_has_67 : decode cX7_has 67 = .ok (.ireturn, 1) := by decide +kernel
theorem dX7_has_68 : decode cX7_has 68 = .ok (.aload_n 0, 1) := by decide +kernel
theorem dX7_has_69 : decode cX7_has 69 = .ok (.getfield 20, 3) := by decide +kernel
theorem dX7_has_72 : decode cX7_has 72 = .ok (.iload_n 1, 1) := by decide +kernel
theorem dX7_has_73 : decode cX7_has 73 = .ok (.iaload, 1) := by decide +kernel
theorem dX7_has_74 : decode cX7_has 74 = .ok (.iconst 0, 1) := by decide +kernel
theorem dX7_has_75 : decode cX7_has 75 = .ok (.iload_n 2, 1) := by decide +kernel
theorem dX7_has_76 : decode cX7_has 76 = .ok (.invokestatic 74, 3) := by decide +kernel
theorem dX7_has_79 : decode cX7_has 79 = .ok (.istore_n 3, 1) := by decide +kernel
theorem dX7_has_80 : decode cX7_has 80 = .ok (.iconst 0, 1) := by decide +kernel
theorem dX7_has_81 : decode cX7_has 81 = .ok (.istore 4, 2) := by decide +kernel
theorem dX7_has_83 : decode cX7_has 83 = .ok (.iconst 0, 1) := by decide +kernel
theorem dX7_has_84 : decode cX7_has 84 = .ok (.istore 5, 2) := by decide +kernel
theorem dX7_has_86 : decode cX7_has 86 = .ok (.iload 5, 2) := by decide +kernel
theorem dX7_has_88 : decode cX7_has 88 = .ok (.aload_n 0, 1) := by decide +kernel
theorem dX7_has_89 : decode cX7_has 89 = .ok (.iload_n 1, 1) := by decide +kernel
theorem dX7_has_90 : decode cX7_has 90 = .ok (.invokevirtual 55, 3) := by decide +kernel
theorem dX7_has_93 : decode cX7_has 93 = .ok (.if_icmp .ge 37, 3) := by decide +kernel
theorem dX7_has_96 : decode cX7_has 96 = .ok (.aload_n 0, 1) := by decide +kernel
theorem dX7_has_97 : decode cX7_has 97 = .ok (.getfield 32, 3) := by decide +kernel
theorem dX7_has_100 : decode cX7_has 100 = .ok (.sipush 1200, 3) := by decide +kernel
theorem dX7_has_103 : decode cX7_has 103 = .ok (.iload_n 1, 1) := by decide +kernel
theorem dX7_has_104 : decode cX7_has 104 = .ok (.imul, 1) := by decide +kernel
theorem dX7_has_105 : decode cX7_has 105 = .ok (.bipush 100, 2) := by decide +kernel
theorem dX7_has_107 : decode cX7_has 107 = .ok (.iadd, 1) := by decide +kernel
theorem dX7_has_108 : decode cX7_has 108 = .ok (.iload 5, 2) := by decide +kernel
theorem dX7_has_110 : decode cX7_has 110 = .ok (.iadd, 1) := by decide +kernel
theorem dX7_has_111 : decode cX7_has 111 = .ok (.iaload, 1) := by decide +kernel
theorem dX7_has_112 : decode cX7_has 112 = .ok (.iload_n 3, 1) := by decide +kernel
theorem dX7_has_113 : decode cX7_has 113 = .ok (.if_icmp .ne 7, 3) := by decide +kernel
theorem dX7_has_116 : decode cX7_has 116 = .ok (.iconst 1, 1) := by decide +kernel
theorem dX7_has_117 : decode cX7_has 117 = .ok (.goto 5, 3) := by decide +kernel
theorem dX7_has_120 : decode cX7_has 120 = .ok (.iload 4, 2) := by decide +kernel
theorem dX7_has_122 : decode cX7_has 122 = .ok (.istore 4, 2) := by decide +kernel
theorem dX7_has_124 : decode cX7_has 124 = .ok (.iinc 5 1, 3) := by decide +kernel
theorem dX7_has_127 : decode cX7_has 127 = .ok (.goto (-41), 3) := by decide +kernel
theorem dX7_has_130 : decode cX7_has 130 = .ok (.iload 4, 2) := by decide +kernel
theorem dX7_has_132 : decode cX7_has 132 = .ok (.ireturn, 1) := by decide +kernel
theorem dX7_distinct_0 : decode cX7_distinct 0 = .ok (.aload_n 0, 1) := by decide +kernel
theorem dX7_distinct_1 : decode cX7_distinct 1 = .ok (.iconst 0, 1) := by decide +kernel
theorem dX7_distinct_2 : decode cX7_distinct 2 = .ok (.putfield 1, 3) := by decide +kernel
theorem dX7_distinct_5 : decode cX7_distinct 5 = .ok (.aload_n 0, 1) := by decide +kernel
theorem dX7_distinct_6 : decode cX7_distinct 6 = .ok (.iload_n 1, 1) := by decide +kernel
theorem dX7_distinct_7 : decode cX7_distinct 7 = .ok (.iconst 3, 1) := by decide +kernel
theorem dX7_distinct_8 : decode cX7_distinct 8 = .ok (.iconst 3, 1) := by decide +kernel
theorem dX7_distinct_9 : decode cX7_distinct 9 = .ok (.invokevirtual 100, 3) := by decide +kernel
theorem dX7_distinct_12 : decode cX7_distinct 12 = .ok (.ifCond .ne 5, 3) := by decide +kernel
theorem dX7_distinct_15 : decode cX7_distinct 15 = .ok (.iconst (-1), 1) := by decide +kernel
theorem dX7_distinct_16 : decode cX7_distinct 16 = .ok (.ireturn, 1) := by decide +kernel
theorem dX7_distinct_17 : decode cX7_distinct 17 = .ok (.aload_n 0, 1) := by decide +kernel
theorem dX7_distinct_18 : decode cX7_distinct 18 = .ok (.iload_n 1, 1) := by decide +kernel
theorem dX7_distinct_19 : decode cX7_distinct 19 = .ok (.invokevirtual 55, 3) := by decide +kernel
theorem dX7_distinct_22 : decode cX7_distinct 22 = .ok (.aload_n 0, 1) := by decide +kernel
theorem dX7_distinct_23 : decode cX7_distinct 23 = .ok (.getfield 17, 3) := by decide +kernel
theorem dX7_distinct_26 : decode cX7_distinct 26 = .ok (.iload_n 1, 1) := by decide +kernel
theorem dX7_distinct_27 : decode cX7_distinct 27 = .ok (.iaload, 1) := by decide +kernel
theorem dX7_distinct_28 : decode cX7_distinct 28 = .ok (.if_icmp .ge 9, 3) := by decide +kernel
theorem dX7_distinct_31 : decode cX7_distinct 31 = .ok (.aload_n 0, 1) := by decide +kernel
theorem dX7_distinct_32 : decode cX7_distinct 32 = .ok (.iload_n 1, 1) := by decide +kernel
theorem dX7_distinct_33 : decode cX7_distinct 33 = .ok (.invokevirtual 55, 3) := by decide +kernel
theorem dX7_distinct_36 : decode cX7_distinct 36 = .ok (.ireturn, 1) := by decide +kernel
theorem dX7_distinct_37 : decode cX7_distinct 37 = .ok (.iconst 0, 1) := by decide +kernel
theorem dX7_distinct_38 : decode cX7_distinct 38 = .ok (.istore_n 2, 1) := by decide +kernel
theorem dX7_distinct_39 : decode cX7_distinct 39 = .ok (.iconst 0, 1) := by decide +kernel
theorem dX7_distinct_40 : decode cX7_distinct 40 = .ok (.istore_n 3, 1) := by decide +kernel
theorem dX7_distinct_41 : decode cX7_distinct 41 = .ok (.iload_n 3, 1) := by decide +kernel
theorem dX7_distinct_42 : decode cX7_distinct 42 = .ok (.aload_n 0, 1) := by decide +kernel
theorem dX7_distinct_43 : decode cX7_distinct 43 = .ok (.iload_n 1, 1) := by decide +kernel
theorem dX7_distinct_44 : decode cX7_distinct 44 = .ok (.invokevirtual 55, 3) := by decide +kernel
theorem dX7_distinct_47 : decode cX7_distinct 47 = .ok (.if_icmp .ge 48, 3) := by decide +kernel
theorem dX7_distinct_50 : decode cX7_distinct 50 = .ok (.aload_n 0, 1) := by decide +kernel
theorem dX7_distinct_51 : decode cX7_distinct 51 = .ok (.getfield 32, 3) := by decide +kernel
theorem dX7_distinct_54 : decode cX7_distinct 54 = .ok (.sipush 1200, 3) := by decide +kernel
theorem dX7_distinct_57 : decode cX7_distinct 57 = .ok (.iload_n 1, 1) := by decide +kernel
theorem dX7_distinct_58 : decode cX7_distinct 58 = .ok (.imul, 1) := by decide +kernel
theorem dX7_distinct_59 : decode cX7_distinct 59 = .ok (.bipush 100, 2) := by decide +kernel
theorem dX7_distinct_61 : decode cX7_distinct 61 = .ok (.iadd, 1) := by decide +kernel
theorem dX7_distinct_62 : decode cX7_distinct 62 = .ok (.iload_n 3, 1) := by decide +kernel
theorem dX7_distinct_63 : decode cX7_distinct 63 = .ok (.iadd, 1) := by decide +kernel
theorem dX7_distinct_64 : decode cX7_distinct 64 = .ok (.iaload, 1) := by decide +kernel
theorem dX7_distinct_65 : decode cX7_distinct 65 = .ok (.iload_n 2, 1) := by decide +kernel
theorem dX7_distinct_66 : decode cX7_distinct 66 = .ok (.if_icmp .le 21, 3) := by decide +kernel
theorem dX7_distinct_69 : decode cX7_distinct 69 = .ok (.aload_n 0, 1) := by decide +kernel
theorem dX7_distinct_70 : decode cX7_distinct 70 = .ok (.getfield 32, 3) := by decide +kernel
theorem dX7_distinct_73 : decode cX7_distinct 73 = .ok (.sipush 1200, 3) := by decide +kernel
theorem dX7_distinct_76 : decode cX7_distinct 76 = .ok (.iload_n 1, 1) := by decide +kernel
theorem dX7_distinct_77 : decode cX7_distinct 77 = .ok (.imul, 1) := by decide +kernel
theorem dX7_distinct_78 : decode cX7_distinct 78 = .ok (.bipush 100, 2) := by decide +kernel
theorem dX7_distinct_80 : decode cX7_distinct 80 = .ok (.iadd, 1) := by decide +kernel
theorem dX7_distinct_81 : decode cX7_distinct 81 = .ok (.iload_n 3, 1) := by decide +kernel
theorem dX7_distinct_82 : decode cX7_distinct 82 = .ok (.iadd, 1) := by decide +kernel
theorem dX7_distinct_83 : decode cX7_distinct 83 = .ok (.iaload, 1) := by decide +kernel
theorem dX7_distinct_84 : decode cX7_distinct 84 = .ok (.goto 4, 3) := by decide +kernel
theorem dX7_distinct_87 : decode cX7_distinct 87 = .ok (.iload_n 2, 1) := by decide +kernel
theorem dX7_distinct_88 : decode cX7_distinct 88 = .ok (.istore_n 2, 1) := by decide +kernel
theorem dX7_distinct_89 : decode cX7_distinct 89 = .ok (.iinc 3 1, 3) := by decide +kernel
theorem dX7_distinct_92 : decode cX7_distinct 92 = .ok (.goto (-51), 3) := by decide +kernel
theorem dX7_distinct_95 : decode cX7_distinct 95 = .ok (.aload_n 0, 1) := by decide +kernel
theorem dX7_distinct_96 : decode cX7_distinct 96 = .ok (.getfield 17, 3) := by decide +kernel
theorem dX7_distinct_99 : decode cX7_distinct 99 = .ok (.iload_n 1, 1) := by decide +kernel
theorem dX7_distinct_100 : decode cX7_distinct 100 = .ok (.iaload, 1) := by decide +kernel
theorem dX7_distinct_101 : decode cX7_distinct 101 = .ok (.iconst 1, 1) := by decide +kernel
theorem dX7_distinct_102 : decode cX7_distinct 102 = .ok (.isub, 1) := by decide +kernel
theorem dX7_distinct_103 : decode cX7_distinct 103 = .ok (.ldc 45, 2) := by decide +kernel
theorem dX7_distinct_105 : decode cX7_distinct 105 = .ok (.imul, 1) := by decide +kernel
theorem dX7_distinct_106 : decode cX7_distinct 106 = .ok (.iload_n 2, 1) := by decide +kernel
theorem dX7_distinct_107 : decode cX7_distinct 107 = .ok (.idiv, 1) := by decide +kernel
theorem dX7_distinct_108 : decode cX7_distinct 108 = .ok (.ireturn, 1) := by decide +kernel
theorem dX7_quantile_0 : decode cX7_quantile 0 = .ok (.aload_n 0, 1) := by decide +kernel
theorem dX7_quantile_1 : decode cX7_quantile 1 = .ok (.iconst 0, 1) := by decide +kernel
theorem dX7_quantile_2 : decode cX7_quantile 2 = .ok (.putfield 1, 3) := by decide +kernel
theorem dX7_quantile_5 : decode cX7_quantile 5 = .ok (.aload_n 0, 1) := by decide +kernel
theorem dX7_quantile_6 : decode cX7_quantile 6 = .ok (.iload_n 1, 1) := by decide +kernel
theorem dX7_quantile_7 : decode cX7_quantile 7 = .ok (.iconst 4, 1) := by decide +kernel
theorem dX7_quantile_8 : decode cX7_quantile 8 = .ok (.iconst 4, 1) := by decide +kernel
theorem dX7_quantile_9 : decode cX7_quantile 9 = .ok (.invokevirtual 100, 3) := by decide +kernel
theorem dX7_quantile_12 : decode cX7_quantile 12 = .ok (.ifCond .eq 17, 3) := by decide +kernel
theorem dX7_quantile_15 : decode cX7_quantile 15 = .ok (.iload_n 2, 1) := by decide +kernel
theorem dX7_quantile_16 : decode cX7_quantile 16 = .ok (.iconst 1, 1) := by decide +kernel
theorem dX7_quantile_17 : decode cX7_quantile 17 = .ok (.aload_n 0, 1) := by decide +kernel
theorem dX7_quantile_18 : decode cX7_quantile 18 = .ok (.getfield 23, 3) := by decide +kernel
theorem dX7_quantile_21 : decode cX7_quantile 21 = .ok (.iload_n 1, 1) := by decide +kernel
theorem dX7_quantile_22 : decode cX7_quantile 22 = .ok (.iaload, 1) := by decide +kernel
theorem dX7_quantile_23 : decode cX7_quantile 23 = .ok (.invokestatic 41, 3) := by decide +kernel
theorem dX7_quantile_26 : decode cX7_quantile 26 = .ok (.ifCond .ne 5, 3) := by decide +kernel
theorem dX7_quantile_29 : decode cX7_quantile 29 = .ok (.iconst (-1), 1) := by decide +kernel
theorem dX7_quantile_30 : decode cX7_quantile 30 = .ok (.ireturn, 1) := by decide +kernel
theorem dX7_quantile_31 : decode cX7_quantile 31 = .ok (.iconst 0, 1) := by decide +kernel
theorem dX7_quantile_32 : decode cX7_quantile 32 = .ok (.istore_n 3, 1) := by decide +kernel
theorem dX7_quantile_33 : decode cX7_quantile 33 = .ok (.sipush 9999, 3) := by decide +kernel
theorem dX7_quantile_36 : decode cX7_quantile 36 = .ok (.istore 4, 2) := by decide +kernel
theorem dX7_quantile_38 : decode cX7_quantile 38 = .ok (.iload_n 3, 1) := by decide +kernel
theorem dX7_quantile_39 : decode cX7_quantile 39 = .ok (.iload 4, 2) := by decide +kernel
theorem dX7_quantile_41 : decode cX7_quantile 41 = .ok (.if_icmp .ge 37, 3) := by decide +kernel
theorem dX7_quantile_44 : decode cX7_quantile 44 = .ok (.iload_n 3, 1) := by decide +kernel
theorem dX7_quantile_45 : decode cX7_quantile 45 = .ok (.iload 4, 2) := by decide +kernel
theorem dX7_quantile_47 : decode cX7_quantile 47 = .ok (.iadd, 1) := by decide +kernel
theorem dX7_quantile_48 : decode cX7_quantile 48 = .ok (.iconst 2, 1) := by decide +kernel
theorem dX7_quantile_49 : decode cX7_quantile 49 = .ok (.idiv, 1) := by decide +kernel
theorem dX7_quantile_50 : decode cX7_quantile 50 = .ok (.istore 5, 2) := by decide +kernel
theorem dX7_quantile_52 : decode cX7_quantile 52 = .ok (.aload_n 0, 1) := by decide +kernel
theorem dX7_quantile_53 : decode cX7_quantile 53 = .ok (.iload_n 1, 1) := by decide +kernel
theorem dX7_quantile_54 : decode cX7_quantile 54 = .ok (.iload 5, 2) := by decide +kernel
theorem dX7_quantile_56 : decode cX7_quantile 56 = .ok (.invokevirtual 110, 3) := by decide +kernel
theorem dX7_quantile_59 : decode cX7_quantile 59 = .ok (.iload_n 2, 1) := by decide +kernel
theorem dX7_quantile_60 : decode cX7_quantile 60 = .ok (.if_icmp .lt 10, 3) := by decide +kernel
theorem dX7_quantile_63 : decode cX7_quantile 63 = .ok (.iload 5, 2) := by decide +kernel
theorem dX7_quantile_65 : decode cX7_quantile 65 = .ok (.istore 4, 2) := by decide +kernel
theorem dX7_quantile_67 : decode cX7_quantile 67 = .ok (.goto 8, 3) := by decide +kernel
theorem dX7_quantile_70 : decode cX7_quantile 70 = .ok (.iload 5, 2) := by decide +kernel
theorem dX7_quantile_72 : decode cX7_quantile 72 = .ok (.iconst 1, 1) := by decide +kernel
theorem dX7_quantile_73 : decode cX7_quantile 73 = .ok (.iadd, 1) := by decide +kernel
theorem dX7_quantile_74 : decode cX7_quantile 74 = .ok (.istore_n 3, 1) := by decide +kernel
theorem dX7_quantile_75 : decode cX7_quantile 75 = .ok (.goto (-37), 3) := by decide +kernel
theorem dX7_quantile_78 : decode cX7_quantile 78 = .ok (.iload_n 3, 1) := by decide +kernel
theorem dX7_quantile_79 : decode cX7_quantile 79 = .ok (.ireturn, 1) := by decide +kernel
theorem dX7_keptOf_0 : decode cX7_keptOf 0 = .ok (.iconst 0, 1) := by decide +kernel
theorem dX7_keptOf_1 : decode cX7_keptOf 1 = .ok (.istore_n 2, 1) := by decide +kernel
theorem dX7_keptOf_2 : decode cX7_keptOf 2 = .ok (.aload_n 0, 1) := by decide +kernel
theorem dX7_keptOf_3 : decode cX7_keptOf 3 = .ok (.getfield 13, 3) := by decide +kernel
theorem dX7_keptOf_6 : decode cX7_keptOf 6 = .ok (.iload_n 1, 1) := by decide +kernel
theorem dX7_keptOf_7 : decode cX7_keptOf 7 = .ok (.iaload, 1) := by decide +kernel
theorem dX7_keptOf_8 : decode cX7_keptOf 8 = .ok (.tableswitch 100 0 3 #[32, 38, 38, 32], 32) := by decide +kernel
theorem dX7_keptOf_40 : decode cX7_keptOf 40 = .ok (.aload_n 0, 1) := by decide +kernel
theorem dX7_keptOf_41 : decode cX7_keptOf 41 = .ok (.iload_n 1, 1) := by decide +kernel
theorem dX7_keptOf_42 : decode cX7_keptOf 42 = .ok (.invokevirtual 55, 3) := by decide +kernel
theorem dX7_keptOf_45 : decode cX7_keptOf 45 = .ok (.ireturn, 1) := by decide +kernel
theorem dX7_keptOf_46 : decode cX7_keptOf 46 = .ok (.iconst 0, 1) := by decide +kernel
theorem dX7_keptOf_47 : decode cX7_keptOf 47 = .ok (.istore_n 3, 1) := by decide +kernel
theorem dX7_keptOf_48 : decode cX7_keptOf 48 = .ok (.iload_n 3, 1) := by decide +kernel
theorem dX7_keptOf_49 : decode cX7_keptOf 49 = .ok (.aload_n 0, 1) := by decide +kernel
theorem dX7_keptOf_50 : decode cX7_keptOf 50 = .ok (.getfield 13, 3) := by decide +kernel
theorem dX7_keptOf_53 : decode cX7_keptOf 53 = .ok (.iload_n 1, 1) := by decide +kernel
theorem dX7_keptOf_54 : decode cX7_keptOf 54 = .ok (.iaload, 1) := by decide +kernel
theorem dX7_keptOf_55 : decode cX7_keptOf 55 = .ok (.iconst 1, 1) := by decide +kernel
theorem dX7_keptOf_56 : decode cX7_keptOf 56 = .ok (.if_icmp .ne 7, 3) := by decide +kernel
theorem dX7_keptOf_59 : decode cX7_keptOf 59 = .ok (.iconst 4, 1) := by decide +kernel
theorem dX7_keptOf_60 : decode cX7_keptOf 60 = .ok (.goto 4, 3) := by decide +kernel
theorem dX7_keptOf_63 : decode cX7_keptOf 63 = .ok (.iconst 1, 1) := by decide +kernel
theorem dX7_keptOf_64 : decode cX7_keptOf 64 = .ok (.aload_n 0, 1) := by decide +kernel
theorem dX7_keptOf_65 : decode cX7_keptOf 65 = .ok (.getfield 17, 3) := by decide +kernel
theorem dX7_keptOf_68 : decode cX7_keptOf 68 = .ok (.iload_n 1, 1) := by decide +kernel
theorem dX7_keptOf_69 : decode cX7_keptOf 69 = .ok (.iaload, 1) := by decide +kernel
theorem dX7_keptOf_70 : decode cX7_keptOf 70 = .ok (.imul, 1) := by decide +kernel
theorem dX7_keptOf_71 : decode cX7_keptOf 71 = .ok (.if_icmp .ge 35, 3) := by decide +kernel
theorem dX7_keptOf_74 : decode cX7_keptOf 74 = .ok (.aload_n 0, 1) := by decide +kernel
theorem dX7_keptOf_75 : decode cX7_keptOf 75 = .ok (.getfield 32, 3) := by decide +kernel
theorem dX7_keptOf_78 : decode cX7_keptOf 78 = .ok (.sipush 1200, 3) := by decide +kernel
theorem dX7_keptOf_81 : decode cX7_keptOf 81 = .ok (.iload_n 1, 1) := by decide +kernel
theorem dX7_keptOf_82 : decode cX7_keptOf 82 = .ok (.imul, 1) := by decide +kernel
theorem dX7_keptOf_83 : decode cX7_keptOf 83 = .ok (.bipush 100, 2) := by decide +kernel
theorem dX7_keptOf_85 : decode cX7_keptOf 85 = .ok (.iadd, 1) := by decide +kernel
theorem dX7_keptOf_86 : decode cX7_keptOf 86 = .ok (.iload_n 3, 1) := by decide +kernel
theorem dX7_keptOf_87 : decode cX7_keptOf 87 = .ok (.iadd, 1) := by decide +kernel
theorem dX7_keptOf_88 : decode cX7_keptOf 88 = .ok (.iaload, 1) := by decide +kernel
theorem dX7_keptOf_89 : decode cX7_keptOf 89 = .ok (.ifCond .eq 9, 3) := by decide +kernel
theorem dX7_keptOf_92 : decode cX7_keptOf 92 = .ok (.iload_n 2, 1) := by decide +kernel
theorem dX7_keptOf_93 : decode cX7_keptOf 93 = .ok (.iconst 1, 1) := by decide +kernel
theorem dX7_keptOf_94 : decode cX7_keptOf 94 = .ok (.iadd, 1) := by decide +kernel
theorem dX7_keptOf_95 : decode cX7_keptOf 95 = .ok (.goto 4, 3) := by decide +kernel
theorem dX7_keptOf_98 : decode cX7_keptOf 98 = .ok (.iload_n 2, 1) := by decide +kernel
theorem dX7_keptOf_99 : decode cX7_keptOf 99 = .ok (.istore_n 2, 1) := by decide +kernel
theorem dX7_keptOf_100 : decode cX7_keptOf 100 = .ok (.iinc 3 1, 3) := by decide +kernel
theorem dX7_keptOf_103 : decode cX7_keptOf 103 = .ok (.goto (-55), 3) := by decide +kernel
theorem dX7_keptOf_106 : decode cX7_keptOf 106 = .ok (.iload_n 2, 1) := by decide +kernel
theorem dX7_keptOf_107 : decode cX7_keptOf 107 = .ok (.ireturn, 1) := by decide +kernel
theorem dX7_keptOf_108 : decode cX7_keptOf 108 = .ok (.iconst 0, 1) := by decide +kernel
theorem dX7_keptOf_109 : decode cX7_keptOf 109 = .ok (.istore_n 3, 1) := by decide +kernel
theorem dX7_keptOf_110 : decode cX7_keptOf 110 = .ok (.iload_n 3, 1) := by decide +kernel
theorem dX7_keptOf_111 : decode cX7_keptOf 111 = .ok (.bipush 31, 2) := by decide +kernel
theorem dX7_keptOf_113 : decode cX7_keptOf 113 = .ok (.if_icmp .ge 24, 3) := by decide +kernel
theorem dX7_keptOf_116 : decode cX7_keptOf 116 = .ok (.iload_n 2, 1) := by decide +kernel
theorem dX7_keptOf_117 : decode cX7_keptOf 117 = .ok (.aload_n 0, 1) := by decide +kernel
theorem dX7_keptOf_118 : decode cX7_keptOf 118 = .ok (.getfield 32, 3) := by decide +kernel
theorem dX7_keptOf_121 : decode cX7_keptOf 121 = .ok (.sipush 1200, 3) := by decide +kernel
theorem dX7_keptOf_124 : decode cX7_keptOf 124 = .ok (.iload_n 1, 1) := by decide +kernel
theorem dX7_keptOf_125 : decode cX7_keptOf 125 = .ok (.imul, 1) := by decide +kernel
theorem dX7_keptOf_126 : decode cX7_keptOf 126 = .ok (.iload_n 3, 1) := by decide +kernel
theorem dX7_keptOf_127 : decode cX7_keptOf 127 = .ok (.iadd, 1) := by decide +kernel
theorem dX7_keptOf_128 : decode cX7_keptOf 128 = .ok (.iaload, 1) := by decide +kernel
theorem dX7_keptOf_129 : decode cX7_keptOf 129 = .ok (.iadd, 1) := by decide +kernel
theorem dX7_keptOf_130 : decode cX7_keptOf 130 = .ok (.istore_n 2, 1) := by decide +kernel
