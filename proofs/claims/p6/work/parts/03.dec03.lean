theorem dX10_buildDefault_15 : decode cX10_buildDefault 15 = .ok (.getstatic 28, 3) := by decide +kernel
theorem dX10_buildDefault_18 : decode cX10_buildDefault 18 = .ok (.goto 6, 3) := by decide +kernel
theorem dX10_buildDefault_21 : decode cX10_buildDefault 21 = .ok (.getstatic 31, 3) := by decide +kernel
theorem dX10_buildDefault_24 : decode cX10_buildDefault 24 = .ok (.astore_n 2, 1) := by decide +kernel
theorem dX10_buildDefault_25 : decode cX10_buildDefault 25 = .ok (.aload_n 0, 1) := by decide +kernel
theorem dX10_buildDefault_26 : decode cX10_buildDefault 26 = .ok (.aload_n 2, 1) := by decide +kernel
theorem dX10_buildDefault_27 : decode cX10_buildDefault 27 = .ok (.arraylength, 1) := by decide +kernel
theorem dX10_buildDefault_28 : decode cX10_buildDefault 28 = .ok (.sipush 256, 3) := by decide +kernel
theorem dX10_buildDefault_31 : decode cX10_buildDefault 31 = .ok (.invokestatic 34, 3) := by decide +kernel
theorem dX10_buildDefault_34 : decode cX10_buildDefault 34 = .ok (.putfield 40, 3) := by decide +kernel
theorem dX10_buildDefault_37 : decode cX10_buildDefault 37 = .ok (.aload_n 2, 1) := by decide +kernel
theorem dX10_buildDefault_38 : decode cX10_buildDefault 38 = .ok (.iconst 0, 1) := by decide +kernel
theorem dX10_buildDefault_39 : decode cX10_buildDefault 39 = .ok (.aload_n 0, 1) := by decide +kernel
theorem dX10_buildDefault_40 : decode cX10_buildDefault 40 = .ok (.getfield 15, 3) := by decide +kernel
theorem dX10_buildDefault_43 : decode cX10_buildDefault 43 = .ok (.iconst 0, 1) := by decide +kernel
theorem dX10_buildDefault_44 : decode cX10_buildDefault 44 = .ok (.aload_n 0, 1) := by decide +kernel
theorem dX10_buildDefault_45 : decode cX10_buildDefault 45 = .ok (.getfield 40, 3) := by decide +kernel
theorem dX10_buildDefault_48 : decode cX10_buildDefault 48 = .ok (.invokestatic 44, 3) := by decide +kernel
theorem dX10_buildDefault_51 : decode cX10_buildDefault 51 = .ok (.aload_n 0, 1) := by decide +kernel
theorem dX10_buildDefault_52 : decode cX10_buildDefault 52 = .ok (.iload_n 1, 1) := by decide +kernel
theorem dX10_buildDefault_53 : decode cX10_buildDefault 53 = .ok (.ifCond .lt 16, 3) := by decide +kernel
theorem dX10_buildDefault_56 : decode cX10_buildDefault 56 = .ok (.iload_n 1, 1) := by decide +kernel
theorem dX10_buildDefault_57 : decode cX10_buildDefault 57 = .ok (.iconst 3, 1) := by decide +kernel
theorem dX10_buildDefault_58 : decode cX10_buildDefault 58 = .ok (.if_icmp .ge 11, 3) := by decide +kernel
theorem dX10_buildDefault_61 : decode cX10_buildDefault 61 = .ok (.getstatic 50, 3) := by decide +kernel
theorem dX10_buildDefault_64 : decode cX10_buildDefault 64 = .ok (.iload_n 1, 1) := by decide +kernel
theorem dX10_buildDefault_65 : decode cX10_buildDefault 65 = .ok (.iaload, 1) := by decide +kernel
theorem dX10_buildDefault_66 : decode cX10_buildDefault 66 = .ok (.goto 4, 3) := by decide +kernel
theorem dX10_buildDefault_69 : decode cX10_buildDefault 69 = .ok (.iconst 0, 1) := by decide +kernel
theorem dX10_buildDefault_70 : decode cX10_buildDefault 70 = .ok (.invokevirtual 53, 3) := by decide +kernel
theorem dX10_buildDefault_73 : decode cX10_buildDefault 73 = .ok (.return_, 1) := by decide +kernel
theorem dX10_buildOnly_0 : decode cX10_buildOnly 0 = .ok (.aload_n 0, 1) := by decide +kernel
theorem dX10_buildOnly_1 : decode cX10_buildOnly 1 = .ok (.iconst 0, 1) := by decide +kernel
theorem dX10_buildOnly_2 : decode cX10_buildOnly 2 = .ok (.putfield 57, 3) := by decide +kernel
theorem dX10_buildOnly_5 : decode cX10_buildOnly 5 = .ok (.aload_n 0, 1) := by decide +kernel
theorem dX10_buildOnly_6 : decode cX10_buildOnly 6 = .ok (.getfield 9, 3) := by decide +kernel
theorem dX10_buildOnly_9 : decode cX10_buildOnly 9 = .ok (.iconst 0, 1) := by decide +kernel
theorem dX10_buildOnly_10 : decode cX10_buildOnly 10 = .ok (.iload_n 1, 1) := by decide +kernel
theorem dX10_buildOnly_11 : decode cX10_buildOnly 11 = .ok (.sipush 255, 3) := by decide +kernel
theorem dX10_buildOnly_14 : decode cX10_buildOnly 14 = .ok (.iand, 1) := by decide +kernel
theorem dX10_buildOnly_15 : decode cX10_buildOnly 15 = .ok (.iastore, 1) := by decide +kernel
theorem dX10_buildOnly_16 : decode cX10_buildOnly 16 = .ok (.return_, 1) := by decide +kernel
theorem dX10_read_0 : decode cX10_read 0 = .ok (.aload_n 0, 1) := by decide +kernel
theorem dX10_read_1 : decode cX10_read 1 = .ok (.aload_n 1, 1) := by decide +kernel
theorem dX10_read_2 : decode cX10_read 2 = .ok (.getfield 60, 3) := by decide +kernel
theorem dX10_read_5 : decode cX10_read 5 = .ok (.putfield 21, 3) := by decide +kernel
theorem dX10_read_8 : decode cX10_read 8 = .ok (.aload_n 0, 1) := by decide +kernel
theorem dX10_read_9 : decode cX10_read 9 = .ok (.bipush 8, 2) := by decide +kernel
theorem dX10_read_11 : decode cX10_read 11 = .ok (.iload_n 2, 1) := by decide +kernel
theorem dX10_read_12 : decode cX10_read 12 = .ok (.imul, 1) := by decide +kernel
theorem dX10_read_13 : decode cX10_read 13 = .ok (.putfield 65, 3) := by decide +kernel
theorem dX10_read_16 : decode cX10_read 16 = .ok (.aload_n 0, 1) := by decide +kernel
theorem dX10_read_17 : decode cX10_read 17 = .ok (.bipush 8, 2) := by decide +kernel
theorem dX10_read_19 : decode cX10_read 19 = .ok (.iload_n 3, 1) := by decide +kernel
theorem dX10_read_20 : decode cX10_read 20 = .ok (.imul, 1) := by decide +kernel
theorem dX10_read_21 : decode cX10_read 21 = .ok (.putfield 68, 3) := by decide +kernel
theorem dX10_read_24 : decode cX10_read 24 = .ok (.aload_n 0, 1) := by decide +kernel
theorem dX10_read_25 : decode cX10_read 25 = .ok (.iconst 0, 1) := by decide +kernel
theorem dX10_read_26 : decode cX10_read 26 = .ok (.putfield 71, 3) := by decide +kernel
theorem dX10_read_29 : decode cX10_read 29 = .ok (.aload_n 0, 1) := by decide +kernel
theorem dX10_read_30 : decode cX10_read 30 = .ok (.iconst 0, 1) := by decide +kernel
theorem dX10_read_31 : decode cX10_read 31 = .ok (.putfield 40, 3) := by decide +kernel
theorem dX10_read_34 : decode cX10_read 34 = .ok (.iconst 5, 1) := by decide +kernel
theorem dX10_read_35 : decode cX10_read 35 = .ok (.aload_n 0, 1) := by decide +kernel
theorem dX10_read_36 : decode cX10_read 36 = .ok (.iconst 4, 1) := by decide +kernel
theorem dX10_read_37 : decode cX10_read 37 = .ok (.invokevirtual 75, 3) := by decide +kernel
theorem dX10_read_40 : decode cX10_read 40 = .ok (.iadd, 1) := by decide +kernel
theorem dX10_read_41 : decode cX10_read 41 = .ok (.istore 6, 2) := by decide +kernel
theorem dX10_read_43 : decode cX10_read 43 = .ok (.aload_n 0, 1) := by decide +kernel
theorem dX10_read_44 : decode cX10_read 44 = .ok (.getfield 71, 3) := by decide +kernel
theorem dX10_read_47 : decode cX10_read 47 = .ok (.ifCond .ne 25, 3) := by decide +kernel
theorem dX10_read_50 : decode cX10_read 50 = .ok (.iload 6, 2) := by decide +kernel
theorem dX10_read_52 : decode cX10_read 52 = .ok (.iload 5, 2) := by decide +kernel
theorem dX10_read_54 : decode cX10_read 54 = .ok (.if_icmp .gt 18, 3) := by decide +kernel
theorem dX10_read_57 : decode cX10_read 57 = .ok (.iload 6, 2) := by decide +kernel
theorem dX10_read_59 : decode cX10_read 59 = .ok (.bipush 9, 2) := by decide +kernel
theorem dX10_read_61 : decode cX10_read 61 = .ok (.if_icmp .gt 11, 3) := by decide +kernel
theorem dX10_read_64 : decode cX10_read 64 = .ok (.iload 4, 2) := by decide +kernel
theorem dX10_read_66 : decode cX10_read 66 = .ok (.sipush 256, 3) := by decide +kernel
theorem dX10_read_69 : decode cX10_read 69 = .ok (.if_icmp .lt 5, 3) := by decide +kernel
theorem dX10_read_72 : decode cX10_read 72 = .ok (.iconst (-1), 1) := by decide +kernel
theorem dX10_read_73 : decode cX10_read 73 = .ok (.ireturn, 1) := by decide +kernel
theorem dX10_read_74 : decode cX10_read 74 = .ok (.iconst 1, 1) := by decide +kernel
theorem dX10_read_75 : decode cX10_read 75 = .ok (.iload 6, 2) := by decide +kernel
theorem dX10_read_77 : decode cX10_read 77 = .ok (.ishl, 1) := by decide +kernel
theorem dX10_read_78 : decode cX10_read 78 = .ok (.istore 7, 2) := by decide +kernel
theorem dX10_read_80 : decode cX10_read 80 = .ok (.iconst 0, 1) := by decide +kernel
theorem dX10_read_81 : decode cX10_read 81 = .ok (.istore 8, 2) := by decide +kernel
theorem dX10_read_83 : decode cX10_read 83 = .ok (.iconst 0, 1) := by decide +kernel
theorem dX10_read_84 : decode cX10_read 84 = .ok (.istore 9, 2) := by decide +kernel
theorem dX10_read_86 : decode cX10_read 86 = .ok (.iload 9, 2) := by decide +kernel
theorem dX10_read_88 : decode cX10_read 88 = .ok (.sipush 8000, 3) := by decide +kernel
theorem dX10_read_91 : decode cX10_read 91 = .ok (.if_icmp .ge 154, 3) := by decide +kernel
theorem dX10_read_94 : decode cX10_read 94 = .ok (.iload 7, 2) := by decide +kernel
theorem dX10_read_96 : decode cX10_read 96 = .ok (.ifCond .le 149, 3) := by decide +kernel
theorem dX10_read_99 : decode cX10_read 99 = .ok (.aload_n 0, 1) := by decide +kernel
theorem dX10_read_100 : decode cX10_read 100 = .ok (.getfield 40, 3) := by decide +kernel
theorem dX10_read_103 : decode cX10_read 103 = .ok (.iload 4, 2) := by decide +kernel
theorem dX10_read_105 : decode cX10_read 105 = .ok (.if_icmp .gt 140, 3) := by decide +kernel
theorem dX10_read_108 : decode cX10_read 108 = .ok (.aload_n 0, 1) := by decide +kernel
theorem dX10_read_109 : decode cX10_read 109 = .ok (.getfield 71, 3) := by decide +kernel
theorem dX10_read_112 : decode cX10_read 112 = .ok (.ifCond .ne 133, 3) := by decide +kernel
theorem dX10_read_115 : decode cX10_read 115 = .ok (.iload 8, 2) := by decide +kernel
theorem dX10_read_117 : decode cX10_read 117 = .ok (.ifCond .eq 71, 3) := by decide +kernel
theorem dX10_read_120 : decode cX10_read 120 = .ok (.aload_n 0, 1) := by decide +kernel
theorem dX10_read_121 : decode cX10_read 121 = .ok (.iconst 2, 1) := by decide +kernel
theorem dX10_read_122 : decode cX10_read 122 = .ok (.invokevirtual 75, 3) := by decide +kernel
theorem dX10_read_125 : decode cX10_read 125 = .ok (.istore 10, 2) := by decide +kernel
theorem dX10_read_127 : decode cX10_read 127 = .ok (.iconst 0, 1) := by decide +kernel
theorem dX10_read_128 : decode cX10_read 128 = .ok (.istore 11, 2) := by decide +kernel
theorem dX10_read_130 : decode cX10_read 130 = .ok (.iload 11, 2) := by decide +kernel
theorem dX10_read_132 : decode cX10_read 132 = .ok (.iload 10, 2) := by decide +kernel
theorem dX10_read_134 : decode cX10_read 134 = .ok (.if_icmp .ge 38, 3) := by decide +kernel
theorem dX10_read_137 : decode cX10_read 137 = .ok (.aload_n 0, 1) := by decide +kernel
theorem dX10_read_138 : decode cX10_read 138 = .ok (.getfield 40, 3) := by decide +kernel
theorem dX10_read_141 : decode cX10_read 141 = .ok (.iload 4, 2) := by decide +kernel
theorem dX10_read_143 : decode cX10_read 143 = .ok (.if_icmp .gt 29, 3) := by decide +kernel
theorem dX10_read_146 : decode cX10_read 146 = .ok (.aload_n 0, 1) := by decide +kernel
theorem dX10_read_147 : decode cX10_read 147 = .ok (.getfield 15, 3) := by decide +kernel
theorem dX10_read_150 : decode cX10_read 150 = .ok (.aload_n 0, 1) := by decide +kernel
theorem dX10_read_151 : decode cX10_read 151 = .ok (.getfield 40, 3) := by decide +kernel
theorem dX10_read_154 : decode cX10_read 154 = .ok (.iconst 0, 1) := by decide +kernel
theorem dX10_read_155 : decode cX10_read 155 = .ok (.iastore, 1) := by decide +kernel
theorem dX10_read_156 : decode cX10_read 156 = .ok (.aload_n 0, 1) := by decide +kernel
theorem dX10_read_157 : decode cX10_read 157 = .ok (.dup, 1) := by decide +kernel
theorem dX10_read_158 : decode cX10_read 158 = .ok (.getfield 40, 3) := by decide +kernel
theorem dX10_read_161 : decode cX10_read 161 = .ok (.iconst 1, 1) := by decide +kernel
theorem dX10_read_162 : decode cX10_read 162 = .ok (.iadd, 1) := by decide +kernel
theorem dX10_read_163 : decode cX10_read 163 = .ok (.putfield 40, 3) := by decide +kernel
theorem dX10_read_166 : decode cX10_read 166 = .ok (.iinc 11 1, 3) := by decide +kernel
theorem dX10_read_169 : decode cX10_read 169 = .ok (.goto (-39), 3) := by decide +kernel
theorem dX10_read_172 : decode cX10_read 172 = .ok (.iload 10, 2) := by decide +kernel
theorem dX10_read_174 : decode cX10_read 174 = .ok (.iconst 3, 1) := by decide +kernel
theorem dX10_read_175 : decode cX10_read 175 = .ok (.if_icmp .ne 7, 3) := by decide +kernel
theorem dX10_read_178 : decode cX10_read 178 = .ok (.iconst 1, 1) := by decide +kernel
theorem dX10_read_179 : decode cX10_read 179 = .ok (.goto 4, 3) := by decide +kernel
theorem dX10_read_182 : decode cX10_read 182 = .ok (.iconst 0, 1) := by decide +kernel
theorem dX10_read_183 : decode cX10_read 183 = .ok (.istore 8, 2) := by decide +kernel
theorem dX10_read_185 : decode cX10_read 185 = .ok (.goto 54, 3) := by decide +kernel
theorem dX10_read_188 : decode cX10_read 188 = .ok (.aload_n 0, 1) := by decide +kernel
theorem dX10_read_189 : decode cX10_read 189 = .ok (.iload 7, 2) := by decide +kernel
theorem dX10_read_191 : decode cX10_read 191 = .ok (.invokevirtual 79, 3) := by decide +kernel
theorem dX10_read_194 : decode cX10_read 194 = .ok (.istore 10, 2) := by decide +kernel
theorem dX10_read_196 : decode cX10_read 196 = .ok (.aload_n 0, 1) := by decide +kernel
theorem dX10_read_197 : decode cX10_read 197 = .ok (.getfield 15, 3) := by decide +kernel
theorem dX10_read_200 : decode cX10_read 200 = .ok (.aload_n 0, 1) := by decide +kernel
theorem dX10_read_201 : decode cX10_read 201 = .ok (.getfield 40, 3) := by decide +kernel
theorem dX10_read_204 : decode cX10_read 204 = .ok (.iload 10, 2) := by decide +kernel
theorem dX10_read_206 : decode cX10_read 206 = .ok (.iastore, 1) := by decide +kernel
theorem dX10_read_207 : decode cX10_read 207 = .ok (.aload_n 0, 1) := by decide +kernel
theorem dX10_read_208 : decode cX10_read 208 = .ok (.dup, 1) := by decide +kernel
theorem dX10_read_209 : decode cX10_read 209 = .ok (.getfield 40, 3) := by decide +kernel
theorem dX10_read_212 : decode cX10_read 212 = .ok (.iconst 1, 1) := by decide +kernel
theorem dX10_read_213 : decode cX10_read 213 = .ok (.iadd, 1) := by decide +kernel
theorem dX10_read_214 : decode cX10_read 214 = .ok (.putfield 40, 3) := by decide +kernel
theorem dX10_read_217 : decode cX10_read 217 = .ok (.iload 7, 2) := by decide +kernel
theorem dX10_read_219 : decode cX10_read 219 = .ok (.iload 10, 2) := by decide +kernel
theorem dX10_read_221 : decode cX10_read 221 = .ok (.invokestatic 82, 3) := by decide +kernel
theorem dX10_read_224 : decode cX10_read 224 = .ok (.isub, 1) := by decide +kernel
theorem dX10_read_225 : decode cX10_read 225 = .ok (.istore 7, 2) := by decide +kernel
theorem dX10_read_227 : decode cX10_read 227 = .ok (.iload 10, 2) := by decide +kernel
theorem dX10_read_229 : decode cX10_read 229 = .ok (.ifCond .ne 7, 3) := by decide +kernel
theorem dX10_read_232 : decode cX10_read 232 = .ok (.iconst 1, 1) := by decide +kernel
theorem dX10_read_233 : decode cX10_read 233 = .ok (.goto 4, 3) := by decide +kernel
theorem dX10_read_236 : decode cX10_read 236 = .ok (.iconst 0, 1) := by decide +kernel
theorem dX10_read_237 : decode cX10_read 237 = .ok (.istore 8, 2) := by decide +kernel
theorem dX10_read_239 : decode cX10_read 239 = .ok (.iinc 9 1, 3) := by decide +kernel
theorem dX10_read_242 : decode cX10_read 242 = .ok (.goto (-156), 3) := by decide +kernel
theorem dX10_read_245 : decode cX10_read 245 = .ok (.aload_n 0, 1) := by decide +kernel
theorem dX10_read_246 : decode cX10_read 246 = .ok (.getfield 71, 3) := by decide +kernel
theorem dX10_read_249 : decode cX10_read 249 = .ok (.ifCond .ne 8, 3) := by decide +kernel
theorem dX10_read_252 : decode cX10_read 252 = .ok (.iload 7, 2) := by decide +kernel
theorem dX10_read_254 : decode cX10_read 254 = .ok (.ifCond .eq 5, 3) := by decide +kernel
theorem dX10_read_257 : decode cX10_read 257 = .ok (.iconst (-1), 1) := by decide +kernel
theorem dX10_read_258 : decode cX10_read 258 = .ok (.ireturn, 1) := by decide +kernel
theorem dX10_read_259 : decode cX10_read 259 = .ok (.aload_n 0, 1) := by decide +kernel
theorem dX10_read_260 : decode cX10_read 260 = .ok (.iload 6, 2) := by decide +kernel
theorem dX10_read_262 : decode cX10_read 262 = .ok (.invokevirtual 53, 3) := by decide +kernel
theorem dX10_read_265 : decode cX10_read 265 = .ok (.aload_n 0, 1) := by decide +kernel
theorem dX10_read_266 : decode cX10_read 266 = .ok (.getfield 65, 3) := by decide +kernel
theorem dX10_read_269 : decode cX10_read 269 = .ok (.bipush 7, 2) := by decide +kernel
theorem dX10_read_271 : decode cX10_read 271 = .ok (.iadd, 1) := by decide +kernel
theorem dX10_read_272 : decode cX10_read 272 = .ok (.bipush 8, 2) := by decide +kernel
theorem dX10_read_274 : decode cX10_read 274 = .ok (.idiv, 1) := by decide +kernel
theorem dX10_read_275 : decode cX10_read 275 = .ok (.ireturn, 1) := by decide +kernel
theorem dX10_takeCount_0 : decode cX10_takeCount 0 = .ok (.iload_n 1, 1) := by decide +kernel
theorem dX10_takeCount_1 : decode cX10_takeCount 1 = .ok (.iconst 1, 1) := by decide +kernel
theorem dX10_takeCount_2 : decode cX10_takeCount 2 = .ok (.iadd, 1) := by decide +kernel
theorem dX10_takeCount_3 : decode cX10_takeCount 3 = .ok (.i2l, 1) := by decide +kernel
theorem dX10_takeCount_4 : decode cX10_takeCount 4 = .ok (.invokestatic 85, 3) := by decide +kernel
theorem dX10_takeCount_7 : decode cX10_takeCount 7 = .ok (.iconst 1, 1) := by decide +kernel
theorem dX10_takeCount_8 : decode cX10_takeCount 8 = .ok (.iadd, 1) := by decide +kernel
theorem dX10_takeCount_9 : decode cX10_takeCount 9 = .ok (.istore_n 2, 1) := by decide +kernel
theorem dX10_takeCount_10 : decode cX10_takeCount 10 = .ok (.iconst 1, 1) := by decide +kernel
theorem dX10_takeCount_11 : decode cX10_takeCount 11 = .ok (.iload_n 2, 1) := by decide +kernel
theorem dX10_takeCount_12 : decode cX10_takeCount 12 = .ok (.ishl, 1) := by decide +kernel
theorem dX10_takeCount_13 : decode cX10_takeCount 13 = .ok (.iconst 2, 1) := by decide +kernel
theorem dX10_takeCount_14 : decode cX10_takeCount 14 = .ok (.isub, 1) := by decide +kernel
theorem dX10_takeCount_15 : decode cX10_takeCount 15 = .ok (.iload_n 1, 1) := by decide +kernel
theorem dX10_takeCount_16 : decode cX10_takeCount 16 = .ok (.isub, 1) := by decide +kernel
theorem dX10_takeCount_17 : decode cX10_takeCount 17 = .ok (.istore_n 3, 1) := by decide +kernel
theorem dX10_takeCount_18 : decode cX10_takeCount 18 = .ok (.aload_n 0, 1) := by decide +kernel
theorem dX10_takeCount_19 : decode cX10_takeCount 19 = .ok (.iload_n 2, 1) := by decide +kernel
theorem dX10_takeCount_20 : decode cX10_takeCount 20 = .ok (.iconst 1, 1) := by decide +kernel
theorem dX10_takeCount_21 : decode cX10_takeCount 21 = .ok (.isub, 1) := by decide +kernel
theorem dX10_takeCount_22 : decode cX10_takeCount 22 = .ok (.invokevirtual 75, 3) := by decide +kernel
theorem dX10_takeCount_25 : decode cX10_takeCount 25 = .ok (.istore 4, 2) := by decide +kernel
theorem dX10_takeCount_27 : decode cX10_takeCount 27 = .ok (.iload 4, 2) := by decide +kernel
theorem dX10_takeCount_29 : decode cX10_takeCount 29 = .ok (.iload_n 3, 1) := by decide +kernel
theorem dX10_takeCount_30 : decode cX10_takeCount 30 = .ok (.if_icmp .lt 24, 3) := by decide +kernel
theorem dX10_takeCount_33 : decode cX10_takeCount 33 = .ok (.aload_n 0, 1) := by decide +kernel
theorem dX10_takeCount_34 : decode cX10_takeCount 34 = .ok (.iconst 1, 1) := by decide +kernel
theorem dX10_takeCount_35 : decode cX10_takeCount 35 = .ok (.invokevirtual 75, 3) := by decide +kernel
theorem dX10_takeCount_38 : decode cX10_takeCount 38 = .ok (.iconst 1, 1) := by decide +kernel
theorem dX10_takeCount_39 : decode cX10_takeCount 39 = .ok (.if_icmp .ne 15, 3) := by decide +kernel
theorem dX10_takeCount_42 : decode cX10_takeCount 42 = .ok (.iload 4, 2) := by decide +kernel
theorem dX10_takeCount_44 : decode cX10_takeCount 44 = .ok (.iconst 1, 1) := by decide +kernel
theorem dX10_takeCount_45 : decode cX10_takeCount 45 = .ok (.iload_n 2, 1) := by decide +kernel
theorem dX10_takeCount_46 : decode cX10_takeCount 46 = .ok (.iconst 1, 1) := by decide +kernel
theorem dX10_takeCount_47 : decode cX10_takeCount 47 = .ok (.isub, 1) := by decide +kernel
theorem dX10_takeCount_48 : decode cX10_takeCount 48 = .ok (.ishl, 1) := by decide +kernel
theorem dX10_takeCount_49 : decode cX10_takeCount 49 = .ok (.iload_n 3, 1) := by decide +kernel
theorem dX10_takeCount_50 : decode cX10_takeCount 50 = .ok (.isub, 1) := by decide +kernel
theorem dX10_takeCount_51 : decode cX10_takeCount 51 = .ok (.iadd, 1) := by decide +kernel
theorem dX10_takeCount_52 : decode cX10_takeCount 52 = .ok (.istore 4, 2) := by decide +kernel
theorem dX10_takeCount_54 : decode cX10_takeCount 54 = .ok (.iload 4, 2) := by decide +kernel
theorem dX10_takeCount_56 : decode cX10_takeCount 56 = .ok (.iconst 1, 1) := by decide +kernel
theorem dX10_takeCount_57 : decode cX10_takeCount 57 = .ok (.isub, 1) := by decide +kernel
theorem dX10_takeCount_58 : decode cX10_takeCount 58 = .ok (.ireturn, 1) := by decide +kernel
theorem dX10_takeBits_0 : decode cX10_takeBits 0 = .ok (.aload_n 0, 1) := by decide +kernel
theorem dX10_takeBits_1 : decode cX10_takeBits 1 = .ok (.getfield 65, 3) := by decide +kernel
theorem dX10_takeBits_4 : decode cX10_takeBits 4 = .ok (.iload_n 1, 1) := by decide +kernel
theorem dX10_takeBits_5 : decode cX10_takeBits 5 = .ok (.iadd, 1) := by decide +kernel
theorem dX10_takeBits_6 : decode cX10_takeBits 6 = .ok (.aload_n 0, 1) := by decide +kernel
theorem dX10_takeBits_7 : decode cX10_takeBits 7 = .ok (.getfield 68, 3) := by decide +kernel
theorem dX10_takeBits_10 : decode cX10_takeBits 10 = .ok (.if_icmp .le 10, 3) := by decide +kernel
theorem dX10_takeBits_13 : decode cX10_takeBits 13 = .ok (.aload_n 0, 1) := by decide +kernel
theorem dX10_takeBits_14 : decode cX10_takeBits 14 = .ok (.iconst 1, 1) := by decide +kernel
theorem dX10_takeBits_15 : decode cX10_takeBits 15 = .ok (.putfield 71, 3) := by decide +kernel
theorem dX10_takeBits_18 : decode cX10_takeBits 18 = .ok (.iconst 0, 1) := by decide +kernel
theorem dX10_takeBits_19 : decode cX10_takeBits 19 = .ok (.ireturn, 1) := by decide +kernel
theorem dX10_takeBits_20 : decode cX10_takeBits 20 = .ok (.iconst 0, 1) := by decide +kernel
theorem dX10_takeBits_21 : decode cX10_takeBits 21 = .ok (.istore_n 2, 1) := by decide +kernel
theorem dX10_takeBits_22 : decode cX10_takeBits 22 = .ok (.iconst 0, 1) := by decide +kernel
theorem dX10_takeBits_23 : decode cX10_takeBits 23 = .ok (.istore_n 3, 1) := by decide +kernel
theorem dX10_takeBits_24 : decode cX10_takeBits 24 = .ok (.iload_n 3, 1) := by decide +kernel
theorem dX10_takeBits_25 : decode cX10_takeBits 25 = .ok (.iload_n 1, 1) := by decide +kernel
theorem dX10_takeBits_26 : decode cX10_takeBits 26 = .ok (.if_icmp .ge 58, 3) := by decide +kernel
theorem dX10_takeBits_29 : decode cX10_takeBits 29 = .ok (.aload_n 0, 1) := by decide +kernel
theorem dX10_takeBits_30 : decode cX10_takeBits 30 = .ok (.getfield 65, 3) := by decide +kernel
theorem dX10_takeBits_33 : decode cX10_takeBits 33 = .ok (.iload_n 3, 1) := by decide +kernel
theorem dX10_takeBits_34 : decode cX10_takeBits 34 = .ok (.iadd, 1) := by decide +kernel
theorem dX10_takeBits_35 : decode cX10_takeBits 35 = .ok (.iconst 3, 1) := by decide +kernel
theorem dX10_takeBits_36 : decode cX10_takeBits 36 = .ok (.ishr, 1) := by decide +kernel
theorem dX10_takeBits_37 : decode cX10_takeBits 37 = .ok (.istore 4, 2) := by decide +kernel
theorem dX10_takeBits_39 : decode cX10_takeBits 39 = .ok (.iload 4, 2) := by decide +kernel
theorem dX10_takeBits_41 : decode cX10_takeBits 41 = .ok (.ifCond .lt 37, 3) := by decide +kernel
theorem dX10_takeBits_44 : decode cX10_takeBits 44 = .ok (.iload 4, 2) := by decide +kernel
theorem dX10_takeBits_46 : decode cX10_takeBits 46 = .ok (.aload_n 0, 1) := by decide +kernel
theorem dX10_takeBits_47 : decode cX10_takeBits 47 = .ok (.getfield 21, 3) := by decide +kernel
theorem dX10_takeBits_50 : decode cX10_takeBits 50 = .ok (.arraylength, 1) := by decide +kernel
theorem dX10_takeBits_51 : decode cX10_takeBits 51 = .ok (.if_icmp .ge 27, 3) := by decide +kernel
theorem dX10_takeBits_54 : decode cX10_takeBits 54 = .ok (.iload_n 2, 1) := by decide +kernel
theorem dX10_takeBits_55 : decode cX10_takeBits 55 = .ok (.aload_n 0, 1) := by decide +kernel
theorem dX10_takeBits_56 : decode cX10_takeBits 56 = .ok (.getfield 21, 3) := by decide +kernel
theorem dX10_takeBits_59 : decode cX10_takeBits 59 = .ok (.iload 4, 2) := by decide +kernel
theorem dX10_takeBits_61 : decode cX10_takeBits 61 = .ok (.baload, 1) := by decide +kernel
theorem dX10_takeBits_62 : decode cX10_takeBits 62 = .ok (.aload_n 0, 1) := by decide +kernel
theorem dX10_takeBits_63 : decode cX10_takeBits 63 = .ok (.getfield 65, 3) := by decide +kernel
theorem dX10_takeBits_66 : decode cX10_takeBits 66 = .ok (.iload_n 3, 1) := by decide +kernel
theorem dX10_takeBits_67 : decode cX10_takeBits 67 = .ok (.iadd, 1) := by decide +kernel
theorem dX10_takeBits_68 : decode cX10_takeBits 68 = .ok (.bipush 7, 2) := by decide +kernel
theorem dX10_takeBits_70 : decode cX10_takeBits 70 = .ok (.iand, 1) := by decide +kernel
theorem dX10_takeBits_71 : decode cX10_takeBits 71 = .ok (.ishr, 1) := by decide +kernel
theorem dX10_takeBits_72 : decode cX10_takeBits 72 = .ok (.iconst 1, 1) := by decide +kernel
theorem dX10_takeBits_73 : decode cX10_takeBits 73 = .ok (.iand, 1) := by decide +kernel
theorem dX10_takeBits_74 : decode cX10_takeBits 74 = .ok (.iload_n 3, 1) := by decide +kernel
theorem dX10_takeBits_75 : decode cX10_takeBits 75 = .ok (.ishl, 1) := by decide +kernel
theorem dX10_takeBits_76 : decode cX10_takeBits 76 = .ok (.ior, 1) := by decide +kernel
theorem dX10_takeBits_77 : decode cX10_takeBits 77 = .ok (.istore_n 2, 1) := by decide +kernel
theorem dX10_takeBits_78 : decode cX10_takeBits 78 = .ok (.iinc 3 1, 3) := by decide +kernel
theorem dX10_takeBits_81 : decode cX10_takeBits 81 = .ok (.goto (-57), 3) := by decide +kernel
theorem dX10_takeBits_84 : decode cX10_takeBits 84 = .ok (.aload_n 0, 1) := by decide +kernel
theorem dX10_takeBits_85 : decode cX10_takeBits 85 = .ok (.dup, 1) := by decide +kernel
theorem dX10_takeBits_86 : decode cX10_takeBits 86 = .ok (.getfield 65, 3) := by decide +kernel
theorem dX10_takeBits_89 : decode cX10_takeBits 89 = .ok (.iload_n 1, 1) := by decide +kernel
theorem dX10_takeBits_90 : decode cX10_takeBits 90 = .ok (.iadd, 1) := by decide +kernel
theorem dX10_takeBits_91 : decode cX10_takeBits 91 = .ok (.putfield 65, 3) := by decide +kernel
theorem dX10_takeBits_94 : decode cX10_takeBits 94 = .ok (.iload_n 2, 1) := by decide +kernel
theorem dX10_takeBits_95 : decode cX10_takeBits 95 = .ok (.ireturn, 1) := by decide +kernel
theorem dX10_build_0 : decode cX10_build 0 = .ok (.aload_n 0, 1) := by decide +kernel
theorem dX10_build_1 : decode cX10_build 1 = .ok (.iload_n 1, 1) := by decide +kernel
theorem dX10_build_2 : decode cX10_build 2 = .ok (.putfield 57, 3) := by decide +kernel
theorem dX10_build_5 : decode cX10_build 5 = .ok (.iconst 1, 1) := by decide +kernel
theorem dX10_build_6 : decode cX10_build 6 = .ok (.aload_n 0, 1) := by decide +kernel
theorem dX10_build_7 : decode cX10_build 7 = .ok (.getfield 57, 3) := by decide +kernel
theorem dX10_build_10 : decode cX10_build 10 = .ok (.ishl, 1) := by decide +kernel
theorem dX10_build_11 : decode cX10_build 11 = .ok (.sipush 512, 3) := by decide +kernel
theorem dX10_build_14 : decode cX10_build 14 = .ok (.invokestatic 34, 3) := by decide +kernel
theorem dX10_build_17 : decode cX10_build 17 = .ok (.istore_n 2, 1) := by decide +kernel
theorem dX10_build_18 : decode cX10_build 18 = .ok (.iload_n 2, 1) := by decide +kernel
theorem dX10_build_19 : decode cX10_build 19 = .ok (.iconst 1, 1) := by decide +kernel
theorem dX10_build_20 : decode cX10_build 20 = .ok (.isub, 1) := by decide +kernel
theorem dX10_build_21 : decode cX10_build 21 = .ok (.istore_n 3, 1) := by decide +kernel
theorem dX10_build_22 : decode cX10_build 22 = .ok (.iconst 0, 1) := by decide +kernel
theorem dX10_build_23 : decode cX10_build 23 = .ok (.istore 4, 2) := by decide +kernel
theorem dX10_build_25 : decode cX10_build 25 = .ok (.iload 4, 2) := by decide +kernel
theorem dX10_build_27 : decode cX10_build 27 = .ok (.aload_n 0, 1) := by decide +kernel
theorem dX10_build_28 : decode cX10_build 28 = .ok (.getfield 40, 3) := by decide +kernel
theorem dX10_build_31 : decode cX10_build 31 = .ok (.if_icmp .ge 51, 3) := by decide +kernel
theorem dX10_build_34 : decode cX10_build 34 = .ok (.aload_n 0, 1) := by decide +kernel
theorem dX10_build_35 : decode cX10_build 35 = .ok (.getfield 18, 3) := by decide +kernel
theorem dX10_build_38 : decode cX10_build 38 = .ok (.iload 4, 2) := by decide +kernel
theorem dX10_build_40 : decode cX10_build 40 = .ok (.aload_n 0, 1) := by decide +kernel
theorem dX10_build_41 : decode cX10_build 41 = .ok (.getfield 15, 3) := by decide +kernel
theorem dX10_build_44 : decode cX10_build 44 = .ok (.iload 4, 2) := by decide +kernel
theorem dX10_build_46 : decode cX10_build 46 = .ok (.iaload, 1) := by decide +kernel
theorem dX10_build_47 : decode cX10_build 47 = .ok (.invokestatic 82, 3) := by decide +kernel
theorem dX10_build_50 : decode cX10_build 50 = .ok (.iastore, 1) := by decide +kernel
theorem dX10_build_51 : decode cX10_build 51 = .ok (.aload_n 0, 1) := by decide +kernel
theorem dX10_build_52 : decode cX10_build 52 = .ok (.getfield 15, 3) := by decide +kernel
theorem dX10_build_55 : decode cX10_build 55 = .ok (.iload 4, 2) := by decide +kernel
theorem dX10_build_57 : decode cX10_build 57 = .ok (.iaload, 1) := by decide +kernel
theorem dX10_build_58 : decode cX10_build 58 = .ok (.ifCond .ge 18, 3) := by decide +kernel
theorem dX10_build_61 : decode cX10_build 61 = .ok (.iload_n 3, 1) := by decide +kernel
theorem dX10_build_62 : decode cX10_build 62 = .ok (.ifCond .lt 14, 3) := by decide +kernel
theorem dX10_build_65 : decode cX10_build 65 = .ok (.aload_n 0, 1) := by decide +kernel
theorem dX10_build_66 : decode cX10_build 66 = .ok (.getfield 9, 3) := by decide +kernel
theorem dX10_build_69 : decode cX10_build 69 = .ok (.iload_n 3, 1) := by decide +kernel
theorem dX10_build_70 : decode cX10_build 70 = .ok (.iload 4, 2) := by decide +kernel
theorem dX10_build_72 : decode cX10_build 72 = .ok (.iastore, 1) := by decide +kernel
theorem dX10_build_73 : decode cX10_build 73 = .ok (.iinc 3 (-1), 3) := by decide +kernel
theorem dX10_build_76 : decode cX10_build 76 = .ok (.iinc 4 1, 3) := by decide +kernel
theorem dX10_build_79 : decode cX10_build 79 = .ok (.goto (-54), 3) := by decide +kernel
theorem dX10_build_82 : decode cX10_build 82 = .ok (.aload_n 0, 1) := by decide +kernel
theorem dX10_build_83 : decode cX10_build 83 = .ok (.iload_n 2, 1) := by decide +kernel
theorem dX10_build_84 : decode cX10_build 84 = .ok (.iload_n 3, 1) := by decide +kernel
theorem dX10_build_85 : decode cX10_build 85 = .ok (.invokevirtual 89, 3) := by decide +kernel
theorem dX10_build_88 : decode cX10_build 88 = .ok (.iconst 0, 1) := by decide +kernel
theorem dX10_build_89 : decode cX10_build 89 = .ok (.istore 4, 2) := by decide +kernel
theorem dX10_build_91 : decode cX10_build 91 = .ok (.iload 4, 2) := by decide +kernel
theorem dX10_build_93 : decode cX10_build 93 = .ok (.iload_n 2, 1) := by decide +kernel
theorem dX10_build_94 : decode cX10_build 94 = .ok (.if_icmp .ge 76, 3) := by decide +kernel
theorem dX10_build_97 : decode cX10_build 97 = .ok (.aload_n 0, 1) := by decide +kernel
theorem dX10_build_98 : decode cX10_build 98 = .ok (.iload 4, 2) := by decide +kernel
theorem dX10_build_100 : decode cX10_build 100 = .ok (.invokevirtual 93, 3) := by decide +kernel
theorem dX10_build_103 : decode cX10_build 103 = .ok (.istore 5, 2) := by decide +kernel
theorem dX10_build_105 : decode cX10_build 105 = .ok (.aload_n 0, 1) := by decide +kernel
theorem dX10_build_106 : decode cX10_build 106 = .ok (.getfield 18, 3) := by decide +kernel
theorem dX10_build_109 : decode cX10_build 109 = .ok (.iload 5, 2) := by decide +kernel
theorem dX10_build_111 : decode cX10_build 111 = .ok (.iaload, 1) := by decide +kernel
theorem dX10_build_112 : decode cX10_build 112 = .ok (.istore 6, 2) := by decide +kernel
theorem dX10_build_114 : decode cX10_build 114 = .ok (.aload_n 0, 1) := by decide +kernel
theorem dX10_build_115 : decode cX10_build 115 = .ok (.getfield 18, 3) := by decide +kernel
theorem dX10_build_118 : decode cX10_build 118 = .ok (.iload 5, 2) := by decide +kernel
theorem dX10_build_120 : decode cX10_build 120 = .ok (.dup2, 1) := by decide +kernel
theorem dX10_build_121 : decode cX10_build 121 = .ok (.iaload, 1) := by decide +kernel
theorem dX10_build_122 : decode cX10_build 122 = .ok (.iconst 1, 1) := by decide +kernel
theorem dX10_build_123 : decode cX10_build 123 = .ok (.iadd, 1) := by decide +kernel
theorem dX10_build_124 : decode cX10_build 124 = .ok (.iastore, 1) := by decide +kernel
theorem dX10_build_125 : decode cX10_build 125 = .ok (.aload_n 0, 1) := by decide +kernel
theorem dX10_build_126 : decode cX10_build 126 = .ok (.getfield 57, 3) := by decide +kernel
theorem dX10_build_129 : decode cX10_build 129 = .ok (.iload 6, 2) := by decide +kernel
theorem dX10_build_131 : decode cX10_build 131 = .ok (.i2l, 1) := by decide +kernel
theorem dX10_build_132 : decode cX10_build 132 = .ok (.invokestatic 85, 3) := by decide +kernel
theorem dX10_build_135 : decode cX10_build 135 = .ok (.isub, 1) := by decide +kernel
theorem dX10_build_136 : decode cX10_build 136 = .ok (.istore 7, 2) := by decide +kernel
theorem dX10_build_138 : decode cX10_build 138 = .ok (.aload_n 0, 1) := by decide +kernel
theorem dX10_build_139 : decode cX10_build 139 = .ok (.getfield 9, 3) := by decide +kernel
theorem dX10_build_142 : decode cX10_build 142 = .ok (.iload 4, 2) := by decide +kernel
theorem dX10_build_144 : decode cX10_build 144 = .ok (.iload 6, 2) := by decide +kernel
theorem dX10_build_146 : decode cX10_build 146 = .ok (.iload 7, 2) := by decide +kernel
theorem dX10_build_148 : decode cX10_build 148 = .ok (.ishl, 1) := by decide +kernel
theorem dX10_build_149 : decode cX10_build 149 = .ok (.iload_n 2, 1) := by decide +kernel
theorem dX10_build_150 : decode cX10_build 150 = .ok (.isub, 1) := by decide +kernel
theorem dX10_build_151 : decode cX10_build 151 = .ok (.bipush 16, 2) := by decide +kernel
theorem dX10_build_153 : decode cX10_build 153 = .ok (.ishl, 1) := by decide +kernel
theorem dX10_build_154 : decode cX10_build 154 = .ok (.iload 7, 2) := by decide +kernel
theorem dX10_build_156 : decode cX10_build 156 = .ok (.bipush 8, 2) := by decide +kernel
theorem dX10_build_158 : decode cX10_build 158 = .ok (.ishl, 1) := by decide +kernel
theorem dX10_build_159 : decode cX10_build 159 = .ok (.ior, 1) := by decide +kernel
theorem dX10_build_160 : decode cX10_build 160 = .ok (.iload 5, 2) := by decide +kernel
theorem dX10_build_162 : decode cX10_build 162 = .ok (.ior, 1) := by decide +kernel
theorem dX10_build_163 : decode cX10_build 163 = .ok (.iastore, 1) := by decide +kernel
theorem dX10_build_164 : decode cX10_build 164 = .ok (.iinc 4 1, 3) := by decide +kernel
theorem dX10_build_167 : decode cX10_build 167 = .ok (.goto (-76), 3) := by decide +kernel
theorem dX10_build_170 : decode cX10_build 170 = .ok (.return_, 1) := by decide +kernel
theorem dX10_spread_0 : decode cX10_spread 0 = .ok (.iload_n 1, 1) := by decide +kernel
theorem dX10_spread_1 : decode cX10_spread 1 = .ok (.iconst 2, 1) := by decide +kernel
theorem dX10_spread_2 : decode cX10_spread 2 = .ok (.idiv, 1) := by decide +kernel
theorem dX10_spread_3 : decode cX10_spread 3 = .ok (.iload_n 1, 1) := by decide +kernel
theorem dX10_spread_4 : decode cX10_spread 4 = .ok (.bipush 8, 2) := by decide +kernel
theorem dX10_spread_6 : decode cX10_spread 6 = .ok (.idiv, 1) := by decide +kernel
theorem dX10_spread_7 : decode cX10_spread 7 = .ok (.iadd, 1) := by decide +kernel
theorem dX10_spread_8 : decode cX10_spread 8 = .ok (.iconst 3, 1) := by decide +kernel
theorem dX10_spread_9 : decode cX10_spread 9 = .ok (.iadd, 1) := by decide +kernel
theorem dX10_spread_10 : decode cX10_spread 10 = .ok (.istore_n 3, 1) := by decide +kernel
theorem dX10_spread_11 : decode cX10_spread 11 = .ok (.iconst 0, 1) := by decide +kernel
theorem dX10_spread_12 : decode cX10_spread 12 = .ok (.istore 4, 2) := by decide +kernel
theorem dX10_spread_14 : decode cX10_spread 14 = .ok (.iconst 0, 1) := by decide +kernel
theorem dX10_spread_15 : decode cX10_spread 15 = .ok (.istore 5, 2) := by decide +kernel
theorem dX10_spread_17 : decode cX10_spread 17 = .ok (.iload 5, 2) := by decide +kernel
theorem dX10_spread_19 : decode cX10_spread 19 = .ok (.aload_n 0, 1) := by decide +kernel
theorem dX10_spread_20 : decode cX10_spread 20 = .ok (.getfield 40, 3) := by decide +kernel
theorem dX10_spread_23 : decode cX10_spread 23 = .ok (.if_icmp .ge 80, 3) := by decide +kernel
theorem dX10_spread_26 : decode cX10_spread 26 = .ok (.iconst 0, 1) := by decide +kernel
theorem dX10_spread_27 : decode cX10_spread 27 = .ok (.istore 6, 2) := by decide +kernel
theorem dX10_spread_29 : decode cX10_spread 29 = .ok (.iload 6, 2) := by decide +kernel
theorem dX10_spread_31 : decode cX10_spread 31 = .ok (.aload_n 0, 1) := by decide +kernel
theorem dX10_spread_32 : decode cX10_spread 32 = .ok (.getfield 15, 3) := by decide +kernel
theorem dX10_spread_35 : decode cX10_spread 35 = .ok (.iload 5, 2) := by decide +kernel
theorem dX10_spread_37 : decode cX10_spread 37 = .ok (.iaload, 1) := by decide +kernel
theorem dX10_spread_38 : decode cX10_spread 38 = .ok (.if_icmp .ge 59, 3) := by decide +kernel
theorem dX10_spread_41 : decode cX10_spread 41 = .ok (.aload_n 0, 1) := by decide +kernel
theorem dX10_spread_42 : decode cX10_spread 42 = .ok (.getfield 9, 3) := by decide +kernel
theorem dX10_spread_45 : decode cX10_spread 45 = .ok (.iload 4, 2) := by decide +kernel
theorem dX10_spread_47 : decode cX10_spread 47 = .ok (.iload 5, 2) := by decide +kernel
theorem dX10_spread_49 : decode cX10_spread 49 = .ok (.iastore, 1) := by decide +kernel
theorem dX10_spread_50 : decode cX10_spread 50 = .ok (.iload 4, 2) := by decide +kernel
theorem dX10_spread_52 : decode cX10_spread 52 = .ok (.iload_n 3, 1) := by decide +kernel
theorem dX10_spread_53 : decode cX10_spread 53 = .ok (.iadd, 1) := by decide +kernel
theorem dX10_spread_54 : decode cX10_spread 54 = .ok (.iload_n 1, 1) := by decide +kernel
theorem dX10_spread_55 : decode cX10_spread 55 = .ok (.iconst 1, 1) := by decide +kernel
theorem dX10_spread_56 : decode cX10_spread 56 = .ok (.isub, 1) := by decide +kernel
theorem dX10_spread_57 : decode cX10_spread 57 = .ok (.iand, 1) := by decide +kernel
theorem dX10_spread_58 : decode cX10_spread 58 = .ok (.istore 4, 2) := by decide +kernel
theorem dX10_spread_60 : decode cX10_spread 60 = .ok (.iconst 0, 1) := by decide +kernel
theorem dX10_spread_61 : decode cX10_spread 61 = .ok (.istore 7, 2) := by decide +kernel
theorem dX10_spread_63 : decode cX10_spread 63 = .ok (.iload 7, 2) := by decide +kernel
theorem dX10_spread_65 : decode cX10_spread 65 = .ok (.iload_n 1, 1) := by decide +kernel
theorem dX10_spread_66 : decode cX10_spread 66 = .ok (.if_icmp .ge 25, 3) := by decide +kernel
theorem dX10_spread_69 : decode cX10_spread 69 = .ok (.iload 4, 2) := by decide +kernel
theorem dX10_spread_71 : decode cX10_spread 71 = .ok (.iload_n 2, 1) := by decide +kernel
theorem dX10_spread_72 : decode cX10_spread 72 = .ok (.if_icmp .le 19, 3) := by decide +kernel
theorem dX10_spread_75 : decode cX10_spread 75 = .ok (.iload 4, 2) := by decide +kernel
theorem dX10_spread_77 : decode cX10_spread 77 = .ok (.iload_n 3, 1) := by decide +kernel
theorem dX10_spread_78 : decode cX10_spread 78 = .ok (.iadd, 1) := by decide +kernel
theorem dX10_spread_79 : decode cX10_spread 79 = .ok (.iload_n 1, 1) := by decide +kernel
theorem dX10_spread_80 : decode cX10_spread 80 = .ok (.iconst 1, 1) := by decide +kernel
theorem dX10_spread_81 : decode cX10_spread 81 = .ok (.isub, 1) := by decide +kernel
theorem dX10_spread_82 : decode cX10_spread 82 = .ok (.iand, 1) := by decide +kernel
theorem dX10_spread_83 : decode cX10_spread 83 = .ok (.istore 4, 2) := by decide +kernel
theorem dX10_spread_85 : decode cX10_spread 85 = .ok (.iinc 7 1, 3) := by decide +kernel
theorem dX10_spread_88 : decode cX10_spread 88 = .ok (.goto (-25), 3) := by decide +kernel
theorem dX10_spread_91 : decode cX10_spread 91 = .ok (.iinc 6 1, 3) := by decide +kernel
theorem dX10_spread_94 : decode cX10_spread 94 = .ok (.goto (-65), 3) := by decide +kernel
theorem dX10_spread_97 : decode cX10_spread 97 = .ok (.iinc 5 1, 3) := by decide +kernel
theorem dX10_spread_100 : decode cX10_spread 100 = .ok (.goto (-83), 3) := by decide +kernel
theorem dX10_spread_103 : decode cX10_spread 103 = .ok (.return_, 1) := by decide +kernel
theorem dX10_buildFor_0 : decode cX10_buildFor 0 = .ok (.iload_n 3, 1) := by decide +kernel
theorem dX10_buildFor_1 : decode cX10_buildFor 1 = .ok (.bipush 32, 2) := by decide +kernel
theorem dX10_buildFor_3 : decode cX10_buildFor 3 = .ok (.if_icmp .ge 7, 3) := by decide +kernel
theorem dX10_buildFor_6 : decode cX10_buildFor 6 = .ok (.iconst 5, 1) := by decide +kernel
theorem dX10_buildFor_7 : decode cX10_buildFor 7 = .ok (.goto 17, 3) := by decide +kernel
theorem dX10_buildFor_10 : decode cX10_buildFor 10 = .ok (.iload_n 3, 1) := by decide +kernel
theorem dX10_buildFor_11 : decode cX10_buildFor 11 = .ok (.sipush 128, 3) := by decide +kernel
theorem dX10_buildFor_14 : decode cX10_buildFor 14 = .ok (.if_icmp .ge 8, 3) := by decide +kernel
theorem dX10_buildFor_17 : decode cX10_buildFor 17 = .ok (.bipush 6, 2) := by decide +kernel
theorem dX10_buildFor_19 : decode cX10_buildFor 19 = .ok (.goto 5, 3) := by decide +kernel
theorem dX10_buildFor_22 : decode cX10_buildFor 22 = .ok (.bipush 7, 2) := by decide +kernel
theorem dX10_buildFor_24 : decode cX10_buildFor 24 = .ok (.istore 4, 2) := by decide +kernel
theorem dX10_buildFor_26 : decode cX10_buildFor 26 = .ok (.iconst 1, 1) := by decide +kernel
theorem dX10_buildFor_27 : decode cX10_buildFor 27 = .ok (.iload 4, 2) := by decide +kernel
theorem dX10_buildFor_29 : decode cX10_buildFor 29 = .ok (.ishl, 1) := by decide +kernel
theorem dX10_buildFor_30 : decode cX10_buildFor 30 = .ok (.istore 5, 2) := by decide +kernel
theorem dX10_buildFor_32 : decode cX10_buildFor 32 = .ok (.aload_n 0, 1) := by decide +kernel
theorem dX10_buildFor_33 : decode cX10_buildFor 33 = .ok (.iload_n 2, 1) := by decide +kernel
theorem dX10_buildFor_34 : decode cX10_buildFor 34 = .ok (.iconst 1, 1) := by decide +kernel
theorem dX10_buildFor_35 : decode cX10_buildFor 35 = .ok (.iadd, 1) := by decide +kernel
theorem dX10_buildFor_36 : decode cX10_buildFor 36 = .ok (.sipush 256, 3) := by decide +kernel
theorem dX10_buildFor_39 : decode cX10_buildFor 39 = .ok (.invokestatic 34, 3) := by decide +kernel
theorem dX10_buildFor_42 : decode cX10_buildFor 42 = .ok (.putfield 40, 3) := by decide +kernel
theorem dX10_buildFor_45 : decode cX10_buildFor 45 = .ok (.iconst 0, 1) := by decide +kernel
theorem dX10_buildFor_46 : decode cX10_buildFor 46 = .ok (.istore 6, 2) := by decide +kernel
theorem dX10_buildFor_48 : decode cX10_buildFor 48 = .ok (.iconst 0, 1) := by decide +kernel
theorem dX10_buildFor_49 : decode cX10_buildFor 49 = .ok (.istore 7, 2) := by decide +kernel
theorem dX10_buildFor_51 : decode cX10_buildFor 51 = .ok (.iload 7, 2) := by decide +kernel
theorem dX10_buildFor_53 : decode cX10_buildFor 53 = .ok (.aload_n 0, 1) := by decide +kernel
theorem dX10_buildFor_54 : decode cX10_buildFor 54 = .ok (.getfield 40, 3) := by decide +kernel
theorem dX10_buildFor_57 : decode cX10_buildFor 57 = .ok (.if_icmp .ge 69, 3) := by decide +kernel
theorem dX10_buildFor_60 : decode cX10_buildFor 60 = .ok (.iload 7, 2) := by decide +kernel
theorem dX10_buildFor_62 : decode cX10_buildFor 62 = .ok (.aload_n 1, 1) := by decide +kernel
theorem dX10_buildFor_63 : decode cX10_buildFor 63 = .ok (.arraylength, 1) := by decide +kernel
theorem dX10_buildFor_64 : decode cX10_buildFor 64 = .ok (.if_icmp .ge 10, 3) := by decide +kernel
theorem dX10_buildFor_67 : decode cX10_buildFor 67 = .ok (.aload_n 1, 1) := by decide +kernel
theorem dX10_buildFor_68 : decode cX10_buildFor 68 = .ok (.iload 7, 2) := by decide +kernel
theorem dX10_buildFor_70 : decode cX10_buildFor 70 = .ok (.iaload, 1) := by decide +kernel
theorem dX10_buildFor_71 : decode cX10_buildFor 71 = .ok (.goto 4, 3) := by decide +kernel
theorem dX10_buildFor_74 : decode cX10_buildFor 74 = .ok (.iconst 0, 1) := by decide +kernel
theorem dX10_buildFor_75 : decode cX10_buildFor 75 = .ok (.istore 8, 2) := by decide +kernel
theorem dX10_buildFor_77 : decode cX10_buildFor 77 = .ok (.aload_n 0, 1) := by decide +kernel
theorem dX10_buildFor_78 : decode cX10_buildFor 78 = .ok (.getfield 15, 3) := by decide +kernel
theorem dX10_buildFor_81 : decode cX10_buildFor 81 = .ok (.iload 7, 2) := by decide +kernel
theorem dX10_buildFor_83 : decode cX10_buildFor 83 = .ok (.iload 8, 2) := by decide +kernel
theorem dX10_buildFor_85 : decode cX10_buildFor 85 = .ok (.ifCond .ne 7, 3) := by decide +kernel
theorem dX10_buildFor_88 : decode cX10_buildFor 88 = .ok (.iconst 0, 1) := by decide +kernel
theorem dX10_buildFor_89 : decode cX10_buildFor 89 = .ok (.goto 18, 3) := by decide +kernel
theorem dX10_buildFor_92 : decode cX10_buildFor 92 = .ok (.iconst 1, 1) := by decide +kernel
theorem dX10_buildFor_93 : decode cX10_buildFor 93 = .ok (.iload 8, 2) := by decide +kernel
theorem dX10_buildFor_95 : decode cX10_buildFor 95 = .ok (.iload 5, 2) := by decide +kernel
theorem dX10_buildFor_97 : decode cX10_buildFor 97 = .ok (.imul, 1) := by decide +kernel
theorem dX10_buildFor_98 : decode cX10_buildFor 98 = .ok (.iload_n 3, 1) := by decide +kernel
theorem dX10_buildFor_99 : decode cX10_buildFor 99 = .ok (.iconst 1, 1) := by decide +kernel
theorem dX10_buildFor_100 : decode cX10_buildFor 100 = .ok (.invokestatic 96, 3) := by decide +kernel
theorem dX10_buildFor_103 : decode cX10_buildFor 103 = .ok (.idiv, 1) := by decide +kernel
theorem dX10_buildFor_104 : decode cX10_buildFor 104 = .ok (.invokestatic 96, 3) := by decide +kernel
theorem dX10_buildFor_107 : decode cX10_buildFor 107 = .ok (.iastore, 1) := by decide +kernel
theorem dX10_buildFor_108 : decode cX10_buildFor 108 = .ok (.iload 6, 2) := by decide +kernel
theorem dX10_buildFor_110 : decode cX10_buildFor 110 = .ok (.aload_n 0, 1) := by decide +kernel
theorem dX10_buildFor_111 : decode cX10_buildFor 111 = .ok (.getfield 15, 3) := by decide +kernel
theorem dX10_buildFor_114 : decode cX10_buildFor 114 = .ok (.iload 7, 2) := by decide +kernel
theorem dX10_buildFor_116 : decode cX10_buildFor 116 = .ok (.iaload, 1) := by decide +kernel
theorem dX10_buildFor_117 : decode cX10_buildFor 117 = .ok (.iadd, 1) := by decide +kernel
theorem dX10_buildFor_118 : decode cX10_buildFor 118 = .ok (.istore 6, 2) := by decide +kernel
theorem dX10_buildFor_120 : decode cX10_buildFor 120 = .ok (.iinc 7 1, 3) := by decide +kernel
theorem dX10_buildFor_123 : decode cX10_buildFor 123 = .ok (.goto (-72), 3) := by decide +kernel
theorem dX10_buildFor_126 : decode cX10_buildFor 126 = .ok (.iload 6, 2) := by decide +kernel
theorem dX10_buildFor_128 : decode cX10_buildFor 128 = .ok (.iload 5, 2) := by decide +kernel
theorem dX10_buildFor_130 : decode cX10_buildFor 130 = .ok (.if_icmp .le 22, 3) := by decide +kernel
theorem dX10_buildFor_133 : decode cX10_buildFor 133 = .ok (.aload_n 0, 1) := by decide +kernel
theorem dX10_buildFor_134 : decode cX10_buildFor 134 = .ok (.getfield 15, 3) := by decide +kernel
theorem dX10_buildFor_137 : decode cX10_buildFor 137 = .ok (.aload_n 0, 1) := by decide +kernel
theorem dX10_buildFor_138 : decode cX10_buildFor 138 = .ok (.invokevirtual 99, 3) := by decide +kernel
theorem dX10_buildFor_141 : decode cX10_buildFor 141 = .ok (.dup2, 1) := by decide +kernel
theorem dX10_buildFor_142 : decode cX10_buildFor 142 = .ok (.iaload, 1) := by decide +kernel
theorem dX10_buildFor_143 : decode cX10_buildFor 143 = .ok (.iconst 1, 1) := by decide +kernel
theorem dX10_buildFor_144 : decode cX10_buildFor 144 = .ok (.isub, 1) := by decide +kernel
theorem dX10_buildFor_145 : decode cX10_buildFor 145 = .ok (.iastore, 1) := by decide +kernel
theorem dX10_buildFor_146 : decode cX10_buildFor 146 = .ok (.iinc 6 (-1), 3) := by decide +kernel
theorem dX10_buildFor_149 : decode cX10_buildFor 149 = .ok (.goto (-23), 3) := by decide +kernel
theorem dX10_buildFor_152 : decode cX10_buildFor 152 = .ok (.aload_n 0, 1) := by decide +kernel
theorem dX10_buildFor_153 : decode cX10_buildFor 153 = .ok (.getfield 15, 3) := by decide +kernel
theorem dX10_buildFor_156 : decode cX10_buildFor 156 = .ok (.aload_n 0, 1) := by decide +kernel
theorem dX10_buildFor_157 : decode cX10_buildFor 157 = .ok (.invokevirtual 99, 3) := by decide +kernel
theorem dX10_buildFor_160 : decode cX10_buildFor 160 = .ok (.dup2, 1) := by decide +kernel
theorem dX10_buildFor_161 : decode cX10_buildFor 161 = .ok (.iaload, 1) := by decide +kernel
theorem dX10_buildFor_162 : decode cX10_buildFor 162 = .ok (.iload 5, 2) := by decide +kernel
theorem dX10_buildFor_164 : decode cX10_buildFor 164 = .ok (.iload 6, 2) := by decide +kernel
theorem dX10_buildFor_166 : decode cX10_buildFor 166 = .ok (.isub, 1) := by decide +kernel
theorem dX10_buildFor_167 : decode cX10_buildFor 167 = .ok (.iadd, 1) := by decide +kernel
theorem dX10_buildFor_168 : decode cX10_buildFor 168 = .ok (.iastore, 1) := by decide +kernel
theorem dX10_buildFor_169 : decode cX10_buildFor 169 = .ok (.aload_n 0, 1) := by decide +kernel
theorem dX10_buildFor_170 : decode cX10_buildFor 170 = .ok (.iload 4, 2) := by decide +kernel
theorem dX10_buildFor_172 : decode cX10_buildFor 172 = .ok (.invokevirtual 53, 3) := by decide +kernel
theorem dX10_buildFor_175 : decode cX10_buildFor 175 = .ok (.return_, 1) := by decide +kernel
theorem dX10_mostCounted_0 : decode cX10_mostCounted 0 = .ok (.iconst 0, 1) := by decide +kernel
theorem dX10_mostCounted_1 : decode cX10_mostCounted 1 = .ok (.istore_n 1, 1) := by decide +kernel
theorem dX10_mostCounted_2 : decode cX10_mostCounted 2 = .ok (.iconst 1, 1) := by decide +kernel
theorem dX10_mostCounted_3 : decode cX10_mostCounted 3 = .ok (.istore_n 2, 1) := by decide +kernel
theorem dX10_mostCounted_4 : decode cX10_mostCounted 4 = .ok (.iload_n 2, 1) := by decide +kernel
theorem dX10_mostCounted_5 : decode cX10_mostCounted 5 = .ok (.aload_n 0, 1) := by decide +kernel
theorem dX10_mostCounted_6 : decode cX10_mostCounted 6 = .ok (.getfield 40, 3) := by decide +kernel
theorem dX10_mostCounted_9 : decode cX10_mostCounted 9 = .ok (.if_icmp .ge 26, 3) := by decide +kernel
theorem dX10_mostCounted_12 : decode cX10_mostCounted 12 = .ok (.aload_n 0, 1) := by decide +kernel
theorem dX10_mostCounted_13 : decode cX10_mostCounted 13 = .ok (.getfield 15, 3) := by decide +kernel
theorem dX10_mostCounted_16 : decode cX10_mostCounted 16 = .ok (.iload_n 2, 1) := by decide +kernel
theorem dX10_mostCounted_17 : decode cX10_mostCounted 17 = .ok (.iaload, 1) := by decide +kernel
theorem dX10_mostCounted_18 : decode cX10_mostCounted 18 = .ok (.aload_n 0, 1) := by decide +kernel
theorem dX10_mostCounted_19 : decode cX10_mostCounted 19 = .ok (.getfield 15, 3) := by decide +kernel
theorem dX10_mostCounted_22 : decode cX10_mostCounted 22 = .ok (.iload_n 1, 1) := by decide +kernel
theorem dX10_mostCounted_23 : decode cX10_mostCounted 23 = .ok (.iaload, 1) := by decide +kernel
theorem dX10_mostCounted_24 : decode cX10_mostCounted 24 = .ok (.if_icmp .le 5, 3) := by decide +kernel
theorem dX10_mostCounted_27 : decode cX10_mostCounted 27 = .ok (.iload_n 2, 1) := by decide +kernel
theorem dX10_mostCounted_28 : decode cX10_mostCounted 28 = .ok (.istore_n 1, 1) := by decide +kernel
theorem dX10_mostCounted_29 : decode cX10_mostCounted 29 = .ok (.iinc 2 1, 3) := by decide +kernel
theorem dX10_mostCounted_32 : decode cX10_mostCounted 32 = .ok (.goto (-28), 3) := by decide +kernel
theorem dX10_mostCounted_35 : decode cX10_mostCounted 35 = .ok (.iload_n 1, 1) := by decide +kernel
theorem dX10_mostCounted_36 : decode cX10_mostCounted 36 = .ok (.ireturn, 1) := by decide +kernel
theorem dX10_write_0 : decode cX10_write 0 = .ok (.aload_n 1, 1) := by decide +kernel
theorem dX10_write_1 : decode cX10_write 1 = .ok (.aload_n 0, 1) := by decide +kernel
theorem dX10_write_2 : decode cX10_write 2 = .ok (.getfield 57, 3) := by decide +kernel
theorem dX10_write_5 : decode cX10_write 5 = .ok (.iconst 5, 1) := by decide +kernel
theorem dX10_write_6 : decode cX10_write 6 = .ok (.isub, 1) := by decide +kernel
theorem dX10_write_7 : decode cX10_write 7 = .ok (.i2l, 1) := by decide +kernel
theorem dX10_write_8 : decode cX10_write 8 = .ok (.iconst 4, 1) := by decide +kernel
theorem dX10_write_9 : decode cX10_write 9 = .ok (.invokevirtual 103, 3) := by decide +kernel
theorem dX10_write_12 : decode cX10_write 12 = .ok (.iconst 1, 1) := by decide +kernel
theorem dX10_write_13 : decode cX10_write 13 = .ok (.aload_n 0, 1) := by decide +kernel
theorem dX10_write_14 : decode cX10_write 14 = .ok (.getfield 57, 3) := by decide +kernel
theorem dX10_write_17 : decode cX10_write 17 = .ok (.ishl, 1) := by decide +kernel
theorem dX10_write_18 : decode cX10_write 18 = .ok (.istore_n 2, 1) := by decide +kernel
theorem dX10_write_19 : decode cX10_write 19 = .ok (.iconst 0, 1) := by decide +kernel
theorem dX10_write_20 : decode cX10_write 20 = .ok (.istore_n 3, 1) := by decide +kernel
theorem dX10_write_21 : decode cX10_write 21 = .ok (.iconst 0, 1) := by decide +kernel
theorem dX10_write_22 : decode cX10_write 22 = .ok (.istore 4, 2) := by decide +kernel
theorem dX10_write_24 : decode cX10_write 24 = .ok (.iload 4, 2) := by decide +kernel
theorem dX10_write_26 : decode cX10_write 26 = .ok (.aload_n 0, 1) := by decide +kernel
theorem dX10_write_27 : decode cX10_write 27 = .ok (.getfield 40, 3) := by decide +kernel
theorem dX10_write_30 : decode cX10_write 30 = .ok (.if_icmp .ge 73, 3) := by decide +kernel
theorem dX10_write_33 : decode cX10_write 33 = .ok (.aload_n 0, 1) := by decide +kernel
theorem dX10_write_34 : decode cX10_write 34 = .ok (.getfield 15, 3) := by decide +kernel
theorem dX10_write_37 : decode cX10_write 37 = .ok (.iload 4, 2) := by decide +kernel
theorem dX10_write_39 : decode cX10_write 39 = .ok (.iaload, 1) := by decide +kernel
theorem dX10_write_40 : decode cX10_write 40 = .ok (.ifCond .ne 20, 3) := by decide +kernel
theorem dX10_write_43 : decode cX10_write 43 = .ok (.iload_n 3, 1) := by decide +kernel
theorem dX10_write_44 : decode cX10_write 44 = .ok (.ifCond .ne 10, 3) := by decide +kernel
theorem dX10_write_47 : decode cX10_write 47 = .ok (.aload_n 0, 1) := by decide +kernel
theorem dX10_write_48 : decode cX10_write 48 = .ok (.aload_n 1, 1) := by decide +kernel
theorem dX10_write_49 : decode cX10_write 49 = .ok (.iconst 0, 1) := by decide +kernel
theorem dX10_write_50 : decode cX10_write 50 = .ok (.iload_n 2, 1) := by decide +kernel
theorem dX10_write_51 : decode cX10_write 51 = .ok (.invokevirtual 107, 3) := by decide +kernel
theorem dX10_write_54 : decode cX10_write 54 = .ok (.iinc 3 1, 3) := by decide +kernel
theorem dX10_write_57 : decode cX10_write 57 = .ok (.goto 40, 3) := by decide +kernel
theorem dX10_write_60 : decode cX10_write 60 = .ok (.iload_n 3, 1) := by decide +kernel
theorem dX10_write_61 : decode cX10_write 61 = .ok (.ifCond .le 13, 3) := by decide +kernel
theorem dX10_write_64 : decode cX10_write 64 = .ok (.aload_n 0, 1) := by decide +kernel
theorem dX10_write_65 : decode cX10_write 65 = .ok (.aload_n 1, 1) := by decide +kernel
theorem dX10_write_66 : decode cX10_write 66 = .ok (.iload_n 3, 1) := by decide +kernel
theorem dX10_write_67 : decode cX10_write 67 = .ok (.iconst 1, 1) := by decide +kernel
theorem dX10_write_68 : decode cX10_write 68 = .ok (.isub, 1) := by decide +kernel
theorem dX10_write_69 : decode cX10_write 69 = .ok (.invokevirtual 111, 3) := by decide +kernel
theorem dX10_write_72 : decode cX10_write 72 = .ok (.iconst 0, 1) := by decide +kernel
theorem dX10_write_73 : decode cX10_write 73 = .ok (.istore_n 3, 1) := by decide +kernel
theorem dX10_write_74 : decode cX10_write 74 = .ok (.aload_n 0, 1) := by decide +kernel
theorem dX10_write_75 : decode cX10_write 75 = .ok (.aload_n 1, 1) := by decide +kernel
theorem dX10_write_76 : decode cX10_write 76 = .ok (.aload_n 0, 1) := by decide +kernel
theorem dX10_write_77 : decode cX10_write 77 = .ok (.getfield 15, 3) := by decide +kernel
theorem dX10_write_80 : decode cX10_write 80 = .ok (.iload 4, 2) := by decide +kernel
theorem dX10_write_82 : decode cX10_write 82 = .ok (.iaload, 1) := by decide +kernel
theorem dX10_write_83 : decode cX10_write 83 = .ok (.iload_n 2, 1) := by decide +kernel
theorem dX10_write_84 : decode cX10_write 84 = .ok (.invokevirtual 107, 3) := by decide +kernel
theorem dX10_write_87 : decode cX10_write 87 = .ok (.iload_n 2, 1) := by decide +kernel
theorem dX10_write_88 : decode cX10_write 88 = .ok (.aload_n 0, 1) := by decide +kernel
theorem dX10_write_89 : decode cX10_write 89 = .ok (.getfield 15, 3) := by decide +kernel
theorem dX10_write_92 : decode cX10_write 92 = .ok (.iload 4, 2) := by decide +kernel
theorem dX10_write_94 : decode cX10_write 94 = .ok (.iaload, 1) := by decide +kernel
theorem dX10_write_95 : decode cX10_write 95 = .ok (.isub, 1) := by decide +kernel
theorem dX10_write_96 : decode cX10_write 96 = .ok (.istore_n 2, 1) := by decide +kernel
theorem dX10_write_97 : decode cX10_write 97 = .ok (.iinc 4 1, 3) := by decide +kernel
theorem dX10_write_100 : decode cX10_write 100 = .ok (.goto (-76), 3) := by decide +kernel
theorem dX10_write_103 : decode cX10_write 103 = .ok (.aload_n 1, 1) := by decide +kernel
theorem dX10_write_104 : decode cX10_write 104 = .ok (.invokevirtual 115, 3) := by decide +kernel
theorem dX10_write_107 : decode cX10_write 107 = .ok (.return_, 1) := by decide +kernel
theorem dX10_writeCount_0 : decode cX10_writeCount 0 = .ok (.iload_n 3, 1) := by decide +kernel
theorem dX10_writeCount_1 : decode cX10_writeCount 1 = .ok (.iconst 1, 1) := by decide +kernel
theorem dX10_writeCount_2 : decode cX10_writeCount 2 = .ok (.iadd, 1) := by decide +kernel
theorem dX10_writeCount_3 : decode cX10_writeCount 3 = .ok (.i2l, 1) := by decide +kernel
theorem dX10_writeCount_4 : decode cX10_writeCount 4 = .ok (.invokestatic 85, 3) := by decide +kernel
theorem dX10_writeCount_7 : decode cX10_writeCount 7 = .ok (.iconst 1, 1) := by decide +kernel
theorem dX10_writeCount_8 : decode cX10_writeCount 8 = .ok (.iadd, 1) := by decide +kernel
theorem dX10_writeCount_9 : decode cX10_writeCount 9 = .ok (.istore 4, 2) := by decide +kernel
theorem dX10_writeCount_11 : decode cX10_writeCount 11 = .ok (.iconst 1, 1) := by decide +kernel
theorem dX10_writeCount_12 : decode cX10_writeCount 12 = .ok (.iload 4, 2) := by decide +kernel
theorem dX10_writeCount_14 : decode cX10_writeCount 14 = .ok (.ishl, 1) := by decide +kernel
theorem dX10_writeCount_15 : decode cX10_writeCount 15 = .ok (.iconst 2, 1) := by decide +kernel
theorem dX10_writeCount_16 : decode cX10_writeCount 16 = .ok (.isub, 1) := by decide +kernel
theorem dX10_writeCount_17 : decode cX10_writeCount 17 = .ok (.iload_n 3, 1) := by decide +kernel
theorem dX10_writeCount_18 : decode cX10_writeCount 18 = .ok (.isub, 1) := by decide +kernel
theorem dX10_writeCount_19 : decode cX10_writeCount 19 = .ok (.istore 5, 2) := by decide +kernel
theorem dX10_writeCount_21 : decode cX10_writeCount 21 = .ok (.iload_n 2, 1) := by decide +kernel
theorem dX10_writeCount_22 : decode cX10_writeCount 22 = .ok (.iconst 1, 1) := by decide +kernel
theorem dX10_writeCount_23 : decode cX10_writeCount 23 = .ok (.iadd, 1) := by decide +kernel
theorem dX10_writeCount_24 : decode cX10_writeCount 24 = .ok (.istore 6, 2) := by decide +kernel
theorem dX10_writeCount_26 : decode cX10_writeCount 26 = .ok (.iload 6, 2) := by decide +kernel
theorem dX10_writeCount_28 : decode cX10_writeCount 28 = .ok (.iload 5, 2) := by decide +kernel
theorem dX10_writeCount_30 : decode cX10_writeCount 30 = .ok (.if_icmp .ge 17, 3) := by decide +kernel
theorem dX10_writeCount_33 : decode cX10_writeCount 33 = .ok (.aload_n 1, 1) := by decide +kernel
theorem dX10_writeCount_34 : decode cX10_writeCount 34 = .ok (.iload 6, 2) := by decide +kernel
theorem dX10_writeCount_36 : decode cX10_writeCount 36 = .ok (.i2l, 1) := by decide +kernel
theorem dX10_writeCount_37 : decode cX10_writeCount 37 = .ok (.iload 4, 2) := by decide +kernel
theorem dX10_writeCount_39 : decode cX10_writeCount 39 = .ok (.iconst 1, 1) := by decide +kernel
theorem dX10_writeCount_40 : decode cX10_writeCount 40 = .ok (.isub, 1) := by decide +kernel
theorem dX10_writeCount_41 : decode cX10_writeCount 41 = .ok (.invokevirtual 103, 3) := by decide +kernel
theorem dX10_writeCount_44 : decode cX10_writeCount 44 = .ok (.goto 32, 3) := by decide +kernel
theorem dX10_writeCount_47 : decode cX10_writeCount 47 = .ok (.aload_n 1, 1) := by decide +kernel
theorem dX10_writeCount_48 : decode cX10_writeCount 48 = .ok (.iload 6, 2) := by decide +kernel
theorem dX10_writeCount_50 : decode cX10_writeCount 50 = .ok (.iconst 1, 1) := by decide +kernel
theorem dX10_writeCount_51 : decode cX10_writeCount 51 = .ok (.iload 4, 2) := by decide +kernel
theorem dX10_writeCount_53 : decode cX10_writeCount 53 = .ok (.iconst 1, 1) := by decide +kernel
theorem dX10_writeCount_54 : decode cX10_writeCount 54 = .ok (.isub, 1) := by decide +kernel
theorem dX10_writeCount_55 : decode cX10_writeCount 55 = .ok (.ishl, 1) := by decide +kernel
theorem dX10_writeCount_56 : decode cX10_writeCount 56 = .ok (.if_icmp .ge 9, 3) := by decide +kernel
theorem dX10_writeCount_59 : decode cX10_writeCount 59 = .ok (.iload 6, 2) := by decide +kernel
theorem dX10_writeCount_61 : decode cX10_writeCount 61 = .ok (.i2l, 1) := by decide +kernel
theorem dX10_writeCount_62 : decode cX10_writeCount 62 = .ok (.goto 9, 3) := by decide +kernel
theorem dX10_writeCount_65 : decode cX10_writeCount 65 = .ok (.iload 6, 2) := by decide +kernel
theorem dX10_writeCount_67 : decode cX10_writeCount 67 = .ok (.iload 5, 2) := by decide +kernel
theorem dX10_writeCount_69 : decode cX10_writeCount 69 = .ok (.iadd, 1) := by decide +kernel
theorem dX10_writeCount_70 : decode cX10_writeCount 70 = .ok (.i2l, 1) := by decide +kernel
theorem dX10_writeCount_71 : decode cX10_writeCount 71 = .ok (.iload 4, 2) := by decide +kernel
theorem dX10_writeCount_73 : decode cX10_writeCount 73 = .ok (.invokevirtual 103, 3) := by decide +kernel
theorem dX10_writeCount_76 : decode cX10_writeCount 76 = .ok (.return_, 1) := by decide +kernel
theorem dX10_writeZeros_0 : decode cX10_writeZeros 0 = .ok (.iload_n 2, 1) := by decide +kernel
theorem dX10_writeZeros_1 : decode cX10_writeZeros 1 = .ok (.istore_n 3, 1) := by decide +kernel
theorem dX10_writeZeros_2 : decode cX10_writeZeros 2 = .ok (.iload_n 3, 1) := by decide +kernel
theorem dX10_writeZeros_3 : decode cX10_writeZeros 3 = .ok (.iconst 3, 1) := by decide +kernel
theorem dX10_writeZeros_4 : decode cX10_writeZeros 4 = .ok (.if_icmp .lt 17, 3) := by decide +kernel
theorem dX10_writeZeros_7 : decode cX10_writeZeros 7 = .ok (.aload_n 1, 1) := by decide +kernel
theorem dX10_writeZeros_8 : decode cX10_writeZeros 8 = .ok (.ldc2_w 118, 3) := by decide +kernel
theorem dX10_writeZeros_11 : decode cX10_writeZeros 11 = .ok (.iconst 2, 1) := by decide +kernel
theorem dX10_writeZeros_12 : decode cX10_writeZeros 12 = .ok (.invokevirtual 103, 3) := by decide +kernel
theorem dX10_writeZeros_15 : decode cX10_writeZeros 15 = .ok (.iinc 3 (-3), 3) := by decide +kernel
theorem dX10_writeZeros_18 : decode cX10_writeZeros 18 = .ok (.goto (-16), 3) := by decide +kernel
theorem dX10_writeZeros_21 : decode cX10_writeZeros 21 = .ok (.aload_n 1, 1) := by decide +kernel
theorem dX10_writeZeros_22 : decode cX10_writeZeros 22 = .ok (.iload_n 3, 1) := by decide +kernel
theorem dX10_writeZeros_23 : decode cX10_writeZeros 23 = .ok (.i2l, 1) := by decide +kernel
theorem dX10_writeZeros_24 : decode cX10_writeZeros 24 = .ok (.iconst 2, 1) := by decide +kernel
theorem dX10_writeZeros_25 : decode cX10_writeZeros 25 = .ok (.invokevirtual 103, 3) := by decide +kernel
theorem dX10_writeZeros_28 : decode cX10_writeZeros 28 = .ok (.return_, 1) := by decide +kernel
theorem dX10_firstPlace_0 : decode cX10_firstPlace 0 = .ok (.iconst 0, 1) := by decide +kernel
theorem dX10_firstPlace_1 : decode cX10_firstPlace 1 = .ok (.istore_n 2, 1) := by decide +kernel
theorem dX10_firstPlace_2 : decode cX10_firstPlace 2 = .ok (.iload_n 2, 1) := by decide +kernel
theorem dX10_firstPlace_3 : decode cX10_firstPlace 3 = .ok (.iconst 1, 1) := by decide +kernel
theorem dX10_firstPlace_4 : decode cX10_firstPlace 4 = .ok (.aload_n 0, 1) := by decide +kernel
theorem dX10_firstPlace_5 : decode cX10_firstPlace 5 = .ok (.getfield 57, 3) := by decide +kernel
theorem dX10_firstPlace_8 : decode cX10_firstPlace 8 = .ok (.ishl, 1) := by decide +kernel
theorem dX10_firstPlace_9 : decode cX10_firstPlace 9 = .ok (.if_icmp .ge 20, 3) := by decide +kernel
theorem dX10_firstPlace_12 : decode cX10_firstPlace 12 = .ok (.aload_n 0, 1) := by decide +kernel
theorem dX10_firstPlace_13 : decode cX10_firstPlace 13 = .ok (.iload_n 2, 1) := by decide +kernel
theorem dX10_firstPlace_14 : decode cX10_firstPlace 14 = .ok (.invokevirtual 93, 3) := by decide +kernel
theorem dX10_firstPlace_17 : decode cX10_firstPlace 17 = .ok (.iload_n 1, 1) := by decide +kernel
theorem dX10_firstPlace_18 : decode cX10_firstPlace 18 = .ok (.if_icmp .ne 5, 3) := by decide +kernel
theorem dX10_firstPlace_21 : decode cX10_firstPlace 21 = .ok (.iload_n 2, 1) := by decide +kernel
theorem dX10_firstPlace_22 : decode cX10_firstPlace 22 = .ok (.ireturn, 1) := by decide +kernel
theorem dX10_firstPlace_23 : decode cX10_firstPlace 23 = .ok (.iinc 2 1, 3) := by decide +kernel
theorem dX10_firstPlace_26 : decode cX10_firstPlace 26 = .ok (.goto (-24), 3) := by decide +kernel
theorem dX10_firstPlace_29 : decode cX10_firstPlace 29 = .ok (.iconst 0, 1) := by decide +kernel
theorem dX10_firstPlace_30 : decode cX10_firstPlace 30 = .ok (.ireturn, 1) := by decide +kernel
theorem dX10_placeBefore_0 : decode cX10_placeBefore 0 = .ok (.iconst 0, 1) := by decide +kernel
theorem dX10_placeBefore_1 : decode cX10_placeBefore 1 = .ok (.istore_n 3, 1) := by decide +kernel
theorem dX10_placeBefore_2 : decode cX10_placeBefore 2 = .ok (.iload_n 3, 1) := by decide +kernel
theorem dX10_placeBefore_3 : decode cX10_placeBefore 3 = .ok (.iconst 1, 1) := by decide +kernel
theorem dX10_placeBefore_4 : decode cX10_placeBefore 4 = .ok (.aload_n 0, 1) := by decide +kernel
theorem dX10_placeBefore_5 : decode cX10_placeBefore 5 = .ok (.getfield 57, 3) := by decide +kernel
theorem dX10_placeBefore_8 : decode cX10_placeBefore 8 = .ok (.ishl, 1) := by decide +kernel
theorem dX10_placeBefore_9 : decode cX10_placeBefore 9 = .ok (.if_icmp .ge 46, 3) := by decide +kernel
theorem dX10_placeBefore_12 : decode cX10_placeBefore 12 = .ok (.iload_n 2, 1) := by decide +kernel
theorem dX10_placeBefore_13 : decode cX10_placeBefore 13 = .ok (.aload_n 0, 1) := by decide +kernel
theorem dX10_placeBefore_14 : decode cX10_placeBefore 14 = .ok (.iload_n 3, 1) := by decide +kernel
theorem dX10_placeBefore_15 : decode cX10_placeBefore 15 = .ok (.invokevirtual 120, 3) := by decide +kernel
theorem dX10_placeBefore_18 : decode cX10_placeBefore 18 = .ok (.isub, 1) := by decide +kernel
theorem dX10_placeBefore_19 : decode cX10_placeBefore 19 = .ok (.istore 4, 2) := by decide +kernel
theorem dX10_placeBefore_21 : decode cX10_placeBefore 21 = .ok (.aload_n 0, 1) := by decide +kernel
theorem dX10_placeBefore_22 : decode cX10_placeBefore 22 = .ok (.iload_n 3, 1) := by decide +kernel
theorem dX10_placeBefore_23 : decode cX10_placeBefore 23 = .ok (.invokevirtual 93, 3) := by decide +kernel
theorem dX10_placeBefore_26 : decode cX10_placeBefore 26 = .ok (.iload_n 1, 1) := by decide +kernel
theorem dX10_placeBefore_27 : decode cX10_placeBefore 27 = .ok (.if_icmp .ne 22, 3) := by decide +kernel
theorem dX10_placeBefore_30 : decode cX10_placeBefore 30 = .ok (.iload 4, 2) := by decide +kernel
theorem dX10_placeBefore_32 : decode cX10_placeBefore 32 = .ok (.ifCond .lt 17, 3) := by decide +kernel
theorem dX10_placeBefore_35 : decode cX10_placeBefore 35 = .ok (.iload 4, 2) := by decide +kernel
theorem dX10_placeBefore_37 : decode cX10_placeBefore 37 = .ok (.iconst 1, 1) := by decide +kernel
theorem dX10_placeBefore_38 : decode cX10_placeBefore 38 = .ok (.aload_n 0, 1) := by decide +kernel
theorem dX10_placeBefore_39 : decode cX10_placeBefore 39 = .ok (.iload_n 3, 1) := by decide +kernel
theorem dX10_placeBefore_40 : decode cX10_placeBefore 40 = .ok (.invokevirtual 123, 3) := by decide +kernel
theorem dX10_placeBefore_43 : decode cX10_placeBefore 43 = .ok (.ishl, 1) := by decide +kernel
theorem dX10_placeBefore_44 : decode cX10_placeBefore 44 = .ok (.if_icmp .ge 5, 3) := by decide +kernel
theorem dX10_placeBefore_47 : decode cX10_placeBefore 47 = .ok (.iload_n 3, 1) := by decide +kernel
theorem dX10_placeBefore_48 : decode cX10_placeBefore 48 = .ok (.ireturn, 1) := by decide +kernel
theorem dX10_placeBefore_49 : decode cX10_placeBefore 49 = .ok (.iinc 3 1, 3) := by decide +kernel
theorem dX10_placeBefore_52 : decode cX10_placeBefore 52 = .ok (.goto (-50), 3) := by decide +kernel
theorem dX10_placeBefore_55 : decode cX10_placeBefore 55 = .ok (.iconst 0, 1) := by decide +kernel
theorem dX10_placeBefore_56 : decode cX10_placeBefore 56 = .ok (.ireturn, 1) := by decide +kernel
theorem dX11_init_0 : decode cX11_init 0 = .ok (.aload_n 0, 1) := by decide +kernel
theorem dX11_init_1 : decode cX11_init 1 = .ok (.invokespecial 3, 3) := by decide +kernel
theorem dX11_init_4 : decode cX11_init 4 = .ok (.aload_n 0, 1) := by decide +kernel
theorem dX11_init_5 : decode cX11_init 5 = .ok (.sipush 256, 3) := by decide +kernel
theorem dX11_init_8 : decode cX11_init 8 = .ok (.newarray .int, 2) := by decide +kernel
theorem dX11_init_10 : decode cX11_init 10 = .ok (.putfield 9, 3) := by decide +kernel
theorem dX11_init_13 : decode cX11_init 13 = .ok (.aload_n 0, 1) := by decide +kernel
theorem dX11_init_14 : decode cX11_init 14 = .ok (.new 15, 3) := by decide +kernel
theorem dX11_init_17 : decode cX11_init 17 = .ok (.dup, 1) := by decide +kernel
theorem dX11_init_18 : decode cX11_init 18 = .ok (.invokespecial 17, 3) := by decide +kernel
theorem dX11_init_21 : decode cX11_init 21 = .ok (.putfield 18, 3) := by decide +kernel
theorem dX11_init_24 : decode cX11_init 24 = .ok (.aload_n 0, 1) := by decide +kernel
theorem dX11_init_25 : decode cX11_init 25 = .ok (.new 22, 3) := by decide +kernel
theorem dX11_init_28 : decode cX11_init 28 = .ok (.dup, 1) := by decide +kernel
theorem dX11_init_29 : decode cX11_init 29 = .ok (.invokespecial 24, 3) := by decide +kernel
theorem dX11_init_32 : decode cX11_init 32 = .ok (.putfield 25, 3) := by decide +kernel
theorem dX11_init_35 : decode cX11_init 35 = .ok (.aload_n 0, 1) := by decide +kernel
theorem dX11_init_36 : decode cX11_init 36 = .ok (.sipush 256, 3) := by decide +kernel
theorem dX11_init_39 : decode cX11_init 39 = .ok (.newarray .int, 2) := by decide +kernel
theorem dX11_init_41 : decode cX11_init 41 = .ok (.putfield 29, 3) := by decide +kernel
theorem dX11_init_44 : decode cX11_init 44 = .ok (.aload_n 0, 1) := by decide +kernel
theorem dX11_init_45 : decode cX11_init 45 = .ok (.sipush 256, 3) := by decide +kernel
theorem dX11_init_48 : decode cX11_init 48 = .ok (.newarray .int, 2) := by decide +kernel
theorem dX11_init_50 : decode cX11_init 50 = .ok (.putfield 32, 3) := by decide +kernel
theorem dX11_init_53 : decode cX11_init 53 = .ok (.aload_n 0, 1) := by decide +kernel
theorem dX11_init_54 : decode cX11_init 54 = .ok (.sipush 256, 3) := by decide +kernel
theorem dX11_init_57 : decode cX11_init 57 = .ok (.newarray .int, 2) := by decide +kernel
theorem dX11_init_59 : decode cX11_init 59 = .ok (.putfield 35, 3) := by decide +kernel
theorem dX11_init_62 : decode cX11_init 62 = .ok (.return_, 1) := by decide +kernel
theorem dX11_read_0 : decode cX11_read 0 = .ok (.iload_n 2, 1) := by decide +kernel
theorem dX11_read_1 : decode cX11_read 1 = .ok (.iload_n 3, 1) := by decide +kernel
theorem dX11_read_2 : decode cX11_read 2 = .ok (.if_icmp .lt 5, 3) := by decide +kernel
theorem dX11_read_5 : decode cX11_read 5 = .ok (.iconst (-1), 1) := by decide +kernel
theorem dX11_read_6 : decode cX11_read 6 = .ok (.ireturn, 1) := by decide +kernel
theorem dX11_read_7 : decode cX11_read 7 = .ok (.aload_n 1, 1) := by decide +kernel
theorem dX11_read_8 : decode cX11_read 8 = .ok (.iload_n 2, 1) := by decide +kernel
theorem dX11_read_9 : decode cX11_read 9 = .ok (.invokevirtual 38, 3) := by decide +kernel
theorem dX11_read_12 : decode cX11_read 12 = .ok (.istore 4, 2) := by decide +kernel
theorem dX11_read_14 : decode cX11_read 14 = .ok (.iload_n 2, 1) := by decide +kernel
theorem dX11_read_15 : decode cX11_read 15 = .ok (.iconst 1, 1) := by decide +kernel
theorem dX11_read_16 : decode cX11_read 16 = .ok (.iadd, 1) := by decide +kernel
theorem dX11_read_17 : decode cX11_read 17 = .ok (.iload 4, 2) := by decide +kernel
theorem dX11_read_19 : decode cX11_read 19 = .ok (.bipush 127, 2) := by decide +kernel
theorem dX11_read_21 : decode cX11_read 21 = .ok (.if_icmp .le 13, 3) := by decide +kernel
theorem dX11_read_24 : decode cX11_read 24 = .ok (.iload 4, 2) := by decide +kernel
theorem dX11_read_26 : decode cX11_read 26 = .ok (.bipush 126, 2) := by decide +kernel
theorem dX11_read_28 : decode cX11_read 28 = .ok (.isub, 1) := by decide +kernel
theorem dX11_read_29 : decode cX11_read 29 = .ok (.iconst 2, 1) := by decide +kernel
theorem dX11_read_30 : decode cX11_read 30 = .ok (.idiv, 1) := by decide +kernel
theorem dX11_read_31 : decode cX11_read 31 = .ok (.goto 5, 3) := by decide +kernel
theorem dX11_read_34 : decode cX11_read 34 = .ok (.iload 4, 2) := by decide +kernel
theorem dX11_read_36 : decode cX11_read 36 = .ok (.iadd, 1) := by decide +kernel
theorem dX11_read_37 : decode cX11_read 37 = .ok (.istore 5, 2) := by decide +kernel
theorem dX11_read_39 : decode cX11_read 39 = .ok (.iload 5, 2) := by decide +kernel
theorem dX11_read_41 : decode cX11_read 41 = .ok (.iload_n 3, 1) := by decide +kernel
theorem dX11_read_42 : decode cX11_read 42 = .ok (.if_icmp .le 5, 3) := by decide +kernel
theorem dX11_read_45 : decode cX11_read 45 = .ok (.iconst (-1), 1) := by decide +kernel
theorem dX11_read_46 : decode cX11_read 46 = .ok (.ireturn, 1) := by decide +kernel
theorem dX11_read_47 : decode cX11_read 47 = .ok (.iload 4, 2) := by decide +kernel
theorem dX11_read_49 : decode cX11_read 49 = .ok (.bipush 127, 2) := by decide +kernel
theorem dX11_read_51 : decode cX11_read 51 = .ok (.if_icmp .le 19, 3) := by decide +kernel
theorem dX11_read_54 : decode cX11_read 54 = .ok (.aload_n 0, 1) := by decide +kernel
theorem dX11_read_55 : decode cX11_read 55 = .ok (.aload_n 1, 1) := by decide +kernel
theorem dX11_read_56 : decode cX11_read 56 = .ok (.iload_n 2, 1) := by decide +kernel
theorem dX11_read_57 : decode cX11_read 57 = .ok (.iconst 1, 1) := by decide +kernel
theorem dX11_read_58 : decode cX11_read 58 = .ok (.iadd, 1) := by decide +kernel
theorem dX11_read_59 : decode cX11_read 59 = .ok (.iload 4, 2) := by decide +kernel
theorem dX11_read_61 : decode cX11_read 61 = .ok (.bipush 127, 2) := by decide +kernel
theorem dX11_read_63 : decode cX11_read 63 = .ok (.isub, 1) := by decide +kernel
theorem dX11_read_64 : decode cX11_read 64 = .ok (.invokevirtual 44, 3) := by decide +kernel
theorem dX11_read_67 : decode cX11_read 67 = .ok (.goto 52, 3) := by decide +kernel
theorem dX11_read_70 : decode cX11_read 70 = .ok (.aload_n 0, 1) := by decide +kernel
theorem dX11_read_71 : decode cX11_read 71 = .ok (.getfield 18, 3) := by decide +kernel
theorem dX11_read_74 : decode cX11_read 74 = .ok (.aload_n 1, 1) := by decide +kernel
theorem dX11_read_75 : decode cX11_read 75 = .ok (.iload_n 2, 1) := by decide +kernel
theorem dX11_read_76 : decode cX11_read 76 = .ok (.iconst 1, 1) := by decide +kernel
theorem dX11_read_77 : decode cX11_read 77 = .ok (.iadd, 1) := by decide +kernel
theorem dX11_read_78 : decode cX11_read 78 = .ok (.iload 5, 2) := by decide +kernel
theorem dX11_read_80 : decode cX11_read 80 = .ok (.sipush 255, 3) := by decide +kernel
theorem dX11_read_83 : decode cX11_read 83 = .ok (.bipush 6, 2) := by decide +kernel
theorem dX11_read_85 : decode cX11_read 85 = .ok (.invokevirtual 48, 3) := by decide +kernel
theorem dX11_read_88 : decode cX11_read 88 = .ok (.istore 6, 2) := by decide +kernel
theorem dX11_read_90 : decode cX11_read 90 = .ok (.iload 6, 2) := by decide +kernel
theorem dX11_read_92 : decode cX11_read 92 = .ok (.ifCond .lt 25, 3) := by decide +kernel
theorem dX11_read_95 : decode cX11_read 95 = .ok (.aload_n 0, 1) := by decide +kernel
theorem dX11_read_96 : decode cX11_read 96 = .ok (.getfield 25, 3) := by decide +kernel
theorem dX11_read_99 : decode cX11_read 99 = .ok (.aload_n 1, 1) := by decide +kernel
theorem dX11_read_100 : decode cX11_read 100 = .ok (.iload 6, 2) := by decide +kernel
theorem dX11_read_102 : decode cX11_read 102 = .ok (.iload 5, 2) := by decide +kernel
theorem dX11_read_104 : decode cX11_read 104 = .ok (.invokevirtual 52, 3) := by decide +kernel
theorem dX11_read_107 : decode cX11_read 107 = .ok (.ifCond .eq 10, 3) := by decide +kernel
theorem dX11_read_110 : decode cX11_read 110 = .ok (.aload_n 0, 1) := by decide +kernel
theorem dX11_read_111 : decode cX11_read 111 = .ok (.invokevirtual 56, 3) := by decide +kernel
theorem dX11_read_114 : decode cX11_read 114 = .ok (.ifCond .ne 5, 3) := by decide +kernel
theorem dX11_read_117 : decode cX11_read 117 = .ok (.iconst (-1), 1) := by decide +kernel
theorem dX11_read_118 : decode cX11_read 118 = .ok (.ireturn, 1) := by decide +kernel
theorem dX11_read_119 : decode cX11_read 119 = .ok (.aload_n 0, 1) := by decide +kernel
theorem dX11_read_120 : decode cX11_read 120 = .ok (.invokevirtual 60, 3) := by decide +kernel
theorem dX11_read_123 : decode cX11_read 123 = .ok (.ifCond .eq 8, 3) := by decide +kernel
theorem dX11_read_126 : decode cX11_read 126 = .ok (.iload 5, 2) := by decide +kernel
theorem dX11_read_128 : decode cX11_read 128 = .ok (.goto 4, 3) := by decide +kernel
theorem dX11_read_131 : decode cX11_read 131 = .ok (.iconst (-1), 1) := by decide +kernel
theorem dX11_read_132 : decode cX11_read 132 = .ok (.ireturn, 1) := by decide +kernel
theorem dX11_readHalves_0 : decode cX11_readHalves 0 = .ok (.aload_n 0, 1) := by decide +kernel
theorem dX11_readHalves_1 : decode cX11_readHalves 1 = .ok (.iload_n 3, 1) := by decide +kernel
theorem dX11_readHalves_2 : decode cX11_readHalves 2 = .ok (.sipush 255, 3) := by decide +kernel
theorem dX11_readHalves_5 : decode cX11_readHalves 5 = .ok (.invokestatic 63, 3) := by decide +kernel
theorem dX11_readHalves_8 : decode cX11_readHalves 8 = .ok (.putfield 69, 3) := by decide +kernel
theorem dX11_readHalves_11 : decode cX11_readHalves 11 = .ok (.iconst 0, 1) := by decide +kernel
theorem dX11_readHalves_12 : decode cX11_readHalves 12 = .ok (.istore 4, 2) := by decide +kernel
theorem dX11_readHalves_14 : decode cX11_readHalves 14 = .ok (.iload 4, 2) := by decide +kernel
theorem dX11_readHalves_16 : decode cX11_readHalves 16 = .ok (.aload_n 0, 1) := by decide +kernel
theorem dX11_readHalves_17 : decode cX11_readHalves 17 = .ok (.getfield 69, 3) := by decide +kernel
theorem dX11_readHalves_20 : decode cX11_readHalves 20 = .ok (.if_icmp .ge 42, 3) := by decide +kernel
theorem dX11_readHalves_23 : decode cX11_readHalves 23 = .ok (.aload_n 0, 1) := by decide +kernel
theorem dX11_readHalves_24 : decode cX11_readHalves 24 = .ok (.getfield 9, 3) := by decide +kernel
theorem dX11_readHalves_27 : decode cX11_readHalves 27 = .ok (.iload 4, 2) := by decide +kernel
theorem dX11_readHalves_29 : decode cX11_readHalves 29 = .ok (.aload_n 1, 1) := by decide +kernel
theorem dX11_readHalves_30 : decode cX11_readHalves 30 = .ok (.iload_n 2, 1) := by decide +kernel
theorem dX11_readHalves_31 : decode cX11_readHalves 31 = .ok (.iload 4, 2) := by decide +kernel
theorem dX11_readHalves_33 : decode cX11_readHalves 33 = .ok (.iconst 2, 1) := by decide +kernel
theorem dX11_readHalves_34 : decode cX11_readHalves 34 = .ok (.idiv, 1) := by decide +kernel
theorem dX11_readHalves_35 : decode cX11_readHalves 35 = .ok (.iadd, 1) := by decide +kernel
theorem dX11_readHalves_36 : decode cX11_readHalves 36 = .ok (.invokevirtual 38, 3) := by decide +kernel
theorem dX11_readHalves_39 : decode cX11_readHalves 39 = .ok (.iload 4, 2) := by decide +kernel
theorem dX11_readHalves_41 : decode cX11_readHalves 41 = .ok (.iconst 2, 1) := by decide +kernel
theorem dX11_readHalves_42 : decode cX11_readHalves 42 = .ok (.irem, 1) := by decide +kernel
theorem dX11_readHalves_43 : decode cX11_readHalves 43 = .ok (.ifCond .ne 7, 3) := by decide +kernel
theorem dX11_readHalves_46 : decode cX11_readHalves 46 = .ok (.iconst 4, 1) := by decide +kernel
theorem dX11_readHalves_47 : decode cX11_readHalves 47 = .ok (.goto 4, 3) := by decide +kernel
theorem dX11_readHalves_50 : decode cX11_readHalves 50 = .ok (.iconst 0, 1) := by decide +kernel
theorem dX11_readHalves_51 : decode cX11_readHalves 51 = .ok (.ishr, 1) := by decide +kernel
theorem dX11_readHalves_52 : decode cX11_readHalves 52 = .ok (.bipush 15, 2) := by decide +kernel
theorem dX11_readHalves_54 : decode cX11_readHalves 54 = .ok (.iand, 1) := by decide +kernel
theorem dX11_readHalves_55 : decode cX11_readHalves 55 = .ok (.iastore, 1) := by decide +kernel
theorem dX11_readHalves_56 : decode cX11_readHalves 56 = .ok (.iinc 4 1, 3) := by decide +kernel
theorem dX11_readHalves_59 : decode cX11_readHalves 59 = .ok (.goto (-45), 3) := by decide +kernel
theorem dX11_readHalves_62 : decode cX11_readHalves 62 = .ok (.return_, 1) := by decide +kernel
theorem dX11_readInTurn_0 : decode cX11_readInTurn 0 = .ok (.aload_n 0, 1) := by decide +kernel
theorem dX11_readInTurn_1 : decode cX11_readInTurn 1 = .ok (.getfield 25, 3) := by decide +kernel
theorem dX11_readInTurn_4 : decode cX11_readInTurn 4 = .ok (.aload_n 0, 1) := by decide +kernel
theorem dX11_readInTurn_5 : decode cX11_readInTurn 5 = .ok (.getfield 18, 3) := by decide +kernel
theorem dX11_readInTurn_8 : decode cX11_readInTurn 8 = .ok (.getfield 73, 3) := by decide +kernel
theorem dX11_readInTurn_11 : decode cX11_readInTurn 11 = .ok (.invokevirtual 76, 3) := by decide +kernel
theorem dX11_readInTurn_14 : decode cX11_readInTurn 14 = .ok (.l2i, 1) := by decide +kernel
theorem dX11_readInTurn_15 : decode cX11_readInTurn 15 = .ok (.istore_n 1, 1) := by decide +kernel
theorem dX11_readInTurn_16 : decode cX11_readInTurn 16 = .ok (.aload_n 0, 1) := by decide +kernel
theorem dX11_readInTurn_17 : decode cX11_readInTurn 17 = .ok (.getfield 25, 3) := by decide +kernel
theorem dX11_readInTurn_20 : decode cX11_readInTurn 20 = .ok (.aload_n 0, 1) := by decide +kernel
theorem dX11_readInTurn_21 : decode cX11_readInTurn 21 = .ok (.getfield 18, 3) := by decide +kernel
theorem dX11_readInTurn_24 : decode cX11_readInTurn 24 = .ok (.getfield 73, 3) := by decide +kernel
theorem dX11_readInTurn_27 : decode cX11_readInTurn 27 = .ok (.invokevirtual 76, 3) := by decide +kernel
theorem dX11_readInTurn_30 : decode cX11_readInTurn 30 = .ok (.l2i, 1) := by decide +kernel
theorem dX11_readInTurn_31 : decode cX11_readInTurn 31 = .ok (.istore_n 2, 1) := by decide +kernel
theorem dX11_readInTurn_32 : decode cX11_readInTurn 32 = .ok (.aload_n 0, 1) := by decide +kernel
theorem dX11_readInTurn_33 : decode cX11_readInTurn 33 = .ok (.getfield 25, 3) := by decide +kernel
theorem dX11_readInTurn_36 : decode cX11_readInTurn 36 = .ok (.getfield 80, 3) := by decide +kernel
theorem dX11_readInTurn_39 : decode cX11_readInTurn 39 = .ok (.ifCond .eq 5, 3) := by decide +kernel
theorem dX11_readInTurn_42 : decode cX11_readInTurn 42 = .ok (.iconst 0, 1) := by decide +kernel
theorem dX11_readInTurn_43 : decode cX11_readInTurn 43 = .ok (.ireturn, 1) := by decide +kernel
theorem dX11_readInTurn_44 : decode cX11_readInTurn 44 = .ok (.iconst 0, 1) := by decide +kernel
theorem dX11_readInTurn_45 : decode cX11_readInTurn 45 = .ok (.istore_n 3, 1) := by decide +kernel
theorem dX11_readInTurn_46 : decode cX11_readInTurn 46 = .ok (.iload_n 3, 1) := by decide +kernel
theorem dX11_readInTurn_47 : decode cX11_readInTurn 47 = .ok (.sipush 254, 3) := by decide +kernel
theorem dX11_readInTurn_50 : decode cX11_readInTurn 50 = .ok (.if_icmp .ge 93, 3) := by decide +kernel
theorem dX11_readInTurn_53 : decode cX11_readInTurn 53 = .ok (.aload_n 0, 1) := by decide +kernel
theorem dX11_readInTurn_54 : decode cX11_readInTurn 54 = .ok (.getfield 9, 3) := by decide +kernel
theorem dX11_readInTurn_57 : decode cX11_readInTurn 57 = .ok (.iload_n 3, 1) := by decide +kernel
theorem dX11_readInTurn_58 : decode cX11_readInTurn 58 = .ok (.aload_n 0, 1) := by decide +kernel
theorem dX11_readInTurn_59 : decode cX11_readInTurn 59 = .ok (.getfield 18, 3) := by decide +kernel
theorem dX11_readInTurn_62 : decode cX11_readInTurn 62 = .ok (.iload_n 1, 1) := by decide +kernel
theorem dX11_readInTurn_63 : decode cX11_readInTurn 63 = .ok (.invokevirtual 84, 3) := by decide +kernel
theorem dX11_readInTurn_66 : decode cX11_readInTurn 66 = .ok (.iastore, 1) := by decide +kernel
theorem dX11_readInTurn_67 : decode cX11_readInTurn 67 = .ok (.aload_n 0, 1) := by decide +kernel
theorem dX11_readInTurn_68 : decode cX11_readInTurn 68 = .ok (.iload_n 3, 1) := by decide +kernel
theorem dX11_readInTurn_69 : decode cX11_readInTurn 69 = .ok (.iconst 1, 1) := by decide +kernel
theorem dX11_readInTurn_70 : decode cX11_readInTurn 70 = .ok (.iadd, 1) := by decide +kernel
theorem dX11_readInTurn_71 : decode cX11_readInTurn 71 = .ok (.putfield 69, 3) := by decide +kernel
theorem dX11_readInTurn_74 : decode cX11_readInTurn 74 = .ok (.aload_n 0, 1) := by decide +kernel
theorem dX11_readInTurn_75 : decode cX11_readInTurn 75 = .ok (.getfield 18, 3) := by decide +kernel
theorem dX11_readInTurn_78 : decode cX11_readInTurn 78 = .ok (.iload_n 1, 1) := by decide +kernel
theorem dX11_readInTurn_79 : decode cX11_readInTurn 79 = .ok (.invokevirtual 87, 3) := by decide +kernel
theorem dX11_readInTurn_82 : decode cX11_readInTurn 82 = .ok (.aload_n 0, 1) := by decide +kernel
theorem dX11_readInTurn_83 : decode cX11_readInTurn 83 = .ok (.getfield 25, 3) := by decide +kernel
theorem dX11_readInTurn_86 : decode cX11_readInTurn 86 = .ok (.getfield 90, 3) := by decide +kernel
theorem dX11_readInTurn_89 : decode cX11_readInTurn 89 = .ok (.if_icmp .le 16, 3) := by decide +kernel
theorem dX11_readInTurn_92 : decode cX11_readInTurn 92 = .ok (.aload_n 0, 1) := by decide +kernel
theorem dX11_readInTurn_93 : decode cX11_readInTurn 93 = .ok (.aload_n 0, 1) := by decide +kernel
theorem dX11_readInTurn_94 : decode cX11_readInTurn 94 = .ok (.getfield 18, 3) := by decide +kernel
theorem dX11_readInTurn_97 : decode cX11_readInTurn 97 = .ok (.iload_n 2, 1) := by decide +kernel
theorem dX11_readInTurn_98 : decode cX11_readInTurn 98 = .ok (.invokevirtual 84, 3) := by decide +kernel
theorem dX11_readInTurn_101 : decode cX11_readInTurn 101 = .ok (.invokevirtual 93, 3) := by decide +kernel
theorem dX11_readInTurn_104 : decode cX11_readInTurn 104 = .ok (.ireturn, 1) := by decide +kernel
theorem dX11_readInTurn_105 : decode cX11_readInTurn 105 = .ok (.aload_n 0, 1) := by decide +kernel
theorem dX11_readInTurn_106 : decode cX11_readInTurn 106 = .ok (.getfield 18, 3) := by decide +kernel
theorem dX11_readInTurn_109 : decode cX11_readInTurn 109 = .ok (.iload_n 1, 1) := by decide +kernel
theorem dX11_readInTurn_110 : decode cX11_readInTurn 110 = .ok (.invokevirtual 97, 3) := by decide +kernel
theorem dX11_readInTurn_113 : decode cX11_readInTurn 113 = .ok (.aload_n 0, 1) := by decide +kernel
theorem dX11_readInTurn_114 : decode cX11_readInTurn 114 = .ok (.getfield 25, 3) := by decide +kernel
theorem dX11_readInTurn_117 : decode cX11_readInTurn 117 = .ok (.aload_n 0, 1) := by decide +kernel
theorem dX11_readInTurn_118 : decode cX11_readInTurn 118 = .ok (.getfield 18, 3) := by decide +kernel
theorem dX11_readInTurn_121 : decode cX11_readInTurn 121 = .ok (.iload_n 1, 1) := by decide +kernel
theorem dX11_readInTurn_122 : decode cX11_readInTurn 122 = .ok (.invokevirtual 87, 3) := by decide +kernel
theorem dX11_readInTurn_125 : decode cX11_readInTurn 125 = .ok (.invokevirtual 76, 3) := by decide +kernel
theorem dX11_readInTurn_128 : decode cX11_readInTurn 128 = .ok (.l2i, 1) := by decide +kernel
theorem dX11_readInTurn_129 : decode cX11_readInTurn 129 = .ok (.iadd, 1) := by decide +kernel
theorem dX11_readInTurn_130 : decode cX11_readInTurn 130 = .ok (.istore 4, 2) := by decide +kernel
theorem dX11_readInTurn_132 : decode cX11_readInTurn 132 = .ok (.iload_n 2, 1) := by decide +kernel
theorem dX11_readInTurn_133 : decode cX11_readInTurn 133 = .ok (.istore_n 1, 1) := by decide +kernel
theorem dX11_readInTurn_134 : decode cX11_readInTurn 134 = .ok (.iload 4, 2) := by decide +kernel
theorem dX11_readInTurn_136 : decode cX11_readInTurn 136 = .ok (.istore_n 2, 1) := by decide +kernel
theorem dX11_readInTurn_137 : decode cX11_readInTurn 137 = .ok (.iinc 3 1, 3) := by decide +kernel
theorem dX11_readInTurn_140 : decode cX11_readInTurn 140 = .ok (.goto (-94), 3) := by decide +kernel
theorem dX11_readInTurn_143 : decode cX11_readInTurn 143 = .ok (.iconst 0, 1) := by decide +kernel
theorem dX11_readInTurn_144 : decode cX11_readInTurn 144 = .ok (.ireturn, 1) := by decide +kernel
theorem dX11_endWith_0 : decode cX11_endWith 0 = .ok (.aload_n 0, 1) := by decide +kernel
theorem dX11_endWith_1 : decode cX11_endWith 1 = .ok (.getfield 9, 3) := by decide +kernel
theorem dX11_endWith_4 : decode cX11_endWith 4 = .ok (.aload_n 0, 1) := by decide +kernel
theorem dX11_endWith_5 : decode cX11_endWith 5 = .ok (.getfield 69, 3) := by decide +kernel
theorem dX11_endWith_8 : decode cX11_endWith 8 = .ok (.sipush 255, 3) := by decide +kernel
theorem dX11_endWith_11 : decode cX11_endWith 11 = .ok (.invokestatic 63, 3) := by decide +kernel
theorem dX11_endWith_14 : decode cX11_endWith 14 = .ok (.iload_n 1, 1) := by decide +kernel
theorem dX11_endWith_15 : decode cX11_endWith 15 = .ok (.iastore, 1) := by decide +kernel
theorem dX11_endWith_16 : decode cX11_endWith 16 = .ok (.aload_n 0, 1) := by decide +kernel
theorem dX11_endWith_17 : decode cX11_endWith 17 = .ok (.dup, 1) := by decide +kernel
theorem dX11_endWith_18 : decode cX11_endWith 18 = .ok (.getfield 69, 3) := by decide +kernel
theorem dX11_endWith_21 : decode cX11_endWith 21 = .ok (.iconst 1, 1) := by decide +kernel
theorem dX11_endWith_22 : decode cX11_endWith 22 = .ok (.iadd, 1) := by decide +kernel
theorem dX11_endWith_23 : decode cX11_endWith 23 = .ok (.putfield 69, 3) := by decide +kernel
theorem dX11_endWith_26 : decode cX11_endWith 26 = .ok (.iconst 1, 1) := by decide +kernel
theorem dX11_endWith_27 : decode cX11_endWith 27 = .ok (.ireturn, 1) := by decide +kernel
theorem dX11_complete_0 : decode cX11_complete 0 = .ok (.iconst 0, 1) := by decide +kernel
theorem dX11_complete_1 : decode cX11_complete 1 = .ok (.istore_n 1, 1) := by decide +kernel
theorem dX11_complete_2 : decode cX11_complete 2 = .ok (.iconst 0, 1) := by decide +kernel
theorem dX11_complete_3 : decode cX11_complete 3 = .ok (.istore_n 2, 1) := by decide +kernel
theorem dX11_complete_4 : decode cX11_complete 4 = .ok (.iload_n 2, 1) := by decide +kernel
theorem dX11_complete_5 : decode cX11_complete 5 = .ok (.aload_n 0, 1) := by decide +kernel
theorem dX11_complete_6 : decode cX11_complete 6 = .ok (.getfield 69, 3) := by decide +kernel
theorem dX11_complete_9 : decode cX11_complete 9 = .ok (.if_icmp .ge 48, 3) := by decide +kernel
theorem dX11_complete_12 : decode cX11_complete 12 = .ok (.aload_n 0, 1) := by decide +kernel
theorem dX11_complete_13 : decode cX11_complete 13 = .ok (.getfield 9, 3) := by decide +kernel
theorem dX11_complete_16 : decode cX11_complete 16 = .ok (.iload_n 2, 1) := by decide +kernel
theorem dX11_complete_17 : decode cX11_complete 17 = .ok (.iaload, 1) := by decide +kernel
theorem dX11_complete_18 : decode cX11_complete 18 = .ok (.bipush 11, 2) := by decide +kernel
theorem dX11_complete_20 : decode cX11_complete 20 = .ok (.if_icmp .le 5, 3) := by decide +kernel
theorem dX11_complete_23 : decode cX11_complete 23 = .ok (.iconst 0, 1) := by decide +kernel
theorem dX11_complete_24 : decode cX11_complete 24 = .ok (.ireturn, 1) := by decide +kernel
theorem dX11_complete_25 : decode cX11_complete 25 = .ok (.iload_n 1, 1) := by decide +kernel
theorem dX11_complete_26 : decode cX11_complete 26 = .ok (.aload_n 0, 1) := by decide +kernel
theorem dX11_complete_27 : decode cX11_complete 27 = .ok (.getfield 9, 3) := by decide +kernel
theorem dX11_complete_30 : decode cX11_complete 30 = .ok (.iload_n 2, 1) := by decide +kernel
theorem dX11_complete_31 : decode cX11_complete 31 = .ok (.iaload, 1) := by decide +kernel
theorem dX11_complete_32 : decode cX11_complete 32 = .ok (.ifCond .ne 7, 3) := by decide +kernel
theorem dX11_complete_35 : decode cX11_complete 35 = .ok (.iconst 0, 1) := by decide +kernel
theorem dX11_complete_36 : decode cX11_complete 36 = .ok (.goto 13, 3) := by decide +kernel
theorem dX11_complete_39 : decode cX11_complete 39 = .ok (.iconst 1, 1) := by decide +kernel
theorem dX11_complete_40 : decode cX11_complete 40 = .ok (.aload_n 0, 1) := by decide +kernel
theorem dX11_complete_41 : decode cX11_complete 41 = .ok (.getfield 9, 3) := by decide +kernel
theorem dX11_complete_44 : decode cX11_complete 44 = .ok (.iload_n 2, 1) := by decide +kernel
theorem dX11_complete_45 : decode cX11_complete 45 = .ok (.iaload, 1) := by decide +kernel
theorem dX11_complete_46 : decode cX11_complete 46 = .ok (.iconst 1, 1) := by decide +kernel
theorem dX11_complete_47 : decode cX11_complete 47 = .ok (.isub, 1) := by decide +kernel
theorem dX11_complete_48 : decode cX11_complete 48 = .ok (.ishl, 1) := by decide +kernel
theorem dX11_complete_49 : decode cX11_complete 49 = .ok (.iadd, 1) := by decide +kernel
theorem dX11_complete_50 : decode cX11_complete 50 = .ok (.istore_n 1, 1) := by decide +kernel
theorem dX11_complete_51 : decode cX11_complete 51 = .ok (.iinc 2 1, 3) := by decide +kernel
theorem dX11_complete_54 : decode cX11_complete 54 = .ok (.goto (-50), 3) := by decide +kernel
theorem dX11_complete_57 : decode cX11_complete 57 = .ok (.aload_n 0, 1) := by decide +kernel
theorem dX11_complete_58 : decode cX11_complete 58 = .ok (.iload_n 1, 1) := by decide +kernel
theorem dX11_complete_59 : decode cX11_complete 59 = .ok (.i2l, 1) := by decide +kernel
theorem dX11_complete_60 : decode cX11_complete 60 = .ok (.invokestatic 100, 3) := by decide +kernel
theorem dX11_complete_63 : decode cX11_complete 63 = .ok (.iconst 1, 1) := by decide +kernel
theorem dX11_complete_64 : decode cX11_complete 64 = .ok (.iadd, 1) := by decide +kernel
theorem dX11_complete_65 : decode cX11_complete 65 = .ok (.putfield 104, 3) := by decide +kernel
theorem dX11_complete_68 : decode cX11_complete 68 = .ok (.iconst 1, 1) := by decide +kernel
theorem dX11_complete_69 : decode cX11_complete 69 = .ok (.aload_n 0, 1) := by decide +kernel
theorem dX11_complete_70 : decode cX11_complete 70 = .ok (.getfield 104, 3) := by decide +kernel
theorem dX11_complete_73 : decode cX11_complete 73 = .ok (.ishl, 1) := by decide +kernel
theorem dX11_complete_74 : decode cX11_complete 74 = .ok (.iload_n 1, 1) := by decide +kernel
theorem dX11_complete_75 : decode cX11_complete 75 = .ok (.isub, 1) := by decide +kernel
theorem dX11_complete_76 : decode cX11_complete 76 = .ok (.istore_n 2, 1) := by decide +kernel
theorem dX11_complete_77 : decode cX11_complete 77 = .ok (.iload_n 1, 1) := by decide +kernel
theorem dX11_complete_78 : decode cX11_complete 78 = .ok (.ifCond .eq 20, 3) := by decide +kernel
theorem dX11_complete_81 : decode cX11_complete 81 = .ok (.aload_n 0, 1) := by decide +kernel
theorem dX11_complete_82 : decode cX11_complete 82 = .ok (.getfield 104, 3) := by decide +kernel
theorem dX11_complete_85 : decode cX11_complete 85 = .ok (.bipush 11, 2) := by decide +kernel
theorem dX11_complete_87 : decode cX11_complete 87 = .ok (.if_icmp .gt 11, 3) := by decide +kernel
theorem dX11_complete_90 : decode cX11_complete 90 = .ok (.iload_n 2, 1) := by decide +kernel
theorem dX11_complete_91 : decode cX11_complete 91 = .ok (.iload_n 2, 1) := by decide +kernel
theorem dX11_complete_92 : decode cX11_complete 92 = .ok (.iconst 1, 1) := by decide +kernel
theorem dX11_complete_93 : decode cX11_complete 93 = .ok (.isub, 1) := by decide +kernel
theorem dX11_complete_94 : decode cX11_complete 94 = .ok (.iand, 1) := by decide +kernel
theorem dX11_complete_95 : decode cX11_complete 95 = .ok (.ifCond .eq 5, 3) := by decide +kernel
theorem dX11_complete_98 : decode cX11_complete 98 = .ok (.iconst 0, 1) := by decide +kernel
theorem dX11_complete_99 : decode cX11_complete 99 = .ok (.ireturn, 1) := by decide +kernel
theorem dX11_complete_100 : decode cX11_complete 100 = .ok (.aload_n 0, 1) := by decide +kernel
theorem dX11_complete_101 : decode cX11_complete 101 = .ok (.iload_n 2, 1) := by decide +kernel
theorem dX11_complete_102 : decode cX11_complete 102 = .ok (.i2l, 1) := by decide +kernel
theorem dX11_complete_103 : decode cX11_complete 103 = .ok (.invokestatic 100, 3) := by decide +kernel
theorem dX11_complete_106 : decode cX11_complete 106 = .ok (.iconst 1, 1) := by decide +kernel
theorem dX11_complete_107 : decode cX11_complete 107 = .ok (.iadd, 1) := by decide +kernel
theorem dX11_complete_108 : decode cX11_complete 108 = .ok (.invokevirtual 93, 3) := by decide +kernel
theorem dX11_complete_111 : decode cX11_complete 111 = .ok (.ireturn, 1) := by decide +kernel
theorem dX11_make_0 : decode cX11_make 0 = .ok (.aload_n 0, 1) := by decide +kernel
theorem dX11_make_1 : decode cX11_make 1 = .ok (.getfield 29, 3) := by decide +kernel
theorem dX11_make_4 : decode cX11_make 4 = .ok (.iconst 0, 1) := by decide +kernel
theorem dX11_make_5 : decode cX11_make 5 = .ok (.invokestatic 107, 3) := by decide +kernel
theorem dX11_make_8 : decode cX11_make 8 = .ok (.iconst 0, 1) := by decide +kernel
theorem dX11_make_9 : decode cX11_make 9 = .ok (.istore_n 2, 1) := by decide +kernel
theorem dX11_make_10 : decode cX11_make 10 = .ok (.iload_n 2, 1) := by decide +kernel
theorem dX11_make_11 : decode cX11_make 11 = .ok (.aload_n 1, 1) := by decide +kernel
theorem dX11_make_12 : decode cX11_make 12 = .ok (.getfield 113, 3) := by decide +kernel
theorem dX11_make_15 : decode cX11_make 15 = .ok (.if_icmp .ge 26, 3) := by decide +kernel
theorem dX11_make_18 : decode cX11_make 18 = .ok (.aload_n 0, 1) := by decide +kernel
theorem dX11_make_19 : decode cX11_make 19 = .ok (.getfield 29, 3) := by decide +kernel
theorem dX11_make_22 : decode cX11_make 22 = .ok (.aload_n 1, 1) := by decide +kernel
theorem dX11_make_23 : decode cX11_make 23 = .ok (.iload_n 2, 1) := by decide +kernel
theorem dX11_make_24 : decode cX11_make 24 = .ok (.invokevirtual 38, 3) := by decide +kernel
theorem dX11_make_27 : decode cX11_make 27 = .ok (.bipush 127, 2) := by decide +kernel
theorem dX11_make_29 : decode cX11_make 29 = .ok (.iand, 1) := by decide +kernel
theorem dX11_make_30 : decode cX11_make 30 = .ok (.dup2, 1) := by decide +kernel
theorem dX11_make_31 : decode cX11_make 31 = .ok (.iaload, 1) := by decide +kernel
theorem dX11_make_32 : decode cX11_make 32 = .ok (.iconst 1, 1) := by decide +kernel
theorem dX11_make_33 : decode cX11_make 33 = .ok (.iadd, 1) := by decide +kernel
theorem dX11_make_34 : decode cX11_make 34 = .ok (.iastore, 1) := by decide +kernel
theorem dX11_make_35 : decode cX11_make 35 = .ok (.iinc 2 1, 3) := by decide +kernel
theorem dX11_make_38 : decode cX11_make 38 = .ok (.goto (-28), 3) := by decide +kernel
theorem dX11_make_41 : decode cX11_make 41 = .ok (.aload_n 0, 1) := by decide +kernel
theorem dX11_make_42 : decode cX11_make 42 = .ok (.aload_n 0, 1) := by decide +kernel
theorem dX11_make_43 : decode cX11_make 43 = .ok (.invokevirtual 114, 3) := by decide +kernel
theorem dX11_make_46 : decode cX11_make 46 = .ok (.putfield 104, 3) := by decide +kernel
theorem dX11_make_49 : decode cX11_make 49 = .ok (.iconst 0, 1) := by decide +kernel
theorem dX11_make_50 : decode cX11_make 50 = .ok (.istore_n 2, 1) := by decide +kernel
theorem dX11_make_51 : decode cX11_make 51 = .ok (.iload_n 2, 1) := by decide +kernel
theorem dX11_make_52 : decode cX11_make 52 = .ok (.bipush 32, 2) := by decide +kernel
theorem dX11_make_54 : decode cX11_make 54 = .ok (.if_icmp .ge 57, 3) := by decide +kernel
theorem dX11_make_57 : decode cX11_make 57 = .ok (.aload_n 0, 1) := by decide +kernel
theorem dX11_make_58 : decode cX11_make 58 = .ok (.getfield 104, 3) := by decide +kernel
theorem dX11_make_61 : decode cX11_make 61 = .ok (.bipush 11, 2) := by decide +kernel
theorem dX11_make_63 : decode cX11_make 63 = .ok (.if_icmp .le 48, 3) := by decide +kernel
theorem dX11_make_66 : decode cX11_make 66 = .ok (.iconst 0, 1) := by decide +kernel
theorem dX11_make_67 : decode cX11_make 67 = .ok (.istore_n 3, 1) := by decide +kernel
theorem dX11_make_68 : decode cX11_make 68 = .ok (.iload_n 3, 1) := by decide +kernel
theorem dX11_make_69 : decode cX11_make 69 = .ok (.sipush 128, 3) := by decide +kernel
theorem dX11_make_72 : decode cX11_make 72 = .ok (.if_icmp .ge 25, 3) := by decide +kernel
theorem dX11_make_75 : decode cX11_make 75 = .ok (.aload_n 0, 1) := by decide +kernel
theorem dX11_make_76 : decode cX11_make 76 = .ok (.getfield 29, 3) := by decide +kernel
theorem dX11_make_79 : decode cX11_make 79 = .ok (.iload_n 3, 1) := by decide +kernel
theorem dX11_make_80 : decode cX11_make 80 = .ok (.aload_n 0, 1) := by decide +kernel
theorem dX11_make_81 : decode cX11_make 81 = .ok (.getfield 29, 3) := by decide +kernel
theorem dX11_make_84 : decode cX11_make 84 = .ok (.iload_n 3, 1) := by decide +kernel
theorem dX11_make_85 : decode cX11_make 85 = .ok (.iaload, 1) := by decide +kernel
theorem dX11_make_86 : decode cX11_make 86 = .ok (.iconst 1, 1) := by decide +kernel
theorem dX11_make_87 : decode cX11_make 87 = .ok (.iadd, 1) := by decide +kernel
theorem dX11_make_88 : decode cX11_make 88 = .ok (.iconst 2, 1) := by decide +kernel
theorem dX11_make_89 : decode cX11_make 89 = .ok (.idiv, 1) := by decide +kernel
theorem dX11_make_90 : decode cX11_make 90 = .ok (.iastore, 1) := by decide +kernel
theorem dX11_make_91 : decode cX11_make 91 = .ok (.iinc 3 1, 3) := by decide +kernel
theorem dX11_make_94 : decode cX11_make 94 = .ok (.goto (-26), 3) := by decide +kernel
theorem dX11_make_97 : decode cX11_make 97 = .ok (.aload_n 0, 1) := by decide +kernel
theorem dX11_make_98 : decode cX11_make 98 = .ok (.aload_n 0, 1) := by decide +kernel
theorem dX11_make_99 : decode cX11_make 99 = .ok (.invokevirtual 114, 3) := by decide +kernel
theorem dX11_make_102 : decode cX11_make 102 = .ok (.putfield 104, 3) := by decide +kernel
theorem dX11_make_105 : decode cX11_make 105 = .ok (.iinc 2 1, 3) := by decide +kernel
theorem dX11_make_108 : decode cX11_make 108 = .ok (.goto (-57), 3) := by decide +kernel
theorem dX11_make_111 : decode cX11_make 111 = .ok (.aload_n 0, 1) := by decide +kernel
theorem dX11_make_112 : decode cX11_make 112 = .ok (.iconst 0, 1) := by decide +kernel
theorem dX11_make_113 : decode cX11_make 113 = .ok (.putfield 69, 3) := by decide +kernel
theorem dX11_make_116 : decode cX11_make 116 = .ok (.iconst 0, 1) := by decide +kernel
theorem dX11_make_117 : decode cX11_make 117 = .ok (.istore_n 2, 1) := by decide +kernel
theorem dX11_make_118 : decode cX11_make 118 = .ok (.iload_n 2, 1) := by decide +kernel
theorem dX11_make_119 : decode cX11_make 119 = .ok (.sipush 128, 3) := by decide +kernel
theorem dX11_make_122 : decode cX11_make 122 = .ok (.if_icmp .ge 64, 3) := by decide +kernel
theorem dX11_make_125 : decode cX11_make 125 = .ok (.aload_n 0, 1) := by decide +kernel
theorem dX11_make_126 : decode cX11_make 126 = .ok (.getfield 9, 3) := by decide +kernel
theorem dX11_make_129 : decode cX11_make 129 = .ok (.iload_n 2, 1) := by decide +kernel
theorem dX11_make_130 : decode cX11_make 130 = .ok (.aload_n 0, 1) := by decide +kernel
theorem dX11_make_131 : decode cX11_make 131 = .ok (.getfield 29, 3) := by decide +kernel
theorem dX11_make_134 : decode cX11_make 134 = .ok (.iload_n 2, 1) := by decide +kernel
theorem dX11_make_135 : decode cX11_make 135 = .ok (.iaload, 1) := by decide +kernel
theorem dX11_make_136 : decode cX11_make 136 = .ok (.ifCond .ne 7, 3) := by decide +kernel
theorem dX11_make_139 : decode cX11_make 139 = .ok (.iconst 0, 1) := by decide +kernel
theorem dX11_make_140 : decode cX11_make 140 = .ok (.goto 16, 3) := by decide +kernel
theorem dX11_make_143 : decode cX11_make 143 = .ok (.aload_n 0, 1) := by decide +kernel
theorem dX11_make_144 : decode cX11_make 144 = .ok (.getfield 104, 3) := by decide +kernel
theorem dX11_make_147 : decode cX11_make 147 = .ok (.iconst 1, 1) := by decide +kernel
theorem dX11_make_148 : decode cX11_make 148 = .ok (.iadd, 1) := by decide +kernel
theorem dX11_make_149 : decode cX11_make 149 = .ok (.aload_n 0, 1) := by decide +kernel
theorem dX11_make_150 : decode cX11_make 150 = .ok (.getfield 35, 3) := by decide +kernel
theorem dX11_make_153 : decode cX11_make 153 = .ok (.iload_n 2, 1) := by decide +kernel
theorem dX11_make_154 : decode cX11_make 154 = .ok (.iaload, 1) := by decide +kernel
theorem dX11_make_155 : decode cX11_make 155 = .ok (.isub, 1) := by decide +kernel
theorem dX11_make_156 : decode cX11_make 156 = .ok (.iastore, 1) := by decide +kernel
theorem dX11_make_157 : decode cX11_make 157 = .ok (.aload_n 0, 1) := by decide +kernel
theorem dX11_make_158 : decode cX11_make 158 = .ok (.aload_n 0, 1) := by decide +kernel
theorem dX11_make_159 : decode cX11_make 159 = .ok (.getfield 29, 3) := by decide +kernel
theorem dX11_make_162 : decode cX11_make 162 = .ok (.iload_n 2, 1) := by decide +kernel
theorem dX11_make_163 : decode cX11_make 163 = .ok (.iaload, 1) := by decide +kernel
theorem dX11_make_164 : decode cX11_make 164 = .ok (.ifCond .ne 10, 3) := by decide +kernel
theorem dX11_make_167 : decode cX11_make 167 = .ok (.aload_n 0, 1) := by decide +kernel
theorem dX11_make_168 : decode cX11_make 168 = .ok (.getfield 69, 3) := by decide +kernel
theorem dX11_make_171 : decode cX11_make 171 = .ok (.goto 6, 3) := by decide +kernel
theorem dX11_make_174 : decode cX11_make 174 = .ok (.iload_n 2, 1) := by decide +kernel
theorem dX11_make_175 : decode cX11_make 175 = .ok (.iconst 1, 1) := by decide +kernel
theorem dX11_make_176 : decode cX11_make 176 = .ok (.iadd, 1) := by decide +kernel
theorem dX11_make_177 : decode cX11_make 177 = .ok (.putfield 69, 3) := by decide +kernel
theorem dX11_make_180 : decode cX11_make 180 = .ok (.iinc 2 1, 3) := by decide +kernel
theorem dX11_make_183 : decode cX11_make 183 = .ok (.goto (-65), 3) := by decide +kernel
theorem dX11_make_186 : decode cX11_make 186 = .ok (.return_, 1) := by decide +kernel
theorem dX11_join_0 : decode cX11_join 0 = .ok (.aload_n 0, 1) := by decide +kernel
theorem dX11_join_1 : decode cX11_join 1 = .ok (.getfield 32, 3) := by decide +kernel
theorem dX11_join_4 : decode cX11_join 4 = .ok (.iconst (-1), 1) := by decide +kernel
theorem dX11_join_5 : decode cX11_join 5 = .ok (.invokestatic 107, 3) := by decide +kernel
theorem dX11_join_8 : decode cX11_join 8 = .ok (.iconst 0, 1) := by decide +kernel
theorem dX11_join_9 : decode cX11_join 9 = .ok (.istore_n 1, 1) := by decide +kernel
theorem dX11_join_10 : decode cX11_join 10 = .ok (.sipush 128, 3) := by decide +kernel
theorem dX11_join_13 : decode cX11_join 13 = .ok (.istore_n 2, 1) := by decide +kernel
theorem dX11_join_14 : decode cX11_join 14 = .ok (.iload_n 2, 1) := by decide +kernel
theorem dX11_join_15 : decode cX11_join 15 = .ok (.sipush 256, 3) := by decide +kernel
theorem dX11_join_18 : decode cX11_join 18 = .ok (.if_icmp .ge 74, 3) := by decide +kernel
theorem dX11_join_21 : decode cX11_join 21 = .ok (.aload_n 0, 1) := by decide +kernel
theorem dX11_join_22 : decode cX11_join 22 = .ok (.iload_n 2, 1) := by decide +kernel
theorem dX11_join_23 : decode cX11_join 23 = .ok (.invokevirtual 118, 3) := by decide +kernel
theorem dX11_join_26 : decode cX11_join 26 = .ok (.istore_n 3, 1) := by decide +kernel
theorem dX11_join_27 : decode cX11_join 27 = .ok (.iload_n 3, 1) := by decide +kernel
theorem dX11_join_28 : decode cX11_join 28 = .ok (.ifCond .ge 6, 3) := by decide +kernel
theorem dX11_join_31 : decode cX11_join 31 = .ok (.goto 61, 3) := by decide +kernel
theorem dX11_join_34 : decode cX11_join 34 = .ok (.aload_n 0, 1) := by decide +kernel
theorem dX11_join_35 : decode cX11_join 35 = .ok (.getfield 32, 3) := by decide +kernel
theorem dX11_join_38 : decode cX11_join 38 = .ok (.iload_n 3, 1) := by decide +kernel
theorem dX11_join_39 : decode cX11_join 39 = .ok (.iload_n 2, 1) := by decide +kernel
theorem dX11_join_40 : decode cX11_join 40 = .ok (.iastore, 1) := by decide +kernel
theorem dX11_join_41 : decode cX11_join 41 = .ok (.aload_n 0, 1) := by decide +kernel
theorem dX11_join_42 : decode cX11_join 42 = .ok (.iload_n 2, 1) := by decide +kernel
theorem dX11_join_43 : decode cX11_join 43 = .ok (.invokevirtual 118, 3) := by decide +kernel
theorem dX11_join_46 : decode cX11_join 46 = .ok (.istore 4, 2) := by decide +kernel
theorem dX11_join_48 : decode cX11_join 48 = .ok (.iload 4, 2) := by decide +kernel
theorem dX11_join_50 : decode cX11_join 50 = .ok (.ifCond .ge 6, 3) := by decide +kernel
theorem dX11_join_53 : decode cX11_join 53 = .ok (.goto 39, 3) := by decide +kernel
theorem dX11_join_56 : decode cX11_join 56 = .ok (.aload_n 0, 1) := by decide +kernel
theorem dX11_join_57 : decode cX11_join 57 = .ok (.getfield 32, 3) := by decide +kernel
theorem dX11_join_60 : decode cX11_join 60 = .ok (.iload 4, 2) := by decide +kernel
theorem dX11_join_62 : decode cX11_join 62 = .ok (.iload_n 2, 1) := by decide +kernel
theorem dX11_join_63 : decode cX11_join 63 = .ok (.iastore, 1) := by decide +kernel
theorem dX11_join_64 : decode cX11_join 64 = .ok (.aload_n 0, 1) := by decide +kernel
theorem dX11_join_65 : decode cX11_join 65 = .ok (.getfield 29, 3) := by decide +kernel
theorem dX11_join_68 : decode cX11_join 68 = .ok (.iload_n 2, 1) := by decide +kernel
theorem dX11_join_69 : decode cX11_join 69 = .ok (.aload_n 0, 1) := by decide +kernel
theorem dX11_join_70 : decode cX11_join 70 = .ok (.getfield 29, 3) := by decide +kernel
theorem dX11_join_73 : decode cX11_join 73 = .ok (.iload_n 3, 1) := by decide +kernel
theorem dX11_join_74 : decode cX11_join 74 = .ok (.iaload, 1) := by decide +kernel
theorem dX11_join_75 : decode cX11_join 75 = .ok (.aload_n 0, 1) := by decide +kernel
theorem dX11_join_76 : decode cX11_join 76 = .ok (.getfield 29, 3) := by decide +kernel
theorem dX11_join_79 : decode cX11_join 79 = .ok (.iload 4, 2) := by decide +kernel
theorem dX11_join_81 : decode cX11_join 81 = .ok (.iaload, 1) := by decide +kernel
theorem dX11_join_82 : decode cX11_join 82 = .ok (.iadd, 1) := by decide +kernel
theorem dX11_join_83 : decode cX11_join 83 = .ok (.iastore, 1) := by decide +kernel
theorem dX11_join_84 : decode cX11_join 84 = .ok (.iload_n 2, 1) := by decide +kernel
theorem dX11_join_85 : decode cX11_join 85 = .ok (.istore_n 1, 1) := by decide +kernel
theorem dX11_join_86 : decode cX11_join 86 = .ok (.iinc 2 1, 3) := by decide +kernel
theorem dX11_join_89 : decode cX11_join 89 = .ok (.goto (-75), 3) := by decide +kernel
theorem dX11_join_92 : decode cX11_join 92 = .ok (.iconst 0, 1) := by decide +kernel
theorem dX11_join_93 : decode cX11_join 93 = .ok (.istore_n 2, 1) := by decide +kernel
theorem dX11_join_94 : decode cX11_join 94 = .ok (.iload_n 1, 1) := by decide +kernel
theorem dX11_join_95 : decode cX11_join 95 = .ok (.istore_n 3, 1) := by decide +kernel
theorem dX11_join_96 : decode cX11_join 96 = .ok (.iload_n 3, 1) := by decide +kernel
theorem dX11_join_97 : decode cX11_join 97 = .ok (.ifCond .lt 78, 3) := by decide +kernel
theorem dX11_join_100 : decode cX11_join 100 = .ok (.iload_n 3, 1) := by decide +kernel
theorem dX11_join_101 : decode cX11_join 101 = .ok (.iload_n 1, 1) := by decide +kernel
theorem dX11_join_102 : decode cX11_join 102 = .ok (.if_icmp .eq 25, 3) := by decide +kernel
theorem dX11_join_105 : decode cX11_join 105 = .ok (.aload_n 0, 1) := by decide +kernel
theorem dX11_join_106 : decode cX11_join 106 = .ok (.getfield 29, 3) := by decide +kernel
theorem dX11_join_109 : decode cX11_join 109 = .ok (.iload_n 3, 1) := by decide +kernel
theorem dX11_join_110 : decode cX11_join 110 = .ok (.iaload, 1) := by decide +kernel
theorem dX11_join_111 : decode cX11_join 111 = .ok (.ifCond .le 16, 3) := by decide +kernel
theorem dX11_join_114 : decode cX11_join 114 = .ok (.aload_n 0, 1) := by decide +kernel
theorem dX11_join_115 : decode cX11_join 115 = .ok (.getfield 32, 3) := by decide +kernel
theorem dX11_join_118 : decode cX11_join 118 = .ok (.iload_n 3, 1) := by decide +kernel
theorem dX11_join_119 : decode cX11_join 119 = .ok (.iaload, 1) := by decide +kernel
theorem dX11_join_120 : decode cX11_join 120 = .ok (.ifCond .lt 7, 3) := by decide +kernel
theorem dX11_join_123 : decode cX11_join 123 = .ok (.iconst 1, 1) := by decide +kernel
theorem dX11_join_124 : decode cX11_join 124 = .ok (.goto 4, 3) := by decide +kernel
theorem dX11_join_127 : decode cX11_join 127 = .ok (.iconst 0, 1) := by decide +kernel
theorem dX11_join_128 : decode cX11_join 128 = .ok (.istore 4, 2) := by decide +kernel
theorem dX11_join_130 : decode cX11_join 130 = .ok (.aload_n 0, 1) := by decide +kernel
theorem dX11_join_131 : decode cX11_join 131 = .ok (.getfield 35, 3) := by decide +kernel
theorem dX11_join_134 : decode cX11_join 134 = .ok (.iload_n 3, 1) := by decide +kernel
theorem dX11_join_135 : decode cX11_join 135 = .ok (.iload 4, 2) := by decide +kernel
theorem dX11_join_137 : decode cX11_join 137 = .ok (.ifCond .eq 19, 3) := by decide +kernel
theorem dX11_join_140 : decode cX11_join 140 = .ok (.aload_n 0, 1) := by decide +kernel
theorem dX11_join_141 : decode cX11_join 141 = .ok (.getfield 35, 3) := by decide +kernel
theorem dX11_join_144 : decode cX11_join 144 = .ok (.aload_n 0, 1) := by decide +kernel
theorem dX11_join_145 : decode cX11_join 145 = .ok (.getfield 32, 3) := by decide +kernel
theorem dX11_join_148 : decode cX11_join 148 = .ok (.iload_n 3, 1) := by decide +kernel
theorem dX11_join_149 : decode cX11_join 149 = .ok (.iaload, 1) := by decide +kernel
theorem dX11_join_150 : decode cX11_join 150 = .ok (.iaload, 1) := by decide +kernel
theorem dX11_join_151 : decode cX11_join 151 = .ok (.iconst 1, 1) := by decide +kernel
theorem dX11_join_152 : decode cX11_join 152 = .ok (.iadd, 1) := by decide +kernel
theorem dX11_join_153 : decode cX11_join 153 = .ok (.goto 4, 3) := by decide +kernel
theorem dX11_join_156 : decode cX11_join 156 = .ok (.iconst 0, 1) := by decide +kernel
theorem dX11_join_157 : decode cX11_join 157 = .ok (.iastore, 1) := by decide +kernel
theorem dX11_join_158 : decode cX11_join 158 = .ok (.iload_n 2, 1) := by decide +kernel
theorem dX11_join_159 : decode cX11_join 159 = .ok (.aload_n 0, 1) := by decide +kernel
theorem dX11_join_160 : decode cX11_join 160 = .ok (.getfield 35, 3) := by decide +kernel
theorem dX11_join_163 : decode cX11_join 163 = .ok (.iload_n 3, 1) := by decide +kernel
theorem dX11_join_164 : decode cX11_join 164 = .ok (.iaload, 1) := by decide +kernel
theorem dX11_join_165 : decode cX11_join 165 = .ok (.invokestatic 121, 3) := by decide +kernel
theorem dX11_join_168 : decode cX11_join 168 = .ok (.istore_n 2, 1) := by decide +kernel
theorem dX11_join_169 : decode cX11_join 169 = .ok (.iinc 3 (-1), 3) := by decide +kernel
theorem dX11_join_172 : decode cX11_join 172 = .ok (.goto (-76), 3) := by decide +kernel
theorem dX11_join_175 : decode cX11_join 175 = .ok (.iload_n 2, 1) := by decide +kernel
theorem dX11_join_176 : decode cX11_join 176 = .ok (.ireturn, 1) := by decide +kernel
theorem dX11_least_0 : decode cX11_least 0 = .ok (.iconst (-1), 1) := by decide +kernel
theorem dX11_least_1 : decode cX11_least 1 = .ok (.istore_n 2, 1) := by decide +kernel
theorem dX11_least_2 : decode cX11_least 2 = .ok (.iconst 0, 1) := by decide +kernel
theorem dX11_least_3 : decode cX11_least 3 = .ok (.istore_n 3, 1) := by decide +kernel
theorem dX11_least_4 : decode cX11_least 4 = .ok (.iload_n 3, 1) := by decide +kernel
theorem dX11_least_5 : decode cX11_least 5 = .ok (.iload_n 1, 1) := by decide +kernel
theorem dX11_least_6 : decode cX11_least 6 = .ok (.if_icmp .ge 48, 3) := by decide +kernel
theorem dX11_least_9 : decode cX11_least 9 = .ok (.aload_n 0, 1) := by decide +kernel
theorem dX11_least_10 : decode cX11_least 10 = .ok (.getfield 29, 3) := by decide +kernel
theorem dX11_least_13 : decode cX11_least 13 = .ok (.iload_n 3, 1) := by decide +kernel
theorem dX11_least_14 : decode cX11_least 14 = .ok (.iaload, 1) := by decide +kernel
theorem dX11_least_15 : decode cX11_least 15 = .ok (.ifCond .le 33, 3) := by decide +kernel
theorem dX11_least_18 : decode cX11_least 18 = .ok (.aload_n 0, 1) := by decide +kernel
theorem dX11_least_19 : decode cX11_least 19 = .ok (.getfield 32, 3) := by decide +kernel
theorem dX11_least_22 : decode cX11_least 22 = .ok (.iload_n 3, 1) := by decide +kernel
theorem dX11_least_23 : decode cX11_least 23 = .ok (.iaload, 1) := by decide +kernel
theorem dX11_least_24 : decode cX11_least 24 = .ok (.ifCond .ge 24, 3) := by decide +kernel
theorem dX11_least_27 : decode cX11_least 27 = .ok (.iload_n 2, 1) := by decide +kernel
theorem dX11_least_28 : decode cX11_least 28 = .ok (.ifCond .lt 18, 3) := by decide +kernel
theorem dX11_least_31 : decode cX11_least 31 = .ok (.aload_n 0, 1) := by decide +kernel
theorem dX11_least_32 : decode cX11_least 32 = .ok (.getfield 29, 3) := by decide +kernel
theorem dX11_least_35 : decode cX11_least 35 = .ok (.iload_n 3, 1) := by decide +kernel
theorem dX11_least_36 : decode cX11_least 36 = .ok (.iaload, 1) := by decide +kernel
theorem dX11_least_37 : decode cX11_least 37 = .ok (.aload_n 0, 1) := by decide +kernel
theorem dX11_least_38 : decode cX11_least 38 = .ok (.getfield 29, 3) := by decide +kernel
theorem dX11_least_41 : decode cX11_least 41 = .ok (.iload_n 2, 1) := by decide +kernel
theorem dX11_least_42 : decode cX11_least 42 = .ok (.iaload, 1) := by decide +kernel
theorem dX11_least_43 : decode cX11_least 43 = .ok (.if_icmp .ge 5, 3) := by decide +kernel
theorem dX11_least_46 : decode cX11_least 46 = .ok (.iload_n 3, 1) := by decide +kernel
theorem dX11_least_47 : decode cX11_least 47 = .ok (.istore_n 2, 1) := by decide +kernel
theorem dX11_least_48 : decode cX11_least 48 = .ok (.iinc 3 1, 3) := by decide +kernel
theorem dX11_least_51 : decode cX11_least 51 = .ok (.goto (-47), 3) := by decide +kernel
theorem dX11_least_54 : decode cX11_least 54 = .ok (.iload_n 2, 1) := by decide +kernel
theorem dX11_least_55 : decode cX11_least 55 = .ok (.ireturn, 1) := by decide +kernel
theorem dX12_init_0 : decode cX12_init 0 = .ok (.aload_n 0, 1) := by decide +kernel
theorem dX12_init_1 : decode cX12_init 1 = .ok (.invokespecial 3, 3) := by decide +kernel
theorem dX12_init_4 : decode cX12_init 4 = .ok (.aload_n 0, 1) := by decide +kernel
theorem dX12_init_5 : decode cX12_init 5 = .ok (.new 9, 3) := by decide +kernel
theorem dX12_init_8 : decode cX12_init 8 = .ok (.dup, 1) := by decide +kernel
theorem dX12_init_9 : decode cX12_init 9 = .ok (.sipush 8000, 3) := by decide +kernel
theorem dX12_init_12 : decode cX12_init 12 = .ok (.invokespecial 11, 3) := by decide +kernel
theorem dX12_init_15 : decode cX12_init 15 = .ok (.putfield 14, 3) := by decide +kernel
theorem dX12_init_18 : decode cX12_init 18 = .ok (.aload_n 0, 1) := by decide +kernel
theorem dX12_init_19 : decode cX12_init 19 = .ok (.new 9, 3) := by decide +kernel
theorem dX12_init_22 : decode cX12_init 22 = .ok (.dup, 1) := by decide +kernel
theorem dX12_init_23 : decode cX12_init 23 = .ok (.sipush 8000, 3) := by decide +kernel
theorem dX12_init_26 : decode cX12_init 26 = .ok (.invokespecial 11, 3) := by decide +kernel
theorem dX12_init_29 : decode cX12_init 29 = .ok (.putfield 18, 3) := by decide +kernel
theorem dX12_init_32 : decode cX12_init 32 = .ok (.aload_n 0, 1) := by decide +kernel
theorem dX12_init_33 : decode cX12_init 33 = .ok (.new 9, 3) := by decide +kernel
theorem dX12_init_36 : decode cX12_init 36 = .ok (.dup, 1) := by decide +kernel
theorem dX12_init_37 : decode cX12_init 37 = .ok (.sipush 8000, 3) := by decide +kernel
theorem dX12_init_40 : decode cX12_init 40 = .ok (.invokespecial 11, 3) := by decide +kernel
theorem dX12_init_43 : decode cX12_init 43 = .ok (.putfield 21, 3) := by decide +kernel
theorem dX12_init_46 : decode cX12_init 46 = .ok (.aload_n 0, 1) := by decide +kernel
theorem dX12_init_47 : decode cX12_init 47 = .ok (.new 24, 3) := by decide +kernel
theorem dX12_init_50 : decode cX12_init 50 = .ok (.dup, 1) := by decide +kernel
theorem dX12_init_51 : decode cX12_init 51 = .ok (.invokespecial 26, 3) := by decide +kernel
theorem dX12_init_54 : decode cX12_init 54 = .ok (.putfield 27, 3) := by decide +kernel
theorem dX12_init_57 : decode cX12_init 57 = .ok (.aload_n 0, 1) := by decide +kernel
theorem dX12_init_58 : decode cX12_init 58 = .ok (.new 31, 3) := by decide +kernel
theorem dX12_init_61 : decode cX12_init 61 = .ok (.dup, 1) := by decide +kernel
theorem dX12_init_62 : decode cX12_init 62 = .ok (.invokespecial 33, 3) := by decide +kernel
theorem dX12_init_65 : decode cX12_init 65 = .ok (.putfield 34, 3) := by decide +kernel
theorem dX12_init_68 : decode cX12_init 68 = .ok (.aload_n 0, 1) := by decide +kernel
theorem dX12_init_69 : decode cX12_init 69 = .ok (.iconst 3, 1) := by decide +kernel
theorem dX12_init_70 : decode cX12_init 70 = .ok (.anewarray 38, 3) := by decide +kernel
theorem dX12_init_73 : decode cX12_init 73 = .ok (.putfield 40, 3) := by decide +kernel
theorem dX12_init_76 : decode cX12_init 76 = .ok (.aload_n 0, 1) := by decide +kernel
theorem dX12_init_77 : decode cX12_init 77 = .ok (.iconst (-1), 1) := by decide +kernel
theorem dX12_init_78 : decode cX12_init 78 = .ok (.putfield 44, 3) := by decide +kernel
theorem dX12_init_81 : decode cX12_init 81 = .ok (.iconst 0, 1) := by decide +kernel
theorem dX12_init_82 : decode cX12_init 82 = .ok (.istore_n 1, 1) := by decide +kernel
theorem dX12_init_83 : decode cX12_init 83 = .ok (.iload_n 1, 1) := by decide +kernel
theorem dX12_init_84 : decode cX12_init 84 = .ok (.aload_n 0, 1) := by decide +kernel
theorem dX12_init_85 : decode cX12_init 85 = .ok (.getfield 40, 3) := by decide +kernel
theorem dX12_init_88 : decode cX12_init 88 = .ok (.arraylength, 1) := by decide +kernel
theorem dX12_init_89 : decode cX12_init 89 = .ok (.if_icmp .ge 22, 3) := by decide +kernel
theorem dX12_init_92 : decode cX12_init 92 = .ok (.aload_n 0, 1) := by decide +kernel
theorem dX12_init_93 : decode cX12_init 93 = .ok (.getfield 40, 3) := by decide +kernel
theorem dX12_init_96 : decode cX12_init 96 = .ok (.iload_n 1, 1) := by decide +kernel
theorem dX12_init_97 : decode cX12_init 97 = .ok (.new 38, 3) := by decide +kernel
theorem dX12_init_100 : decode cX12_init 100 = .ok (.dup, 1) := by decide +kernel
theorem dX12_init_101 : decode cX12_init 101 = .ok (.invokespecial 48, 3) := by decide +kernel
theorem dX12_init_104 : decode cX12_init 104 = .ok (.aastore, 1) := by decide +kernel
theorem dX12_init_105 : decode cX12_init 105 = .ok (.iinc 1 1, 3) := by decide +kernel
theorem dX12_init_108 : decode cX12_init 108 = .ok (.goto (-25), 3) := by decide +kernel
theorem dX12_init_111 : decode cX12_init 111 = .ok (.iconst 3, 1) := by decide +kernel
theorem dX12_init_112 : decode cX12_init 112 = .ok (.anewarray 49, 3) := by decide +kernel
theorem dX12_init_115 : decode cX12_init 115 = .ok (.astore_n 1, 1) := by decide +kernel
theorem dX12_init_116 : decode cX12_init 116 = .ok (.iconst 0, 1) := by decide +kernel
theorem dX12_init_117 : decode cX12_init 117 = .ok (.istore_n 2, 1) := by decide +kernel
theorem dX12_init_118 : decode cX12_init 118 = .ok (.iload_n 2, 1) := by decide +kernel
theorem dX12_init_119 : decode cX12_init 119 = .ok (.iconst 3, 1) := by decide +kernel
theorem dX12_init_120 : decode cX12_init 120 = .ok (.if_icmp .ge 26, 3) := by decide +kernel
theorem dX12_init_123 : decode cX12_init 123 = .ok (.aload_n 1, 1) := by decide +kernel
theorem dX12_init_124 : decode cX12_init 124 = .ok (.iload_n 2, 1) := by decide +kernel
theorem dX12_init_125 : decode cX12_init 125 = .ok (.new 49, 3) := by decide +kernel
theorem dX12_init_128 : decode cX12_init 128 = .ok (.dup, 1) := by decide +kernel
theorem dX12_init_129 : decode cX12_init 129 = .ok (.invokespecial 51, 3) := by decide +kernel
theorem dX12_init_132 : decode cX12_init 132 = .ok (.aastore, 1) := by decide +kernel
theorem dX12_init_133 : decode cX12_init 133 = .ok (.aload_n 1, 1) := by decide +kernel
theorem dX12_init_134 : decode cX12_init 134 = .ok (.iload_n 2, 1) := by decide +kernel
theorem dX12_init_135 : decode cX12_init 135 = .ok (.aaload, 1) := by decide +kernel
theorem dX12_init_136 : decode cX12_init 136 = .ok (.iload_n 2, 1) := by decide +kernel
theorem dX12_init_137 : decode cX12_init 137 = .ok (.invokevirtual 52, 3) := by decide +kernel
theorem dX12_init_140 : decode cX12_init 140 = .ok (.iinc 2 1, 3) := by decide +kernel
theorem dX12_init_143 : decode cX12_init 143 = .ok (.goto (-25), 3) := by decide +kernel
theorem dX12_init_146 : decode cX12_init 146 = .ok (.aload_n 0, 1) := by decide +kernel
theorem dX12_init_147 : decode cX12_init 147 = .ok (.new 55, 3) := by decide +kernel
theorem dX12_init_150 : decode cX12_init 150 = .ok (.dup, 1) := by decide +kernel
theorem dX12_init_151 : decode cX12_init 151 = .ok (.aload_n 0, 1) := by decide +kernel
theorem dX12_init_152 : decode cX12_init 152 = .ok (.getfield 34, 3) := by decide +kernel
theorem dX12_init_155 : decode cX12_init 155 = .ok (.aload_n 0, 1) := by decide +kernel
theorem dX12_init_156 : decode cX12_init 156 = .ok (.getfield 27, 3) := by decide +kernel
theorem dX12_init_159 : decode cX12_init 159 = .ok (.aload_n 1, 1) := by decide +kernel
theorem dX12_init_160 : decode cX12_init 160 = .ok (.invokespecial 57, 3) := by decide +kernel
theorem dX12_init_163 : decode cX12_init 163 = .ok (.putfield 60, 3) := by decide +kernel
theorem dX12_init_166 : decode cX12_init 166 = .ok (.aload_n 0, 1) := by decide +kernel
theorem dX12_init_167 : decode cX12_init 167 = .ok (.new 64, 3) := by decide +kernel
theorem dX12_init_170 : decode cX12_init 170 = .ok (.dup, 1) := by decide +kernel
theorem dX12_init_171 : decode cX12_init 171 = .ok (.aload_n 0, 1) := by decide +kernel
theorem dX12_init_172 : decode cX12_init 172 = .ok (.getfield 27, 3) := by decide +kernel
theorem dX12_init_175 : decode cX12_init 175 = .ok (.aload_n 1, 1) := by decide +kernel
theorem dX12_init_176 : decode cX12_init 176 = .ok (.invokespecial 66, 3) := by decide +kernel
theorem dX12_init_179 : decode cX12_init 179 = .ok (.putfield 69, 3) := by decide +kernel
theorem dX12_init_182 : decode cX12_init 182 = .ok (.return_, 1) := by decide +kernel
theorem dX12_feed_0 : decode cX12_feed 0 = .ok (.iload_n 3, 1) := by decide +kernel
theorem dX12_feed_1 : decode cX12_feed 1 = .ok (.ifCond .lt 9, 3) := by decide +kernel
theorem dX12_feed_4 : decode cX12_feed 4 = .ok (.iload_n 3, 1) := by decide +kernel
theorem dX12_feed_5 : decode cX12_feed 5 = .ok (.bipush 8, 2) := by decide +kernel
theorem dX12_feed_7 : decode cX12_feed 7 = .ok (.if_icmp .le 6, 3) := by decide +kernel
theorem dX12_feed_10 : decode cX12_feed 10 = .ok (.bipush (-2), 2) := by decide +kernel
theorem dX12_feed_12 : decode cX12_feed 12 = .ok (.ireturn, 1) := by decide +kernel
theorem dX12_feed_13 : decode cX12_feed 13 = .ok (.iload_n 3, 1) := by decide +kernel
theorem dX12_feed_14 : decode cX12_feed 14 = .ok (.sipush 8000, 3) := by decide +kernel
theorem dX12_feed_17 : decode cX12_feed 17 = .ok (.aload_n 0, 1) := by decide +kernel
theorem dX12_feed_18 : decode cX12_feed 18 = .ok (.getfield 14, 3) := by decide +kernel
theorem dX12_feed_21 : decode cX12_feed 21 = .ok (.getfield 73, 3) := by decide +kernel
theorem dX12_feed_24 : decode cX12_feed 24 = .ok (.isub, 1) := by decide +kernel
theorem dX12_feed_25 : decode cX12_feed 25 = .ok (.if_icmp .le 6, 3) := by decide +kernel
theorem dX12_feed_28 : decode cX12_feed 28 = .ok (.bipush (-4), 2) := by decide +kernel
theorem dX12_feed_30 : decode cX12_feed 30 = .ok (.ireturn, 1) := by decide +kernel
theorem dX12_feed_31 : decode cX12_feed 31 = .ok (.iload_n 3, 1) := by decide +kernel
theorem dX12_feed_32 : decode cX12_feed 32 = .ok (.ifCond .ne 11, 3) := by decide +kernel
theorem dX12_feed_35 : decode cX12_feed 35 = .ok (.aload_n 0, 1) := by decide +kernel
theorem dX12_feed_36 : decode cX12_feed 36 = .ok (.getfield 14, 3) := by decide +kernel
theorem dX12_feed_39 : decode cX12_feed 39 = .ok (.iconst 0, 1) := by decide +kernel
theorem dX12_feed_40 : decode cX12_feed 40 = .ok (.putfield 73, 3) := by decide +kernel
theorem dX12_feed_43 : decode cX12_feed 43 = .ok (.iload_n 3, 1) := by decide +kernel
theorem dX12_feed_44 : decode cX12_feed 44 = .ok (.iconst 1, 1) := by decide +kernel
theorem dX12_feed_45 : decode cX12_feed 45 = .ok (.isub, 1) := by decide +kernel
theorem dX12_feed_46 : decode cX12_feed 46 = .ok (.istore 4, 2) := by decide +kernel
theorem dX12_feed_48 : decode cX12_feed 48 = .ok (.iload 4, 2) := by decide +kernel
theorem dX12_feed_50 : decode cX12_feed 50 = .ok (.ifCond .lt 24, 3) := by decide +kernel
theorem dX12_feed_53 : decode cX12_feed 53 = .ok (.aload_n 0, 1) := by decide +kernel
theorem dX12_feed_54 : decode cX12_feed 54 = .ok (.getfield 14, 3) := by decide +kernel
theorem dX12_feed_57 : decode cX12_feed 57 = .ok (.lload_n 1, 1) := by decide +kernel
theorem dX12_feed_58 : decode cX12_feed 58 = .ok (.bipush 8, 2) := by decide +kernel
theorem dX12_feed_60 : decode cX12_feed 60 = .ok (.iload 4, 2) := by decide +kernel
theorem dX12_feed_62 : decode cX12_feed 62 = .ok (.imul, 1) := by decide +kernel
theorem dX12_feed_63 : decode cX12_feed 63 = .ok (.lushr, 1) := by decide +kernel
theorem dX12_feed_64 : decode cX12_feed 64 = .ok (.l2i, 1) := by decide +kernel
theorem dX12_feed_65 : decode cX12_feed 65 = .ok (.invokevirtual 76, 3) := by decide +kernel
theorem dX12_feed_68 : decode cX12_feed 68 = .ok (.iinc 4 (-1), 3) := by decide +kernel
theorem dX12_feed_71 : decode cX12_feed 71 = .ok (.goto (-23), 3) := by decide +kernel
theorem dX12_feed_74 : decode cX12_feed 74 = .ok (.aload_n 0, 1) := by decide +kernel
theorem dX12_feed_75 : decode cX12_feed 75 = .ok (.getfield 14, 3) := by decide +kernel
theorem dX12_feed_78 : decode cX12_feed 78 = .ok (.getfield 73, 3) := by decide +kernel
theorem dX12_feed_81 : decode cX12_feed 81 = .ok (.ireturn, 1) := by decide +kernel
theorem dX12_fill_0 : decode cX12_fill 0 = .ok (.iload_n 1, 1) := by decide +kernel
theorem dX12_fill_1 : decode cX12_fill 1 = .ok (.ifCond .lt 13, 3) := by decide +kernel
theorem dX12_fill_4 : decode cX12_fill 4 = .ok (.iload_n 3, 1) := by decide +kernel
theorem dX12_fill_5 : decode cX12_fill 5 = .ok (.ifCond .lt 9, 3) := by decide +kernel
theorem dX12_fill_8 : decode cX12_fill 8 = .ok (.iload_n 3, 1) := by decide +kernel
theorem dX12_fill_9 : decode cX12_fill 9 = .ok (.bipush 7, 2) := by decide +kernel
theorem dX12_fill_11 : decode cX12_fill 11 = .ok (.if_icmp .le 6, 3) := by decide +kernel
theorem dX12_fill_14 : decode cX12_fill 14 = .ok (.bipush (-2), 2) := by decide +kernel
theorem dX12_fill_16 : decode cX12_fill 16 = .ok (.ireturn, 1) := by decide +kernel
theorem dX12_fill_17 : decode cX12_fill 17 = .ok (.iload_n 1, 1) := by decide +kernel
theorem dX12_fill_18 : decode cX12_fill 18 = .ok (.sipush 8000, 3) := by decide +kernel
theorem dX12_fill_21 : decode cX12_fill 21 = .ok (.aload_n 0, 1) := by decide +kernel
theorem dX12_fill_22 : decode cX12_fill 22 = .ok (.getfield 14, 3) := by decide +kernel
theorem dX12_fill_25 : decode cX12_fill 25 = .ok (.getfield 73, 3) := by decide +kernel
theorem dX12_fill_28 : decode cX12_fill 28 = .ok (.isub, 1) := by decide +kernel
theorem dX12_fill_29 : decode cX12_fill 29 = .ok (.if_icmp .le 6, 3) := by decide +kernel
theorem dX12_fill_32 : decode cX12_fill 32 = .ok (.bipush (-4), 2) := by decide +kernel
theorem dX12_fill_34 : decode cX12_fill 34 = .ok (.ireturn, 1) := by decide +kernel
theorem dX12_fill_35 : decode cX12_fill 35 = .ok (.iload_n 2, 1) := by decide +kernel
theorem dX12_fill_36 : decode cX12_fill 36 = .ok (.istore 4, 2) := by decide +kernel
theorem dX12_fill_38 : decode cX12_fill 38 = .ok (.iconst 0, 1) := by decide +kernel
theorem dX12_fill_39 : decode cX12_fill 39 = .ok (.istore 5, 2) := by decide +kernel
theorem dX12_fill_41 : decode cX12_fill 41 = .ok (.iload 5, 2) := by decide +kernel
theorem dX12_fill_43 : decode cX12_fill 43 = .ok (.iload_n 1, 1) := by decide +kernel
theorem dX12_fill_44 : decode cX12_fill 44 = .ok (.if_icmp .ge 33, 3) := by decide +kernel
theorem dX12_fill_47 : decode cX12_fill 47 = .ok (.iload 4, 2) := by decide +kernel
theorem dX12_fill_49 : decode cX12_fill 49 = .ok (.ldc 79, 2) := by decide +kernel
theorem dX12_fill_51 : decode cX12_fill 51 = .ok (.imul, 1) := by decide +kernel
theorem dX12_fill_52 : decode cX12_fill 52 = .ok (.ldc 80, 2) := by decide +kernel
theorem dX12_fill_54 : decode cX12_fill 54 = .ok (.iadd, 1) := by decide +kernel
theorem dX12_fill_55 : decode cX12_fill 55 = .ok (.istore 4, 2) := by decide +kernel
theorem dX12_fill_57 : decode cX12_fill 57 = .ok (.aload_n 0, 1) := by decide +kernel
theorem dX12_fill_58 : decode cX12_fill 58 = .ok (.getfield 14, 3) := by decide +kernel
theorem dX12_fill_61 : decode cX12_fill 61 = .ok (.iload 4, 2) := by decide +kernel
theorem dX12_fill_63 : decode cX12_fill 63 = .ok (.bipush 24, 2) := by decide +kernel
theorem dX12_fill_65 : decode cX12_fill 65 = .ok (.iushr, 1) := by decide +kernel
theorem dX12_fill_66 : decode cX12_fill 66 = .ok (.iload_n 3, 1) := by decide +kernel
theorem dX12_fill_67 : decode cX12_fill 67 = .ok (.iushr, 1) := by decide +kernel
theorem dX12_fill_68 : decode cX12_fill 68 = .ok (.invokevirtual 76, 3) := by decide +kernel
theorem dX12_fill_71 : decode cX12_fill 71 = .ok (.iinc 5 1, 3) := by decide +kernel
theorem dX12_fill_74 : decode cX12_fill 74 = .ok (.goto (-33), 3) := by decide +kernel
theorem dX12_fill_77 : decode cX12_fill 77 = .ok (.aload_n 0, 1) := by decide +kernel
theorem dX12_fill_78 : decode cX12_fill 78 = .ok (.getfield 14, 3) := by decide +kernel
theorem dX12_fill_81 : decode cX12_fill 81 = .ok (.getfield 73, 3) := by decide +kernel
theorem dX12_fill_84 : decode cX12_fill 84 = .ok (.ireturn, 1) := by decide +kernel
theorem dX12_size_0 : decode cX12_size 0 = .ok (.aload_n 0, 1) := by decide +kernel
theorem dX12_size_1 : decode cX12_size 1 = .ok (.getfield 14, 3) := by decide +kernel
theorem dX12_size_4 : decode cX12_size 4 = .ok (.getfield 73, 3) := by decide +kernel
theorem dX12_size_7 : decode cX12_size 7 = .ok (.ireturn, 1) := by decide +kernel
theorem dX12_set_0 : decode cX12_set 0 = .ok (.iload_n 1, 1) := by decide +kernel
theorem dX12_set_1 : decode cX12_set 1 = .ok (.ifCond .lt 25, 3) := by decide +kernel
theorem dX12_set_4 : decode cX12_set 4 = .ok (.iload_n 1, 1) := by decide +kernel
theorem dX12_set_5 : decode cX12_set 5 = .ok (.aload_n 0, 1) := by decide +kernel
theorem dX12_set_6 : decode cX12_set 6 = .ok (.getfield 14, 3) := by decide +kernel
theorem dX12_set_9 : decode cX12_set 9 = .ok (.getfield 73, 3) := by decide +kernel
theorem dX12_set_12 : decode cX12_set 12 = .ok (.if_icmp .ge 14, 3) := by decide +kernel
theorem dX12_set_15 : decode cX12_set 15 = .ok (.iload_n 2, 1) := by decide +kernel
theorem dX12_set_16 : decode cX12_set 16 = .ok (.ifCond .lt 10, 3) := by decide +kernel
theorem dX12_set_19 : decode cX12_set 19 = .ok (.iload_n 2, 1) := by decide +kernel
theorem dX12_set_20 : decode cX12_set 20 = .ok (.sipush 255, 3) := by decide +kernel
theorem dX12_set_23 : decode cX12_set 23 = .ok (.if_icmp .le 6, 3) := by decide +kernel
theorem dX12_set_26 : decode cX12_set 26 = .ok (.bipush (-2), 2) := by decide +kernel
theorem dX12_set_28 : decode cX12_set 28 = .ok (.ireturn, 1) := by decide +kernel
theorem dX12_set_29 : decode cX12_set 29 = .ok (.aload_n 0, 1) := by decide +kernel
theorem dX12_set_30 : decode cX12_set 30 = .ok (.getfield 14, 3) := by decide +kernel
theorem dX12_set_33 : decode cX12_set 33 = .ok (.iload_n 1, 1) := by decide +kernel
theorem dX12_set_34 : decode cX12_set 34 = .ok (.invokevirtual 81, 3) := by decide +kernel
theorem dX12_set_37 : decode cX12_set 37 = .ok (.istore_n 3, 1) := by decide +kernel
theorem dX12_set_38 : decode cX12_set 38 = .ok (.aload_n 0, 1) := by decide +kernel
theorem dX12_set_39 : decode cX12_set 39 = .ok (.getfield 14, 3) := by decide +kernel
theorem dX12_set_42 : decode cX12_set 42 = .ok (.iload_n 1, 1) := by decide +kernel
theorem dX12_set_43 : decode cX12_set 43 = .ok (.iload_n 2, 1) := by decide +kernel
theorem dX12_set_44 : decode cX12_set 44 = .ok (.invokevirtual 85, 3) := by decide +kernel
theorem dX12_set_47 : decode cX12_set 47 = .ok (.iload_n 3, 1) := by decide +kernel
theorem dX12_set_48 : decode cX12_set 48 = .ok (.ireturn, 1) := by decide +kernel
theorem dX12_cut_0 : decode cX12_cut 0 = .ok (.iload_n 1, 1) := by decide +kernel
theorem dX12_cut_1 : decode cX12_cut 1 = .ok (.ifCond .lt 14, 3) := by decide +kernel
theorem dX12_cut_4 : decode cX12_cut 4 = .ok (.iload_n 1, 1) := by decide +kernel
theorem dX12_cut_5 : decode cX12_cut 5 = .ok (.aload_n 0, 1) := by decide +kernel
theorem dX12_cut_6 : decode cX12_cut 6 = .ok (.getfield 14, 3) := by decide +kernel
theorem dX12_cut_9 : decode cX12_cut 9 = .ok (.getfield 73, 3) := by decide +kernel
theorem dX12_cut_12 : decode cX12_cut 12 = .ok (.if_icmp .le 6, 3) := by decide +kernel
theorem dX12_cut_15 : decode cX12_cut 15 = .ok (.bipush (-2), 2) := by decide +kernel
theorem dX12_cut_17 : decode cX12_cut 17 = .ok (.ireturn, 1) := by decide +kernel
theorem dX12_cut_18 : decode cX12_cut 18 = .ok (.aload_n 0, 1) := by decide +kernel
theorem dX12_cut_19 : decode cX12_cut 19 = .ok (.getfield 14, 3) := by decide +kernel
theorem dX12_cut_22 : decode cX12_cut 22 = .ok (.getfield 73, 3) := by decide +kernel
theorem dX12_cut_25 : decode cX12_cut 25 = .ok (.istore_n 2, 1) := by decide +kernel
theorem dX12_cut_26 : decode cX12_cut 26 = .ok (.aload_n 0, 1) := by decide +kernel
theorem dX12_cut_27 : decode cX12_cut 27 = .ok (.getfield 14, 3) := by decide +kernel
theorem dX12_cut_30 : decode cX12_cut 30 = .ok (.iload_n 1, 1) := by decide +kernel
theorem dX12_cut_31 : decode cX12_cut 31 = .ok (.putfield 73, 3) := by decide +kernel
theorem dX12_cut_34 : decode cX12_cut 34 = .ok (.iload_n 2, 1) := by decide +kernel
theorem dX12_cut_35 : decode cX12_cut 35 = .ok (.ireturn, 1) := by decide +kernel
theorem dX12_again_0 : decode cX12_again 0 = .ok (.iload_n 1, 1) := by decide +kernel
theorem dX12_again_1 : decode cX12_again 1 = .ok (.ifCond .lt 31, 3) := by decide +kernel
theorem dX12_again_4 : decode cX12_again 4 = .ok (.iload_n 2, 1) := by decide +kernel
theorem dX12_again_5 : decode cX12_again 5 = .ok (.ifCond .lt 27, 3) := by decide +kernel
theorem dX12_again_8 : decode cX12_again 8 = .ok (.iload_n 1, 1) := by decide +kernel
theorem dX12_again_9 : decode cX12_again 9 = .ok (.aload_n 0, 1) := by decide +kernel
theorem dX12_again_10 : decode cX12_again 10 = .ok (.getfield 14, 3) := by decide +kernel
theorem dX12_again_13 : decode cX12_again 13 = .ok (.getfield 73, 3) := by decide +kernel
theorem dX12_again_16 : decode cX12_again 16 = .ok (.if_icmp .gt 16, 3) := by decide +kernel
theorem dX12_again_19 : decode cX12_again 19 = .ok (.iload_n 2, 1) := by decide +kernel
theorem dX12_again_20 : decode cX12_again 20 = .ok (.aload_n 0, 1) := by decide +kernel
theorem dX12_again_21 : decode cX12_again 21 = .ok (.getfield 14, 3) := by decide +kernel
theorem dX12_again_24 : decode cX12_again 24 = .ok (.getfield 73, 3) := by decide +kernel
theorem dX12_again_27 : decode cX12_again 27 = .ok (.iload_n 1, 1) := by decide +kernel
theorem dX12_again_28 : decode cX12_again 28 = .ok (.isub, 1) := by decide +kernel
theorem dX12_again_29 : decode cX12_again 29 = .ok (.if_icmp .le 6, 3) := by decide +kernel
theorem dX12_again_32 : decode cX12_again 32 = .ok (.bipush (-2), 2) := by decide +kernel
theorem dX12_again_34 : decode cX12_again 34 = .ok (.ireturn, 1) := by decide +kernel
theorem dX12_again_35 : decode cX12_again 35 = .ok (.iload_n 2, 1) := by decide +kernel
theorem dX12_again_36 : decode cX12_again 36 = .ok (.sipush 8000, 3) := by decide +kernel
theorem dX12_again_39 : decode cX12_again 39 = .ok (.aload_n 0, 1) := by decide +kernel
theorem dX12_again_40 : decode cX12_again 40 = .ok (.getfield 14, 3) := by decide +kernel
theorem dX12_again_43 : decode cX12_again 43 = .ok (.getfield 73, 3) := by decide +kernel
theorem dX12_again_46 : decode cX12_again 46 = .ok (.isub, 1) := by decide +kernel
theorem dX12_again_47 : decode cX12_again 47 = .ok (.if_icmp .le 6, 3) := by decide +kernel
theorem dX12_again_50 : decode cX12_again 50 = .ok (.bipush (-4), 2) := by decide +kernel
theorem dX12_again_52 : decode cX12_again 52 = .ok (.ireturn, 1) := by decide +kernel
theorem dX12_again_53 : decode cX12_again 53 = .ok (.aload_n 0, 1) := by decide +kernel
theorem dX12_again_54 : decode cX12_again 54 = .ok (.getfield 14, 3) := by decide +kernel
theorem dX12_again_57 : decode cX12_again 57 = .ok (.aload_n 0, 1) := by decide +kernel
theorem dX12_again_58 : decode cX12_again 58 = .ok (.getfield 14, 3) := by decide +kernel
theorem dX12_again_61 : decode cX12_again 61 = .ok (.iload_n 1, 1) := by decide +kernel
theorem dX12_again_62 : decode cX12_again 62 = .ok (.iload_n 2, 1) := by decide +kernel
theorem dX12_again_63 : decode cX12_again 63 = .ok (.invokevirtual 89, 3) := by decide +kernel
theorem dX12_again_66 : decode cX12_again 66 = .ok (.aload_n 0, 1) := by decide +kernel
theorem dX12_again_67 : decode cX12_again 67 = .ok (.getfield 14, 3) := by decide +kernel
theorem dX12_again_70 : decode cX12_again 70 = .ok (.getfield 73, 3) := by decide +kernel
theorem dX12_again_73 : decode cX12_again 73 = .ok (.ireturn, 1) := by decide +kernel
theorem dX12_swap_0 : decode cX12_swap 0 = .ok (.aload_n 0, 1) := by decide +kernel
theorem dX12_swap_1 : decode cX12_swap 1 = .ok (.getfield 14, 3) := by decide +kernel
theorem dX12_swap_4 : decode cX12_swap 4 = .ok (.astore_n 1, 1) := by decide +kernel
theorem dX12_swap_5 : decode cX12_swap 5 = .ok (.aload_n 0, 1) := by decide +kernel
theorem dX12_swap_6 : decode cX12_swap 6 = .ok (.aload_n 0, 1) := by decide +kernel
theorem dX12_swap_7 : decode cX12_swap 7 = .ok (.getfield 18, 3) := by decide +kernel
theorem dX12_swap_10 : decode cX12_swap 10 = .ok (.putfield 14, 3) := by decide +kernel
theorem dX12_swap_13 : decode cX12_swap 13 = .ok (.aload_n 0, 1) := by decide +kernel
theorem dX12_swap_14 : decode cX12_swap 14 = .ok (.aload_n 1, 1) := by decide +kernel
theorem dX12_swap_15 : decode cX12_swap 15 = .ok (.putfield 18, 3) := by decide +kernel
theorem dX12_swap_18 : decode cX12_swap 18 = .ok (.aload_n 0, 1) := by decide +kernel
theorem dX12_swap_19 : decode cX12_swap 19 = .ok (.getfield 14, 3) := by decide +kernel
theorem dX12_swap_22 : decode cX12_swap 22 = .ok (.getfield 73, 3) := by decide +kernel
theorem dX12_swap_25 : decode cX12_swap 25 = .ok (.ireturn, 1) := by decide +kernel
theorem dX12_differ_0 : decode cX12_differ 0 = .ok (.aload_n 0, 1) := by decide +kernel
theorem dX12_differ_1 : decode cX12_differ 1 = .ok (.getfield 14, 3) := by decide +kernel
theorem dX12_differ_4 : decode cX12_differ 4 = .ok (.getfield 73, 3) := by decide +kernel
theorem dX12_differ_7 : decode cX12_differ 7 = .ok (.aload_n 0, 1) := by decide +kernel
theorem dX12_differ_8 : decode cX12_differ 8 = .ok (.getfield 18, 3) := by decide +kernel
theorem dX12_differ_11 : decode cX12_differ 11 = .ok (.getfield 73, 3) := by decide +kernel
theorem dX12_differ_14 : decode cX12_differ 14 = .ok (.invokestatic 93, 3) := by decide +kernel
theorem dX12_differ_17 : decode cX12_differ 17 = .ok (.istore_n 1, 1) := by decide +kernel
theorem dX12_differ_18 : decode cX12_differ 18 = .ok (.iconst 0, 1) := by decide +kernel
theorem dX12_differ_19 : decode cX12_differ 19 = .ok (.istore_n 2, 1) := by decide +kernel
theorem dX12_differ_20 : decode cX12_differ 20 = .ok (.iload_n 2, 1) := by decide +kernel
theorem dX12_differ_21 : decode cX12_differ 21 = .ok (.iload_n 1, 1) := by decide +kernel
theorem dX12_differ_22 : decode cX12_differ 22 = .ok (.if_icmp .ge 52, 3) := by decide +kernel
theorem dX12_differ_25 : decode cX12_differ 25 = .ok (.iload_n 2, 1) := by decide +kernel
theorem dX12_differ_26 : decode cX12_differ 26 = .ok (.aload_n 0, 1) := by decide +kernel
theorem dX12_differ_27 : decode cX12_differ 27 = .ok (.getfield 14, 3) := by decide +kernel
theorem dX12_differ_30 : decode cX12_differ 30 = .ok (.getfield 73, 3) := by decide +kernel
theorem dX12_differ_33 : decode cX12_differ 33 = .ok (.if_icmp .ge 33, 3) := by decide +kernel
theorem dX12_differ_36 : decode cX12_differ 36 = .ok (.iload_n 2, 1) := by decide +kernel
theorem dX12_differ_37 : decode cX12_differ 37 = .ok (.aload_n 0, 1) := by decide +kernel
