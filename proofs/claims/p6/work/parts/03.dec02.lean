theorem dX6_writeStates_46 : decode cX6_writeStates 46 = .ok (.goto (-29), 3) := by decide +kernel
theorem dX6_writeStates_49 : decode cX6_writeStates 49 = .ok (.goto 21, 3) := by decide +kernel
theorem dX6_writeStates_52 : decode cX6_writeStates 52 = .ok (.aload_n 0, 1) := by decide +kernel
theorem dX6_writeStates_53 : decode cX6_writeStates 53 = .ok (.iconst 1, 1) := by decide +kernel
theorem dX6_writeStates_54 : decode cX6_writeStates 54 = .ok (.iload_n 2, 1) := by decide +kernel
theorem dX6_writeStates_55 : decode cX6_writeStates 55 = .ok (.invokevirtual 260, 3) := by decide +kernel
theorem dX6_writeStates_58 : decode cX6_writeStates 58 = .ok (.aload_n 0, 1) := by decide +kernel
theorem dX6_writeStates_59 : decode cX6_writeStates 59 = .ok (.iconst 2, 1) := by decide +kernel
theorem dX6_writeStates_60 : decode cX6_writeStates 60 = .ok (.iload_n 2, 1) := by decide +kernel
theorem dX6_writeStates_61 : decode cX6_writeStates 61 = .ok (.invokevirtual 260, 3) := by decide +kernel
theorem dX6_writeStates_64 : decode cX6_writeStates 64 = .ok (.aload_n 0, 1) := by decide +kernel
theorem dX6_writeStates_65 : decode cX6_writeStates 65 = .ok (.iconst 0, 1) := by decide +kernel
theorem dX6_writeStates_66 : decode cX6_writeStates 66 = .ok (.iload_n 2, 1) := by decide +kernel
theorem dX6_writeStates_67 : decode cX6_writeStates 67 = .ok (.invokevirtual 260, 3) := by decide +kernel
theorem dX6_writeStates_70 : decode cX6_writeStates 70 = .ok (.aload_n 0, 1) := by decide +kernel
theorem dX6_writeStates_71 : decode cX6_writeStates 71 = .ok (.iconst 0, 1) := by decide +kernel
theorem dX6_writeStates_72 : decode cX6_writeStates 72 = .ok (.iload_n 2, 1) := by decide +kernel
theorem dX6_writeStates_73 : decode cX6_writeStates 73 = .ok (.aload_n 0, 1) := by decide +kernel
theorem dX6_writeStates_74 : decode cX6_writeStates 74 = .ok (.getfield 12, 3) := by decide +kernel
theorem dX6_writeStates_77 : decode cX6_writeStates 77 = .ok (.getfield 153, 3) := by decide +kernel
theorem dX6_writeStates_80 : decode cX6_writeStates 80 = .ok (.iload_n 2, 1) := by decide +kernel
theorem dX6_writeStates_81 : decode cX6_writeStates 81 = .ok (.iaload, 1) := by decide +kernel
theorem dX6_writeStates_82 : decode cX6_writeStates 82 = .ok (.invokevirtual 263, 3) := by decide +kernel
theorem dX6_writeStates_85 : decode cX6_writeStates 85 = .ok (.aload_n 0, 1) := by decide +kernel
theorem dX6_writeStates_86 : decode cX6_writeStates 86 = .ok (.iconst 2, 1) := by decide +kernel
theorem dX6_writeStates_87 : decode cX6_writeStates 87 = .ok (.iload_n 2, 1) := by decide +kernel
theorem dX6_writeStates_88 : decode cX6_writeStates 88 = .ok (.aload_n 0, 1) := by decide +kernel
theorem dX6_writeStates_89 : decode cX6_writeStates 89 = .ok (.getfield 12, 3) := by decide +kernel
theorem dX6_writeStates_92 : decode cX6_writeStates 92 = .ok (.getfield 266, 3) := by decide +kernel
theorem dX6_writeStates_95 : decode cX6_writeStates 95 = .ok (.iload_n 2, 1) := by decide +kernel
theorem dX6_writeStates_96 : decode cX6_writeStates 96 = .ok (.iaload, 1) := by decide +kernel
theorem dX6_writeStates_97 : decode cX6_writeStates 97 = .ok (.invokevirtual 263, 3) := by decide +kernel
theorem dX6_writeStates_100 : decode cX6_writeStates 100 = .ok (.aload_n 0, 1) := by decide +kernel
theorem dX6_writeStates_101 : decode cX6_writeStates 101 = .ok (.getfield 23, 3) := by decide +kernel
theorem dX6_writeStates_104 : decode cX6_writeStates 104 = .ok (.aload_n 0, 1) := by decide +kernel
theorem dX6_writeStates_105 : decode cX6_writeStates 105 = .ok (.getfield 47, 3) := by decide +kernel
theorem dX6_writeStates_108 : decode cX6_writeStates 108 = .ok (.iload_n 2, 1) := by decide +kernel
theorem dX6_writeStates_109 : decode cX6_writeStates 109 = .ok (.iaload, 1) := by decide +kernel
theorem dX6_writeStates_110 : decode cX6_writeStates 110 = .ok (.i2l, 1) := by decide +kernel
theorem dX6_writeStates_111 : decode cX6_writeStates 111 = .ok (.aload_n 0, 1) := by decide +kernel
theorem dX6_writeStates_112 : decode cX6_writeStates 112 = .ok (.iconst 1, 1) := by decide +kernel
theorem dX6_writeStates_113 : decode cX6_writeStates 113 = .ok (.iload_n 2, 1) := by decide +kernel
theorem dX6_writeStates_114 : decode cX6_writeStates 114 = .ok (.invokevirtual 242, 3) := by decide +kernel
theorem dX6_writeStates_117 : decode cX6_writeStates 117 = .ok (.invokevirtual 221, 3) := by decide +kernel
theorem dX6_writeStates_120 : decode cX6_writeStates 120 = .ok (.iinc 2 (-1), 3) := by decide +kernel
theorem dX6_writeStates_123 : decode cX6_writeStates 123 = .ok (.goto (-119), 3) := by decide +kernel
theorem dX6_writeStates_126 : decode cX6_writeStates 126 = .ok (.aload_n 0, 1) := by decide +kernel
theorem dX6_writeStates_127 : decode cX6_writeStates 127 = .ok (.getfield 23, 3) := by decide +kernel
theorem dX6_writeStates_130 : decode cX6_writeStates 130 = .ok (.aload_n 0, 1) := by decide +kernel
theorem dX6_writeStates_131 : decode cX6_writeStates 131 = .ok (.getfield 43, 3) := by decide +kernel
theorem dX6_writeStates_134 : decode cX6_writeStates 134 = .ok (.iconst 2, 1) := by decide +kernel
theorem dX6_writeStates_135 : decode cX6_writeStates 135 = .ok (.iaload, 1) := by decide +kernel
theorem dX6_writeStates_136 : decode cX6_writeStates 136 = .ok (.i2l, 1) := by decide +kernel
theorem dX6_writeStates_137 : decode cX6_writeStates 137 = .ok (.aload_n 0, 1) := by decide +kernel
theorem dX6_writeStates_138 : decode cX6_writeStates 138 = .ok (.getfield 40, 3) := by decide +kernel
theorem dX6_writeStates_141 : decode cX6_writeStates 141 = .ok (.iconst 2, 1) := by decide +kernel
theorem dX6_writeStates_142 : decode cX6_writeStates 142 = .ok (.aaload, 1) := by decide +kernel
theorem dX6_writeStates_143 : decode cX6_writeStates 143 = .ok (.getfield 269, 3) := by decide +kernel
theorem dX6_writeStates_146 : decode cX6_writeStates 146 = .ok (.invokevirtual 221, 3) := by decide +kernel
theorem dX6_writeStates_149 : decode cX6_writeStates 149 = .ok (.aload_n 0, 1) := by decide +kernel
theorem dX6_writeStates_150 : decode cX6_writeStates 150 = .ok (.getfield 23, 3) := by decide +kernel
theorem dX6_writeStates_153 : decode cX6_writeStates 153 = .ok (.aload_n 0, 1) := by decide +kernel
theorem dX6_writeStates_154 : decode cX6_writeStates 154 = .ok (.getfield 43, 3) := by decide +kernel
theorem dX6_writeStates_157 : decode cX6_writeStates 157 = .ok (.iconst 1, 1) := by decide +kernel
theorem dX6_writeStates_158 : decode cX6_writeStates 158 = .ok (.iaload, 1) := by decide +kernel
theorem dX6_writeStates_159 : decode cX6_writeStates 159 = .ok (.i2l, 1) := by decide +kernel
theorem dX6_writeStates_160 : decode cX6_writeStates 160 = .ok (.aload_n 0, 1) := by decide +kernel
theorem dX6_writeStates_161 : decode cX6_writeStates 161 = .ok (.getfield 40, 3) := by decide +kernel
theorem dX6_writeStates_164 : decode cX6_writeStates 164 = .ok (.iconst 1, 1) := by decide +kernel
theorem dX6_writeStates_165 : decode cX6_writeStates 165 = .ok (.aaload, 1) := by decide +kernel
theorem dX6_writeStates_166 : decode cX6_writeStates 166 = .ok (.getfield 269, 3) := by decide +kernel
theorem dX6_writeStates_169 : decode cX6_writeStates 169 = .ok (.invokevirtual 221, 3) := by decide +kernel
theorem dX6_writeStates_172 : decode cX6_writeStates 172 = .ok (.aload_n 0, 1) := by decide +kernel
theorem dX6_writeStates_173 : decode cX6_writeStates 173 = .ok (.getfield 23, 3) := by decide +kernel
theorem dX6_writeStates_176 : decode cX6_writeStates 176 = .ok (.aload_n 0, 1) := by decide +kernel
theorem dX6_writeStates_177 : decode cX6_writeStates 177 = .ok (.getfield 43, 3) := by decide +kernel
theorem dX6_writeStates_180 : decode cX6_writeStates 180 = .ok (.iconst 0, 1) := by decide +kernel
theorem dX6_writeStates_181 : decode cX6_writeStates 181 = .ok (.iaload, 1) := by decide +kernel
theorem dX6_writeStates_182 : decode cX6_writeStates 182 = .ok (.i2l, 1) := by decide +kernel
theorem dX6_writeStates_183 : decode cX6_writeStates 183 = .ok (.aload_n 0, 1) := by decide +kernel
theorem dX6_writeStates_184 : decode cX6_writeStates 184 = .ok (.getfield 40, 3) := by decide +kernel
theorem dX6_writeStates_187 : decode cX6_writeStates 187 = .ok (.iconst 0, 1) := by decide +kernel
theorem dX6_writeStates_188 : decode cX6_writeStates 188 = .ok (.aaload, 1) := by decide +kernel
theorem dX6_writeStates_189 : decode cX6_writeStates 189 = .ok (.getfield 269, 3) := by decide +kernel
theorem dX6_writeStates_192 : decode cX6_writeStates 192 = .ok (.invokevirtual 221, 3) := by decide +kernel
theorem dX6_writeStates_195 : decode cX6_writeStates 195 = .ok (.aload_n 0, 1) := by decide +kernel
theorem dX6_writeStates_196 : decode cX6_writeStates 196 = .ok (.getfield 23, 3) := by decide +kernel
theorem dX6_writeStates_199 : decode cX6_writeStates 199 = .ok (.lconst 1, 1) := by decide +kernel
theorem dX6_writeStates_200 : decode cX6_writeStates 200 = .ok (.iconst 1, 1) := by decide +kernel
theorem dX6_writeStates_201 : decode cX6_writeStates 201 = .ok (.invokevirtual 221, 3) := by decide +kernel
theorem dX6_writeStates_204 : decode cX6_writeStates 204 = .ok (.aload_n 0, 1) := by decide +kernel
theorem dX6_writeStates_205 : decode cX6_writeStates 205 = .ok (.getfield 23, 3) := by decide +kernel
theorem dX6_writeStates_208 : decode cX6_writeStates 208 = .ok (.invokevirtual 224, 3) := by decide +kernel
theorem dX6_writeStates_211 : decode cX6_writeStates 211 = .ok (.return_, 1) := by decide +kernel
theorem dX6_goBack_0 : decode cX6_goBack 0 = .ok (.aload_n 0, 1) := by decide +kernel
theorem dX6_goBack_1 : decode cX6_goBack 1 = .ok (.getfield 40, 3) := by decide +kernel
theorem dX6_goBack_4 : decode cX6_goBack 4 = .ok (.iload_n 1, 1) := by decide +kernel
theorem dX6_goBack_5 : decode cX6_goBack 5 = .ok (.aaload, 1) := by decide +kernel
theorem dX6_goBack_6 : decode cX6_goBack 6 = .ok (.astore_n 3, 1) := by decide +kernel
theorem dX6_goBack_7 : decode cX6_goBack 7 = .ok (.aload_n 3, 1) := by decide +kernel
theorem dX6_goBack_8 : decode cX6_goBack 8 = .ok (.aload_n 0, 1) := by decide +kernel
theorem dX6_goBack_9 : decode cX6_goBack 9 = .ok (.iload_n 1, 1) := by decide +kernel
theorem dX6_goBack_10 : decode cX6_goBack 10 = .ok (.iload_n 2, 1) := by decide +kernel
theorem dX6_goBack_11 : decode cX6_goBack 11 = .ok (.invokevirtual 242, 3) := by decide +kernel
theorem dX6_goBack_14 : decode cX6_goBack 14 = .ok (.aload_n 0, 1) := by decide +kernel
theorem dX6_goBack_15 : decode cX6_goBack 15 = .ok (.getfield 43, 3) := by decide +kernel
theorem dX6_goBack_18 : decode cX6_goBack 18 = .ok (.iload_n 1, 1) := by decide +kernel
theorem dX6_goBack_19 : decode cX6_goBack 19 = .ok (.iaload, 1) := by decide +kernel
theorem dX6_goBack_20 : decode cX6_goBack 20 = .ok (.invokevirtual 272, 3) := by decide +kernel
theorem dX6_goBack_23 : decode cX6_goBack 23 = .ok (.istore 4, 2) := by decide +kernel
theorem dX6_goBack_25 : decode cX6_goBack 25 = .ok (.aload_n 0, 1) := by decide +kernel
theorem dX6_goBack_26 : decode cX6_goBack 26 = .ok (.getfield 23, 3) := by decide +kernel
theorem dX6_goBack_29 : decode cX6_goBack 29 = .ok (.aload_n 0, 1) := by decide +kernel
theorem dX6_goBack_30 : decode cX6_goBack 30 = .ok (.getfield 43, 3) := by decide +kernel
theorem dX6_goBack_33 : decode cX6_goBack 33 = .ok (.iload_n 1, 1) := by decide +kernel
theorem dX6_goBack_34 : decode cX6_goBack 34 = .ok (.iaload, 1) := by decide +kernel
theorem dX6_goBack_35 : decode cX6_goBack 35 = .ok (.aload_n 3, 1) := by decide +kernel
theorem dX6_goBack_36 : decode cX6_goBack 36 = .ok (.iload 4, 2) := by decide +kernel
theorem dX6_goBack_38 : decode cX6_goBack 38 = .ok (.invokevirtual 275, 3) := by decide +kernel
theorem dX6_goBack_41 : decode cX6_goBack 41 = .ok (.isub, 1) := by decide +kernel
theorem dX6_goBack_42 : decode cX6_goBack 42 = .ok (.i2l, 1) := by decide +kernel
theorem dX6_goBack_43 : decode cX6_goBack 43 = .ok (.aload_n 3, 1) := by decide +kernel
theorem dX6_goBack_44 : decode cX6_goBack 44 = .ok (.iload 4, 2) := by decide +kernel
theorem dX6_goBack_46 : decode cX6_goBack 46 = .ok (.invokevirtual 278, 3) := by decide +kernel
theorem dX6_goBack_49 : decode cX6_goBack 49 = .ok (.invokevirtual 221, 3) := by decide +kernel
theorem dX6_goBack_52 : decode cX6_goBack 52 = .ok (.aload_n 0, 1) := by decide +kernel
theorem dX6_goBack_53 : decode cX6_goBack 53 = .ok (.getfield 43, 3) := by decide +kernel
theorem dX6_goBack_56 : decode cX6_goBack 56 = .ok (.iload_n 1, 1) := by decide +kernel
theorem dX6_goBack_57 : decode cX6_goBack 57 = .ok (.iload 4, 2) := by decide +kernel
theorem dX6_goBack_59 : decode cX6_goBack 59 = .ok (.iastore, 1) := by decide +kernel
theorem dX6_goBack_60 : decode cX6_goBack 60 = .ok (.return_, 1) := by decide +kernel
theorem dX6_writeExtra_0 : decode cX6_writeExtra 0 = .ok (.aload_n 0, 1) := by decide +kernel
theorem dX6_writeExtra_1 : decode cX6_writeExtra 1 = .ok (.iload_n 1, 1) := by decide +kernel
theorem dX6_writeExtra_2 : decode cX6_writeExtra 2 = .ok (.iload_n 2, 1) := by decide +kernel
theorem dX6_writeExtra_3 : decode cX6_writeExtra 3 = .ok (.invokevirtual 242, 3) := by decide +kernel
theorem dX6_writeExtra_6 : decode cX6_writeExtra 6 = .ok (.istore 4, 2) := by decide +kernel
theorem dX6_writeExtra_8 : decode cX6_writeExtra 8 = .ok (.aload_n 0, 1) := by decide +kernel
theorem dX6_writeExtra_9 : decode cX6_writeExtra 9 = .ok (.getfield 23, 3) := by decide +kernel
theorem dX6_writeExtra_12 : decode cX6_writeExtra 12 = .ok (.iload_n 3, 1) := by decide +kernel
theorem dX6_writeExtra_13 : decode cX6_writeExtra 13 = .ok (.iload_n 1, 1) := by decide +kernel
theorem dX6_writeExtra_14 : decode cX6_writeExtra 14 = .ok (.invokestatic 281, 3) := by decide +kernel
theorem dX6_writeExtra_17 : decode cX6_writeExtra 17 = .ok (.iload 4, 2) := by decide +kernel
theorem dX6_writeExtra_19 : decode cX6_writeExtra 19 = .ok (.iaload, 1) := by decide +kernel
theorem dX6_writeExtra_20 : decode cX6_writeExtra 20 = .ok (.isub, 1) := by decide +kernel
theorem dX6_writeExtra_21 : decode cX6_writeExtra 21 = .ok (.i2l, 1) := by decide +kernel
theorem dX6_writeExtra_22 : decode cX6_writeExtra 22 = .ok (.iload_n 1, 1) := by decide +kernel
theorem dX6_writeExtra_23 : decode cX6_writeExtra 23 = .ok (.invokestatic 285, 3) := by decide +kernel
theorem dX6_writeExtra_26 : decode cX6_writeExtra 26 = .ok (.iload 4, 2) := by decide +kernel
theorem dX6_writeExtra_28 : decode cX6_writeExtra 28 = .ok (.iaload, 1) := by decide +kernel
theorem dX6_writeExtra_29 : decode cX6_writeExtra 29 = .ok (.invokevirtual 221, 3) := by decide +kernel
theorem dX6_writeExtra_32 : decode cX6_writeExtra 32 = .ok (.return_, 1) := by decide +kernel
theorem dX6_symbolOf_0 : decode cX6_symbolOf 0 = .ok (.iload_n 1, 1) := by decide +kernel
theorem dX6_symbolOf_1 : decode cX6_symbolOf 1 = .ok (.iconst 1, 1) := by decide +kernel
theorem dX6_symbolOf_2 : decode cX6_symbolOf 2 = .ok (.if_icmp .ne 14, 3) := by decide +kernel
theorem dX6_symbolOf_5 : decode cX6_symbolOf 5 = .ok (.aload_n 0, 1) := by decide +kernel
theorem dX6_symbolOf_6 : decode cX6_symbolOf 6 = .ok (.getfield 47, 3) := by decide +kernel
theorem dX6_symbolOf_9 : decode cX6_symbolOf 9 = .ok (.iload_n 2, 1) := by decide +kernel
theorem dX6_symbolOf_10 : decode cX6_symbolOf 10 = .ok (.iaload, 1) := by decide +kernel
theorem dX6_symbolOf_11 : decode cX6_symbolOf 11 = .ok (.i2l, 1) := by decide +kernel
theorem dX6_symbolOf_12 : decode cX6_symbolOf 12 = .ok (.invokestatic 130, 3) := by decide +kernel
theorem dX6_symbolOf_15 : decode cX6_symbolOf 15 = .ok (.ireturn, 1) := by decide +kernel
theorem dX6_symbolOf_16 : decode cX6_symbolOf 16 = .ok (.iload_n 1, 1) := by decide +kernel
theorem dX6_symbolOf_17 : decode cX6_symbolOf 17 = .ok (.ifCond .ne 15, 3) := by decide +kernel
theorem dX6_symbolOf_20 : decode cX6_symbolOf 20 = .ok (.aload_n 0, 1) := by decide +kernel
theorem dX6_symbolOf_21 : decode cX6_symbolOf 21 = .ok (.getfield 12, 3) := by decide +kernel
theorem dX6_symbolOf_24 : decode cX6_symbolOf 24 = .ok (.getfield 153, 3) := by decide +kernel
theorem dX6_symbolOf_27 : decode cX6_symbolOf 27 = .ok (.iload_n 2, 1) := by decide +kernel
theorem dX6_symbolOf_28 : decode cX6_symbolOf 28 = .ok (.iaload, 1) := by decide +kernel
theorem dX6_symbolOf_29 : decode cX6_symbolOf 29 = .ok (.goto 12, 3) := by decide +kernel
theorem dX6_symbolOf_32 : decode cX6_symbolOf 32 = .ok (.aload_n 0, 1) := by decide +kernel
theorem dX6_symbolOf_33 : decode cX6_symbolOf 33 = .ok (.getfield 12, 3) := by decide +kernel
theorem dX6_symbolOf_36 : decode cX6_symbolOf 36 = .ok (.getfield 266, 3) := by decide +kernel
theorem dX6_symbolOf_39 : decode cX6_symbolOf 39 = .ok (.iload_n 2, 1) := by decide +kernel
theorem dX6_symbolOf_40 : decode cX6_symbolOf 40 = .ok (.iaload, 1) := by decide +kernel
theorem dX6_symbolOf_41 : decode cX6_symbolOf 41 = .ok (.istore_n 3, 1) := by decide +kernel
theorem dX6_symbolOf_42 : decode cX6_symbolOf 42 = .ok (.iload_n 1, 1) := by decide +kernel
theorem dX6_symbolOf_43 : decode cX6_symbolOf 43 = .ok (.invokestatic 281, 3) := by decide +kernel
theorem dX6_symbolOf_46 : decode cX6_symbolOf 46 = .ok (.astore 4, 2) := by decide +kernel
theorem dX6_symbolOf_48 : decode cX6_symbolOf 48 = .ok (.iconst 0, 1) := by decide +kernel
theorem dX6_symbolOf_49 : decode cX6_symbolOf 49 = .ok (.istore 5, 2) := by decide +kernel
theorem dX6_symbolOf_51 : decode cX6_symbolOf 51 = .ok (.iconst 1, 1) := by decide +kernel
theorem dX6_symbolOf_52 : decode cX6_symbolOf 52 = .ok (.istore 6, 2) := by decide +kernel
theorem dX6_symbolOf_54 : decode cX6_symbolOf 54 = .ok (.iload 6, 2) := by decide +kernel
theorem dX6_symbolOf_56 : decode cX6_symbolOf 56 = .ok (.aload 4, 2) := by decide +kernel
theorem dX6_symbolOf_58 : decode cX6_symbolOf 58 = .ok (.arraylength, 1) := by decide +kernel
theorem dX6_symbolOf_59 : decode cX6_symbolOf 59 = .ok (.if_icmp .ge 22, 3) := by decide +kernel
theorem dX6_symbolOf_62 : decode cX6_symbolOf 62 = .ok (.aload 4, 2) := by decide +kernel
theorem dX6_symbolOf_64 : decode cX6_symbolOf 64 = .ok (.iload 6, 2) := by decide +kernel
theorem dX6_symbolOf_66 : decode cX6_symbolOf 66 = .ok (.iaload, 1) := by decide +kernel
theorem dX6_symbolOf_67 : decode cX6_symbolOf 67 = .ok (.iload_n 3, 1) := by decide +kernel
theorem dX6_symbolOf_68 : decode cX6_symbolOf 68 = .ok (.if_icmp .gt 13, 3) := by decide +kernel
theorem dX6_symbolOf_71 : decode cX6_symbolOf 71 = .ok (.iload 6, 2) := by decide +kernel
theorem dX6_symbolOf_73 : decode cX6_symbolOf 73 = .ok (.istore 5, 2) := by decide +kernel
theorem dX6_symbolOf_75 : decode cX6_symbolOf 75 = .ok (.iinc 6 1, 3) := by decide +kernel
theorem dX6_symbolOf_78 : decode cX6_symbolOf 78 = .ok (.goto (-24), 3) := by decide +kernel
theorem dX6_symbolOf_81 : decode cX6_symbolOf 81 = .ok (.iload 5, 2) := by decide +kernel
theorem dX6_symbolOf_83 : decode cX6_symbolOf 83 = .ok (.ireturn, 1) := by decide +kernel
theorem dX7_init_0 : decode cX7_init 0 = .ok (.aload_n 0, 1) := by decide +kernel
theorem dX7_init_1 : decode cX7_init 1 = .ok (.invokespecial 3, 3) := by decide +kernel
theorem dX7_init_4 : decode cX7_init 4 = .ok (.aload_n 0, 1) := by decide +kernel
theorem dX7_init_5 : decode cX7_init 5 = .ok (.bipush 12, 2) := by decide +kernel
theorem dX7_init_7 : decode cX7_init 7 = .ok (.newarray .int, 2) := by decide +kernel
theorem dX7_init_9 : decode cX7_init 9 = .ok (.putfield 9, 3) := by decide +kernel
theorem dX7_init_12 : decode cX7_init 12 = .ok (.aload_n 0, 1) := by decide +kernel
theorem dX7_init_13 : decode cX7_init 13 = .ok (.sipush 8000, 3) := by decide +kernel
theorem dX7_init_16 : decode cX7_init 16 = .ok (.newarray .int, 2) := by decide +kernel
theorem dX7_init_18 : decode cX7_init 18 = .ok (.putfield 15, 3) := by decide +kernel
theorem dX7_init_21 : decode cX7_init 21 = .ok (.return_, 1) := by decide +kernel
theorem dX7_clear_0 : decode cX7_clear 0 = .ok (.aload_n 0, 1) := by decide +kernel
theorem dX7_clear_1 : decode cX7_clear 1 = .ok (.getfield 9, 3) := by decide +kernel
theorem dX7_clear_4 : decode cX7_clear 4 = .ok (.iconst 0, 1) := by decide +kernel
theorem dX7_clear_5 : decode cX7_clear 5 = .ok (.invokestatic 18, 3) := by decide +kernel
theorem dX7_clear_8 : decode cX7_clear 8 = .ok (.return_, 1) := by decide +kernel
theorem dX7_fail_0 : decode cX7_fail 0 = .ok (.aload_n 0, 1) := by decide +kernel
theorem dX7_fail_1 : decode cX7_fail 1 = .ok (.iload_n 1, 1) := by decide +kernel
theorem dX7_fail_2 : decode cX7_fail 2 = .ok (.putfield 24, 3) := by decide +kernel
theorem dX7_fail_5 : decode cX7_fail 5 = .ok (.aload_n 0, 1) := by decide +kernel
theorem dX7_fail_6 : decode cX7_fail 6 = .ok (.iload_n 2, 1) := by decide +kernel
theorem dX7_fail_7 : decode cX7_fail 7 = .ok (.putfield 28, 3) := by decide +kernel
theorem dX7_fail_10 : decode cX7_fail 10 = .ok (.iconst 0, 1) := by decide +kernel
theorem dX7_fail_11 : decode cX7_fail 11 = .ok (.ireturn, 1) := by decide +kernel
theorem dX7_note_0 : decode cX7_note 0 = .ok (.aload_n 0, 1) := by decide +kernel
theorem dX7_note_1 : decode cX7_note 1 = .ok (.getfield 9, 3) := by decide +kernel
theorem dX7_note_4 : decode cX7_note 4 = .ok (.iconst 4, 1) := by decide +kernel
theorem dX7_note_5 : decode cX7_note 5 = .ok (.iaload, 1) := by decide +kernel
theorem dX7_note_6 : decode cX7_note 6 = .ok (.istore 5, 2) := by decide +kernel
theorem dX7_note_8 : decode cX7_note 8 = .ok (.iload 5, 2) := by decide +kernel
theorem dX7_note_10 : decode cX7_note 10 = .ok (.ifCond .lt 58, 3) := by decide +kernel
theorem dX7_note_13 : decode cX7_note 13 = .ok (.iload 5, 2) := by decide +kernel
theorem dX7_note_15 : decode cX7_note 15 = .ok (.sipush 2000, 3) := by decide +kernel
theorem dX7_note_18 : decode cX7_note 18 = .ok (.if_icmp .ge 50, 3) := by decide +kernel
theorem dX7_note_21 : decode cX7_note 21 = .ok (.aload_n 0, 1) := by decide +kernel
theorem dX7_note_22 : decode cX7_note 22 = .ok (.getfield 15, 3) := by decide +kernel
theorem dX7_note_25 : decode cX7_note 25 = .ok (.iconst 4, 1) := by decide +kernel
theorem dX7_note_26 : decode cX7_note 26 = .ok (.iload 5, 2) := by decide +kernel
theorem dX7_note_28 : decode cX7_note 28 = .ok (.imul, 1) := by decide +kernel
theorem dX7_note_29 : decode cX7_note 29 = .ok (.iload_n 1, 1) := by decide +kernel
theorem dX7_note_30 : decode cX7_note 30 = .ok (.iastore, 1) := by decide +kernel
theorem dX7_note_31 : decode cX7_note 31 = .ok (.aload_n 0, 1) := by decide +kernel
theorem dX7_note_32 : decode cX7_note 32 = .ok (.getfield 15, 3) := by decide +kernel
theorem dX7_note_35 : decode cX7_note 35 = .ok (.iconst 4, 1) := by decide +kernel
theorem dX7_note_36 : decode cX7_note 36 = .ok (.iload 5, 2) := by decide +kernel
theorem dX7_note_38 : decode cX7_note 38 = .ok (.imul, 1) := by decide +kernel
theorem dX7_note_39 : decode cX7_note 39 = .ok (.iconst 1, 1) := by decide +kernel
theorem dX7_note_40 : decode cX7_note 40 = .ok (.iadd, 1) := by decide +kernel
theorem dX7_note_41 : decode cX7_note 41 = .ok (.iload_n 2, 1) := by decide +kernel
theorem dX7_note_42 : decode cX7_note 42 = .ok (.iastore, 1) := by decide +kernel
theorem dX7_note_43 : decode cX7_note 43 = .ok (.aload_n 0, 1) := by decide +kernel
theorem dX7_note_44 : decode cX7_note 44 = .ok (.getfield 15, 3) := by decide +kernel
theorem dX7_note_47 : decode cX7_note 47 = .ok (.iconst 4, 1) := by decide +kernel
theorem dX7_note_48 : decode cX7_note 48 = .ok (.iload 5, 2) := by decide +kernel
theorem dX7_note_50 : decode cX7_note 50 = .ok (.imul, 1) := by decide +kernel
theorem dX7_note_51 : decode cX7_note 51 = .ok (.iconst 2, 1) := by decide +kernel
theorem dX7_note_52 : decode cX7_note 52 = .ok (.iadd, 1) := by decide +kernel
theorem dX7_note_53 : decode cX7_note 53 = .ok (.iload_n 3, 1) := by decide +kernel
theorem dX7_note_54 : decode cX7_note 54 = .ok (.iastore, 1) := by decide +kernel
theorem dX7_note_55 : decode cX7_note 55 = .ok (.aload_n 0, 1) := by decide +kernel
theorem dX7_note_56 : decode cX7_note 56 = .ok (.getfield 15, 3) := by decide +kernel
theorem dX7_note_59 : decode cX7_note 59 = .ok (.iconst 4, 1) := by decide +kernel
theorem dX7_note_60 : decode cX7_note 60 = .ok (.iload 5, 2) := by decide +kernel
theorem dX7_note_62 : decode cX7_note 62 = .ok (.imul, 1) := by decide +kernel
theorem dX7_note_63 : decode cX7_note 63 = .ok (.iconst 3, 1) := by decide +kernel
theorem dX7_note_64 : decode cX7_note 64 = .ok (.iadd, 1) := by decide +kernel
theorem dX7_note_65 : decode cX7_note 65 = .ok (.iload 4, 2) := by decide +kernel
theorem dX7_note_67 : decode cX7_note 67 = .ok (.iastore, 1) := by decide +kernel
theorem dX7_note_68 : decode cX7_note 68 = .ok (.aload_n 0, 1) := by decide +kernel
theorem dX7_note_69 : decode cX7_note 69 = .ok (.getfield 9, 3) := by decide +kernel
theorem dX7_note_72 : decode cX7_note 72 = .ok (.iconst 4, 1) := by decide +kernel
theorem dX7_note_73 : decode cX7_note 73 = .ok (.dup2, 1) := by decide +kernel
theorem dX7_note_74 : decode cX7_note 74 = .ok (.iaload, 1) := by decide +kernel
theorem dX7_note_75 : decode cX7_note 75 = .ok (.iconst 1, 1) := by decide +kernel
theorem dX7_note_76 : decode cX7_note 76 = .ok (.iadd, 1) := by decide +kernel
theorem dX7_note_77 : decode cX7_note 77 = .ok (.iastore, 1) := by decide +kernel
theorem dX7_note_78 : decode cX7_note 78 = .ok (.return_, 1) := by decide +kernel
theorem dX7_noteRemembered_0 : decode cX7_noteRemembered 0 = .ok (.aload_n 1, 1) := by decide +kernel
theorem dX7_noteRemembered_1 : decode cX7_noteRemembered 1 = .ok (.iconst 0, 1) := by decide +kernel
theorem dX7_noteRemembered_2 : decode cX7_noteRemembered 2 = .ok (.aload_n 0, 1) := by decide +kernel
theorem dX7_noteRemembered_3 : decode cX7_noteRemembered 3 = .ok (.getfield 9, 3) := by decide +kernel
theorem dX7_noteRemembered_6 : decode cX7_noteRemembered 6 = .ok (.bipush 6, 2) := by decide +kernel
theorem dX7_noteRemembered_8 : decode cX7_noteRemembered 8 = .ok (.iconst 3, 1) := by decide +kernel
theorem dX7_noteRemembered_9 : decode cX7_noteRemembered 9 = .ok (.invokestatic 31, 3) := by decide +kernel
theorem dX7_noteRemembered_12 : decode cX7_noteRemembered 12 = .ok (.return_, 1) := by decide +kernel
theorem dX8_init_0 : decode cX8_init 0 = .ok (.aload_n 0, 1) := by decide +kernel
theorem dX8_init_1 : decode cX8_init 1 = .ok (.invokespecial 3, 3) := by decide +kernel
theorem dX8_init_4 : decode cX8_init 4 = .ok (.aload_n 0, 1) := by decide +kernel
theorem dX8_init_5 : decode cX8_init 5 = .ok (.iload_n 1, 1) := by decide +kernel
theorem dX8_init_6 : decode cX8_init 6 = .ok (.iconst 0, 1) := by decide +kernel
theorem dX8_init_7 : decode cX8_init 7 = .ok (.invokestatic 9, 3) := by decide +kernel
theorem dX8_init_10 : decode cX8_init 10 = .ok (.newarray .byte, 2) := by decide +kernel
theorem dX8_init_12 : decode cX8_init 12 = .ok (.putfield 15, 3) := by decide +kernel
theorem dX8_init_15 : decode cX8_init 15 = .ok (.return_, 1) := by decide +kernel
theorem dX8_get_0 : decode cX8_get 0 = .ok (.iload_n 1, 1) := by decide +kernel
theorem dX8_get_1 : decode cX8_get 1 = .ok (.ifCond .lt 25, 3) := by decide +kernel
theorem dX8_get_4 : decode cX8_get 4 = .ok (.iload_n 1, 1) := by decide +kernel
theorem dX8_get_5 : decode cX8_get 5 = .ok (.aload_n 0, 1) := by decide +kernel
theorem dX8_get_6 : decode cX8_get 6 = .ok (.getfield 15, 3) := by decide +kernel
theorem dX8_get_9 : decode cX8_get 9 = .ok (.arraylength, 1) := by decide +kernel
theorem dX8_get_10 : decode cX8_get 10 = .ok (.if_icmp .ge 16, 3) := by decide +kernel
theorem dX8_get_13 : decode cX8_get 13 = .ok (.aload_n 0, 1) := by decide +kernel
theorem dX8_get_14 : decode cX8_get 14 = .ok (.getfield 15, 3) := by decide +kernel
theorem dX8_get_17 : decode cX8_get 17 = .ok (.iload_n 1, 1) := by decide +kernel
theorem dX8_get_18 : decode cX8_get 18 = .ok (.baload, 1) := by decide +kernel
theorem dX8_get_19 : decode cX8_get 19 = .ok (.sipush 255, 3) := by decide +kernel
theorem dX8_get_22 : decode cX8_get 22 = .ok (.iand, 1) := by decide +kernel
theorem dX8_get_23 : decode cX8_get 23 = .ok (.goto 4, 3) := by decide +kernel
theorem dX8_get_26 : decode cX8_get 26 = .ok (.iconst 0, 1) := by decide +kernel
theorem dX8_get_27 : decode cX8_get 27 = .ok (.ireturn, 1) := by decide +kernel
theorem dX8_put_0 : decode cX8_put 0 = .ok (.iload_n 1, 1) := by decide +kernel
theorem dX8_put_1 : decode cX8_put 1 = .ok (.ifCond .lt 20, 3) := by decide +kernel
theorem dX8_put_4 : decode cX8_put 4 = .ok (.iload_n 1, 1) := by decide +kernel
theorem dX8_put_5 : decode cX8_put 5 = .ok (.aload_n 0, 1) := by decide +kernel
theorem dX8_put_6 : decode cX8_put 6 = .ok (.getfield 15, 3) := by decide +kernel
theorem dX8_put_9 : decode cX8_put 9 = .ok (.arraylength, 1) := by decide +kernel
theorem dX8_put_10 : decode cX8_put 10 = .ok (.if_icmp .ge 11, 3) := by decide +kernel
theorem dX8_put_13 : decode cX8_put 13 = .ok (.aload_n 0, 1) := by decide +kernel
theorem dX8_put_14 : decode cX8_put 14 = .ok (.getfield 15, 3) := by decide +kernel
theorem dX8_put_17 : decode cX8_put 17 = .ok (.iload_n 1, 1) := by decide +kernel
theorem dX8_put_18 : decode cX8_put 18 = .ok (.iload_n 2, 1) := by decide +kernel
theorem dX8_put_19 : decode cX8_put 19 = .ok (.i2b, 1) := by decide +kernel
theorem dX8_put_20 : decode cX8_put 20 = .ok (.bastore, 1) := by decide +kernel
theorem dX8_put_21 : decode cX8_put 21 = .ok (.return_, 1) := by decide +kernel
theorem dX8_add_0 : decode cX8_add 0 = .ok (.aload_n 0, 1) := by decide +kernel
theorem dX8_add_1 : decode cX8_add 1 = .ok (.getfield 21, 3) := by decide +kernel
theorem dX8_add_4 : decode cX8_add 4 = .ok (.ifCond .lt 26, 3) := by decide +kernel
theorem dX8_add_7 : decode cX8_add 7 = .ok (.aload_n 0, 1) := by decide +kernel
theorem dX8_add_8 : decode cX8_add 8 = .ok (.getfield 21, 3) := by decide +kernel
theorem dX8_add_11 : decode cX8_add 11 = .ok (.aload_n 0, 1) := by decide +kernel
theorem dX8_add_12 : decode cX8_add 12 = .ok (.getfield 15, 3) := by decide +kernel
theorem dX8_add_15 : decode cX8_add 15 = .ok (.arraylength, 1) := by decide +kernel
theorem dX8_add_16 : decode cX8_add 16 = .ok (.if_icmp .ge 14, 3) := by decide +kernel
theorem dX8_add_19 : decode cX8_add 19 = .ok (.aload_n 0, 1) := by decide +kernel
theorem dX8_add_20 : decode cX8_add 20 = .ok (.getfield 15, 3) := by decide +kernel
theorem dX8_add_23 : decode cX8_add 23 = .ok (.aload_n 0, 1) := by decide +kernel
theorem dX8_add_24 : decode cX8_add 24 = .ok (.getfield 21, 3) := by decide +kernel
theorem dX8_add_27 : decode cX8_add 27 = .ok (.iload_n 1, 1) := by decide +kernel
theorem dX8_add_28 : decode cX8_add 28 = .ok (.i2b, 1) := by decide +kernel
theorem dX8_add_29 : decode cX8_add 29 = .ok (.bastore, 1) := by decide +kernel
theorem dX8_add_30 : decode cX8_add 30 = .ok (.aload_n 0, 1) := by decide +kernel
theorem dX8_add_31 : decode cX8_add 31 = .ok (.dup, 1) := by decide +kernel
theorem dX8_add_32 : decode cX8_add 32 = .ok (.getfield 21, 3) := by decide +kernel
theorem dX8_add_35 : decode cX8_add 35 = .ok (.iconst 1, 1) := by decide +kernel
theorem dX8_add_36 : decode cX8_add 36 = .ok (.iadd, 1) := by decide +kernel
theorem dX8_add_37 : decode cX8_add 37 = .ok (.putfield 21, 3) := by decide +kernel
theorem dX8_add_40 : decode cX8_add 40 = .ok (.return_, 1) := by decide +kernel
theorem dX8_addFrom_0 : decode cX8_addFrom 0 = .ok (.iload_n 3, 1) := by decide +kernel
theorem dX8_addFrom_1 : decode cX8_addFrom 1 = .ok (.aload_n 0, 1) := by decide +kernel
theorem dX8_addFrom_2 : decode cX8_addFrom 2 = .ok (.getfield 15, 3) := by decide +kernel
theorem dX8_addFrom_5 : decode cX8_addFrom 5 = .ok (.arraylength, 1) := by decide +kernel
theorem dX8_addFrom_6 : decode cX8_addFrom 6 = .ok (.aload_n 0, 1) := by decide +kernel
theorem dX8_addFrom_7 : decode cX8_addFrom 7 = .ok (.getfield 21, 3) := by decide +kernel
theorem dX8_addFrom_10 : decode cX8_addFrom 10 = .ok (.isub, 1) := by decide +kernel
theorem dX8_addFrom_11 : decode cX8_addFrom 11 = .ok (.invokestatic 25, 3) := by decide +kernel
theorem dX8_addFrom_14 : decode cX8_addFrom 14 = .ok (.istore 4, 2) := by decide +kernel
theorem dX8_addFrom_16 : decode cX8_addFrom 16 = .ok (.iconst 0, 1) := by decide +kernel
theorem dX8_addFrom_17 : decode cX8_addFrom 17 = .ok (.istore 5, 2) := by decide +kernel
theorem dX8_addFrom_19 : decode cX8_addFrom 19 = .ok (.iload 5, 2) := by decide +kernel
theorem dX8_addFrom_21 : decode cX8_addFrom 21 = .ok (.iload 4, 2) := by decide +kernel
theorem dX8_addFrom_23 : decode cX8_addFrom 23 = .ok (.if_icmp .ge 30, 3) := by decide +kernel
theorem dX8_addFrom_26 : decode cX8_addFrom 26 = .ok (.aload_n 0, 1) := by decide +kernel
theorem dX8_addFrom_27 : decode cX8_addFrom 27 = .ok (.getfield 15, 3) := by decide +kernel
theorem dX8_addFrom_30 : decode cX8_addFrom 30 = .ok (.aload_n 0, 1) := by decide +kernel
theorem dX8_addFrom_31 : decode cX8_addFrom 31 = .ok (.getfield 21, 3) := by decide +kernel
theorem dX8_addFrom_34 : decode cX8_addFrom 34 = .ok (.iload 5, 2) := by decide +kernel
theorem dX8_addFrom_36 : decode cX8_addFrom 36 = .ok (.iadd, 1) := by decide +kernel
theorem dX8_addFrom_37 : decode cX8_addFrom 37 = .ok (.aload_n 1, 1) := by decide +kernel
theorem dX8_addFrom_38 : decode cX8_addFrom 38 = .ok (.iload_n 2, 1) := by decide +kernel
theorem dX8_addFrom_39 : decode cX8_addFrom 39 = .ok (.iload 5, 2) := by decide +kernel
theorem dX8_addFrom_41 : decode cX8_addFrom 41 = .ok (.iadd, 1) := by decide +kernel
theorem dX8_addFrom_42 : decode cX8_addFrom 42 = .ok (.invokevirtual 28, 3) := by decide +kernel
theorem dX8_addFrom_45 : decode cX8_addFrom 45 = .ok (.i2b, 1) := by decide +kernel
theorem dX8_addFrom_46 : decode cX8_addFrom 46 = .ok (.bastore, 1) := by decide +kernel
theorem dX8_addFrom_47 : decode cX8_addFrom 47 = .ok (.iinc 5 1, 3) := by decide +kernel
theorem dX8_addFrom_50 : decode cX8_addFrom 50 = .ok (.goto (-31), 3) := by decide +kernel
theorem dX8_addFrom_53 : decode cX8_addFrom 53 = .ok (.aload_n 0, 1) := by decide +kernel
theorem dX8_addFrom_54 : decode cX8_addFrom 54 = .ok (.dup, 1) := by decide +kernel
theorem dX8_addFrom_55 : decode cX8_addFrom 55 = .ok (.getfield 21, 3) := by decide +kernel
theorem dX8_addFrom_58 : decode cX8_addFrom 58 = .ok (.iload_n 3, 1) := by decide +kernel
theorem dX8_addFrom_59 : decode cX8_addFrom 59 = .ok (.iadd, 1) := by decide +kernel
theorem dX8_addFrom_60 : decode cX8_addFrom 60 = .ok (.putfield 21, 3) := by decide +kernel
theorem dX8_addFrom_63 : decode cX8_addFrom 63 = .ok (.return_, 1) := by decide +kernel
theorem dX8_addSame_0 : decode cX8_addSame 0 = .ok (.iload_n 2, 1) := by decide +kernel
theorem dX8_addSame_1 : decode cX8_addSame 1 = .ok (.aload_n 0, 1) := by decide +kernel
theorem dX8_addSame_2 : decode cX8_addSame 2 = .ok (.getfield 15, 3) := by decide +kernel
theorem dX8_addSame_5 : decode cX8_addSame 5 = .ok (.arraylength, 1) := by decide +kernel
theorem dX8_addSame_6 : decode cX8_addSame 6 = .ok (.aload_n 0, 1) := by decide +kernel
theorem dX8_addSame_7 : decode cX8_addSame 7 = .ok (.getfield 21, 3) := by decide +kernel
theorem dX8_addSame_10 : decode cX8_addSame 10 = .ok (.isub, 1) := by decide +kernel
theorem dX8_addSame_11 : decode cX8_addSame 11 = .ok (.invokestatic 25, 3) := by decide +kernel
theorem dX8_addSame_14 : decode cX8_addSame 14 = .ok (.istore_n 3, 1) := by decide +kernel
theorem dX8_addSame_15 : decode cX8_addSame 15 = .ok (.iconst 0, 1) := by decide +kernel
theorem dX8_addSame_16 : decode cX8_addSame 16 = .ok (.istore 4, 2) := by decide +kernel
theorem dX8_addSame_18 : decode cX8_addSame 18 = .ok (.iload 4, 2) := by decide +kernel
theorem dX8_addSame_20 : decode cX8_addSame 20 = .ok (.iload_n 3, 1) := by decide +kernel
theorem dX8_addSame_21 : decode cX8_addSame 21 = .ok (.if_icmp .ge 23, 3) := by decide +kernel
theorem dX8_addSame_24 : decode cX8_addSame 24 = .ok (.aload_n 0, 1) := by decide +kernel
theorem dX8_addSame_25 : decode cX8_addSame 25 = .ok (.getfield 15, 3) := by decide +kernel
theorem dX8_addSame_28 : decode cX8_addSame 28 = .ok (.aload_n 0, 1) := by decide +kernel
theorem dX8_addSame_29 : decode cX8_addSame 29 = .ok (.getfield 21, 3) := by decide +kernel
theorem dX8_addSame_32 : decode cX8_addSame 32 = .ok (.iload 4, 2) := by decide +kernel
theorem dX8_addSame_34 : decode cX8_addSame 34 = .ok (.iadd, 1) := by decide +kernel
theorem dX8_addSame_35 : decode cX8_addSame 35 = .ok (.iload_n 1, 1) := by decide +kernel
theorem dX8_addSame_36 : decode cX8_addSame 36 = .ok (.i2b, 1) := by decide +kernel
theorem dX8_addSame_37 : decode cX8_addSame 37 = .ok (.bastore, 1) := by decide +kernel
theorem dX8_addSame_38 : decode cX8_addSame 38 = .ok (.iinc 4 1, 3) := by decide +kernel
theorem dX8_addSame_41 : decode cX8_addSame 41 = .ok (.goto (-23), 3) := by decide +kernel
theorem dX8_addSame_44 : decode cX8_addSame 44 = .ok (.aload_n 0, 1) := by decide +kernel
theorem dX8_addSame_45 : decode cX8_addSame 45 = .ok (.dup, 1) := by decide +kernel
theorem dX8_addSame_46 : decode cX8_addSame 46 = .ok (.getfield 21, 3) := by decide +kernel
theorem dX8_addSame_49 : decode cX8_addSame 49 = .ok (.iload_n 2, 1) := by decide +kernel
theorem dX8_addSame_50 : decode cX8_addSame 50 = .ok (.iadd, 1) := by decide +kernel
theorem dX8_addSame_51 : decode cX8_addSame 51 = .ok (.putfield 21, 3) := by decide +kernel
theorem dX8_addSame_54 : decode cX8_addSame 54 = .ok (.return_, 1) := by decide +kernel
theorem dX8_addNumber_0 : decode cX8_addNumber 0 = .ok (.iconst 0, 1) := by decide +kernel
theorem dX8_addNumber_1 : decode cX8_addNumber 1 = .ok (.istore 4, 2) := by decide +kernel
theorem dX8_addNumber_3 : decode cX8_addNumber 3 = .ok (.iload 4, 2) := by decide +kernel
theorem dX8_addNumber_5 : decode cX8_addNumber 5 = .ok (.iload_n 3, 1) := by decide +kernel
theorem dX8_addNumber_6 : decode cX8_addNumber 6 = .ok (.if_icmp .ge 21, 3) := by decide +kernel
theorem dX8_addNumber_9 : decode cX8_addNumber 9 = .ok (.aload_n 0, 1) := by decide +kernel
theorem dX8_addNumber_10 : decode cX8_addNumber 10 = .ok (.lload_n 1, 1) := by decide +kernel
theorem dX8_addNumber_11 : decode cX8_addNumber 11 = .ok (.bipush 8, 2) := by decide +kernel
theorem dX8_addNumber_13 : decode cX8_addNumber 13 = .ok (.iload 4, 2) := by decide +kernel
theorem dX8_addNumber_15 : decode cX8_addNumber 15 = .ok (.imul, 1) := by decide +kernel
theorem dX8_addNumber_16 : decode cX8_addNumber 16 = .ok (.lushr, 1) := by decide +kernel
theorem dX8_addNumber_17 : decode cX8_addNumber 17 = .ok (.l2i, 1) := by decide +kernel
theorem dX8_addNumber_18 : decode cX8_addNumber 18 = .ok (.invokevirtual 32, 3) := by decide +kernel
theorem dX8_addNumber_21 : decode cX8_addNumber 21 = .ok (.iinc 4 1, 3) := by decide +kernel
theorem dX8_addNumber_24 : decode cX8_addNumber 24 = .ok (.goto (-21), 3) := by decide +kernel
theorem dX8_addNumber_27 : decode cX8_addNumber 27 = .ok (.return_, 1) := by decide +kernel
theorem dX8_addBits_0 : decode cX8_addBits 0 = .ok (.aload_n 0, 1) := by decide +kernel
theorem dX8_addBits_1 : decode cX8_addBits 1 = .ok (.dup, 1) := by decide +kernel
theorem dX8_addBits_2 : decode cX8_addBits 2 = .ok (.getfield 36, 3) := by decide +kernel
theorem dX8_addBits_5 : decode cX8_addBits 5 = .ok (.lload_n 1, 1) := by decide +kernel
theorem dX8_addBits_6 : decode cX8_addBits 6 = .ok (.lconst 1, 1) := by decide +kernel
theorem dX8_addBits_7 : decode cX8_addBits 7 = .ok (.iload_n 3, 1) := by decide +kernel
theorem dX8_addBits_8 : decode cX8_addBits 8 = .ok (.lshl, 1) := by decide +kernel
theorem dX8_addBits_9 : decode cX8_addBits 9 = .ok (.lconst 1, 1) := by decide +kernel
theorem dX8_addBits_10 : decode cX8_addBits 10 = .ok (.lsub, 1) := by decide +kernel
theorem dX8_addBits_11 : decode cX8_addBits 11 = .ok (.land, 1) := by decide +kernel
theorem dX8_addBits_12 : decode cX8_addBits 12 = .ok (.aload_n 0, 1) := by decide +kernel
theorem dX8_addBits_13 : decode cX8_addBits 13 = .ok (.getfield 40, 3) := by decide +kernel
theorem dX8_addBits_16 : decode cX8_addBits 16 = .ok (.lshl, 1) := by decide +kernel
theorem dX8_addBits_17 : decode cX8_addBits 17 = .ok (.lor, 1) := by decide +kernel
theorem dX8_addBits_18 : decode cX8_addBits 18 = .ok (.putfield 36, 3) := by decide +kernel
theorem dX8_addBits_21 : decode cX8_addBits 21 = .ok (.aload_n 0, 1) := by decide +kernel
theorem dX8_addBits_22 : decode cX8_addBits 22 = .ok (.dup, 1) := by decide +kernel
theorem dX8_addBits_23 : decode cX8_addBits 23 = .ok (.getfield 40, 3) := by decide +kernel
theorem dX8_addBits_26 : decode cX8_addBits 26 = .ok (.iload_n 3, 1) := by decide +kernel
theorem dX8_addBits_27 : decode cX8_addBits 27 = .ok (.iadd, 1) := by decide +kernel
theorem dX8_addBits_28 : decode cX8_addBits 28 = .ok (.putfield 40, 3) := by decide +kernel
theorem dX8_addBits_31 : decode cX8_addBits 31 = .ok (.aload_n 0, 1) := by decide +kernel
theorem dX8_addBits_32 : decode cX8_addBits 32 = .ok (.getfield 40, 3) := by decide +kernel
theorem dX8_addBits_35 : decode cX8_addBits 35 = .ok (.bipush 8, 2) := by decide +kernel
theorem dX8_addBits_37 : decode cX8_addBits 37 = .ok (.if_icmp .lt 72, 3) := by decide +kernel
theorem dX8_addBits_40 : decode cX8_addBits 40 = .ok (.aload_n 0, 1) := by decide +kernel
theorem dX8_addBits_41 : decode cX8_addBits 41 = .ok (.getfield 21, 3) := by decide +kernel
theorem dX8_addBits_44 : decode cX8_addBits 44 = .ok (.ifCond .lt 30, 3) := by decide +kernel
theorem dX8_addBits_47 : decode cX8_addBits 47 = .ok (.aload_n 0, 1) := by decide +kernel
theorem dX8_addBits_48 : decode cX8_addBits 48 = .ok (.getfield 21, 3) := by decide +kernel
theorem dX8_addBits_51 : decode cX8_addBits 51 = .ok (.aload_n 0, 1) := by decide +kernel
theorem dX8_addBits_52 : decode cX8_addBits 52 = .ok (.getfield 15, 3) := by decide +kernel
theorem dX8_addBits_55 : decode cX8_addBits 55 = .ok (.arraylength, 1) := by decide +kernel
theorem dX8_addBits_56 : decode cX8_addBits 56 = .ok (.if_icmp .ge 18, 3) := by decide +kernel
theorem dX8_addBits_59 : decode cX8_addBits 59 = .ok (.aload_n 0, 1) := by decide +kernel
theorem dX8_addBits_60 : decode cX8_addBits 60 = .ok (.getfield 15, 3) := by decide +kernel
theorem dX8_addBits_63 : decode cX8_addBits 63 = .ok (.aload_n 0, 1) := by decide +kernel
theorem dX8_addBits_64 : decode cX8_addBits 64 = .ok (.getfield 21, 3) := by decide +kernel
theorem dX8_addBits_67 : decode cX8_addBits 67 = .ok (.aload_n 0, 1) := by decide +kernel
theorem dX8_addBits_68 : decode cX8_addBits 68 = .ok (.getfield 36, 3) := by decide +kernel
theorem dX8_addBits_71 : decode cX8_addBits 71 = .ok (.l2i, 1) := by decide +kernel
theorem dX8_addBits_72 : decode cX8_addBits 72 = .ok (.i2b, 1) := by decide +kernel
theorem dX8_addBits_73 : decode cX8_addBits 73 = .ok (.bastore, 1) := by decide +kernel
theorem dX8_addBits_74 : decode cX8_addBits 74 = .ok (.aload_n 0, 1) := by decide +kernel
theorem dX8_addBits_75 : decode cX8_addBits 75 = .ok (.dup, 1) := by decide +kernel
theorem dX8_addBits_76 : decode cX8_addBits 76 = .ok (.getfield 21, 3) := by decide +kernel
theorem dX8_addBits_79 : decode cX8_addBits 79 = .ok (.iconst 1, 1) := by decide +kernel
theorem dX8_addBits_80 : decode cX8_addBits 80 = .ok (.iadd, 1) := by decide +kernel
theorem dX8_addBits_81 : decode cX8_addBits 81 = .ok (.putfield 21, 3) := by decide +kernel
theorem dX8_addBits_84 : decode cX8_addBits 84 = .ok (.aload_n 0, 1) := by decide +kernel
theorem dX8_addBits_85 : decode cX8_addBits 85 = .ok (.dup, 1) := by decide +kernel
theorem dX8_addBits_86 : decode cX8_addBits 86 = .ok (.getfield 36, 3) := by decide +kernel
theorem dX8_addBits_89 : decode cX8_addBits 89 = .ok (.bipush 8, 2) := by decide +kernel
theorem dX8_addBits_91 : decode cX8_addBits 91 = .ok (.lushr, 1) := by decide +kernel
theorem dX8_addBits_92 : decode cX8_addBits 92 = .ok (.putfield 36, 3) := by decide +kernel
theorem dX8_addBits_95 : decode cX8_addBits 95 = .ok (.aload_n 0, 1) := by decide +kernel
theorem dX8_addBits_96 : decode cX8_addBits 96 = .ok (.dup, 1) := by decide +kernel
theorem dX8_addBits_97 : decode cX8_addBits 97 = .ok (.getfield 40, 3) := by decide +kernel
theorem dX8_addBits_100 : decode cX8_addBits 100 = .ok (.bipush 8, 2) := by decide +kernel
theorem dX8_addBits_102 : decode cX8_addBits 102 = .ok (.isub, 1) := by decide +kernel
theorem dX8_addBits_103 : decode cX8_addBits 103 = .ok (.putfield 40, 3) := by decide +kernel
theorem dX8_addBits_106 : decode cX8_addBits 106 = .ok (.goto (-75), 3) := by decide +kernel
theorem dX8_addBits_109 : decode cX8_addBits 109 = .ok (.return_, 1) := by decide +kernel
theorem dX8_endBits_0 : decode cX8_endBits 0 = .ok (.aload_n 0, 1) := by decide +kernel
theorem dX8_endBits_1 : decode cX8_endBits 1 = .ok (.lconst 0, 1) := by decide +kernel
theorem dX8_endBits_2 : decode cX8_endBits 2 = .ok (.bipush 8, 2) := by decide +kernel
theorem dX8_endBits_4 : decode cX8_endBits 4 = .ok (.aload_n 0, 1) := by decide +kernel
theorem dX8_endBits_5 : decode cX8_endBits 5 = .ok (.getfield 40, 3) := by decide +kernel
theorem dX8_endBits_8 : decode cX8_endBits 8 = .ok (.isub, 1) := by decide +kernel
theorem dX8_endBits_9 : decode cX8_endBits 9 = .ok (.bipush 7, 2) := by decide +kernel
theorem dX8_endBits_11 : decode cX8_endBits 11 = .ok (.iand, 1) := by decide +kernel
theorem dX8_endBits_12 : decode cX8_endBits 12 = .ok (.invokevirtual 43, 3) := by decide +kernel
theorem dX8_endBits_15 : decode cX8_endBits 15 = .ok (.return_, 1) := by decide +kernel
theorem dX8_number_0 : decode cX8_number 0 = .ok (.lconst 0, 1) := by decide +kernel
theorem dX8_number_1 : decode cX8_number 1 = .ok (.lstore_n 3, 1) := by decide +kernel
theorem dX8_number_2 : decode cX8_number 2 = .ok (.iload_n 2, 1) := by decide +kernel
theorem dX8_number_3 : decode cX8_number 3 = .ok (.iconst 1, 1) := by decide +kernel
theorem dX8_number_4 : decode cX8_number 4 = .ok (.isub, 1) := by decide +kernel
theorem dX8_number_5 : decode cX8_number 5 = .ok (.istore 5, 2) := by decide +kernel
theorem dX8_number_7 : decode cX8_number 7 = .ok (.iload 5, 2) := by decide +kernel
theorem dX8_number_9 : decode cX8_number 9 = .ok (.ifCond .lt 24, 3) := by decide +kernel
theorem dX8_number_12 : decode cX8_number 12 = .ok (.lload_n 3, 1) := by decide +kernel
theorem dX8_number_13 : decode cX8_number 13 = .ok (.bipush 8, 2) := by decide +kernel
theorem dX8_number_15 : decode cX8_number 15 = .ok (.lshl, 1) := by decide +kernel
theorem dX8_number_16 : decode cX8_number 16 = .ok (.aload_n 0, 1) := by decide +kernel
theorem dX8_number_17 : decode cX8_number 17 = .ok (.iload_n 1, 1) := by decide +kernel
theorem dX8_number_18 : decode cX8_number 18 = .ok (.iload 5, 2) := by decide +kernel
theorem dX8_number_20 : decode cX8_number 20 = .ok (.iadd, 1) := by decide +kernel
theorem dX8_number_21 : decode cX8_number 21 = .ok (.invokevirtual 28, 3) := by decide +kernel
theorem dX8_number_24 : decode cX8_number 24 = .ok (.i2l, 1) := by decide +kernel
theorem dX8_number_25 : decode cX8_number 25 = .ok (.lor, 1) := by decide +kernel
theorem dX8_number_26 : decode cX8_number 26 = .ok (.lstore_n 3, 1) := by decide +kernel
theorem dX8_number_27 : decode cX8_number 27 = .ok (.iinc 5 (-1), 3) := by decide +kernel
theorem dX8_number_30 : decode cX8_number 30 = .ok (.goto (-23), 3) := by decide +kernel
theorem dX8_number_33 : decode cX8_number 33 = .ok (.lload_n 3, 1) := by decide +kernel
theorem dX8_number_34 : decode cX8_number 34 = .ok (.lreturn, 1) := by decide +kernel
theorem dX8_same_0 : decode cX8_same 0 = .ok (.iload_n 1, 1) := by decide +kernel
theorem dX8_same_1 : decode cX8_same 1 = .ok (.iconst 1, 1) := by decide +kernel
theorem dX8_same_2 : decode cX8_same 2 = .ok (.iadd, 1) := by decide +kernel
theorem dX8_same_3 : decode cX8_same 3 = .ok (.istore_n 3, 1) := by decide +kernel
theorem dX8_same_4 : decode cX8_same 4 = .ok (.iload_n 3, 1) := by decide +kernel
theorem dX8_same_5 : decode cX8_same 5 = .ok (.iload_n 2, 1) := by decide +kernel
theorem dX8_same_6 : decode cX8_same 6 = .ok (.if_icmp .ge 24, 3) := by decide +kernel
theorem dX8_same_9 : decode cX8_same 9 = .ok (.aload_n 0, 1) := by decide +kernel
theorem dX8_same_10 : decode cX8_same 10 = .ok (.iload_n 3, 1) := by decide +kernel
theorem dX8_same_11 : decode cX8_same 11 = .ok (.invokevirtual 28, 3) := by decide +kernel
theorem dX8_same_14 : decode cX8_same 14 = .ok (.aload_n 0, 1) := by decide +kernel
theorem dX8_same_15 : decode cX8_same 15 = .ok (.iload_n 1, 1) := by decide +kernel
theorem dX8_same_16 : decode cX8_same 16 = .ok (.invokevirtual 28, 3) := by decide +kernel
theorem dX8_same_19 : decode cX8_same 19 = .ok (.if_icmp .eq 5, 3) := by decide +kernel
theorem dX8_same_22 : decode cX8_same 22 = .ok (.iconst 0, 1) := by decide +kernel
theorem dX8_same_23 : decode cX8_same 23 = .ok (.ireturn, 1) := by decide +kernel
theorem dX8_same_24 : decode cX8_same 24 = .ok (.iinc 3 1, 3) := by decide +kernel
theorem dX8_same_27 : decode cX8_same 27 = .ok (.goto (-23), 3) := by decide +kernel
theorem dX8_same_30 : decode cX8_same 30 = .ok (.iconst 1, 1) := by decide +kernel
theorem dX8_same_31 : decode cX8_same 31 = .ok (.ireturn, 1) := by decide +kernel
theorem dX8_sumFrom_0 : decode cX8_sumFrom 0 = .ok (.iload_n 1, 1) := by decide +kernel
theorem dX8_sumFrom_1 : decode cX8_sumFrom 1 = .ok (.aload_n 0, 1) := by decide +kernel
theorem dX8_sumFrom_2 : decode cX8_sumFrom 2 = .ok (.getfield 21, 3) := by decide +kernel
theorem dX8_sumFrom_5 : decode cX8_sumFrom 5 = .ok (.iload_n 1, 1) := by decide +kernel
theorem dX8_sumFrom_6 : decode cX8_sumFrom 6 = .ok (.isub, 1) := by decide +kernel
theorem dX8_sumFrom_7 : decode cX8_sumFrom 7 = .ok (.bipush 32, 2) := by decide +kernel
theorem dX8_sumFrom_9 : decode cX8_sumFrom 9 = .ok (.idiv, 1) := by decide +kernel
theorem dX8_sumFrom_10 : decode cX8_sumFrom 10 = .ok (.bipush 32, 2) := by decide +kernel
theorem dX8_sumFrom_12 : decode cX8_sumFrom 12 = .ok (.imul, 1) := by decide +kernel
theorem dX8_sumFrom_13 : decode cX8_sumFrom 13 = .ok (.iadd, 1) := by decide +kernel
theorem dX8_sumFrom_14 : decode cX8_sumFrom 14 = .ok (.istore_n 2, 1) := by decide +kernel
theorem dX8_sumFrom_15 : decode cX8_sumFrom 15 = .ok (.iload_n 2, 1) := by decide +kernel
theorem dX8_sumFrom_16 : decode cX8_sumFrom 16 = .ok (.iload_n 1, 1) := by decide +kernel
theorem dX8_sumFrom_17 : decode cX8_sumFrom 17 = .ok (.if_icmp .le 12, 3) := by decide +kernel
theorem dX8_sumFrom_20 : decode cX8_sumFrom 20 = .ok (.aload_n 0, 1) := by decide +kernel
theorem dX8_sumFrom_21 : decode cX8_sumFrom 21 = .ok (.iload_n 1, 1) := by decide +kernel
theorem dX8_sumFrom_22 : decode cX8_sumFrom 22 = .ok (.iload_n 2, 1) := by decide +kernel
theorem dX8_sumFrom_23 : decode cX8_sumFrom 23 = .ok (.invokevirtual 47, 3) := by decide +kernel
theorem dX8_sumFrom_26 : decode cX8_sumFrom 26 = .ok (.goto 6, 3) := by decide +kernel
theorem dX8_sumFrom_29 : decode cX8_sumFrom 29 = .ok (.ldc2_w 51, 3) := by decide +kernel
theorem dX8_sumFrom_32 : decode cX8_sumFrom 32 = .ok (.aload_n 0, 1) := by decide +kernel
theorem dX8_sumFrom_33 : decode cX8_sumFrom 33 = .ok (.getfield 21, 3) := by decide +kernel
theorem dX8_sumFrom_36 : decode cX8_sumFrom 36 = .ok (.iload_n 1, 1) := by decide +kernel
theorem dX8_sumFrom_37 : decode cX8_sumFrom 37 = .ok (.isub, 1) := by decide +kernel
theorem dX8_sumFrom_38 : decode cX8_sumFrom 38 = .ok (.i2l, 1) := by decide +kernel
theorem dX8_sumFrom_39 : decode cX8_sumFrom 39 = .ok (.ladd, 1) := by decide +kernel
theorem dX8_sumFrom_40 : decode cX8_sumFrom 40 = .ok (.lstore_n 3, 1) := by decide +kernel
theorem dX8_sumFrom_41 : decode cX8_sumFrom 41 = .ok (.aload_n 0, 1) := by decide +kernel
theorem dX8_sumFrom_42 : decode cX8_sumFrom 42 = .ok (.getfield 21, 3) := by decide +kernel
theorem dX8_sumFrom_45 : decode cX8_sumFrom 45 = .ok (.iload_n 2, 1) := by decide +kernel
theorem dX8_sumFrom_46 : decode cX8_sumFrom 46 = .ok (.isub, 1) := by decide +kernel
theorem dX8_sumFrom_47 : decode cX8_sumFrom 47 = .ok (.bipush 8, 2) := by decide +kernel
theorem dX8_sumFrom_49 : decode cX8_sumFrom 49 = .ok (.if_icmp .lt 36, 3) := by decide +kernel
theorem dX8_sumFrom_52 : decode cX8_sumFrom 52 = .ok (.lload_n 3, 1) := by decide +kernel
theorem dX8_sumFrom_53 : decode cX8_sumFrom 53 = .ok (.lconst 0, 1) := by decide +kernel
theorem dX8_sumFrom_54 : decode cX8_sumFrom 54 = .ok (.aload_n 0, 1) := by decide +kernel
theorem dX8_sumFrom_55 : decode cX8_sumFrom 55 = .ok (.iload_n 2, 1) := by decide +kernel
theorem dX8_sumFrom_56 : decode cX8_sumFrom 56 = .ok (.bipush 8, 2) := by decide +kernel
theorem dX8_sumFrom_58 : decode cX8_sumFrom 58 = .ok (.invokevirtual 53, 3) := by decide +kernel
theorem dX8_sumFrom_61 : decode cX8_sumFrom 61 = .ok (.invokestatic 56, 3) := by decide +kernel
theorem dX8_sumFrom_64 : decode cX8_sumFrom 64 = .ok (.lxor, 1) := by decide +kernel
theorem dX8_sumFrom_65 : decode cX8_sumFrom 65 = .ok (.bipush 27, 2) := by decide +kernel
theorem dX8_sumFrom_67 : decode cX8_sumFrom 67 = .ok (.invokestatic 60, 3) := by decide +kernel
theorem dX8_sumFrom_70 : decode cX8_sumFrom 70 = .ok (.ldc2_w 64, 3) := by decide +kernel
theorem dX8_sumFrom_73 : decode cX8_sumFrom 73 = .ok (.lmul, 1) := by decide +kernel
theorem dX8_sumFrom_74 : decode cX8_sumFrom 74 = .ok (.ldc2_w 66, 3) := by decide +kernel
theorem dX8_sumFrom_77 : decode cX8_sumFrom 77 = .ok (.ladd, 1) := by decide +kernel
theorem dX8_sumFrom_78 : decode cX8_sumFrom 78 = .ok (.lstore_n 3, 1) := by decide +kernel
theorem dX8_sumFrom_79 : decode cX8_sumFrom 79 = .ok (.iinc 2 8, 3) := by decide +kernel
theorem dX8_sumFrom_82 : decode cX8_sumFrom 82 = .ok (.goto (-41), 3) := by decide +kernel
theorem dX8_sumFrom_85 : decode cX8_sumFrom 85 = .ok (.aload_n 0, 1) := by decide +kernel
theorem dX8_sumFrom_86 : decode cX8_sumFrom 86 = .ok (.getfield 21, 3) := by decide +kernel
theorem dX8_sumFrom_89 : decode cX8_sumFrom 89 = .ok (.iload_n 2, 1) := by decide +kernel
theorem dX8_sumFrom_90 : decode cX8_sumFrom 90 = .ok (.isub, 1) := by decide +kernel
theorem dX8_sumFrom_91 : decode cX8_sumFrom 91 = .ok (.iconst 4, 1) := by decide +kernel
theorem dX8_sumFrom_92 : decode cX8_sumFrom 92 = .ok (.if_icmp .lt 35, 3) := by decide +kernel
theorem dX8_sumFrom_95 : decode cX8_sumFrom 95 = .ok (.lload_n 3, 1) := by decide +kernel
theorem dX8_sumFrom_96 : decode cX8_sumFrom 96 = .ok (.aload_n 0, 1) := by decide +kernel
theorem dX8_sumFrom_97 : decode cX8_sumFrom 97 = .ok (.iload_n 2, 1) := by decide +kernel
theorem dX8_sumFrom_98 : decode cX8_sumFrom 98 = .ok (.iconst 4, 1) := by decide +kernel
theorem dX8_sumFrom_99 : decode cX8_sumFrom 99 = .ok (.invokevirtual 53, 3) := by decide +kernel
theorem dX8_sumFrom_102 : decode cX8_sumFrom 102 = .ok (.ldc2_w 64, 3) := by decide +kernel
theorem dX8_sumFrom_105 : decode cX8_sumFrom 105 = .ok (.lmul, 1) := by decide +kernel
theorem dX8_sumFrom_106 : decode cX8_sumFrom 106 = .ok (.lxor, 1) := by decide +kernel
theorem dX8_sumFrom_107 : decode cX8_sumFrom 107 = .ok (.bipush 23, 2) := by decide +kernel
theorem dX8_sumFrom_109 : decode cX8_sumFrom 109 = .ok (.invokestatic 60, 3) := by decide +kernel
theorem dX8_sumFrom_112 : decode cX8_sumFrom 112 = .ok (.ldc2_w 68, 3) := by decide +kernel
theorem dX8_sumFrom_115 : decode cX8_sumFrom 115 = .ok (.lmul, 1) := by decide +kernel
theorem dX8_sumFrom_116 : decode cX8_sumFrom 116 = .ok (.ldc2_w 70, 3) := by decide +kernel
theorem dX8_sumFrom_119 : decode cX8_sumFrom 119 = .ok (.ladd, 1) := by decide +kernel
theorem dX8_sumFrom_120 : decode cX8_sumFrom 120 = .ok (.lstore_n 3, 1) := by decide +kernel
theorem dX8_sumFrom_121 : decode cX8_sumFrom 121 = .ok (.iinc 2 4, 3) := by decide +kernel
theorem dX8_sumFrom_124 : decode cX8_sumFrom 124 = .ok (.goto (-39), 3) := by decide +kernel
theorem dX8_sumFrom_127 : decode cX8_sumFrom 127 = .ok (.aload_n 0, 1) := by decide +kernel
theorem dX8_sumFrom_128 : decode cX8_sumFrom 128 = .ok (.getfield 21, 3) := by decide +kernel
theorem dX8_sumFrom_131 : decode cX8_sumFrom 131 = .ok (.iload_n 2, 1) := by decide +kernel
theorem dX8_sumFrom_132 : decode cX8_sumFrom 132 = .ok (.isub, 1) := by decide +kernel
theorem dX8_sumFrom_133 : decode cX8_sumFrom 133 = .ok (.iconst 1, 1) := by decide +kernel
theorem dX8_sumFrom_134 : decode cX8_sumFrom 134 = .ok (.if_icmp .lt 31, 3) := by decide +kernel
theorem dX8_sumFrom_137 : decode cX8_sumFrom 137 = .ok (.lload_n 3, 1) := by decide +kernel
theorem dX8_sumFrom_138 : decode cX8_sumFrom 138 = .ok (.aload_n 0, 1) := by decide +kernel
theorem dX8_sumFrom_139 : decode cX8_sumFrom 139 = .ok (.iload_n 2, 1) := by decide +kernel
theorem dX8_sumFrom_140 : decode cX8_sumFrom 140 = .ok (.invokevirtual 28, 3) := by decide +kernel
theorem dX8_sumFrom_143 : decode cX8_sumFrom 143 = .ok (.i2l, 1) := by decide +kernel
theorem dX8_sumFrom_144 : decode cX8_sumFrom 144 = .ok (.ldc2_w 51, 3) := by decide +kernel
theorem dX8_sumFrom_147 : decode cX8_sumFrom 147 = .ok (.lmul, 1) := by decide +kernel
theorem dX8_sumFrom_148 : decode cX8_sumFrom 148 = .ok (.lxor, 1) := by decide +kernel
theorem dX8_sumFrom_149 : decode cX8_sumFrom 149 = .ok (.bipush 11, 2) := by decide +kernel
theorem dX8_sumFrom_151 : decode cX8_sumFrom 151 = .ok (.invokestatic 60, 3) := by decide +kernel
theorem dX8_sumFrom_154 : decode cX8_sumFrom 154 = .ok (.ldc2_w 64, 3) := by decide +kernel
theorem dX8_sumFrom_157 : decode cX8_sumFrom 157 = .ok (.lmul, 1) := by decide +kernel
theorem dX8_sumFrom_158 : decode cX8_sumFrom 158 = .ok (.lstore_n 3, 1) := by decide +kernel
theorem dX8_sumFrom_159 : decode cX8_sumFrom 159 = .ok (.iinc 2 1, 3) := by decide +kernel
theorem dX8_sumFrom_162 : decode cX8_sumFrom 162 = .ok (.goto (-35), 3) := by decide +kernel
theorem dX8_sumFrom_165 : decode cX8_sumFrom 165 = .ok (.lload_n 3, 1) := by decide +kernel
theorem dX8_sumFrom_166 : decode cX8_sumFrom 166 = .ok (.lload_n 3, 1) := by decide +kernel
theorem dX8_sumFrom_167 : decode cX8_sumFrom 167 = .ok (.bipush 33, 2) := by decide +kernel
theorem dX8_sumFrom_169 : decode cX8_sumFrom 169 = .ok (.lushr, 1) := by decide +kernel
theorem dX8_sumFrom_170 : decode cX8_sumFrom 170 = .ok (.lxor, 1) := by decide +kernel
theorem dX8_sumFrom_171 : decode cX8_sumFrom 171 = .ok (.ldc2_w 68, 3) := by decide +kernel
theorem dX8_sumFrom_174 : decode cX8_sumFrom 174 = .ok (.lmul, 1) := by decide +kernel
theorem dX8_sumFrom_175 : decode cX8_sumFrom 175 = .ok (.lstore_n 3, 1) := by decide +kernel
theorem dX8_sumFrom_176 : decode cX8_sumFrom 176 = .ok (.lload_n 3, 1) := by decide +kernel
theorem dX8_sumFrom_177 : decode cX8_sumFrom 177 = .ok (.lload_n 3, 1) := by decide +kernel
theorem dX8_sumFrom_178 : decode cX8_sumFrom 178 = .ok (.bipush 29, 2) := by decide +kernel
theorem dX8_sumFrom_180 : decode cX8_sumFrom 180 = .ok (.lushr, 1) := by decide +kernel
theorem dX8_sumFrom_181 : decode cX8_sumFrom 181 = .ok (.lxor, 1) := by decide +kernel
theorem dX8_sumFrom_182 : decode cX8_sumFrom 182 = .ok (.ldc2_w 70, 3) := by decide +kernel
theorem dX8_sumFrom_185 : decode cX8_sumFrom 185 = .ok (.lmul, 1) := by decide +kernel
theorem dX8_sumFrom_186 : decode cX8_sumFrom 186 = .ok (.lstore_n 3, 1) := by decide +kernel
theorem dX8_sumFrom_187 : decode cX8_sumFrom 187 = .ok (.lload_n 3, 1) := by decide +kernel
theorem dX8_sumFrom_188 : decode cX8_sumFrom 188 = .ok (.lload_n 3, 1) := by decide +kernel
theorem dX8_sumFrom_189 : decode cX8_sumFrom 189 = .ok (.bipush 32, 2) := by decide +kernel
theorem dX8_sumFrom_191 : decode cX8_sumFrom 191 = .ok (.lushr, 1) := by decide +kernel
theorem dX8_sumFrom_192 : decode cX8_sumFrom 192 = .ok (.lxor, 1) := by decide +kernel
theorem dX8_sumFrom_193 : decode cX8_sumFrom 193 = .ok (.lreturn, 1) := by decide +kernel
theorem dX8_sumOfLong_0 : decode cX8_sumOfLong 0 = .ok (.ldc2_w 72, 3) := by decide +kernel
theorem dX8_sumOfLong_3 : decode cX8_sumOfLong 3 = .ok (.lstore_n 3, 1) := by decide +kernel
theorem dX8_sumOfLong_4 : decode cX8_sumOfLong 4 = .ok (.ldc2_w 68, 3) := by decide +kernel
theorem dX8_sumOfLong_7 : decode cX8_sumOfLong 7 = .ok (.lstore 5, 2) := by decide +kernel
theorem dX8_sumOfLong_9 : decode cX8_sumOfLong 9 = .ok (.lconst 0, 1) := by decide +kernel
theorem dX8_sumOfLong_10 : decode cX8_sumOfLong 10 = .ok (.lstore 7, 2) := by decide +kernel
theorem dX8_sumOfLong_12 : decode cX8_sumOfLong 12 = .ok (.ldc2_w 74, 3) := by decide +kernel
theorem dX8_sumOfLong_15 : decode cX8_sumOfLong 15 = .ok (.lstore 9, 2) := by decide +kernel
theorem dX8_sumOfLong_17 : decode cX8_sumOfLong 17 = .ok (.iload_n 1, 1) := by decide +kernel
theorem dX8_sumOfLong_18 : decode cX8_sumOfLong 18 = .ok (.istore 11, 2) := by decide +kernel
theorem dX8_sumOfLong_20 : decode cX8_sumOfLong 20 = .ok (.iload 11, 2) := by decide +kernel
theorem dX8_sumOfLong_22 : decode cX8_sumOfLong 22 = .ok (.iload_n 2, 1) := by decide +kernel
theorem dX8_sumOfLong_23 : decode cX8_sumOfLong 23 = .ok (.if_icmp .ge 76, 3) := by decide +kernel
theorem dX8_sumOfLong_26 : decode cX8_sumOfLong 26 = .ok (.lload_n 3, 1) := by decide +kernel
theorem dX8_sumOfLong_27 : decode cX8_sumOfLong 27 = .ok (.aload_n 0, 1) := by decide +kernel
theorem dX8_sumOfLong_28 : decode cX8_sumOfLong 28 = .ok (.iload 11, 2) := by decide +kernel
theorem dX8_sumOfLong_30 : decode cX8_sumOfLong 30 = .ok (.bipush 8, 2) := by decide +kernel
theorem dX8_sumOfLong_32 : decode cX8_sumOfLong 32 = .ok (.invokevirtual 53, 3) := by decide +kernel
theorem dX8_sumOfLong_35 : decode cX8_sumOfLong 35 = .ok (.invokestatic 56, 3) := by decide +kernel
theorem dX8_sumOfLong_38 : decode cX8_sumOfLong 38 = .ok (.lstore_n 3, 1) := by decide +kernel
theorem dX8_sumOfLong_39 : decode cX8_sumOfLong 39 = .ok (.lload 5, 2) := by decide +kernel
theorem dX8_sumOfLong_41 : decode cX8_sumOfLong 41 = .ok (.aload_n 0, 1) := by decide +kernel
theorem dX8_sumOfLong_42 : decode cX8_sumOfLong 42 = .ok (.iload 11, 2) := by decide +kernel
theorem dX8_sumOfLong_44 : decode cX8_sumOfLong 44 = .ok (.bipush 8, 2) := by decide +kernel
theorem dX8_sumOfLong_46 : decode cX8_sumOfLong 46 = .ok (.iadd, 1) := by decide +kernel
theorem dX8_sumOfLong_47 : decode cX8_sumOfLong 47 = .ok (.bipush 8, 2) := by decide +kernel
theorem dX8_sumOfLong_49 : decode cX8_sumOfLong 49 = .ok (.invokevirtual 53, 3) := by decide +kernel
theorem dX8_sumOfLong_52 : decode cX8_sumOfLong 52 = .ok (.invokestatic 56, 3) := by decide +kernel
theorem dX8_sumOfLong_55 : decode cX8_sumOfLong 55 = .ok (.lstore 5, 2) := by decide +kernel
theorem dX8_sumOfLong_57 : decode cX8_sumOfLong 57 = .ok (.lload 7, 2) := by decide +kernel
theorem dX8_sumOfLong_59 : decode cX8_sumOfLong 59 = .ok (.aload_n 0, 1) := by decide +kernel
theorem dX8_sumOfLong_60 : decode cX8_sumOfLong 60 = .ok (.iload 11, 2) := by decide +kernel
theorem dX8_sumOfLong_62 : decode cX8_sumOfLong 62 = .ok (.bipush 16, 2) := by decide +kernel
theorem dX8_sumOfLong_64 : decode cX8_sumOfLong 64 = .ok (.iadd, 1) := by decide +kernel
theorem dX8_sumOfLong_65 : decode cX8_sumOfLong 65 = .ok (.bipush 8, 2) := by decide +kernel
theorem dX8_sumOfLong_67 : decode cX8_sumOfLong 67 = .ok (.invokevirtual 53, 3) := by decide +kernel
theorem dX8_sumOfLong_70 : decode cX8_sumOfLong 70 = .ok (.invokestatic 56, 3) := by decide +kernel
theorem dX8_sumOfLong_73 : decode cX8_sumOfLong 73 = .ok (.lstore 7, 2) := by decide +kernel
theorem dX8_sumOfLong_75 : decode cX8_sumOfLong 75 = .ok (.lload 9, 2) := by decide +kernel
theorem dX8_sumOfLong_77 : decode cX8_sumOfLong 77 = .ok (.aload_n 0, 1) := by decide +kernel
theorem dX8_sumOfLong_78 : decode cX8_sumOfLong 78 = .ok (.iload 11, 2) := by decide +kernel
theorem dX8_sumOfLong_80 : decode cX8_sumOfLong 80 = .ok (.bipush 24, 2) := by decide +kernel
theorem dX8_sumOfLong_82 : decode cX8_sumOfLong 82 = .ok (.iadd, 1) := by decide +kernel
theorem dX8_sumOfLong_83 : decode cX8_sumOfLong 83 = .ok (.bipush 8, 2) := by decide +kernel
theorem dX8_sumOfLong_85 : decode cX8_sumOfLong 85 = .ok (.invokevirtual 53, 3) := by decide +kernel
theorem dX8_sumOfLong_88 : decode cX8_sumOfLong 88 = .ok (.invokestatic 56, 3) := by decide +kernel
theorem dX8_sumOfLong_91 : decode cX8_sumOfLong 91 = .ok (.lstore 9, 2) := by decide +kernel
theorem dX8_sumOfLong_93 : decode cX8_sumOfLong 93 = .ok (.iinc 11 32, 3) := by decide +kernel
theorem dX8_sumOfLong_96 : decode cX8_sumOfLong 96 = .ok (.goto (-76), 3) := by decide +kernel
theorem dX8_sumOfLong_99 : decode cX8_sumOfLong 99 = .ok (.lload_n 3, 1) := by decide +kernel
theorem dX8_sumOfLong_100 : decode cX8_sumOfLong 100 = .ok (.iconst 1, 1) := by decide +kernel
theorem dX8_sumOfLong_101 : decode cX8_sumOfLong 101 = .ok (.invokestatic 60, 3) := by decide +kernel
theorem dX8_sumOfLong_104 : decode cX8_sumOfLong 104 = .ok (.lload 5, 2) := by decide +kernel
theorem dX8_sumOfLong_106 : decode cX8_sumOfLong 106 = .ok (.bipush 7, 2) := by decide +kernel
theorem dX8_sumOfLong_108 : decode cX8_sumOfLong 108 = .ok (.invokestatic 60, 3) := by decide +kernel
theorem dX8_sumOfLong_111 : decode cX8_sumOfLong 111 = .ok (.ladd, 1) := by decide +kernel
theorem dX8_sumOfLong_112 : decode cX8_sumOfLong 112 = .ok (.lload 7, 2) := by decide +kernel
theorem dX8_sumOfLong_114 : decode cX8_sumOfLong 114 = .ok (.bipush 12, 2) := by decide +kernel
theorem dX8_sumOfLong_116 : decode cX8_sumOfLong 116 = .ok (.invokestatic 60, 3) := by decide +kernel
theorem dX8_sumOfLong_119 : decode cX8_sumOfLong 119 = .ok (.ladd, 1) := by decide +kernel
theorem dX8_sumOfLong_120 : decode cX8_sumOfLong 120 = .ok (.lload 9, 2) := by decide +kernel
theorem dX8_sumOfLong_122 : decode cX8_sumOfLong 122 = .ok (.bipush 18, 2) := by decide +kernel
theorem dX8_sumOfLong_124 : decode cX8_sumOfLong 124 = .ok (.invokestatic 60, 3) := by decide +kernel
theorem dX8_sumOfLong_127 : decode cX8_sumOfLong 127 = .ok (.ladd, 1) := by decide +kernel
theorem dX8_sumOfLong_128 : decode cX8_sumOfLong 128 = .ok (.lstore 11, 2) := by decide +kernel
theorem dX8_sumOfLong_130 : decode cX8_sumOfLong 130 = .ok (.lload 11, 2) := by decide +kernel
theorem dX8_sumOfLong_132 : decode cX8_sumOfLong 132 = .ok (.lconst 0, 1) := by decide +kernel
theorem dX8_sumOfLong_133 : decode cX8_sumOfLong 133 = .ok (.lload_n 3, 1) := by decide +kernel
theorem dX8_sumOfLong_134 : decode cX8_sumOfLong 134 = .ok (.invokestatic 56, 3) := by decide +kernel
theorem dX8_sumOfLong_137 : decode cX8_sumOfLong 137 = .ok (.lxor, 1) := by decide +kernel
theorem dX8_sumOfLong_138 : decode cX8_sumOfLong 138 = .ok (.ldc2_w 64, 3) := by decide +kernel
theorem dX8_sumOfLong_141 : decode cX8_sumOfLong 141 = .ok (.lmul, 1) := by decide +kernel
theorem dX8_sumOfLong_142 : decode cX8_sumOfLong 142 = .ok (.ldc2_w 66, 3) := by decide +kernel
theorem dX8_sumOfLong_145 : decode cX8_sumOfLong 145 = .ok (.ladd, 1) := by decide +kernel
theorem dX8_sumOfLong_146 : decode cX8_sumOfLong 146 = .ok (.lstore 11, 2) := by decide +kernel
theorem dX8_sumOfLong_148 : decode cX8_sumOfLong 148 = .ok (.lload 11, 2) := by decide +kernel
theorem dX8_sumOfLong_150 : decode cX8_sumOfLong 150 = .ok (.lconst 0, 1) := by decide +kernel
theorem dX8_sumOfLong_151 : decode cX8_sumOfLong 151 = .ok (.lload 5, 2) := by decide +kernel
theorem dX8_sumOfLong_153 : decode cX8_sumOfLong 153 = .ok (.invokestatic 56, 3) := by decide +kernel
theorem dX8_sumOfLong_156 : decode cX8_sumOfLong 156 = .ok (.lxor, 1) := by decide +kernel
theorem dX8_sumOfLong_157 : decode cX8_sumOfLong 157 = .ok (.ldc2_w 64, 3) := by decide +kernel
theorem dX8_sumOfLong_160 : decode cX8_sumOfLong 160 = .ok (.lmul, 1) := by decide +kernel
theorem dX8_sumOfLong_161 : decode cX8_sumOfLong 161 = .ok (.ldc2_w 66, 3) := by decide +kernel
theorem dX8_sumOfLong_164 : decode cX8_sumOfLong 164 = .ok (.ladd, 1) := by decide +kernel
theorem dX8_sumOfLong_165 : decode cX8_sumOfLong 165 = .ok (.lstore 11, 2) := by decide +kernel
theorem dX8_sumOfLong_167 : decode cX8_sumOfLong 167 = .ok (.lload 11, 2) := by decide +kernel
theorem dX8_sumOfLong_169 : decode cX8_sumOfLong 169 = .ok (.lconst 0, 1) := by decide +kernel
theorem dX8_sumOfLong_170 : decode cX8_sumOfLong 170 = .ok (.lload 7, 2) := by decide +kernel
theorem dX8_sumOfLong_172 : decode cX8_sumOfLong 172 = .ok (.invokestatic 56, 3) := by decide +kernel
theorem dX8_sumOfLong_175 : decode cX8_sumOfLong 175 = .ok (.lxor, 1) := by decide +kernel
theorem dX8_sumOfLong_176 : decode cX8_sumOfLong 176 = .ok (.ldc2_w 64, 3) := by decide +kernel
theorem dX8_sumOfLong_179 : decode cX8_sumOfLong 179 = .ok (.lmul, 1) := by decide +kernel
theorem dX8_sumOfLong_180 : decode cX8_sumOfLong 180 = .ok (.ldc2_w 66, 3) := by decide +kernel
theorem dX8_sumOfLong_183 : decode cX8_sumOfLong 183 = .ok (.ladd, 1) := by decide +kernel
theorem dX8_sumOfLong_184 : decode cX8_sumOfLong 184 = .ok (.lstore 11, 2) := by decide +kernel
theorem dX8_sumOfLong_186 : decode cX8_sumOfLong 186 = .ok (.lload 11, 2) := by decide +kernel
theorem dX8_sumOfLong_188 : decode cX8_sumOfLong 188 = .ok (.lconst 0, 1) := by decide +kernel
theorem dX8_sumOfLong_189 : decode cX8_sumOfLong 189 = .ok (.lload 9, 2) := by decide +kernel
theorem dX8_sumOfLong_191 : decode cX8_sumOfLong 191 = .ok (.invokestatic 56, 3) := by decide +kernel
theorem dX8_sumOfLong_194 : decode cX8_sumOfLong 194 = .ok (.lxor, 1) := by decide +kernel
theorem dX8_sumOfLong_195 : decode cX8_sumOfLong 195 = .ok (.ldc2_w 64, 3) := by decide +kernel
theorem dX8_sumOfLong_198 : decode cX8_sumOfLong 198 = .ok (.lmul, 1) := by decide +kernel
theorem dX8_sumOfLong_199 : decode cX8_sumOfLong 199 = .ok (.ldc2_w 66, 3) := by decide +kernel
theorem dX8_sumOfLong_202 : decode cX8_sumOfLong 202 = .ok (.ladd, 1) := by decide +kernel
theorem dX8_sumOfLong_203 : decode cX8_sumOfLong 203 = .ok (.lreturn, 1) := by decide +kernel
theorem dX9_init_0 : decode cX9_init 0 = .ok (.aload_n 0, 1) := by decide +kernel
theorem dX9_init_1 : decode cX9_init 1 = .ok (.invokespecial 3, 3) := by decide +kernel
theorem dX9_init_4 : decode cX9_init 4 = .ok (.aload_n 0, 1) := by decide +kernel
theorem dX9_init_5 : decode cX9_init 5 = .ok (.iconst 3, 1) := by decide +kernel
theorem dX9_init_6 : decode cX9_init 6 = .ok (.anewarray 9, 3) := by decide +kernel
theorem dX9_init_9 : decode cX9_init 9 = .ok (.putfield 11, 3) := by decide +kernel
theorem dX9_init_12 : decode cX9_init 12 = .ok (.aload_n 0, 1) := by decide +kernel
theorem dX9_init_13 : decode cX9_init 13 = .ok (.iconst 3, 1) := by decide +kernel
theorem dX9_init_14 : decode cX9_init 14 = .ok (.newarray .boolean, 2) := by decide +kernel
theorem dX9_init_16 : decode cX9_init 16 = .ok (.putfield 17, 3) := by decide +kernel
theorem dX9_init_19 : decode cX9_init 19 = .ok (.aload_n 0, 1) := by decide +kernel
theorem dX9_init_20 : decode cX9_init 20 = .ok (.iconst 3, 1) := by decide +kernel
theorem dX9_init_21 : decode cX9_init 21 = .ok (.anewarray 9, 3) := by decide +kernel
theorem dX9_init_24 : decode cX9_init 24 = .ok (.putfield 21, 3) := by decide +kernel
theorem dX9_init_27 : decode cX9_init 27 = .ok (.aload_n 0, 1) := by decide +kernel
theorem dX9_init_28 : decode cX9_init 28 = .ok (.iconst 3, 1) := by decide +kernel
theorem dX9_init_29 : decode cX9_init 29 = .ok (.newarray .int, 2) := by decide +kernel
theorem dX9_init_31 : decode cX9_init 31 = .ok (.putfield 24, 3) := by decide +kernel
theorem dX9_init_34 : decode cX9_init 34 = .ok (.aload_n 0, 1) := by decide +kernel
theorem dX9_init_35 : decode cX9_init 35 = .ok (.iconst 3, 1) := by decide +kernel
theorem dX9_init_36 : decode cX9_init 36 = .ok (.newarray .int, 2) := by decide +kernel
theorem dX9_init_38 : decode cX9_init 38 = .ok (.putfield 28, 3) := by decide +kernel
theorem dX9_init_41 : decode cX9_init 41 = .ok (.aload_n 0, 1) := by decide +kernel
theorem dX9_init_42 : decode cX9_init 42 = .ok (.new 31, 3) := by decide +kernel
theorem dX9_init_45 : decode cX9_init 45 = .ok (.dup, 1) := by decide +kernel
theorem dX9_init_46 : decode cX9_init 46 = .ok (.invokespecial 33, 3) := by decide +kernel
theorem dX9_init_49 : decode cX9_init 49 = .ok (.putfield 34, 3) := by decide +kernel
theorem dX9_init_52 : decode cX9_init 52 = .ok (.aload_n 0, 1) := by decide +kernel
theorem dX9_init_53 : decode cX9_init 53 = .ok (.new 38, 3) := by decide +kernel
theorem dX9_init_56 : decode cX9_init 56 = .ok (.dup, 1) := by decide +kernel
theorem dX9_init_57 : decode cX9_init 57 = .ok (.iconst 0, 1) := by decide +kernel
theorem dX9_init_58 : decode cX9_init 58 = .ok (.invokespecial 40, 3) := by decide +kernel
theorem dX9_init_61 : decode cX9_init 61 = .ok (.putfield 43, 3) := by decide +kernel
theorem dX9_init_64 : decode cX9_init 64 = .ok (.aload_n 0, 1) := by decide +kernel
theorem dX9_init_65 : decode cX9_init 65 = .ok (.aload_n 0, 1) := by decide +kernel
theorem dX9_init_66 : decode cX9_init 66 = .ok (.getfield 43, 3) := by decide +kernel
theorem dX9_init_69 : decode cX9_init 69 = .ok (.putfield 47, 3) := by decide +kernel
theorem dX9_init_72 : decode cX9_init 72 = .ok (.aload_n 0, 1) := by decide +kernel
theorem dX9_init_73 : decode cX9_init 73 = .ok (.aload_n 0, 1) := by decide +kernel
theorem dX9_init_74 : decode cX9_init 74 = .ok (.getfield 43, 3) := by decide +kernel
theorem dX9_init_77 : decode cX9_init 77 = .ok (.putfield 50, 3) := by decide +kernel
theorem dX9_init_80 : decode cX9_init 80 = .ok (.aload_n 0, 1) := by decide +kernel
theorem dX9_init_81 : decode cX9_init 81 = .ok (.aload_n 1, 1) := by decide +kernel
theorem dX9_init_82 : decode cX9_init 82 = .ok (.putfield 53, 3) := by decide +kernel
theorem dX9_init_85 : decode cX9_init 85 = .ok (.aload_n 0, 1) := by decide +kernel
theorem dX9_init_86 : decode cX9_init 86 = .ok (.aload_n 2, 1) := by decide +kernel
theorem dX9_init_87 : decode cX9_init 87 = .ok (.putfield 57, 3) := by decide +kernel
theorem dX9_init_90 : decode cX9_init 90 = .ok (.aload_n 0, 1) := by decide +kernel
theorem dX9_init_91 : decode cX9_init 91 = .ok (.aload_n 3, 1) := by decide +kernel
theorem dX9_init_92 : decode cX9_init 92 = .ok (.putfield 61, 3) := by decide +kernel
theorem dX9_init_95 : decode cX9_init 95 = .ok (.iconst 0, 1) := by decide +kernel
theorem dX9_init_96 : decode cX9_init 96 = .ok (.istore 4, 2) := by decide +kernel
theorem dX9_init_98 : decode cX9_init 98 = .ok (.iload 4, 2) := by decide +kernel
theorem dX9_init_100 : decode cX9_init 100 = .ok (.iconst 3, 1) := by decide +kernel
theorem dX9_init_101 : decode cX9_init 101 = .ok (.if_icmp .ge 37, 3) := by decide +kernel
theorem dX9_init_104 : decode cX9_init 104 = .ok (.aload_n 0, 1) := by decide +kernel
theorem dX9_init_105 : decode cX9_init 105 = .ok (.getfield 21, 3) := by decide +kernel
theorem dX9_init_108 : decode cX9_init 108 = .ok (.iload 4, 2) := by decide +kernel
theorem dX9_init_110 : decode cX9_init 110 = .ok (.new 9, 3) := by decide +kernel
theorem dX9_init_113 : decode cX9_init 113 = .ok (.dup, 1) := by decide +kernel
theorem dX9_init_114 : decode cX9_init 114 = .ok (.invokespecial 64, 3) := by decide +kernel
theorem dX9_init_117 : decode cX9_init 117 = .ok (.aastore, 1) := by decide +kernel
theorem dX9_init_118 : decode cX9_init 118 = .ok (.aload_n 0, 1) := by decide +kernel
theorem dX9_init_119 : decode cX9_init 119 = .ok (.getfield 11, 3) := by decide +kernel
theorem dX9_init_122 : decode cX9_init 122 = .ok (.iload 4, 2) := by decide +kernel
theorem dX9_init_124 : decode cX9_init 124 = .ok (.aload_n 0, 1) := by decide +kernel
theorem dX9_init_125 : decode cX9_init 125 = .ok (.getfield 21, 3) := by decide +kernel
theorem dX9_init_128 : decode cX9_init 128 = .ok (.iload 4, 2) := by decide +kernel
theorem dX9_init_130 : decode cX9_init 130 = .ok (.aaload, 1) := by decide +kernel
theorem dX9_init_131 : decode cX9_init 131 = .ok (.aastore, 1) := by decide +kernel
theorem dX9_init_132 : decode cX9_init 132 = .ok (.iinc 4 1, 3) := by decide +kernel
theorem dX9_init_135 : decode cX9_init 135 = .ok (.goto (-37), 3) := by decide +kernel
theorem dX9_init_138 : decode cX9_init 138 = .ok (.return_, 1) := by decide +kernel
theorem dX9_beginFrame_0 : decode cX9_beginFrame 0 = .ok (.aload_n 0, 1) := by decide +kernel
theorem dX9_beginFrame_1 : decode cX9_beginFrame 1 = .ok (.aload_n 1, 1) := by decide +kernel
theorem dX9_beginFrame_2 : decode cX9_beginFrame 2 = .ok (.putfield 47, 3) := by decide +kernel
theorem dX9_beginFrame_5 : decode cX9_beginFrame 5 = .ok (.aload_n 0, 1) := by decide +kernel
theorem dX9_beginFrame_6 : decode cX9_beginFrame 6 = .ok (.aload_n 1, 1) := by decide +kernel
theorem dX9_beginFrame_7 : decode cX9_beginFrame 7 = .ok (.getfield 65, 3) := by decide +kernel
theorem dX9_beginFrame_10 : decode cX9_beginFrame 10 = .ok (.putfield 69, 3) := by decide +kernel
theorem dX9_beginFrame_13 : decode cX9_beginFrame 13 = .ok (.aload_n 0, 1) := by decide +kernel
theorem dX9_beginFrame_14 : decode cX9_beginFrame 14 = .ok (.lload_n 3, 1) := by decide +kernel
theorem dX9_beginFrame_15 : decode cX9_beginFrame 15 = .ok (.putfield 72, 3) := by decide +kernel
theorem dX9_beginFrame_18 : decode cX9_beginFrame 18 = .ok (.aload_n 0, 1) := by decide +kernel
theorem dX9_beginFrame_19 : decode cX9_beginFrame 19 = .ok (.lload_n 3, 1) := by decide +kernel
theorem dX9_beginFrame_20 : decode cX9_beginFrame 20 = .ok (.ldc2_w 76, 3) := by decide +kernel
theorem dX9_beginFrame_23 : decode cX9_beginFrame 23 = .ok (.invokestatic 78, 3) := by decide +kernel
theorem dX9_beginFrame_26 : decode cX9_beginFrame 26 = .ok (.l2i, 1) := by decide +kernel
theorem dX9_beginFrame_27 : decode cX9_beginFrame 27 = .ok (.putfield 84, 3) := by decide +kernel
theorem dX9_beginFrame_30 : decode cX9_beginFrame 30 = .ok (.aload_n 0, 1) := by decide +kernel
theorem dX9_beginFrame_31 : decode cX9_beginFrame 31 = .ok (.aload_n 2, 1) := by decide +kernel
theorem dX9_beginFrame_32 : decode cX9_beginFrame 32 = .ok (.ifnonnull 10, 3) := by decide +kernel
theorem dX9_beginFrame_35 : decode cX9_beginFrame 35 = .ok (.aload_n 0, 1) := by decide +kernel
theorem dX9_beginFrame_36 : decode cX9_beginFrame 36 = .ok (.getfield 43, 3) := by decide +kernel
theorem dX9_beginFrame_39 : decode cX9_beginFrame 39 = .ok (.goto 7, 3) := by decide +kernel
theorem dX9_beginFrame_42 : decode cX9_beginFrame 42 = .ok (.aload_n 2, 1) := by decide +kernel
theorem dX9_beginFrame_43 : decode cX9_beginFrame 43 = .ok (.getfield 87, 3) := by decide +kernel
theorem dX9_beginFrame_46 : decode cX9_beginFrame 46 = .ok (.putfield 50, 3) := by decide +kernel
theorem dX9_beginFrame_49 : decode cX9_beginFrame 49 = .ok (.iconst 0, 1) := by decide +kernel
theorem dX9_beginFrame_50 : decode cX9_beginFrame 50 = .ok (.istore 5, 2) := by decide +kernel
theorem dX9_beginFrame_52 : decode cX9_beginFrame 52 = .ok (.iload 5, 2) := by decide +kernel
theorem dX9_beginFrame_54 : decode cX9_beginFrame 54 = .ok (.iconst 3, 1) := by decide +kernel
theorem dX9_beginFrame_55 : decode cX9_beginFrame 55 = .ok (.if_icmp .ge 67, 3) := by decide +kernel
theorem dX9_beginFrame_58 : decode cX9_beginFrame 58 = .ok (.aload_n 0, 1) := by decide +kernel
theorem dX9_beginFrame_59 : decode cX9_beginFrame 59 = .ok (.getfield 17, 3) := by decide +kernel
theorem dX9_beginFrame_62 : decode cX9_beginFrame 62 = .ok (.iload 5, 2) := by decide +kernel
theorem dX9_beginFrame_64 : decode cX9_beginFrame 64 = .ok (.aload_n 2, 1) := by decide +kernel
theorem dX9_beginFrame_65 : decode cX9_beginFrame 65 = .ok (.ifnull 14, 3) := by decide +kernel
theorem dX9_beginFrame_68 : decode cX9_beginFrame 68 = .ok (.aload_n 2, 1) := by decide +kernel
theorem dX9_beginFrame_69 : decode cX9_beginFrame 69 = .ok (.getfield 90, 3) := by decide +kernel
theorem dX9_beginFrame_72 : decode cX9_beginFrame 72 = .ok (.ifCond .eq 7, 3) := by decide +kernel
theorem dX9_beginFrame_75 : decode cX9_beginFrame 75 = .ok (.iconst 1, 1) := by decide +kernel
theorem dX9_beginFrame_76 : decode cX9_beginFrame 76 = .ok (.goto 4, 3) := by decide +kernel
theorem dX9_beginFrame_79 : decode cX9_beginFrame 79 = .ok (.iconst 0, 1) := by decide +kernel
theorem dX9_beginFrame_80 : decode cX9_beginFrame 80 = .ok (.bastore, 1) := by decide +kernel
theorem dX9_beginFrame_81 : decode cX9_beginFrame 81 = .ok (.aload_n 0, 1) := by decide +kernel
theorem dX9_beginFrame_82 : decode cX9_beginFrame 82 = .ok (.getfield 11, 3) := by decide +kernel
theorem dX9_beginFrame_85 : decode cX9_beginFrame 85 = .ok (.iload 5, 2) := by decide +kernel
theorem dX9_beginFrame_87 : decode cX9_beginFrame 87 = .ok (.aload_n 2, 1) := by decide +kernel
theorem dX9_beginFrame_88 : decode cX9_beginFrame 88 = .ok (.ifnull 20, 3) := by decide +kernel
theorem dX9_beginFrame_91 : decode cX9_beginFrame 91 = .ok (.aload_n 2, 1) := by decide +kernel
theorem dX9_beginFrame_92 : decode cX9_beginFrame 92 = .ok (.getfield 90, 3) := by decide +kernel
theorem dX9_beginFrame_95 : decode cX9_beginFrame 95 = .ok (.ifCond .eq 13, 3) := by decide +kernel
theorem dX9_beginFrame_98 : decode cX9_beginFrame 98 = .ok (.aload_n 2, 1) := by decide +kernel
theorem dX9_beginFrame_99 : decode cX9_beginFrame 99 = .ok (.getfield 94, 3) := by decide +kernel
theorem dX9_beginFrame_102 : decode cX9_beginFrame 102 = .ok (.iload 5, 2) := by decide +kernel
theorem dX9_beginFrame_104 : decode cX9_beginFrame 104 = .ok (.aaload, 1) := by decide +kernel
theorem dX9_beginFrame_105 : decode cX9_beginFrame 105 = .ok (.goto 10, 3) := by decide +kernel
theorem dX9_beginFrame_108 : decode cX9_beginFrame 108 = .ok (.aload_n 0, 1) := by decide +kernel
theorem dX9_beginFrame_109 : decode cX9_beginFrame 109 = .ok (.getfield 21, 3) := by decide +kernel
theorem dX9_beginFrame_112 : decode cX9_beginFrame 112 = .ok (.iload 5, 2) := by decide +kernel
theorem dX9_beginFrame_114 : decode cX9_beginFrame 114 = .ok (.aaload, 1) := by decide +kernel
theorem dX9_beginFrame_115 : decode cX9_beginFrame 115 = .ok (.aastore, 1) := by decide +kernel
theorem dX9_beginFrame_116 : decode cX9_beginFrame 116 = .ok (.iinc 5 1, 3) := by decide +kernel
theorem dX9_beginFrame_119 : decode cX9_beginFrame 119 = .ok (.goto (-67), 3) := by decide +kernel
theorem dX9_beginFrame_122 : decode cX9_beginFrame 122 = .ok (.aload_n 0, 1) := by decide +kernel
theorem dX9_beginFrame_123 : decode cX9_beginFrame 123 = .ok (.getfield 28, 3) := by decide +kernel
theorem dX9_beginFrame_126 : decode cX9_beginFrame 126 = .ok (.aload_n 2, 1) := by decide +kernel
theorem dX9_beginFrame_127 : decode cX9_beginFrame 127 = .ok (.invokestatic 97, 3) := by decide +kernel
theorem dX9_beginFrame_130 : decode cX9_beginFrame 130 = .ok (.aload_n 0, 1) := by decide +kernel
theorem dX9_beginFrame_131 : decode cX9_beginFrame 131 = .ok (.getfield 53, 3) := by decide +kernel
theorem dX9_beginFrame_134 : decode cX9_beginFrame 134 = .ok (.aload_n 0, 1) := by decide +kernel
theorem dX9_beginFrame_135 : decode cX9_beginFrame 135 = .ok (.getfield 28, 3) := by decide +kernel
theorem dX9_beginFrame_138 : decode cX9_beginFrame 138 = .ok (.invokevirtual 101, 3) := by decide +kernel
theorem dX9_beginFrame_141 : decode cX9_beginFrame 141 = .ok (.return_, 1) := by decide +kernel
theorem dX9_readHead_0 : decode cX9_readHead 0 = .ok (.aload_n 1, 1) := by decide +kernel
theorem dX9_readHead_1 : decode cX9_readHead 1 = .ok (.iload_n 2, 1) := by decide +kernel
theorem dX9_readHead_2 : decode cX9_readHead 2 = .ok (.invokevirtual 107, 3) := by decide +kernel
theorem dX9_readHead_5 : decode cX9_readHead 5 = .ok (.istore 4, 2) := by decide +kernel
theorem dX9_readHead_7 : decode cX9_readHead 7 = .ok (.iload 4, 2) := by decide +kernel
theorem dX9_readHead_9 : decode cX9_readHead 9 = .ok (.sipush 128, 3) := by decide +kernel
theorem dX9_readHead_12 : decode cX9_readHead 12 = .ok (.if_icmp .ge 7, 3) := by decide +kernel
theorem dX9_readHead_15 : decode cX9_readHead 15 = .ok (.iconst 1, 1) := by decide +kernel
theorem dX9_readHead_16 : decode cX9_readHead 16 = .ok (.goto 16, 3) := by decide +kernel
theorem dX9_readHead_19 : decode cX9_readHead 19 = .ok (.iload 4, 2) := by decide +kernel
theorem dX9_readHead_21 : decode cX9_readHead 21 = .ok (.sipush 255, 3) := by decide +kernel
theorem dX9_readHead_24 : decode cX9_readHead 24 = .ok (.if_icmp .ge 7, 3) := by decide +kernel
theorem dX9_readHead_27 : decode cX9_readHead 27 = .ok (.iconst 2, 1) := by decide +kernel
theorem dX9_readHead_28 : decode cX9_readHead 28 = .ok (.goto 4, 3) := by decide +kernel
theorem dX9_readHead_31 : decode cX9_readHead 31 = .ok (.iconst 3, 1) := by decide +kernel
theorem dX9_readHead_32 : decode cX9_readHead 32 = .ok (.istore 5, 2) := by decide +kernel
theorem dX9_readHead_34 : decode cX9_readHead 34 = .ok (.iload_n 2, 1) := by decide +kernel
theorem dX9_readHead_35 : decode cX9_readHead 35 = .ok (.iload_n 3, 1) := by decide +kernel
theorem dX9_readHead_36 : decode cX9_readHead 36 = .ok (.if_icmp .ge 11, 3) := by decide +kernel
theorem dX9_readHead_39 : decode cX9_readHead 39 = .ok (.iload 5, 2) := by decide +kernel
theorem dX9_readHead_41 : decode cX9_readHead 41 = .ok (.iload_n 3, 1) := by decide +kernel
theorem dX9_readHead_42 : decode cX9_readHead 42 = .ok (.iload_n 2, 1) := by decide +kernel
theorem dX9_readHead_43 : decode cX9_readHead 43 = .ok (.isub, 1) := by decide +kernel
theorem dX9_readHead_44 : decode cX9_readHead 44 = .ok (.if_icmp .le 11, 3) := by decide +kernel
theorem dX9_readHead_47 : decode cX9_readHead 47 = .ok (.aload_n 0, 1) := by decide +kernel
theorem dX9_readHead_48 : decode cX9_readHead 48 = .ok (.bipush 14, 2) := by decide +kernel
theorem dX9_readHead_50 : decode cX9_readHead 50 = .ok (.iload_n 2, 1) := by decide +kernel
theorem dX9_readHead_51 : decode cX9_readHead 51 = .ok (.invokevirtual 111, 3) := by decide +kernel
theorem dX9_readHead_54 : decode cX9_readHead 54 = .ok (.ireturn, 1) := by decide +kernel
theorem dX9_readHead_55 : decode cX9_readHead 55 = .ok (.aload_n 0, 1) := by decide +kernel
theorem dX9_readHead_56 : decode cX9_readHead 56 = .ok (.iload 4, 2) := by decide +kernel
theorem dX9_readHead_58 : decode cX9_readHead 58 = .ok (.putfield 115, 3) := by decide +kernel
theorem dX9_readHead_61 : decode cX9_readHead 61 = .ok (.iload 5, 2) := by decide +kernel
theorem dX9_readHead_63 : decode cX9_readHead 63 = .ok (.iconst 2, 1) := by decide +kernel
theorem dX9_readHead_64 : decode cX9_readHead 64 = .ok (.if_icmp .ne 28, 3) := by decide +kernel
theorem dX9_readHead_67 : decode cX9_readHead 67 = .ok (.aload_n 0, 1) := by decide +kernel
theorem dX9_readHead_68 : decode cX9_readHead 68 = .ok (.sipush 256, 3) := by decide +kernel
theorem dX9_readHead_71 : decode cX9_readHead 71 = .ok (.iload 4, 2) := by decide +kernel
theorem dX9_readHead_73 : decode cX9_readHead 73 = .ok (.sipush 128, 3) := by decide +kernel
theorem dX9_readHead_76 : decode cX9_readHead 76 = .ok (.isub, 1) := by decide +kernel
theorem dX9_readHead_77 : decode cX9_readHead 77 = .ok (.imul, 1) := by decide +kernel
theorem dX9_readHead_78 : decode cX9_readHead 78 = .ok (.aload_n 1, 1) := by decide +kernel
theorem dX9_readHead_79 : decode cX9_readHead 79 = .ok (.iload_n 2, 1) := by decide +kernel
theorem dX9_readHead_80 : decode cX9_readHead 80 = .ok (.iconst 1, 1) := by decide +kernel
theorem dX9_readHead_81 : decode cX9_readHead 81 = .ok (.iadd, 1) := by decide +kernel
theorem dX9_readHead_82 : decode cX9_readHead 82 = .ok (.invokevirtual 107, 3) := by decide +kernel
theorem dX9_readHead_85 : decode cX9_readHead 85 = .ok (.iadd, 1) := by decide +kernel
theorem dX9_readHead_86 : decode cX9_readHead 86 = .ok (.putfield 115, 3) := by decide +kernel
theorem dX9_readHead_89 : decode cX9_readHead 89 = .ok (.goto 26, 3) := by decide +kernel
theorem dX9_readHead_92 : decode cX9_readHead 92 = .ok (.iload 5, 2) := by decide +kernel
theorem dX9_readHead_94 : decode cX9_readHead 94 = .ok (.iconst 3, 1) := by decide +kernel
theorem dX9_readHead_95 : decode cX9_readHead 95 = .ok (.if_icmp .ne 20, 3) := by decide +kernel
theorem dX9_readHead_98 : decode cX9_readHead 98 = .ok (.aload_n 0, 1) := by decide +kernel
theorem dX9_readHead_99 : decode cX9_readHead 99 = .ok (.sipush 32512, 3) := by decide +kernel
theorem dX9_readHead_102 : decode cX9_readHead 102 = .ok (.aload_n 1, 1) := by decide +kernel
theorem dX9_readHead_103 : decode cX9_readHead 103 = .ok (.iload_n 2, 1) := by decide +kernel
theorem dX9_readHead_104 : decode cX9_readHead 104 = .ok (.iconst 1, 1) := by decide +kernel
theorem dX9_readHead_105 : decode cX9_readHead 105 = .ok (.iadd, 1) := by decide +kernel
theorem dX9_readHead_106 : decode cX9_readHead 106 = .ok (.iconst 2, 1) := by decide +kernel
theorem dX9_readHead_107 : decode cX9_readHead 107 = .ok (.invokevirtual 118, 3) := by decide +kernel
theorem dX9_readHead_110 : decode cX9_readHead 110 = .ok (.l2i, 1) := by decide +kernel
theorem dX9_readHead_111 : decode cX9_readHead 111 = .ok (.iadd, 1) := by decide +kernel
theorem dX9_readHead_112 : decode cX9_readHead 112 = .ok (.putfield 115, 3) := by decide +kernel
theorem dX9_readHead_115 : decode cX9_readHead 115 = .ok (.aload_n 0, 1) := by decide +kernel
theorem dX9_readHead_116 : decode cX9_readHead 116 = .ok (.iconst 0, 1) := by decide +kernel
theorem dX9_readHead_117 : decode cX9_readHead 117 = .ok (.putfield 122, 3) := by decide +kernel
theorem dX9_readHead_120 : decode cX9_readHead 120 = .ok (.iload_n 2, 1) := by decide +kernel
theorem dX9_readHead_121 : decode cX9_readHead 121 = .ok (.iload 5, 2) := by decide +kernel
theorem dX9_readHead_123 : decode cX9_readHead 123 = .ok (.iadd, 1) := by decide +kernel
theorem dX9_readHead_124 : decode cX9_readHead 124 = .ok (.istore 6, 2) := by decide +kernel
theorem dX9_readHead_126 : decode cX9_readHead 126 = .ok (.aload_n 0, 1) := by decide +kernel
theorem dX9_readHead_127 : decode cX9_readHead 127 = .ok (.getfield 115, 3) := by decide +kernel
theorem dX9_readHead_130 : decode cX9_readHead 130 = .ok (.ifCond .ne 22, 3) := by decide +kernel
theorem dX9_readHead_133 : decode cX9_readHead 133 = .ok (.iload 6, 2) := by decide +kernel
theorem dX9_readHead_135 : decode cX9_readHead 135 = .ok (.iload_n 3, 1) := by decide +kernel
theorem dX9_readHead_136 : decode cX9_readHead 136 = .ok (.if_icmp .ne 8, 3) := by decide +kernel
theorem dX9_readHead_139 : decode cX9_readHead 139 = .ok (.iload 6, 2) := by decide +kernel
theorem dX9_readHead_141 : decode cX9_readHead 141 = .ok (.goto 10, 3) := by decide +kernel
theorem dX9_readHead_144 : decode cX9_readHead 144 = .ok (.aload_n 0, 1) := by decide +kernel
theorem dX9_readHead_145 : decode cX9_readHead 145 = .ok (.bipush 14, 2) := by decide +kernel
theorem dX9_readHead_147 : decode cX9_readHead 147 = .ok (.iload_n 2, 1) := by decide +kernel
theorem dX9_readHead_148 : decode cX9_readHead 148 = .ok (.invokevirtual 111, 3) := by decide +kernel
theorem dX9_readHead_151 : decode cX9_readHead 151 = .ok (.ireturn, 1) := by decide +kernel
theorem dX9_readHead_152 : decode cX9_readHead 152 = .ok (.aload_n 0, 1) := by decide +kernel
theorem dX9_readHead_153 : decode cX9_readHead 153 = .ok (.aload_n 1, 1) := by decide +kernel
theorem dX9_readHead_154 : decode cX9_readHead 154 = .ok (.iload 6, 2) := by decide +kernel
theorem dX9_readHead_156 : decode cX9_readHead 156 = .ok (.invokevirtual 107, 3) := by decide +kernel
theorem dX9_readHead_159 : decode cX9_readHead 159 = .ok (.putfield 122, 3) := by decide +kernel
theorem dX9_readHead_162 : decode cX9_readHead 162 = .ok (.iload 6, 2) := by decide +kernel
theorem dX9_readHead_164 : decode cX9_readHead 164 = .ok (.iload_n 3, 1) := by decide +kernel
theorem dX9_readHead_165 : decode cX9_readHead 165 = .ok (.if_icmp .ge 19, 3) := by decide +kernel
theorem dX9_readHead_168 : decode cX9_readHead 168 = .ok (.aload_n 0, 1) := by decide +kernel
theorem dX9_readHead_169 : decode cX9_readHead 169 = .ok (.getfield 122, 3) := by decide +kernel
theorem dX9_readHead_172 : decode cX9_readHead 172 = .ok (.iconst 3, 1) := by decide +kernel
theorem dX9_readHead_173 : decode cX9_readHead 173 = .ok (.iand, 1) := by decide +kernel
theorem dX9_readHead_174 : decode cX9_readHead 174 = .ok (.ifCond .ne 10, 3) := by decide +kernel
theorem dX9_readHead_177 : decode cX9_readHead 177 = .ok (.iload 6, 2) := by decide +kernel
theorem dX9_readHead_179 : decode cX9_readHead 179 = .ok (.iconst 1, 1) := by decide +kernel
theorem dX9_readHead_180 : decode cX9_readHead 180 = .ok (.iadd, 1) := by decide +kernel
theorem dX9_readHead_181 : decode cX9_readHead 181 = .ok (.goto 10, 3) := by decide +kernel
theorem dX9_readHead_184 : decode cX9_readHead 184 = .ok (.aload_n 0, 1) := by decide +kernel
theorem dX9_readHead_185 : decode cX9_readHead 185 = .ok (.bipush 14, 2) := by decide +kernel
theorem dX9_readHead_187 : decode cX9_readHead 187 = .ok (.iload_n 2, 1) := by decide +kernel
theorem dX9_readHead_188 : decode cX9_readHead 188 = .ok (.invokevirtual 111, 3) := by decide +kernel
theorem dX9_readHead_191 : decode cX9_readHead 191 = .ok (.ireturn, 1) := by decide +kernel
theorem dX9_wrong_0 : decode cX9_wrong 0 = .ok (.aload_n 0, 1) := by decide +kernel
theorem dX9_wrong_1 : decode cX9_wrong 1 = .ok (.getfield 53, 3) := by decide +kernel
theorem dX9_wrong_4 : decode cX9_wrong 4 = .ok (.iload_n 1, 1) := by decide +kernel
theorem dX9_wrong_5 : decode cX9_wrong 5 = .ok (.iload_n 2, 1) := by decide +kernel
theorem dX9_wrong_6 : decode cX9_wrong 6 = .ok (.invokevirtual 125, 3) := by decide +kernel
theorem dX9_wrong_9 : decode cX9_wrong 9 = .ok (.pop, 1) := by decide +kernel
theorem dX9_wrong_10 : decode cX9_wrong 10 = .ok (.iconst (-1), 1) := by decide +kernel
theorem dX9_wrong_11 : decode cX9_wrong 11 = .ok (.ireturn, 1) := by decide +kernel
theorem dX9_none_0 : decode cX9_none 0 = .ok (.aload_n 0, 1) := by decide +kernel
theorem dX9_none_1 : decode cX9_none 1 = .ok (.getfield 115, 3) := by decide +kernel
theorem dX9_none_4 : decode cX9_none 4 = .ok (.ifCond .ne 7, 3) := by decide +kernel
theorem dX9_none_7 : decode cX9_none 7 = .ok (.iconst 1, 1) := by decide +kernel
theorem dX9_none_8 : decode cX9_none 8 = .ok (.goto 4, 3) := by decide +kernel
theorem dX9_none_11 : decode cX9_none 11 = .ok (.iconst 0, 1) := by decide +kernel
theorem dX9_none_12 : decode cX9_none 12 = .ok (.ireturn, 1) := by decide +kernel
theorem dX9_readTable_0 : decode cX9_readTable 0 = .ok (.aload_n 0, 1) := by decide +kernel
theorem dX9_readTable_1 : decode cX9_readTable 1 = .ok (.getfield 122, 3) := by decide +kernel
theorem dX9_readTable_4 : decode cX9_readTable 4 = .ok (.bipush 6, 2) := by decide +kernel
theorem dX9_readTable_6 : decode cX9_readTable 6 = .ok (.iconst 2, 1) := by decide +kernel
theorem dX9_readTable_7 : decode cX9_readTable 7 = .ok (.iload_n 1, 1) := by decide +kernel
theorem dX9_readTable_8 : decode cX9_readTable 8 = .ok (.imul, 1) := by decide +kernel
theorem dX9_readTable_9 : decode cX9_readTable 9 = .ok (.isub, 1) := by decide +kernel
theorem dX9_readTable_10 : decode cX9_readTable 10 = .ok (.ishr, 1) := by decide +kernel
theorem dX9_readTable_11 : decode cX9_readTable 11 = .ok (.iconst 3, 1) := by decide +kernel
theorem dX9_readTable_12 : decode cX9_readTable 12 = .ok (.iand, 1) := by decide +kernel
theorem dX9_readTable_13 : decode cX9_readTable 13 = .ok (.istore 6, 2) := by decide +kernel
theorem dX9_readTable_15 : decode cX9_readTable 15 = .ok (.iload 6, 2) := by decide +kernel
theorem dX9_readTable_17 : decode cX9_readTable 17 = .ok (.iconst 3, 1) := by decide +kernel
theorem dX9_readTable_18 : decode cX9_readTable 18 = .ok (.if_icmp .ne 25, 3) := by decide +kernel
theorem dX9_readTable_21 : decode cX9_readTable 21 = .ok (.aload_n 0, 1) := by decide +kernel
theorem dX9_readTable_22 : decode cX9_readTable 22 = .ok (.getfield 17, 3) := by decide +kernel
theorem dX9_readTable_25 : decode cX9_readTable 25 = .ok (.iload_n 1, 1) := by decide +kernel
theorem dX9_readTable_26 : decode cX9_readTable 26 = .ok (.baload, 1) := by decide +kernel
theorem dX9_readTable_27 : decode cX9_readTable 27 = .ok (.ifCond .eq 8, 3) := by decide +kernel
theorem dX9_readTable_30 : decode cX9_readTable 30 = .ok (.iload 4, 2) := by decide +kernel
theorem dX9_readTable_32 : decode cX9_readTable 32 = .ok (.goto 10, 3) := by decide +kernel
theorem dX9_readTable_35 : decode cX9_readTable 35 = .ok (.aload_n 0, 1) := by decide +kernel
theorem dX9_readTable_36 : decode cX9_readTable 36 = .ok (.bipush 16, 2) := by decide +kernel
theorem dX9_readTable_38 : decode cX9_readTable 38 = .ok (.iload_n 3, 1) := by decide +kernel
theorem dX9_readTable_39 : decode cX9_readTable 39 = .ok (.invokevirtual 111, 3) := by decide +kernel
theorem dX9_readTable_42 : decode cX9_readTable 42 = .ok (.ireturn, 1) := by decide +kernel
theorem dX9_readTable_43 : decode cX9_readTable 43 = .ok (.iload 4, 2) := by decide +kernel
theorem dX9_readTable_45 : decode cX9_readTable 45 = .ok (.istore 7, 2) := by decide +kernel
theorem dX9_readTable_47 : decode cX9_readTable 47 = .ok (.iload 6, 2) := by decide +kernel
theorem dX9_readTable_49 : decode cX9_readTable 49 = .ok (.iconst 1, 1) := by decide +kernel
theorem dX9_readTable_50 : decode cX9_readTable 50 = .ok (.if_icmp .ne 57, 3) := by decide +kernel
theorem dX9_readTable_53 : decode cX9_readTable 53 = .ok (.iload 4, 2) := by decide +kernel
theorem dX9_readTable_55 : decode cX9_readTable 55 = .ok (.iconst 1, 1) := by decide +kernel
theorem dX9_readTable_56 : decode cX9_readTable 56 = .ok (.iadd, 1) := by decide +kernel
theorem dX9_readTable_57 : decode cX9_readTable 57 = .ok (.istore 7, 2) := by decide +kernel
theorem dX9_readTable_59 : decode cX9_readTable 59 = .ok (.iload 4, 2) := by decide +kernel
theorem dX9_readTable_61 : decode cX9_readTable 61 = .ok (.iload 5, 2) := by decide +kernel
theorem dX9_readTable_63 : decode cX9_readTable 63 = .ok (.if_icmp .ge 17, 3) := by decide +kernel
theorem dX9_readTable_66 : decode cX9_readTable 66 = .ok (.aload_n 2, 1) := by decide +kernel
theorem dX9_readTable_67 : decode cX9_readTable 67 = .ok (.iload 4, 2) := by decide +kernel
theorem dX9_readTable_69 : decode cX9_readTable 69 = .ok (.invokevirtual 107, 3) := by decide +kernel
theorem dX9_readTable_72 : decode cX9_readTable 72 = .ok (.getstatic 129, 3) := by decide +kernel
theorem dX9_readTable_75 : decode cX9_readTable 75 = .ok (.iload_n 1, 1) := by decide +kernel
theorem dX9_readTable_76 : decode cX9_readTable 76 = .ok (.iaload, 1) := by decide +kernel
theorem dX9_readTable_77 : decode cX9_readTable 77 = .ok (.if_icmp .le 12, 3) := by decide +kernel
theorem dX9_readTable_80 : decode cX9_readTable 80 = .ok (.aload_n 0, 1) := by decide +kernel
theorem dX9_readTable_81 : decode cX9_readTable 81 = .ok (.bipush 15, 2) := by decide +kernel
theorem dX9_readTable_83 : decode cX9_readTable 83 = .ok (.iload 4, 2) := by decide +kernel
theorem dX9_readTable_85 : decode cX9_readTable 85 = .ok (.invokevirtual 111, 3) := by decide +kernel
theorem dX9_readTable_88 : decode cX9_readTable 88 = .ok (.ireturn, 1) := by decide +kernel
theorem dX9_readTable_89 : decode cX9_readTable 89 = .ok (.aload_n 0, 1) := by decide +kernel
theorem dX9_readTable_90 : decode cX9_readTable 90 = .ok (.getfield 21, 3) := by decide +kernel
theorem dX9_readTable_93 : decode cX9_readTable 93 = .ok (.iload_n 1, 1) := by decide +kernel
theorem dX9_readTable_94 : decode cX9_readTable 94 = .ok (.aaload, 1) := by decide +kernel
theorem dX9_readTable_95 : decode cX9_readTable 95 = .ok (.aload_n 2, 1) := by decide +kernel
theorem dX9_readTable_96 : decode cX9_readTable 96 = .ok (.iload 4, 2) := by decide +kernel
theorem dX9_readTable_98 : decode cX9_readTable 98 = .ok (.invokevirtual 107, 3) := by decide +kernel
theorem dX9_readTable_101 : decode cX9_readTable 101 = .ok (.invokevirtual 132, 3) := by decide +kernel
theorem dX9_readTable_104 : decode cX9_readTable 104 = .ok (.goto 49, 3) := by decide +kernel
theorem dX9_readTable_107 : decode cX9_readTable 107 = .ok (.iload 6, 2) := by decide +kernel
theorem dX9_readTable_109 : decode cX9_readTable 109 = .ok (.iconst 2, 1) := by decide +kernel
theorem dX9_readTable_110 : decode cX9_readTable 110 = .ok (.if_icmp .ne 43, 3) := by decide +kernel
theorem dX9_readTable_113 : decode cX9_readTable 113 = .ok (.aload_n 0, 1) := by decide +kernel
theorem dX9_readTable_114 : decode cX9_readTable 114 = .ok (.getfield 21, 3) := by decide +kernel
theorem dX9_readTable_117 : decode cX9_readTable 117 = .ok (.iload_n 1, 1) := by decide +kernel
theorem dX9_readTable_118 : decode cX9_readTable 118 = .ok (.aaload, 1) := by decide +kernel
theorem dX9_readTable_119 : decode cX9_readTable 119 = .ok (.aload_n 2, 1) := by decide +kernel
theorem dX9_readTable_120 : decode cX9_readTable 120 = .ok (.iload 4, 2) := by decide +kernel
theorem dX9_readTable_122 : decode cX9_readTable 122 = .ok (.iload 5, 2) := by decide +kernel
theorem dX9_readTable_124 : decode cX9_readTable 124 = .ok (.getstatic 129, 3) := by decide +kernel
theorem dX9_readTable_127 : decode cX9_readTable 127 = .ok (.iload_n 1, 1) := by decide +kernel
theorem dX9_readTable_128 : decode cX9_readTable 128 = .ok (.iaload, 1) := by decide +kernel
theorem dX9_readTable_129 : decode cX9_readTable 129 = .ok (.getstatic 135, 3) := by decide +kernel
theorem dX9_readTable_132 : decode cX9_readTable 132 = .ok (.iload_n 1, 1) := by decide +kernel
theorem dX9_readTable_133 : decode cX9_readTable 133 = .ok (.iaload, 1) := by decide +kernel
theorem dX9_readTable_134 : decode cX9_readTable 134 = .ok (.invokevirtual 138, 3) := by decide +kernel
theorem dX9_readTable_137 : decode cX9_readTable 137 = .ok (.istore 7, 2) := by decide +kernel
theorem dX9_readTable_139 : decode cX9_readTable 139 = .ok (.iload 7, 2) := by decide +kernel
theorem dX9_readTable_141 : decode cX9_readTable 141 = .ok (.ifCond .ge 12, 3) := by decide +kernel
theorem dX9_readTable_144 : decode cX9_readTable 144 = .ok (.aload_n 0, 1) := by decide +kernel
theorem dX9_readTable_145 : decode cX9_readTable 145 = .ok (.bipush 15, 2) := by decide +kernel
theorem dX9_readTable_147 : decode cX9_readTable 147 = .ok (.iload 4, 2) := by decide +kernel
theorem dX9_readTable_149 : decode cX9_readTable 149 = .ok (.invokevirtual 111, 3) := by decide +kernel
theorem dX9_readTable_152 : decode cX9_readTable 152 = .ok (.ireturn, 1) := by decide +kernel
theorem dX9_readTable_153 : decode cX9_readTable 153 = .ok (.aload_n 0, 1) := by decide +kernel
theorem dX9_readTable_154 : decode cX9_readTable 154 = .ok (.getfield 11, 3) := by decide +kernel
theorem dX9_readTable_157 : decode cX9_readTable 157 = .ok (.iload_n 1, 1) := by decide +kernel
theorem dX9_readTable_158 : decode cX9_readTable 158 = .ok (.iload 6, 2) := by decide +kernel
theorem dX9_readTable_160 : decode cX9_readTable 160 = .ok (.ifCond .ne 12, 3) := by decide +kernel
theorem dX9_readTable_163 : decode cX9_readTable 163 = .ok (.aload_n 0, 1) := by decide +kernel
theorem dX9_readTable_164 : decode cX9_readTable 164 = .ok (.getfield 61, 3) := by decide +kernel
theorem dX9_readTable_167 : decode cX9_readTable 167 = .ok (.iload_n 1, 1) := by decide +kernel
theorem dX9_readTable_168 : decode cX9_readTable 168 = .ok (.aaload, 1) := by decide +kernel
theorem dX9_readTable_169 : decode cX9_readTable 169 = .ok (.goto 9, 3) := by decide +kernel
theorem dX9_readTable_172 : decode cX9_readTable 172 = .ok (.aload_n 0, 1) := by decide +kernel
theorem dX9_readTable_173 : decode cX9_readTable 173 = .ok (.getfield 21, 3) := by decide +kernel
theorem dX9_readTable_176 : decode cX9_readTable 176 = .ok (.iload_n 1, 1) := by decide +kernel
theorem dX9_readTable_177 : decode cX9_readTable 177 = .ok (.aaload, 1) := by decide +kernel
theorem dX9_readTable_178 : decode cX9_readTable 178 = .ok (.aastore, 1) := by decide +kernel
theorem dX9_readTable_179 : decode cX9_readTable 179 = .ok (.aload_n 0, 1) := by decide +kernel
theorem dX9_readTable_180 : decode cX9_readTable 180 = .ok (.getfield 17, 3) := by decide +kernel
theorem dX9_readTable_183 : decode cX9_readTable 183 = .ok (.iload_n 1, 1) := by decide +kernel
theorem dX9_readTable_184 : decode cX9_readTable 184 = .ok (.iconst 1, 1) := by decide +kernel
theorem dX9_readTable_185 : decode cX9_readTable 185 = .ok (.bastore, 1) := by decide +kernel
theorem dX9_readTable_186 : decode cX9_readTable 186 = .ok (.iload 7, 2) := by decide +kernel
theorem dX9_readTable_188 : decode cX9_readTable 188 = .ok (.ireturn, 1) := by decide +kernel
theorem dX9_run_0 : decode cX9_run 0 = .ok (.aload_n 0, 1) := by decide +kernel
theorem dX9_run_1 : decode cX9_run 1 = .ok (.iconst 0, 1) := by decide +kernel
theorem dX9_run_2 : decode cX9_run 2 = .ok (.putfield 142, 3) := by decide +kernel
theorem dX9_run_5 : decode cX9_run 5 = .ok (.aload_n 0, 1) := by decide +kernel
theorem dX9_run_6 : decode cX9_run 6 = .ok (.aload_n 0, 1) := by decide +kernel
theorem dX9_run_7 : decode cX9_run 7 = .ok (.getfield 47, 3) := by decide +kernel
theorem dX9_run_10 : decode cX9_run 10 = .ok (.getfield 65, 3) := by decide +kernel
theorem dX9_run_13 : decode cX9_run 13 = .ok (.putfield 145, 3) := by decide +kernel
theorem dX9_run_16 : decode cX9_run 16 = .ok (.aload_n 0, 1) := by decide +kernel
theorem dX9_run_17 : decode cX9_run 17 = .ok (.invokevirtual 148, 3) := by decide +kernel
theorem dX9_run_20 : decode cX9_run 20 = .ok (.ifCond .ne 123, 3) := by decide +kernel
theorem dX9_run_23 : decode cX9_run 23 = .ok (.aload_n 0, 1) := by decide +kernel
theorem dX9_run_24 : decode cX9_run 24 = .ok (.getfield 34, 3) := by decide +kernel
theorem dX9_run_27 : decode cX9_run 27 = .ok (.aload_n 1, 1) := by decide +kernel
theorem dX9_run_28 : decode cX9_run 28 = .ok (.iload_n 2, 1) := by decide +kernel
theorem dX9_run_29 : decode cX9_run 29 = .ok (.iload_n 3, 1) := by decide +kernel
theorem dX9_run_30 : decode cX9_run 30 = .ok (.invokevirtual 152, 3) := by decide +kernel
theorem dX9_run_33 : decode cX9_run 33 = .ok (.ifCond .ne 14, 3) := by decide +kernel
theorem dX9_run_36 : decode cX9_run 36 = .ok (.aload_n 0, 1) := by decide +kernel
theorem dX9_run_37 : decode cX9_run 37 = .ok (.getfield 53, 3) := by decide +kernel
theorem dX9_run_40 : decode cX9_run 40 = .ok (.bipush 17, 2) := by decide +kernel
theorem dX9_run_42 : decode cX9_run 42 = .ok (.iload_n 2, 1) := by decide +kernel
theorem dX9_run_43 : decode cX9_run 43 = .ok (.invokevirtual 125, 3) := by decide +kernel
theorem dX9_run_46 : decode cX9_run 46 = .ok (.ireturn, 1) := by decide +kernel
theorem dX9_run_47 : decode cX9_run 47 = .ok (.iconst 0, 1) := by decide +kernel
theorem dX9_run_48 : decode cX9_run 48 = .ok (.istore 4, 2) := by decide +kernel
theorem dX9_run_50 : decode cX9_run 50 = .ok (.iload 4, 2) := by decide +kernel
theorem dX9_run_52 : decode cX9_run 52 = .ok (.iconst 3, 1) := by decide +kernel
theorem dX9_run_53 : decode cX9_run 53 = .ok (.if_icmp .ge 34, 3) := by decide +kernel
theorem dX9_run_56 : decode cX9_run 56 = .ok (.aload_n 0, 1) := by decide +kernel
theorem dX9_run_57 : decode cX9_run 57 = .ok (.getfield 24, 3) := by decide +kernel
theorem dX9_run_60 : decode cX9_run 60 = .ok (.iload 4, 2) := by decide +kernel
theorem dX9_run_62 : decode cX9_run 62 = .ok (.aload_n 0, 1) := by decide +kernel
theorem dX9_run_63 : decode cX9_run 63 = .ok (.getfield 34, 3) := by decide +kernel
theorem dX9_run_66 : decode cX9_run 66 = .ok (.aload_n 0, 1) := by decide +kernel
theorem dX9_run_67 : decode cX9_run 67 = .ok (.getfield 11, 3) := by decide +kernel
theorem dX9_run_70 : decode cX9_run 70 = .ok (.iload 4, 2) := by decide +kernel
theorem dX9_run_72 : decode cX9_run 72 = .ok (.aaload, 1) := by decide +kernel
theorem dX9_run_73 : decode cX9_run 73 = .ok (.getfield 156, 3) := by decide +kernel
theorem dX9_run_76 : decode cX9_run 76 = .ok (.invokevirtual 159, 3) := by decide +kernel
theorem dX9_run_79 : decode cX9_run 79 = .ok (.l2i, 1) := by decide +kernel
theorem dX9_run_80 : decode cX9_run 80 = .ok (.iastore, 1) := by decide +kernel
theorem dX9_run_81 : decode cX9_run 81 = .ok (.iinc 4 1, 3) := by decide +kernel
theorem dX9_run_84 : decode cX9_run 84 = .ok (.goto (-34), 3) := by decide +kernel
theorem dX9_run_87 : decode cX9_run 87 = .ok (.iconst 0, 1) := by decide +kernel
theorem dX9_run_88 : decode cX9_run 88 = .ok (.istore 4, 2) := by decide +kernel
theorem dX9_run_90 : decode cX9_run 90 = .ok (.iload 4, 2) := by decide +kernel
theorem dX9_run_92 : decode cX9_run 92 = .ok (.aload_n 0, 1) := by decide +kernel
theorem dX9_run_93 : decode cX9_run 93 = .ok (.getfield 115, 3) := by decide +kernel
theorem dX9_run_96 : decode cX9_run 96 = .ok (.if_icmp .ge 47, 3) := by decide +kernel
theorem dX9_run_99 : decode cX9_run 99 = .ok (.aload_n 0, 1) := by decide +kernel
theorem dX9_run_100 : decode cX9_run 100 = .ok (.iload 4, 2) := by decide +kernel
theorem dX9_run_102 : decode cX9_run 102 = .ok (.aload_n 0, 1) := by decide +kernel
theorem dX9_run_103 : decode cX9_run 103 = .ok (.getfield 115, 3) := by decide +kernel
theorem dX9_run_106 : decode cX9_run 106 = .ok (.iconst 1, 1) := by decide +kernel
theorem dX9_run_107 : decode cX9_run 107 = .ok (.isub, 1) := by decide +kernel
theorem dX9_run_108 : decode cX9_run 108 = .ok (.if_icmp .ne 7, 3) := by decide +kernel
theorem dX9_run_111 : decode cX9_run 111 = .ok (.iconst 1, 1) := by decide +kernel
theorem dX9_run_112 : decode cX9_run 112 = .ok (.goto 4, 3) := by decide +kernel
theorem dX9_run_115 : decode cX9_run 115 = .ok (.iconst 0, 1) := by decide +kernel
theorem dX9_run_116 : decode cX9_run 116 = .ok (.invokevirtual 163, 3) := by decide +kernel
theorem dX9_run_119 : decode cX9_run 119 = .ok (.istore 5, 2) := by decide +kernel
theorem dX9_run_121 : decode cX9_run 121 = .ok (.iload 5, 2) := by decide +kernel
theorem dX9_run_123 : decode cX9_run 123 = .ok (.ifCond .eq 14, 3) := by decide +kernel
theorem dX9_run_126 : decode cX9_run 126 = .ok (.aload_n 0, 1) := by decide +kernel
theorem dX9_run_127 : decode cX9_run 127 = .ok (.getfield 53, 3) := by decide +kernel
theorem dX9_run_130 : decode cX9_run 130 = .ok (.iload 5, 2) := by decide +kernel
theorem dX9_run_132 : decode cX9_run 132 = .ok (.iload_n 2, 1) := by decide +kernel
theorem dX9_run_133 : decode cX9_run 133 = .ok (.invokevirtual 125, 3) := by decide +kernel
theorem dX9_run_136 : decode cX9_run 136 = .ok (.ireturn, 1) := by decide +kernel
theorem dX9_run_137 : decode cX9_run 137 = .ok (.iinc 4 1, 3) := by decide +kernel
theorem dX9_run_140 : decode cX9_run 140 = .ok (.goto (-50), 3) := by decide +kernel
theorem dX9_run_143 : decode cX9_run 143 = .ok (.aload_n 0, 1) := by decide +kernel
theorem dX9_run_144 : decode cX9_run 144 = .ok (.aload_n 0, 1) := by decide +kernel
theorem dX9_run_145 : decode cX9_run 145 = .ok (.getfield 57, 3) := by decide +kernel
theorem dX9_run_148 : decode cX9_run 148 = .ok (.getfield 167, 3) := by decide +kernel
theorem dX9_run_151 : decode cX9_run 151 = .ok (.getfield 65, 3) := by decide +kernel
theorem dX9_run_154 : decode cX9_run 154 = .ok (.aload_n 0, 1) := by decide +kernel
theorem dX9_run_155 : decode cX9_run 155 = .ok (.getfield 142, 3) := by decide +kernel
theorem dX9_run_158 : decode cX9_run 158 = .ok (.isub, 1) := by decide +kernel
theorem dX9_run_159 : decode cX9_run 159 = .ok (.invokevirtual 172, 3) := by decide +kernel
theorem dX9_run_162 : decode cX9_run 162 = .ok (.aload_n 0, 1) := by decide +kernel
theorem dX9_run_163 : decode cX9_run 163 = .ok (.invokevirtual 175, 3) := by decide +kernel
theorem dX9_run_166 : decode cX9_run 166 = .ok (.ifCond .eq 14, 3) := by decide +kernel
theorem dX9_run_169 : decode cX9_run 169 = .ok (.aload_n 0, 1) := by decide +kernel
theorem dX9_run_170 : decode cX9_run 170 = .ok (.getfield 53, 3) := by decide +kernel
theorem dX9_run_173 : decode cX9_run 173 = .ok (.bipush 20, 2) := by decide +kernel
theorem dX9_run_175 : decode cX9_run 175 = .ok (.iload_n 2, 1) := by decide +kernel
theorem dX9_run_176 : decode cX9_run 176 = .ok (.invokevirtual 125, 3) := by decide +kernel
theorem dX9_run_179 : decode cX9_run 179 = .ok (.ireturn, 1) := by decide +kernel
theorem dX9_run_180 : decode cX9_run 180 = .ok (.aload_n 0, 1) := by decide +kernel
theorem dX9_run_181 : decode cX9_run 181 = .ok (.invokevirtual 148, 3) := by decide +kernel
theorem dX9_run_184 : decode cX9_run 184 = .ok (.ifCond .ne 26, 3) := by decide +kernel
theorem dX9_run_187 : decode cX9_run 187 = .ok (.aload_n 0, 1) := by decide +kernel
theorem dX9_run_188 : decode cX9_run 188 = .ok (.getfield 34, 3) := by decide +kernel
theorem dX9_run_191 : decode cX9_run 191 = .ok (.getfield 178, 3) := by decide +kernel
theorem dX9_run_194 : decode cX9_run 194 = .ok (.ifCond .eq 16, 3) := by decide +kernel
theorem dX9_run_197 : decode cX9_run 197 = .ok (.aload_n 0, 1) := by decide +kernel
theorem dX9_run_198 : decode cX9_run 198 = .ok (.getfield 53, 3) := by decide +kernel
theorem dX9_run_201 : decode cX9_run 201 = .ok (.bipush 17, 2) := by decide +kernel
theorem dX9_run_203 : decode cX9_run 203 = .ok (.iload_n 2, 1) := by decide +kernel
theorem dX9_run_204 : decode cX9_run 204 = .ok (.invokevirtual 125, 3) := by decide +kernel
theorem dX9_run_207 : decode cX9_run 207 = .ok (.ifCond .eq 7, 3) := by decide +kernel
theorem dX9_run_210 : decode cX9_run 210 = .ok (.iconst 1, 1) := by decide +kernel
theorem dX9_run_211 : decode cX9_run 211 = .ok (.goto 4, 3) := by decide +kernel
theorem dX9_run_214 : decode cX9_run 214 = .ok (.iconst 0, 1) := by decide +kernel
theorem dX9_run_215 : decode cX9_run 215 = .ok (.ireturn, 1) := by decide +kernel
theorem dX9_runOne_0 : decode cX9_runOne 0 = .ok (.aload_n 0, 1) := by decide +kernel
theorem dX9_runOne_1 : decode cX9_runOne 1 = .ok (.iconst 1, 1) := by decide +kernel
theorem dX9_runOne_2 : decode cX9_runOne 2 = .ok (.invokevirtual 181, 3) := by decide +kernel
theorem dX9_runOne_5 : decode cX9_runOne 5 = .ok (.istore_n 2, 1) := by decide +kernel
theorem dX9_runOne_6 : decode cX9_runOne 6 = .ok (.lconst 1, 1) := by decide +kernel
theorem dX9_runOne_7 : decode cX9_runOne 7 = .ok (.iload_n 2, 1) := by decide +kernel
theorem dX9_runOne_8 : decode cX9_runOne 8 = .ok (.lshl, 1) := by decide +kernel
theorem dX9_runOne_9 : decode cX9_runOne 9 = .ok (.aload_n 0, 1) := by decide +kernel
theorem dX9_runOne_10 : decode cX9_runOne 10 = .ok (.getfield 34, 3) := by decide +kernel
theorem dX9_runOne_13 : decode cX9_runOne 13 = .ok (.iload_n 2, 1) := by decide +kernel
theorem dX9_runOne_14 : decode cX9_runOne 14 = .ok (.invokevirtual 159, 3) := by decide +kernel
theorem dX9_runOne_17 : decode cX9_runOne 17 = .ok (.ladd, 1) := by decide +kernel
theorem dX9_runOne_18 : decode cX9_runOne 18 = .ok (.lstore_n 3, 1) := by decide +kernel
theorem dX9_runOne_19 : decode cX9_runOne 19 = .ok (.aload_n 0, 1) := by decide +kernel
theorem dX9_runOne_20 : decode cX9_runOne 20 = .ok (.iconst 2, 1) := by decide +kernel
theorem dX9_runOne_21 : decode cX9_runOne 21 = .ok (.invokevirtual 184, 3) := by decide +kernel
theorem dX9_runOne_24 : decode cX9_runOne 24 = .ok (.istore 5, 2) := by decide +kernel
theorem dX9_runOne_26 : decode cX9_runOne 26 = .ok (.aload_n 0, 1) := by decide +kernel
theorem dX9_runOne_27 : decode cX9_runOne 27 = .ok (.iconst 0, 1) := by decide +kernel
theorem dX9_runOne_28 : decode cX9_runOne 28 = .ok (.invokevirtual 184, 3) := by decide +kernel
theorem dX9_runOne_31 : decode cX9_runOne 31 = .ok (.istore 6, 2) := by decide +kernel
theorem dX9_runOne_33 : decode cX9_runOne 33 = .ok (.iload_n 1, 1) := by decide +kernel
theorem dX9_runOne_34 : decode cX9_runOne 34 = .ok (.ifCond .ne 18, 3) := by decide +kernel
theorem dX9_runOne_37 : decode cX9_runOne 37 = .ok (.aload_n 0, 1) := by decide +kernel
theorem dX9_runOne_38 : decode cX9_runOne 38 = .ok (.iconst 0, 1) := by decide +kernel
theorem dX9_runOne_39 : decode cX9_runOne 39 = .ok (.invokevirtual 187, 3) := by decide +kernel
theorem dX9_runOne_42 : decode cX9_runOne 42 = .ok (.aload_n 0, 1) := by decide +kernel
theorem dX9_runOne_43 : decode cX9_runOne 43 = .ok (.iconst 2, 1) := by decide +kernel
theorem dX9_runOne_44 : decode cX9_runOne 44 = .ok (.invokevirtual 187, 3) := by decide +kernel
theorem dX9_runOne_47 : decode cX9_runOne 47 = .ok (.aload_n 0, 1) := by decide +kernel
theorem dX9_runOne_48 : decode cX9_runOne 48 = .ok (.iconst 1, 1) := by decide +kernel
theorem dX9_runOne_49 : decode cX9_runOne 49 = .ok (.invokevirtual 187, 3) := by decide +kernel
theorem dX9_runOne_52 : decode cX9_runOne 52 = .ok (.aload_n 0, 1) := by decide +kernel
theorem dX9_runOne_53 : decode cX9_runOne 53 = .ok (.getfield 34, 3) := by decide +kernel
theorem dX9_runOne_56 : decode cX9_runOne 56 = .ok (.getfield 190, 3) := by decide +kernel
theorem dX9_runOne_59 : decode cX9_runOne 59 = .ok (.ifCond .eq 6, 3) := by decide +kernel
theorem dX9_runOne_62 : decode cX9_runOne 62 = .ok (.bipush 17, 2) := by decide +kernel
theorem dX9_runOne_64 : decode cX9_runOne 64 = .ok (.ireturn, 1) := by decide +kernel
theorem dX9_runOne_65 : decode cX9_runOne 65 = .ok (.iload 6, 2) := by decide +kernel
theorem dX9_runOne_67 : decode cX9_runOne 67 = .ok (.aload_n 0, 1) := by decide +kernel
theorem dX9_runOne_68 : decode cX9_runOne 68 = .ok (.getfield 57, 3) := by decide +kernel
theorem dX9_runOne_71 : decode cX9_runOne 71 = .ok (.getfield 167, 3) := by decide +kernel
theorem dX9_runOne_74 : decode cX9_runOne 74 = .ok (.getfield 65, 3) := by decide +kernel
theorem dX9_runOne_77 : decode cX9_runOne 77 = .ok (.aload_n 0, 1) := by decide +kernel
theorem dX9_runOne_78 : decode cX9_runOne 78 = .ok (.getfield 142, 3) := by decide +kernel
theorem dX9_runOne_81 : decode cX9_runOne 81 = .ok (.isub, 1) := by decide +kernel
theorem dX9_runOne_82 : decode cX9_runOne 82 = .ok (.if_icmp .le 6, 3) := by decide +kernel
theorem dX9_runOne_85 : decode cX9_runOne 85 = .ok (.bipush 19, 2) := by decide +kernel
theorem dX9_runOne_87 : decode cX9_runOne 87 = .ok (.ireturn, 1) := by decide +kernel
theorem dX9_runOne_88 : decode cX9_runOne 88 = .ok (.aload_n 0, 1) := by decide +kernel
theorem dX9_runOne_89 : decode cX9_runOne 89 = .ok (.iload 6, 2) := by decide +kernel
theorem dX9_runOne_91 : decode cX9_runOne 91 = .ok (.invokevirtual 172, 3) := by decide +kernel
theorem dX9_runOne_94 : decode cX9_runOne 94 = .ok (.aload_n 0, 1) := by decide +kernel
theorem dX9_runOne_95 : decode cX9_runOne 95 = .ok (.getfield 28, 3) := by decide +kernel
theorem dX9_runOne_98 : decode cX9_runOne 98 = .ok (.lload_n 3, 1) := by decide +kernel
theorem dX9_runOne_99 : decode cX9_runOne 99 = .ok (.iload 6, 2) := by decide +kernel
theorem dX9_runOne_101 : decode cX9_runOne 101 = .ok (.invokestatic 193, 3) := by decide +kernel
theorem dX9_runOne_104 : decode cX9_runOne 104 = .ok (.lstore 7, 2) := by decide +kernel
theorem dX9_runOne_106 : decode cX9_runOne 106 = .ok (.aload_n 0, 1) := by decide +kernel
theorem dX9_runOne_107 : decode cX9_runOne 107 = .ok (.lload 7, 2) := by decide +kernel
theorem dX9_runOne_109 : decode cX9_runOne 109 = .ok (.invokevirtual 197, 3) := by decide +kernel
theorem dX9_runOne_112 : decode cX9_runOne 112 = .ok (.ifCond .ne 6, 3) := by decide +kernel
theorem dX9_runOne_115 : decode cX9_runOne 115 = .ok (.bipush 18, 2) := by decide +kernel
theorem dX9_runOne_117 : decode cX9_runOne 117 = .ok (.ireturn, 1) := by decide +kernel
theorem dX9_runOne_118 : decode cX9_runOne 118 = .ok (.aload_n 0, 1) := by decide +kernel
theorem dX9_runOne_119 : decode cX9_runOne 119 = .ok (.lload 7, 2) := by decide +kernel
theorem dX9_runOne_121 : decode cX9_runOne 121 = .ok (.l2i, 1) := by decide +kernel
theorem dX9_runOne_122 : decode cX9_runOne 122 = .ok (.iload 5, 2) := by decide +kernel
theorem dX9_runOne_124 : decode cX9_runOne 124 = .ok (.invokevirtual 201, 3) := by decide +kernel
theorem dX9_runOne_127 : decode cX9_runOne 127 = .ok (.aload_n 0, 1) := by decide +kernel
theorem dX9_runOne_128 : decode cX9_runOne 128 = .ok (.invokevirtual 175, 3) := by decide +kernel
theorem dX9_runOne_131 : decode cX9_runOne 131 = .ok (.ifCond .eq 6, 3) := by decide +kernel
theorem dX9_runOne_134 : decode cX9_runOne 134 = .ok (.bipush 20, 2) := by decide +kernel
theorem dX9_runOne_136 : decode cX9_runOne 136 = .ok (.ireturn, 1) := by decide +kernel
theorem dX9_runOne_137 : decode cX9_runOne 137 = .ok (.aload_n 0, 1) := by decide +kernel
theorem dX9_runOne_138 : decode cX9_runOne 138 = .ok (.getfield 28, 3) := by decide +kernel
theorem dX9_runOne_141 : decode cX9_runOne 141 = .ok (.lload_n 3, 1) := by decide +kernel
theorem dX9_runOne_142 : decode cX9_runOne 142 = .ok (.iload 6, 2) := by decide +kernel
theorem dX9_runOne_144 : decode cX9_runOne 144 = .ok (.invokestatic 205, 3) := by decide +kernel
theorem dX9_runOne_147 : decode cX9_runOne 147 = .ok (.lload 7, 2) := by decide +kernel
theorem dX9_runOne_149 : decode cX9_runOne 149 = .ok (.l2i, 1) := by decide +kernel
theorem dX9_runOne_150 : decode cX9_runOne 150 = .ok (.invokestatic 209, 3) := by decide +kernel
theorem dX9_runOne_153 : decode cX9_runOne 153 = .ok (.aload_n 0, 1) := by decide +kernel
theorem dX9_runOne_154 : decode cX9_runOne 154 = .ok (.getfield 53, 3) := by decide +kernel
theorem dX9_runOne_157 : decode cX9_runOne 157 = .ok (.iload 6, 2) := by decide +kernel
theorem dX9_runOne_159 : decode cX9_runOne 159 = .ok (.iload 5, 2) := by decide +kernel
theorem dX9_runOne_161 : decode cX9_runOne 161 = .ok (.lload_n 3, 1) := by decide +kernel
theorem dX9_runOne_162 : decode cX9_runOne 162 = .ok (.l2i, 1) := by decide +kernel
theorem dX9_runOne_163 : decode cX9_runOne 163 = .ok (.lload 7, 2) := by decide +kernel
theorem dX9_runOne_165 : decode cX9_runOne 165 = .ok (.l2i, 1) := by decide +kernel
theorem dX9_runOne_166 : decode cX9_runOne 166 = .ok (.invokevirtual 213, 3) := by decide +kernel
theorem dX9_runOne_169 : decode cX9_runOne 169 = .ok (.aload_n 0, 1) := by decide +kernel
theorem dX9_runOne_170 : decode cX9_runOne 170 = .ok (.getfield 53, 3) := by decide +kernel
theorem dX9_runOne_173 : decode cX9_runOne 173 = .ok (.aload_n 0, 1) := by decide +kernel
theorem dX9_runOne_174 : decode cX9_runOne 174 = .ok (.getfield 28, 3) := by decide +kernel
theorem dX9_runOne_177 : decode cX9_runOne 177 = .ok (.invokevirtual 101, 3) := by decide +kernel
theorem dX9_runOne_180 : decode cX9_runOne 180 = .ok (.iconst 0, 1) := by decide +kernel
theorem dX9_runOne_181 : decode cX9_runOne 181 = .ok (.ireturn, 1) := by decide +kernel
theorem dX9_symbolOf_0 : decode cX9_symbolOf 0 = .ok (.aload_n 0, 1) := by decide +kernel
theorem dX9_symbolOf_1 : decode cX9_symbolOf 1 = .ok (.getfield 11, 3) := by decide +kernel
theorem dX9_symbolOf_4 : decode cX9_symbolOf 4 = .ok (.iload_n 1, 1) := by decide +kernel
theorem dX9_symbolOf_5 : decode cX9_symbolOf 5 = .ok (.aaload, 1) := by decide +kernel
theorem dX9_symbolOf_6 : decode cX9_symbolOf 6 = .ok (.aload_n 0, 1) := by decide +kernel
theorem dX9_symbolOf_7 : decode cX9_symbolOf 7 = .ok (.getfield 24, 3) := by decide +kernel
theorem dX9_symbolOf_10 : decode cX9_symbolOf 10 = .ok (.iload_n 1, 1) := by decide +kernel
theorem dX9_symbolOf_11 : decode cX9_symbolOf 11 = .ok (.iaload, 1) := by decide +kernel
theorem dX9_symbolOf_12 : decode cX9_symbolOf 12 = .ok (.invokevirtual 217, 3) := by decide +kernel
theorem dX9_symbolOf_15 : decode cX9_symbolOf 15 = .ok (.getstatic 129, 3) := by decide +kernel
theorem dX9_symbolOf_18 : decode cX9_symbolOf 18 = .ok (.iload_n 1, 1) := by decide +kernel
theorem dX9_symbolOf_19 : decode cX9_symbolOf 19 = .ok (.iaload, 1) := by decide +kernel
theorem dX9_symbolOf_20 : decode cX9_symbolOf 20 = .ok (.invokestatic 220, 3) := by decide +kernel
theorem dX9_symbolOf_23 : decode cX9_symbolOf 23 = .ok (.ireturn, 1) := by decide +kernel
theorem dX9_lengthOf_0 : decode cX9_lengthOf 0 = .ok (.aload_n 0, 1) := by decide +kernel
theorem dX9_lengthOf_1 : decode cX9_lengthOf 1 = .ok (.iload_n 1, 1) := by decide +kernel
theorem dX9_lengthOf_2 : decode cX9_lengthOf 2 = .ok (.invokevirtual 181, 3) := by decide +kernel
theorem dX9_lengthOf_5 : decode cX9_lengthOf 5 = .ok (.istore_n 2, 1) := by decide +kernel
theorem dX9_lengthOf_6 : decode cX9_lengthOf 6 = .ok (.iload_n 1, 1) := by decide +kernel
theorem dX9_lengthOf_7 : decode cX9_lengthOf 7 = .ok (.invokestatic 222, 3) := by decide +kernel
theorem dX9_lengthOf_10 : decode cX9_lengthOf 10 = .ok (.iload_n 2, 1) := by decide +kernel
theorem dX9_lengthOf_11 : decode cX9_lengthOf 11 = .ok (.iaload, 1) := by decide +kernel
theorem dX9_lengthOf_12 : decode cX9_lengthOf 12 = .ok (.aload_n 0, 1) := by decide +kernel
theorem dX9_lengthOf_13 : decode cX9_lengthOf 13 = .ok (.getfield 34, 3) := by decide +kernel
theorem dX9_lengthOf_16 : decode cX9_lengthOf 16 = .ok (.iload_n 1, 1) := by decide +kernel
theorem dX9_lengthOf_17 : decode cX9_lengthOf 17 = .ok (.invokestatic 226, 3) := by decide +kernel
theorem dX9_lengthOf_20 : decode cX9_lengthOf 20 = .ok (.iload_n 2, 1) := by decide +kernel
theorem dX9_lengthOf_21 : decode cX9_lengthOf 21 = .ok (.iaload, 1) := by decide +kernel
theorem dX9_lengthOf_22 : decode cX9_lengthOf 22 = .ok (.invokevirtual 159, 3) := by decide +kernel
theorem dX9_lengthOf_25 : decode cX9_lengthOf 25 = .ok (.l2i, 1) := by decide +kernel
theorem dX9_lengthOf_26 : decode cX9_lengthOf 26 = .ok (.iadd, 1) := by decide +kernel
theorem dX9_lengthOf_27 : decode cX9_lengthOf 27 = .ok (.ireturn, 1) := by decide +kernel
theorem dX9_goOn_0 : decode cX9_goOn 0 = .ok (.aload_n 0, 1) := by decide +kernel
theorem dX9_goOn_1 : decode cX9_goOn 1 = .ok (.getfield 11, 3) := by decide +kernel
theorem dX9_goOn_4 : decode cX9_goOn 4 = .ok (.iload_n 1, 1) := by decide +kernel
theorem dX9_goOn_5 : decode cX9_goOn 5 = .ok (.aaload, 1) := by decide +kernel
theorem dX9_goOn_6 : decode cX9_goOn 6 = .ok (.astore_n 2, 1) := by decide +kernel
theorem dX9_goOn_7 : decode cX9_goOn 7 = .ok (.aload_n 0, 1) := by decide +kernel
theorem dX9_goOn_8 : decode cX9_goOn 8 = .ok (.getfield 24, 3) := by decide +kernel
theorem dX9_goOn_11 : decode cX9_goOn 11 = .ok (.iload_n 1, 1) := by decide +kernel
theorem dX9_goOn_12 : decode cX9_goOn 12 = .ok (.iaload, 1) := by decide +kernel
theorem dX9_goOn_13 : decode cX9_goOn 13 = .ok (.istore_n 3, 1) := by decide +kernel
theorem dX9_goOn_14 : decode cX9_goOn 14 = .ok (.aload_n 0, 1) := by decide +kernel
theorem dX9_goOn_15 : decode cX9_goOn 15 = .ok (.getfield 24, 3) := by decide +kernel
theorem dX9_goOn_18 : decode cX9_goOn 18 = .ok (.iload_n 1, 1) := by decide +kernel
theorem dX9_goOn_19 : decode cX9_goOn 19 = .ok (.aload_n 2, 1) := by decide +kernel
theorem dX9_goOn_20 : decode cX9_goOn 20 = .ok (.iload_n 3, 1) := by decide +kernel
theorem dX9_goOn_21 : decode cX9_goOn 21 = .ok (.invokevirtual 229, 3) := by decide +kernel
theorem dX9_goOn_24 : decode cX9_goOn 24 = .ok (.aload_n 0, 1) := by decide +kernel
theorem dX9_goOn_25 : decode cX9_goOn 25 = .ok (.getfield 34, 3) := by decide +kernel
theorem dX9_goOn_28 : decode cX9_goOn 28 = .ok (.aload_n 2, 1) := by decide +kernel
theorem dX9_goOn_29 : decode cX9_goOn 29 = .ok (.iload_n 3, 1) := by decide +kernel
theorem dX9_goOn_30 : decode cX9_goOn 30 = .ok (.invokevirtual 232, 3) := by decide +kernel
theorem dX9_goOn_33 : decode cX9_goOn 33 = .ok (.invokevirtual 159, 3) := by decide +kernel
theorem dX9_goOn_36 : decode cX9_goOn 36 = .ok (.l2i, 1) := by decide +kernel
theorem dX9_goOn_37 : decode cX9_goOn 37 = .ok (.iadd, 1) := by decide +kernel
theorem dX9_goOn_38 : decode cX9_goOn 38 = .ok (.iastore, 1) := by decide +kernel
theorem dX9_goOn_39 : decode cX9_goOn 39 = .ok (.return_, 1) := by decide +kernel
theorem dX9_tooMany_0 : decode cX9_tooMany 0 = .ok (.aload_n 0, 1) := by decide +kernel
theorem dX9_tooMany_1 : decode cX9_tooMany 1 = .ok (.getfield 47, 3) := by decide +kernel
theorem dX9_tooMany_4 : decode cX9_tooMany 4 = .ok (.getfield 65, 3) := by decide +kernel
theorem dX9_tooMany_7 : decode cX9_tooMany 7 = .ok (.aload_n 0, 1) := by decide +kernel
theorem dX9_tooMany_8 : decode cX9_tooMany 8 = .ok (.getfield 145, 3) := by decide +kernel
theorem dX9_tooMany_11 : decode cX9_tooMany 11 = .ok (.isub, 1) := by decide +kernel
theorem dX9_tooMany_12 : decode cX9_tooMany 12 = .ok (.aload_n 0, 1) := by decide +kernel
theorem dX9_tooMany_13 : decode cX9_tooMany 13 = .ok (.getfield 84, 3) := by decide +kernel
theorem dX9_tooMany_16 : decode cX9_tooMany 16 = .ok (.if_icmp .le 7, 3) := by decide +kernel
theorem dX9_tooMany_19 : decode cX9_tooMany 19 = .ok (.iconst 1, 1) := by decide +kernel
theorem dX9_tooMany_20 : decode cX9_tooMany 20 = .ok (.goto 4, 3) := by decide +kernel
theorem dX9_tooMany_23 : decode cX9_tooMany 23 = .ok (.iconst 0, 1) := by decide +kernel
theorem dX9_tooMany_24 : decode cX9_tooMany 24 = .ok (.ireturn, 1) := by decide +kernel
theorem dX9_reaches_0 : decode cX9_reaches 0 = .ok (.aload_n 0, 1) := by decide +kernel
theorem dX9_reaches_1 : decode cX9_reaches 1 = .ok (.getfield 47, 3) := by decide +kernel
theorem dX9_reaches_4 : decode cX9_reaches 4 = .ok (.getfield 65, 3) := by decide +kernel
theorem dX9_reaches_7 : decode cX9_reaches 7 = .ok (.aload_n 0, 1) := by decide +kernel
theorem dX9_reaches_8 : decode cX9_reaches 8 = .ok (.getfield 69, 3) := by decide +kernel
theorem dX9_reaches_11 : decode cX9_reaches 11 = .ok (.isub, 1) := by decide +kernel
theorem dX9_reaches_12 : decode cX9_reaches 12 = .ok (.istore_n 3, 1) := by decide +kernel
theorem dX9_reaches_13 : decode cX9_reaches 13 = .ok (.lload_n 1, 1) := by decide +kernel
theorem dX9_reaches_14 : decode cX9_reaches 14 = .ok (.lconst 0, 1) := by decide +kernel
theorem dX9_reaches_15 : decode cX9_reaches 15 = .ok (.lcmp, 1) := by decide +kernel
theorem dX9_reaches_16 : decode cX9_reaches 16 = .ok (.ifCond .le 18, 3) := by decide +kernel
theorem dX9_reaches_19 : decode cX9_reaches 19 = .ok (.lload_n 1, 1) := by decide +kernel
theorem dX9_reaches_20 : decode cX9_reaches 20 = .ok (.iload_n 3, 1) := by decide +kernel
theorem dX9_reaches_21 : decode cX9_reaches 21 = .ok (.aload_n 0, 1) := by decide +kernel
theorem dX9_reaches_22 : decode cX9_reaches 22 = .ok (.getfield 50, 3) := by decide +kernel
theorem dX9_reaches_25 : decode cX9_reaches 25 = .ok (.getfield 65, 3) := by decide +kernel
theorem dX9_reaches_28 : decode cX9_reaches 28 = .ok (.iadd, 1) := by decide +kernel
theorem dX9_reaches_29 : decode cX9_reaches 29 = .ok (.i2l, 1) := by decide +kernel
theorem dX9_reaches_30 : decode cX9_reaches 30 = .ok (.lcmp, 1) := by decide +kernel
theorem dX9_reaches_31 : decode cX9_reaches 31 = .ok (.ifCond .le 5, 3) := by decide +kernel
theorem dX9_reaches_34 : decode cX9_reaches 34 = .ok (.iconst 0, 1) := by decide +kernel
theorem dX9_reaches_35 : decode cX9_reaches 35 = .ok (.ireturn, 1) := by decide +kernel
theorem dX9_reaches_36 : decode cX9_reaches 36 = .ok (.lload_n 1, 1) := by decide +kernel
theorem dX9_reaches_37 : decode cX9_reaches 37 = .ok (.iload_n 3, 1) := by decide +kernel
theorem dX9_reaches_38 : decode cX9_reaches 38 = .ok (.i2l, 1) := by decide +kernel
theorem dX9_reaches_39 : decode cX9_reaches 39 = .ok (.lcmp, 1) := by decide +kernel
theorem dX9_reaches_40 : decode cX9_reaches 40 = .ok (.ifCond .gt 20, 3) := by decide +kernel
theorem dX9_reaches_43 : decode cX9_reaches 43 = .ok (.lload_n 1, 1) := by decide +kernel
theorem dX9_reaches_44 : decode cX9_reaches 44 = .ok (.aload_n 0, 1) := by decide +kernel
theorem dX9_reaches_45 : decode cX9_reaches 45 = .ok (.getfield 72, 3) := by decide +kernel
theorem dX9_reaches_48 : decode cX9_reaches 48 = .ok (.lcmp, 1) := by decide +kernel
theorem dX9_reaches_49 : decode cX9_reaches 49 = .ok (.ifCond .gt 7, 3) := by decide +kernel
theorem dX9_reaches_52 : decode cX9_reaches 52 = .ok (.iconst 1, 1) := by decide +kernel
theorem dX9_reaches_53 : decode cX9_reaches 53 = .ok (.goto 22, 3) := by decide +kernel
theorem dX9_reaches_56 : decode cX9_reaches 56 = .ok (.iconst 0, 1) := by decide +kernel
theorem dX9_reaches_57 : decode cX9_reaches 57 = .ok (.goto 18, 3) := by decide +kernel
theorem dX9_reaches_60 : decode cX9_reaches 60 = .ok (.iload_n 3, 1) := by decide +kernel
theorem dX9_reaches_61 : decode cX9_reaches 61 = .ok (.i2l, 1) := by decide +kernel
theorem dX9_reaches_62 : decode cX9_reaches 62 = .ok (.aload_n 0, 1) := by decide +kernel
theorem dX9_reaches_63 : decode cX9_reaches 63 = .ok (.getfield 72, 3) := by decide +kernel
theorem dX9_reaches_66 : decode cX9_reaches 66 = .ok (.lcmp, 1) := by decide +kernel
theorem dX9_reaches_67 : decode cX9_reaches 67 = .ok (.ifCond .gt 7, 3) := by decide +kernel
theorem dX9_reaches_70 : decode cX9_reaches 70 = .ok (.iconst 1, 1) := by decide +kernel
theorem dX9_reaches_71 : decode cX9_reaches 71 = .ok (.goto 4, 3) := by decide +kernel
theorem dX9_reaches_74 : decode cX9_reaches 74 = .ok (.iconst 0, 1) := by decide +kernel
theorem dX9_reaches_75 : decode cX9_reaches 75 = .ok (.ireturn, 1) := by decide +kernel
theorem dX9_putLetters_0 : decode cX9_putLetters 0 = .ok (.aload_n 0, 1) := by decide +kernel
theorem dX9_putLetters_1 : decode cX9_putLetters 1 = .ok (.getfield 47, 3) := by decide +kernel
theorem dX9_putLetters_4 : decode cX9_putLetters 4 = .ok (.aload_n 0, 1) := by decide +kernel
theorem dX9_putLetters_5 : decode cX9_putLetters 5 = .ok (.getfield 57, 3) := by decide +kernel
theorem dX9_putLetters_8 : decode cX9_putLetters 8 = .ok (.getfield 167, 3) := by decide +kernel
theorem dX9_putLetters_11 : decode cX9_putLetters 11 = .ok (.aload_n 0, 1) := by decide +kernel
theorem dX9_putLetters_12 : decode cX9_putLetters 12 = .ok (.getfield 142, 3) := by decide +kernel
theorem dX9_putLetters_15 : decode cX9_putLetters 15 = .ok (.iload_n 1, 1) := by decide +kernel
theorem dX9_putLetters_16 : decode cX9_putLetters 16 = .ok (.invokevirtual 235, 3) := by decide +kernel
theorem dX9_putLetters_19 : decode cX9_putLetters 19 = .ok (.aload_n 0, 1) := by decide +kernel
theorem dX9_putLetters_20 : decode cX9_putLetters 20 = .ok (.dup, 1) := by decide +kernel
theorem dX9_putLetters_21 : decode cX9_putLetters 21 = .ok (.getfield 142, 3) := by decide +kernel
theorem dX9_putLetters_24 : decode cX9_putLetters 24 = .ok (.iload_n 1, 1) := by decide +kernel
theorem dX9_putLetters_25 : decode cX9_putLetters 25 = .ok (.iadd, 1) := by decide +kernel
theorem dX9_putLetters_26 : decode cX9_putLetters 26 = .ok (.putfield 142, 3) := by decide +kernel
theorem dX9_putLetters_29 : decode cX9_putLetters 29 = .ok (.return_, 1) := by decide +kernel
theorem dX9_putCopy_0 : decode cX9_putCopy 0 = .ok (.iconst 0, 1) := by decide +kernel
theorem dX9_putCopy_1 : decode cX9_putCopy 1 = .ok (.iload_n 2, 1) := by decide +kernel
theorem dX9_putCopy_2 : decode cX9_putCopy 2 = .ok (.sipush 8000, 3) := by decide +kernel
theorem dX9_putCopy_5 : decode cX9_putCopy 5 = .ok (.aload_n 0, 1) := by decide +kernel
theorem dX9_putCopy_6 : decode cX9_putCopy 6 = .ok (.getfield 47, 3) := by decide +kernel
theorem dX9_putCopy_9 : decode cX9_putCopy 9 = .ok (.getfield 65, 3) := by decide +kernel
theorem dX9_putCopy_12 : decode cX9_putCopy 12 = .ok (.isub, 1) := by decide +kernel
theorem dX9_putCopy_13 : decode cX9_putCopy 13 = .ok (.invokestatic 220, 3) := by decide +kernel
theorem dX9_putCopy_16 : decode cX9_putCopy 16 = .ok (.invokestatic 239, 3) := by decide +kernel
theorem dX9_putCopy_19 : decode cX9_putCopy 19 = .ok (.istore_n 3, 1) := by decide +kernel
theorem dX9_putCopy_20 : decode cX9_putCopy 20 = .ok (.iconst 0, 1) := by decide +kernel
theorem dX9_putCopy_21 : decode cX9_putCopy 21 = .ok (.istore 4, 2) := by decide +kernel
theorem dX9_putCopy_23 : decode cX9_putCopy 23 = .ok (.iload 4, 2) := by decide +kernel
theorem dX9_putCopy_25 : decode cX9_putCopy 25 = .ok (.iload_n 3, 1) := by decide +kernel
theorem dX9_putCopy_26 : decode cX9_putCopy 26 = .ok (.if_icmp .ge 70, 3) := by decide +kernel
theorem dX9_putCopy_29 : decode cX9_putCopy 29 = .ok (.aload_n 0, 1) := by decide +kernel
theorem dX9_putCopy_30 : decode cX9_putCopy 30 = .ok (.getfield 47, 3) := by decide +kernel
theorem dX9_putCopy_33 : decode cX9_putCopy 33 = .ok (.getfield 65, 3) := by decide +kernel
theorem dX9_putCopy_36 : decode cX9_putCopy 36 = .ok (.iload_n 1, 1) := by decide +kernel
theorem dX9_putCopy_37 : decode cX9_putCopy 37 = .ok (.isub, 1) := by decide +kernel
theorem dX9_putCopy_38 : decode cX9_putCopy 38 = .ok (.istore 5, 2) := by decide +kernel
theorem dX9_putCopy_40 : decode cX9_putCopy 40 = .ok (.aload_n 0, 1) := by decide +kernel
theorem dX9_putCopy_41 : decode cX9_putCopy 41 = .ok (.getfield 47, 3) := by decide +kernel
theorem dX9_putCopy_44 : decode cX9_putCopy 44 = .ok (.iload 5, 2) := by decide +kernel
theorem dX9_putCopy_46 : decode cX9_putCopy 46 = .ok (.aload_n 0, 1) := by decide +kernel
theorem dX9_putCopy_47 : decode cX9_putCopy 47 = .ok (.getfield 69, 3) := by decide +kernel
theorem dX9_putCopy_50 : decode cX9_putCopy 50 = .ok (.if_icmp .lt 15, 3) := by decide +kernel
theorem dX9_putCopy_53 : decode cX9_putCopy 53 = .ok (.aload_n 0, 1) := by decide +kernel
theorem dX9_putCopy_54 : decode cX9_putCopy 54 = .ok (.getfield 47, 3) := by decide +kernel
theorem dX9_putCopy_57 : decode cX9_putCopy 57 = .ok (.iload 5, 2) := by decide +kernel
theorem dX9_putCopy_59 : decode cX9_putCopy 59 = .ok (.invokevirtual 107, 3) := by decide +kernel
theorem dX9_putCopy_62 : decode cX9_putCopy 62 = .ok (.goto 25, 3) := by decide +kernel
theorem dX9_putCopy_65 : decode cX9_putCopy 65 = .ok (.aload_n 0, 1) := by decide +kernel
theorem dX9_putCopy_66 : decode cX9_putCopy 66 = .ok (.getfield 50, 3) := by decide +kernel
theorem dX9_putCopy_69 : decode cX9_putCopy 69 = .ok (.aload_n 0, 1) := by decide +kernel
theorem dX9_putCopy_70 : decode cX9_putCopy 70 = .ok (.getfield 50, 3) := by decide +kernel
theorem dX9_putCopy_73 : decode cX9_putCopy 73 = .ok (.getfield 65, 3) := by decide +kernel
theorem dX9_putCopy_76 : decode cX9_putCopy 76 = .ok (.iload 5, 2) := by decide +kernel
theorem dX9_putCopy_78 : decode cX9_putCopy 78 = .ok (.iadd, 1) := by decide +kernel
theorem dX9_putCopy_79 : decode cX9_putCopy 79 = .ok (.aload_n 0, 1) := by decide +kernel
theorem dX9_putCopy_80 : decode cX9_putCopy 80 = .ok (.getfield 69, 3) := by decide +kernel
theorem dX9_putCopy_83 : decode cX9_putCopy 83 = .ok (.isub, 1) := by decide +kernel
theorem dX9_putCopy_84 : decode cX9_putCopy 84 = .ok (.invokevirtual 107, 3) := by decide +kernel
theorem dX9_putCopy_87 : decode cX9_putCopy 87 = .ok (.invokevirtual 242, 3) := by decide +kernel
theorem dX9_putCopy_90 : decode cX9_putCopy 90 = .ok (.iinc 4 1, 3) := by decide +kernel
theorem dX9_putCopy_93 : decode cX9_putCopy 93 = .ok (.goto (-70), 3) := by decide +kernel
theorem dX9_putCopy_96 : decode cX9_putCopy 96 = .ok (.aload_n 0, 1) := by decide +kernel
theorem dX9_putCopy_97 : decode cX9_putCopy 97 = .ok (.getfield 47, 3) := by decide +kernel
theorem dX9_putCopy_100 : decode cX9_putCopy 100 = .ok (.dup, 1) := by decide +kernel
theorem dX9_putCopy_101 : decode cX9_putCopy 101 = .ok (.getfield 65, 3) := by decide +kernel
theorem dX9_putCopy_104 : decode cX9_putCopy 104 = .ok (.iload_n 2, 1) := by decide +kernel
theorem dX9_putCopy_105 : decode cX9_putCopy 105 = .ok (.iload_n 3, 1) := by decide +kernel
theorem dX9_putCopy_106 : decode cX9_putCopy 106 = .ok (.isub, 1) := by decide +kernel
theorem dX9_putCopy_107 : decode cX9_putCopy 107 = .ok (.iadd, 1) := by decide +kernel
theorem dX9_putCopy_108 : decode cX9_putCopy 108 = .ok (.putfield 65, 3) := by decide +kernel
theorem dX9_putCopy_111 : decode cX9_putCopy 111 = .ok (.return_, 1) := by decide +kernel
theorem dX10_init_0 : decode cX10_init 0 = .ok (.aload_n 0, 1) := by decide +kernel
theorem dX10_init_1 : decode cX10_init 1 = .ok (.invokespecial 3, 3) := by decide +kernel
theorem dX10_init_4 : decode cX10_init 4 = .ok (.aload_n 0, 1) := by decide +kernel
theorem dX10_init_5 : decode cX10_init 5 = .ok (.sipush 512, 3) := by decide +kernel
theorem dX10_init_8 : decode cX10_init 8 = .ok (.newarray .int, 2) := by decide +kernel
theorem dX10_init_10 : decode cX10_init 10 = .ok (.putfield 9, 3) := by decide +kernel
theorem dX10_init_13 : decode cX10_init 13 = .ok (.aload_n 0, 1) := by decide +kernel
theorem dX10_init_14 : decode cX10_init 14 = .ok (.sipush 256, 3) := by decide +kernel
theorem dX10_init_17 : decode cX10_init 17 = .ok (.newarray .int, 2) := by decide +kernel
theorem dX10_init_19 : decode cX10_init 19 = .ok (.putfield 15, 3) := by decide +kernel
theorem dX10_init_22 : decode cX10_init 22 = .ok (.aload_n 0, 1) := by decide +kernel
theorem dX10_init_23 : decode cX10_init 23 = .ok (.sipush 256, 3) := by decide +kernel
theorem dX10_init_26 : decode cX10_init 26 = .ok (.newarray .int, 2) := by decide +kernel
theorem dX10_init_28 : decode cX10_init 28 = .ok (.putfield 18, 3) := by decide +kernel
theorem dX10_init_31 : decode cX10_init 31 = .ok (.aload_n 0, 1) := by decide +kernel
theorem dX10_init_32 : decode cX10_init 32 = .ok (.iconst 0, 1) := by decide +kernel
theorem dX10_init_33 : decode cX10_init 33 = .ok (.newarray .byte, 2) := by decide +kernel
theorem dX10_init_35 : decode cX10_init 35 = .ok (.putfield 21, 3) := by decide +kernel
theorem dX10_init_38 : decode cX10_init 38 = .ok (.return_, 1) := by decide +kernel
theorem dX10_symbolAt_0 : decode cX10_symbolAt 0 = .ok (.iload_n 1, 1) := by decide +kernel
theorem dX10_symbolAt_1 : decode cX10_symbolAt 1 = .ok (.ifCond .lt 23, 3) := by decide +kernel
theorem dX10_symbolAt_4 : decode cX10_symbolAt 4 = .ok (.iload_n 1, 1) := by decide +kernel
theorem dX10_symbolAt_5 : decode cX10_symbolAt 5 = .ok (.sipush 512, 3) := by decide +kernel
theorem dX10_symbolAt_8 : decode cX10_symbolAt 8 = .ok (.if_icmp .ge 16, 3) := by decide +kernel
theorem dX10_symbolAt_11 : decode cX10_symbolAt 11 = .ok (.aload_n 0, 1) := by decide +kernel
theorem dX10_symbolAt_12 : decode cX10_symbolAt 12 = .ok (.getfield 9, 3) := by decide +kernel
theorem dX10_symbolAt_15 : decode cX10_symbolAt 15 = .ok (.iload_n 1, 1) := by decide +kernel
theorem dX10_symbolAt_16 : decode cX10_symbolAt 16 = .ok (.iaload, 1) := by decide +kernel
theorem dX10_symbolAt_17 : decode cX10_symbolAt 17 = .ok (.sipush 255, 3) := by decide +kernel
theorem dX10_symbolAt_20 : decode cX10_symbolAt 20 = .ok (.iand, 1) := by decide +kernel
theorem dX10_symbolAt_21 : decode cX10_symbolAt 21 = .ok (.goto 4, 3) := by decide +kernel
theorem dX10_symbolAt_24 : decode cX10_symbolAt 24 = .ok (.iconst 0, 1) := by decide +kernel
theorem dX10_symbolAt_25 : decode cX10_symbolAt 25 = .ok (.ireturn, 1) := by decide +kernel
theorem dX10_bitsAt_0 : decode cX10_bitsAt 0 = .ok (.iload_n 1, 1) := by decide +kernel
theorem dX10_bitsAt_1 : decode cX10_bitsAt 1 = .ok (.ifCond .lt 26, 3) := by decide +kernel
theorem dX10_bitsAt_4 : decode cX10_bitsAt 4 = .ok (.iload_n 1, 1) := by decide +kernel
theorem dX10_bitsAt_5 : decode cX10_bitsAt 5 = .ok (.sipush 512, 3) := by decide +kernel
theorem dX10_bitsAt_8 : decode cX10_bitsAt 8 = .ok (.if_icmp .ge 19, 3) := by decide +kernel
theorem dX10_bitsAt_11 : decode cX10_bitsAt 11 = .ok (.aload_n 0, 1) := by decide +kernel
theorem dX10_bitsAt_12 : decode cX10_bitsAt 12 = .ok (.getfield 9, 3) := by decide +kernel
theorem dX10_bitsAt_15 : decode cX10_bitsAt 15 = .ok (.iload_n 1, 1) := by decide +kernel
theorem dX10_bitsAt_16 : decode cX10_bitsAt 16 = .ok (.iaload, 1) := by decide +kernel
theorem dX10_bitsAt_17 : decode cX10_bitsAt 17 = .ok (.bipush 8, 2) := by decide +kernel
theorem dX10_bitsAt_19 : decode cX10_bitsAt 19 = .ok (.ishr, 1) := by decide +kernel
theorem dX10_bitsAt_20 : decode cX10_bitsAt 20 = .ok (.sipush 255, 3) := by decide +kernel
theorem dX10_bitsAt_23 : decode cX10_bitsAt 23 = .ok (.iand, 1) := by decide +kernel
theorem dX10_bitsAt_24 : decode cX10_bitsAt 24 = .ok (.goto 4, 3) := by decide +kernel
theorem dX10_bitsAt_27 : decode cX10_bitsAt 27 = .ok (.iconst 0, 1) := by decide +kernel
theorem dX10_bitsAt_28 : decode cX10_bitsAt 28 = .ok (.ireturn, 1) := by decide +kernel
theorem dX10_baseAt_0 : decode cX10_baseAt 0 = .ok (.iload_n 1, 1) := by decide +kernel
theorem dX10_baseAt_1 : decode cX10_baseAt 1 = .ok (.ifCond .lt 22, 3) := by decide +kernel
theorem dX10_baseAt_4 : decode cX10_baseAt 4 = .ok (.iload_n 1, 1) := by decide +kernel
theorem dX10_baseAt_5 : decode cX10_baseAt 5 = .ok (.sipush 512, 3) := by decide +kernel
theorem dX10_baseAt_8 : decode cX10_baseAt 8 = .ok (.if_icmp .ge 15, 3) := by decide +kernel
theorem dX10_baseAt_11 : decode cX10_baseAt 11 = .ok (.aload_n 0, 1) := by decide +kernel
theorem dX10_baseAt_12 : decode cX10_baseAt 12 = .ok (.getfield 9, 3) := by decide +kernel
theorem dX10_baseAt_15 : decode cX10_baseAt 15 = .ok (.iload_n 1, 1) := by decide +kernel
theorem dX10_baseAt_16 : decode cX10_baseAt 16 = .ok (.iaload, 1) := by decide +kernel
theorem dX10_baseAt_17 : decode cX10_baseAt 17 = .ok (.bipush 16, 2) := by decide +kernel
theorem dX10_baseAt_19 : decode cX10_baseAt 19 = .ok (.ishr, 1) := by decide +kernel
theorem dX10_baseAt_20 : decode cX10_baseAt 20 = .ok (.goto 4, 3) := by decide +kernel
theorem dX10_baseAt_23 : decode cX10_baseAt 23 = .ok (.iconst 0, 1) := by decide +kernel
theorem dX10_baseAt_24 : decode cX10_baseAt 24 = .ok (.ireturn, 1) := by decide +kernel
theorem dX10_buildDefault_0 : decode cX10_buildDefault 0 = .ok (.iload_n 1, 1) := by decide +kernel
theorem dX10_buildDefault_1 : decode cX10_buildDefault 1 = .ok (.ifCond .ne 9, 3) := by decide +kernel
theorem dX10_buildDefault_4 : decode cX10_buildDefault 4 = .ok (.getstatic 25, 3) := by decide +kernel
theorem dX10_buildDefault_7 : decode cX10_buildDefault 7 = .ok (.goto 17, 3) := by decide +kernel
theorem dX10_buildDefault_10 : decode cX10_buildDefault 10 = .ok (.iload_n 1, 1) := by decide +kernel
theorem dX10_buildDefault_11 : decode cX10_buildDefault 11 = .ok (.iconst 1, 1) := by decide +kernel
theorem dX10_buildDefault_12 : decode cX10_buildDefault 12 = .ok (.if_icmp .ne 9, 3) := by decide +kernel
