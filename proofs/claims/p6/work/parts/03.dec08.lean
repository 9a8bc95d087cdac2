theorem dX13_sayCode_81 : decode cX13_sayCode 81 = .ok (.bipush 127, 2) := by decide +kernel
theorem dX13_sayCode_83 : decode cX13_sayCode 83 = .ok (.iload_n 2, 1) := by decide +kernel
theorem dX13_sayCode_84 : decode cX13_sayCode 84 = .ok (.iadd, 1) := by decide +kernel
theorem dX13_sayCode_85 : decode cX13_sayCode 85 = .ok (.i2l, 1) := by decide +kernel
theorem dX13_sayCode_86 : decode cX13_sayCode 86 = .ok (.iconst 1, 1) := by decide +kernel
theorem dX13_sayCode_87 : decode cX13_sayCode 87 = .ok (.invokevirtual 418, 3) := by decide +kernel
theorem dX13_sayCode_90 : decode cX13_sayCode 90 = .ok (.iconst 0, 1) := by decide +kernel
theorem dX13_sayCode_91 : decode cX13_sayCode 91 = .ok (.istore_n 3, 1) := by decide +kernel
theorem dX13_sayCode_92 : decode cX13_sayCode 92 = .ok (.iload_n 3, 1) := by decide +kernel
theorem dX13_sayCode_93 : decode cX13_sayCode 93 = .ok (.iload_n 2, 1) := by decide +kernel
theorem dX13_sayCode_94 : decode cX13_sayCode 94 = .ok (.if_icmp .ge 44, 3) := by decide +kernel
theorem dX13_sayCode_97 : decode cX13_sayCode 97 = .ok (.aload_n 0, 1) := by decide +kernel
theorem dX13_sayCode_98 : decode cX13_sayCode 98 = .ok (.aload_n 0, 1) := by decide +kernel
theorem dX13_sayCode_99 : decode cX13_sayCode 99 = .ok (.getfield 59, 3) := by decide +kernel
theorem dX13_sayCode_102 : decode cX13_sayCode 102 = .ok (.iload_n 3, 1) := by decide +kernel
theorem dX13_sayCode_103 : decode cX13_sayCode 103 = .ok (.iaload, 1) := by decide +kernel
theorem dX13_sayCode_104 : decode cX13_sayCode 104 = .ok (.bipush 16, 2) := by decide +kernel
theorem dX13_sayCode_106 : decode cX13_sayCode 106 = .ok (.imul, 1) := by decide +kernel
theorem dX13_sayCode_107 : decode cX13_sayCode 107 = .ok (.iload_n 3, 1) := by decide +kernel
theorem dX13_sayCode_108 : decode cX13_sayCode 108 = .ok (.iconst 1, 1) := by decide +kernel
theorem dX13_sayCode_109 : decode cX13_sayCode 109 = .ok (.iadd, 1) := by decide +kernel
theorem dX13_sayCode_110 : decode cX13_sayCode 110 = .ok (.iload_n 2, 1) := by decide +kernel
theorem dX13_sayCode_111 : decode cX13_sayCode 111 = .ok (.if_icmp .ge 14, 3) := by decide +kernel
theorem dX13_sayCode_114 : decode cX13_sayCode 114 = .ok (.aload_n 0, 1) := by decide +kernel
theorem dX13_sayCode_115 : decode cX13_sayCode 115 = .ok (.getfield 59, 3) := by decide +kernel
theorem dX13_sayCode_118 : decode cX13_sayCode 118 = .ok (.iload_n 3, 1) := by decide +kernel
theorem dX13_sayCode_119 : decode cX13_sayCode 119 = .ok (.iconst 1, 1) := by decide +kernel
theorem dX13_sayCode_120 : decode cX13_sayCode 120 = .ok (.iadd, 1) := by decide +kernel
theorem dX13_sayCode_121 : decode cX13_sayCode 121 = .ok (.iaload, 1) := by decide +kernel
theorem dX13_sayCode_122 : decode cX13_sayCode 122 = .ok (.goto 4, 3) := by decide +kernel
theorem dX13_sayCode_125 : decode cX13_sayCode 125 = .ok (.iconst 0, 1) := by decide +kernel
theorem dX13_sayCode_126 : decode cX13_sayCode 126 = .ok (.iadd, 1) := by decide +kernel
theorem dX13_sayCode_127 : decode cX13_sayCode 127 = .ok (.i2l, 1) := by decide +kernel
theorem dX13_sayCode_128 : decode cX13_sayCode 128 = .ok (.iconst 1, 1) := by decide +kernel
theorem dX13_sayCode_129 : decode cX13_sayCode 129 = .ok (.invokevirtual 418, 3) := by decide +kernel
theorem dX13_sayCode_132 : decode cX13_sayCode 132 = .ok (.iinc 3 2, 3) := by decide +kernel
theorem dX13_sayCode_135 : decode cX13_sayCode 135 = .ok (.goto (-43), 3) := by decide +kernel
theorem dX13_sayCode_138 : decode cX13_sayCode 138 = .ok (.aload_n 0, 1) := by decide +kernel
theorem dX13_sayCode_139 : decode cX13_sayCode 139 = .ok (.iconst 2, 1) := by decide +kernel
theorem dX13_sayCode_140 : decode cX13_sayCode 140 = .ok (.iload_n 2, 1) := by decide +kernel
theorem dX13_sayCode_141 : decode cX13_sayCode 141 = .ok (.invokevirtual 242, 3) := by decide +kernel
theorem dX13_sayCode_144 : decode cX13_sayCode 144 = .ok (.istore_n 3, 1) := by decide +kernel
theorem dX13_sayCode_145 : decode cX13_sayCode 145 = .ok (.return_, 1) := by decide +kernel
theorem dX13_stream__0 : decode cX13_stream_ 0 = .ok (.aload_n 0, 1) := by decide +kernel
theorem dX13_stream__1 : decode cX13_stream_ 1 = .ok (.getfield 53, 3) := by decide +kernel
theorem dX13_stream__4 : decode cX13_stream_ 4 = .ok (.iconst 2, 1) := by decide +kernel
theorem dX13_stream__5 : decode cX13_stream_ 5 = .ok (.iaload, 1) := by decide +kernel
theorem dX13_stream__6 : decode cX13_stream_ 6 = .ok (.istore_n 3, 1) := by decide +kernel
theorem dX13_stream__7 : decode cX13_stream_ 7 = .ok (.iload_n 1, 1) := by decide +kernel
theorem dX13_stream__8 : decode cX13_stream_ 8 = .ok (.istore 4, 2) := by decide +kernel
theorem dX13_stream__10 : decode cX13_stream_ 10 = .ok (.iload 4, 2) := by decide +kernel
theorem dX13_stream__12 : decode cX13_stream_ 12 = .ok (.iload_n 2, 1) := by decide +kernel
theorem dX13_stream__13 : decode cX13_stream_ 13 = .ok (.if_icmp .ge 71, 3) := by decide +kernel
theorem dX13_stream__16 : decode cX13_stream_ 16 = .ok (.aload_n 0, 1) := by decide +kernel
theorem dX13_stream__17 : decode cX13_stream_ 17 = .ok (.getfield 47, 3) := by decide +kernel
theorem dX13_stream__20 : decode cX13_stream_ 20 = .ok (.sipush 512, 3) := by decide +kernel
theorem dX13_stream__23 : decode cX13_stream_ 23 = .ok (.aload_n 0, 1) := by decide +kernel
theorem dX13_stream__24 : decode cX13_stream_ 24 = .ok (.getfield 135, 3) := by decide +kernel
theorem dX13_stream__27 : decode cX13_stream_ 27 = .ok (.iload 4, 2) := by decide +kernel
theorem dX13_stream__29 : decode cX13_stream_ 29 = .ok (.baload, 1) := by decide +kernel
theorem dX13_stream__30 : decode cX13_stream_ 30 = .ok (.iadd, 1) := by decide +kernel
theorem dX13_stream__31 : decode cX13_stream_ 31 = .ok (.iaload, 1) := by decide +kernel
theorem dX13_stream__32 : decode cX13_stream_ 32 = .ok (.istore 5, 2) := by decide +kernel
theorem dX13_stream__34 : decode cX13_stream_ 34 = .ok (.iconst 0, 1) := by decide +kernel
theorem dX13_stream__35 : decode cX13_stream_ 35 = .ok (.istore 6, 2) := by decide +kernel
theorem dX13_stream__37 : decode cX13_stream_ 37 = .ok (.aload_n 0, 1) := by decide +kernel
theorem dX13_stream__38 : decode cX13_stream_ 38 = .ok (.getfield 56, 3) := by decide +kernel
theorem dX13_stream__41 : decode cX13_stream_ 41 = .ok (.sipush 4096, 3) := by decide +kernel
theorem dX13_stream__44 : decode cX13_stream_ 44 = .ok (.iload 6, 2) := by decide +kernel
theorem dX13_stream__46 : decode cX13_stream_ 46 = .ok (.iadd, 1) := by decide +kernel
theorem dX13_stream__47 : decode cX13_stream_ 47 = .ok (.saload, 1) := by decide +kernel
theorem dX13_stream__48 : decode cX13_stream_ 48 = .ok (.aload_n 0, 1) := by decide +kernel
theorem dX13_stream__49 : decode cX13_stream_ 49 = .ok (.getfield 135, 3) := by decide +kernel
theorem dX13_stream__52 : decode cX13_stream_ 52 = .ok (.iload 4, 2) := by decide +kernel
theorem dX13_stream__54 : decode cX13_stream_ 54 = .ok (.baload, 1) := by decide +kernel
theorem dX13_stream__55 : decode cX13_stream_ 55 = .ok (.if_icmp .eq 9, 3) := by decide +kernel
theorem dX13_stream__58 : decode cX13_stream_ 58 = .ok (.iinc 6 1, 3) := by decide +kernel
theorem dX13_stream__61 : decode cX13_stream_ 61 = .ok (.goto (-24), 3) := by decide +kernel
theorem dX13_stream__64 : decode cX13_stream_ 64 = .ok (.aload_n 0, 1) := by decide +kernel
theorem dX13_stream__65 : decode cX13_stream_ 65 = .ok (.iload 6, 2) := by decide +kernel
theorem dX13_stream__67 : decode cX13_stream_ 67 = .ok (.iload_n 3, 1) := by decide +kernel
theorem dX13_stream__68 : decode cX13_stream_ 68 = .ok (.iload 5, 2) := by decide +kernel
theorem dX13_stream__70 : decode cX13_stream_ 70 = .ok (.isub, 1) := by decide +kernel
theorem dX13_stream__71 : decode cX13_stream_ 71 = .ok (.ishr, 1) := by decide +kernel
theorem dX13_stream__72 : decode cX13_stream_ 72 = .ok (.i2l, 1) := by decide +kernel
theorem dX13_stream__73 : decode cX13_stream_ 73 = .ok (.iload 5, 2) := by decide +kernel
theorem dX13_stream__75 : decode cX13_stream_ 75 = .ok (.invokevirtual 473, 3) := by decide +kernel
theorem dX13_stream__78 : decode cX13_stream_ 78 = .ok (.iinc 4 1, 3) := by decide +kernel
theorem dX13_stream__81 : decode cX13_stream_ 81 = .ok (.goto (-71), 3) := by decide +kernel
theorem dX13_stream__84 : decode cX13_stream_ 84 = .ok (.aload_n 0, 1) := by decide +kernel
theorem dX13_stream__85 : decode cX13_stream_ 85 = .ok (.invokevirtual 476, 3) := by decide +kernel
theorem dX13_stream__88 : decode cX13_stream_ 88 = .ok (.return_, 1) := by decide +kernel
theorem dX13_sayStreams_0 : decode cX13_sayStreams 0 = .ok (.aload_n 0, 1) := by decide +kernel
theorem dX13_sayStreams_1 : decode cX13_sayStreams 1 = .ok (.getfield 446, 3) := by decide +kernel
theorem dX13_sayStreams_4 : decode cX13_sayStreams 4 = .ok (.sipush 256, 3) := by decide +kernel
theorem dX13_sayStreams_7 : decode cX13_sayStreams 7 = .ok (.if_icmp .ge 14, 3) := by decide +kernel
theorem dX13_sayStreams_10 : decode cX13_sayStreams 10 = .ok (.aload_n 0, 1) := by decide +kernel
theorem dX13_sayStreams_11 : decode cX13_sayStreams 11 = .ok (.iconst 0, 1) := by decide +kernel
theorem dX13_sayStreams_12 : decode cX13_sayStreams 12 = .ok (.aload_n 0, 1) := by decide +kernel
theorem dX13_sayStreams_13 : decode cX13_sayStreams 13 = .ok (.getfield 446, 3) := by decide +kernel
theorem dX13_sayStreams_16 : decode cX13_sayStreams 16 = .ok (.invokevirtual 479, 3) := by decide +kernel
theorem dX13_sayStreams_19 : decode cX13_sayStreams 19 = .ok (.iconst 0, 1) := by decide +kernel
theorem dX13_sayStreams_20 : decode cX13_sayStreams 20 = .ok (.ireturn, 1) := by decide +kernel
theorem dX13_sayStreams_21 : decode cX13_sayStreams 21 = .ok (.aload_n 0, 1) := by decide +kernel
theorem dX13_sayStreams_22 : decode cX13_sayStreams 22 = .ok (.getfield 412, 3) := by decide +kernel
theorem dX13_sayStreams_25 : decode cX13_sayStreams 25 = .ok (.istore_n 2, 1) := by decide +kernel
theorem dX13_sayStreams_26 : decode cX13_sayStreams 26 = .ok (.aload_n 0, 1) := by decide +kernel
theorem dX13_sayStreams_27 : decode cX13_sayStreams 27 = .ok (.lconst 0, 1) := by decide +kernel
theorem dX13_sayStreams_28 : decode cX13_sayStreams 28 = .ok (.bipush 6, 2) := by decide +kernel
theorem dX13_sayStreams_30 : decode cX13_sayStreams 30 = .ok (.invokevirtual 418, 3) := by decide +kernel
theorem dX13_sayStreams_33 : decode cX13_sayStreams 33 = .ok (.aload_n 0, 1) := by decide +kernel
theorem dX13_sayStreams_34 : decode cX13_sayStreams 34 = .ok (.getfield 446, 3) := by decide +kernel
theorem dX13_sayStreams_37 : decode cX13_sayStreams 37 = .ok (.iconst 3, 1) := by decide +kernel
theorem dX13_sayStreams_38 : decode cX13_sayStreams 38 = .ok (.iadd, 1) := by decide +kernel
theorem dX13_sayStreams_39 : decode cX13_sayStreams 39 = .ok (.iconst 4, 1) := by decide +kernel
theorem dX13_sayStreams_40 : decode cX13_sayStreams 40 = .ok (.idiv, 1) := by decide +kernel
theorem dX13_sayStreams_41 : decode cX13_sayStreams 41 = .ok (.istore_n 3, 1) := by decide +kernel
theorem dX13_sayStreams_42 : decode cX13_sayStreams 42 = .ok (.iconst 0, 1) := by decide +kernel
theorem dX13_sayStreams_43 : decode cX13_sayStreams 43 = .ok (.istore 4, 2) := by decide +kernel
theorem dX13_sayStreams_45 : decode cX13_sayStreams 45 = .ok (.iload 4, 2) := by decide +kernel
theorem dX13_sayStreams_47 : decode cX13_sayStreams 47 = .ok (.iconst 4, 1) := by decide +kernel
theorem dX13_sayStreams_48 : decode cX13_sayStreams 48 = .ok (.if_icmp .ge 91, 3) := by decide +kernel
theorem dX13_sayStreams_51 : decode cX13_sayStreams 51 = .ok (.aload_n 0, 1) := by decide +kernel
theorem dX13_sayStreams_52 : decode cX13_sayStreams 52 = .ok (.getfield 412, 3) := by decide +kernel
theorem dX13_sayStreams_55 : decode cX13_sayStreams 55 = .ok (.istore 5, 2) := by decide +kernel
theorem dX13_sayStreams_57 : decode cX13_sayStreams 57 = .ok (.aload_n 0, 1) := by decide +kernel
theorem dX13_sayStreams_58 : decode cX13_sayStreams 58 = .ok (.iload 4, 2) := by decide +kernel
theorem dX13_sayStreams_60 : decode cX13_sayStreams 60 = .ok (.iload_n 3, 1) := by decide +kernel
theorem dX13_sayStreams_61 : decode cX13_sayStreams 61 = .ok (.imul, 1) := by decide +kernel
theorem dX13_sayStreams_62 : decode cX13_sayStreams 62 = .ok (.iload 4, 2) := by decide +kernel
theorem dX13_sayStreams_64 : decode cX13_sayStreams 64 = .ok (.iconst 3, 1) := by decide +kernel
theorem dX13_sayStreams_65 : decode cX13_sayStreams 65 = .ok (.if_icmp .ge 12, 3) := by decide +kernel
theorem dX13_sayStreams_68 : decode cX13_sayStreams 68 = .ok (.iload 4, 2) := by decide +kernel
theorem dX13_sayStreams_70 : decode cX13_sayStreams 70 = .ok (.iconst 1, 1) := by decide +kernel
theorem dX13_sayStreams_71 : decode cX13_sayStreams 71 = .ok (.iadd, 1) := by decide +kernel
theorem dX13_sayStreams_72 : decode cX13_sayStreams 72 = .ok (.iload_n 3, 1) := by decide +kernel
theorem dX13_sayStreams_73 : decode cX13_sayStreams 73 = .ok (.imul, 1) := by decide +kernel
theorem dX13_sayStreams_74 : decode cX13_sayStreams 74 = .ok (.goto 7, 3) := by decide +kernel
theorem dX13_sayStreams_77 : decode cX13_sayStreams 77 = .ok (.aload_n 0, 1) := by decide +kernel
theorem dX13_sayStreams_78 : decode cX13_sayStreams 78 = .ok (.getfield 446, 3) := by decide +kernel
theorem dX13_sayStreams_81 : decode cX13_sayStreams 81 = .ok (.invokevirtual 479, 3) := by decide +kernel
theorem dX13_sayStreams_84 : decode cX13_sayStreams 84 = .ok (.iconst 0, 1) := by decide +kernel
theorem dX13_sayStreams_85 : decode cX13_sayStreams 85 = .ok (.istore 6, 2) := by decide +kernel
theorem dX13_sayStreams_87 : decode cX13_sayStreams 87 = .ok (.iload 6, 2) := by decide +kernel
theorem dX13_sayStreams_89 : decode cX13_sayStreams 89 = .ok (.iconst 2, 1) := by decide +kernel
theorem dX13_sayStreams_90 : decode cX13_sayStreams 90 = .ok (.if_icmp .ge 43, 3) := by decide +kernel
theorem dX13_sayStreams_93 : decode cX13_sayStreams 93 = .ok (.iload 4, 2) := by decide +kernel
theorem dX13_sayStreams_95 : decode cX13_sayStreams 95 = .ok (.iconst 3, 1) := by decide +kernel
theorem dX13_sayStreams_96 : decode cX13_sayStreams 96 = .ok (.if_icmp .ge 37, 3) := by decide +kernel
theorem dX13_sayStreams_99 : decode cX13_sayStreams 99 = .ok (.aload_n 0, 1) := by decide +kernel
theorem dX13_sayStreams_100 : decode cX13_sayStreams 100 = .ok (.getfield 104, 3) := by decide +kernel
theorem dX13_sayStreams_103 : decode cX13_sayStreams 103 = .ok (.iload_n 2, 1) := by decide +kernel
theorem dX13_sayStreams_104 : decode cX13_sayStreams 104 = .ok (.iconst 2, 1) := by decide +kernel
theorem dX13_sayStreams_105 : decode cX13_sayStreams 105 = .ok (.iload 4, 2) := by decide +kernel
theorem dX13_sayStreams_107 : decode cX13_sayStreams 107 = .ok (.imul, 1) := by decide +kernel
theorem dX13_sayStreams_108 : decode cX13_sayStreams 108 = .ok (.iadd, 1) := by decide +kernel
theorem dX13_sayStreams_109 : decode cX13_sayStreams 109 = .ok (.iload 6, 2) := by decide +kernel
theorem dX13_sayStreams_111 : decode cX13_sayStreams 111 = .ok (.iadd, 1) := by decide +kernel
theorem dX13_sayStreams_112 : decode cX13_sayStreams 112 = .ok (.aload_n 0, 1) := by decide +kernel
theorem dX13_sayStreams_113 : decode cX13_sayStreams 113 = .ok (.getfield 412, 3) := by decide +kernel
theorem dX13_sayStreams_116 : decode cX13_sayStreams 116 = .ok (.iload 5, 2) := by decide +kernel
theorem dX13_sayStreams_118 : decode cX13_sayStreams 118 = .ok (.isub, 1) := by decide +kernel
theorem dX13_sayStreams_119 : decode cX13_sayStreams 119 = .ok (.bipush 8, 2) := by decide +kernel
theorem dX13_sayStreams_121 : decode cX13_sayStreams 121 = .ok (.iload 6, 2) := by decide +kernel
theorem dX13_sayStreams_123 : decode cX13_sayStreams 123 = .ok (.imul, 1) := by decide +kernel
theorem dX13_sayStreams_124 : decode cX13_sayStreams 124 = .ok (.ishr, 1) := by decide +kernel
theorem dX13_sayStreams_125 : decode cX13_sayStreams 125 = .ok (.i2b, 1) := by decide +kernel
theorem dX13_sayStreams_126 : decode cX13_sayStreams 126 = .ok (.bastore, 1) := by decide +kernel
theorem dX13_sayStreams_127 : decode cX13_sayStreams 127 = .ok (.iinc 6 1, 3) := by decide +kernel
theorem dX13_sayStreams_130 : decode cX13_sayStreams 130 = .ok (.goto (-43), 3) := by decide +kernel
theorem dX13_sayStreams_133 : decode cX13_sayStreams 133 = .ok (.iinc 4 1, 3) := by decide +kernel
theorem dX13_sayStreams_136 : decode cX13_sayStreams 136 = .ok (.goto (-91), 3) := by decide +kernel
theorem dX13_sayStreams_139 : decode cX13_sayStreams 139 = .ok (.aload_n 0, 1) := by decide +kernel
theorem dX13_sayStreams_140 : decode cX13_sayStreams 140 = .ok (.getfield 412, 3) := by decide +kernel
theorem dX13_sayStreams_143 : decode cX13_sayStreams 143 = .ok (.iload_n 1, 1) := by decide +kernel
theorem dX13_sayStreams_144 : decode cX13_sayStreams 144 = .ok (.isub, 1) := by decide +kernel
theorem dX13_sayStreams_145 : decode cX13_sayStreams 145 = .ok (.iconst 3, 1) := by decide +kernel
theorem dX13_sayStreams_146 : decode cX13_sayStreams 146 = .ok (.isub, 1) := by decide +kernel
theorem dX13_sayStreams_147 : decode cX13_sayStreams 147 = .ok (.sipush 1024, 3) := by decide +kernel
theorem dX13_sayStreams_150 : decode cX13_sayStreams 150 = .ok (.if_icmp .ge 17, 3) := by decide +kernel
theorem dX13_sayStreams_153 : decode cX13_sayStreams 153 = .ok (.aload_n 0, 1) := by decide +kernel
theorem dX13_sayStreams_154 : decode cX13_sayStreams 154 = .ok (.getfield 446, 3) := by decide +kernel
theorem dX13_sayStreams_157 : decode cX13_sayStreams 157 = .ok (.sipush 1024, 3) := by decide +kernel
theorem dX13_sayStreams_160 : decode cX13_sayStreams 160 = .ok (.if_icmp .ge 7, 3) := by decide +kernel
theorem dX13_sayStreams_163 : decode cX13_sayStreams 163 = .ok (.iconst 1, 1) := by decide +kernel
theorem dX13_sayStreams_164 : decode cX13_sayStreams 164 = .ok (.goto 4, 3) := by decide +kernel
theorem dX13_sayStreams_167 : decode cX13_sayStreams 167 = .ok (.iconst 2, 1) := by decide +kernel
theorem dX13_sayStreams_168 : decode cX13_sayStreams 168 = .ok (.ireturn, 1) := by decide +kernel
theorem dX13_logLong_0 : decode cX13_logLong 0 = .ok (.iconst 0, 1) := by decide +kernel
theorem dX13_logLong_1 : decode cX13_logLong 1 = .ok (.istore_n 2, 1) := by decide +kernel
theorem dX13_logLong_2 : decode cX13_logLong 2 = .ok (.lload_n 0, 1) := by decide +kernel
theorem dX13_logLong_3 : decode cX13_logLong 3 = .ok (.iload_n 2, 1) := by decide +kernel
theorem dX13_logLong_4 : decode cX13_logLong 4 = .ok (.lushr, 1) := by decide +kernel
theorem dX13_logLong_5 : decode cX13_logLong 5 = .ok (.lconst 1, 1) := by decide +kernel
theorem dX13_logLong_6 : decode cX13_logLong 6 = .ok (.lcmp, 1) := by decide +kernel
theorem dX13_logLong_7 : decode cX13_logLong 7 = .ok (.ifCond .le 9, 3) := by decide +kernel
theorem dX13_logLong_10 : decode cX13_logLong 10 = .ok (.iinc 2 1, 3) := by decide +kernel
theorem dX13_logLong_13 : decode cX13_logLong 13 = .ok (.goto (-11), 3) := by decide +kernel
theorem dX13_logLong_16 : decode cX13_logLong 16 = .ok (.iload_n 2, 1) := by decide +kernel
theorem dX13_logLong_17 : decode cX13_logLong 17 = .ok (.ireturn, 1) := by decide +kernel
theorem dX13_copySymbol_0 : decode cX13_copySymbol 0 = .ok (.bipush 52, 2) := by decide +kernel
theorem dX13_copySymbol_2 : decode cX13_copySymbol 2 = .ok (.istore_n 1, 1) := by decide +kernel
theorem dX13_copySymbol_3 : decode cX13_copySymbol 3 = .ok (.iload_n 1, 1) := by decide +kernel
theorem dX13_copySymbol_4 : decode cX13_copySymbol 4 = .ok (.invokestatic 386, 3) := by decide +kernel
theorem dX13_copySymbol_7 : decode cX13_copySymbol 7 = .ok (.iload_n 0, 1) := by decide +kernel
theorem dX13_copySymbol_8 : decode cX13_copySymbol 8 = .ok (.if_icmp .le 9, 3) := by decide +kernel
theorem dX13_copySymbol_11 : decode cX13_copySymbol 11 = .ok (.iinc 1 (-1), 3) := by decide +kernel
theorem dX13_copySymbol_14 : decode cX13_copySymbol 14 = .ok (.goto (-11), 3) := by decide +kernel
theorem dX13_copySymbol_17 : decode cX13_copySymbol 17 = .ok (.iload_n 1, 1) := by decide +kernel
theorem dX13_copySymbol_18 : decode cX13_copySymbol 18 = .ok (.ireturn, 1) := by decide +kernel
theorem dX13_letterSymbol_0 : decode cX13_letterSymbol 0 = .ok (.bipush 35, 2) := by decide +kernel
theorem dX13_letterSymbol_2 : decode cX13_letterSymbol 2 = .ok (.istore_n 1, 1) := by decide +kernel
theorem dX13_letterSymbol_3 : decode cX13_letterSymbol 3 = .ok (.iload_n 1, 1) := by decide +kernel
theorem dX13_letterSymbol_4 : decode cX13_letterSymbol 4 = .ok (.invokestatic 392, 3) := by decide +kernel
theorem dX13_letterSymbol_7 : decode cX13_letterSymbol 7 = .ok (.iload_n 0, 1) := by decide +kernel
theorem dX13_letterSymbol_8 : decode cX13_letterSymbol 8 = .ok (.if_icmp .le 9, 3) := by decide +kernel
theorem dX13_letterSymbol_11 : decode cX13_letterSymbol 11 = .ok (.iinc 1 (-1), 3) := by decide +kernel
theorem dX13_letterSymbol_14 : decode cX13_letterSymbol 14 = .ok (.goto (-11), 3) := by decide +kernel
theorem dX13_letterSymbol_17 : decode cX13_letterSymbol 17 = .ok (.iload_n 1, 1) := by decide +kernel
theorem dX13_letterSymbol_18 : decode cX13_letterSymbol 18 = .ok (.ireturn, 1) := by decide +kernel
theorem dX13_saySequences_0 : decode cX13_saySequences 0 = .ok (.aload_n 0, 1) := by decide +kernel
theorem dX13_saySequences_1 : decode cX13_saySequences 1 = .ok (.getfield 443, 3) := by decide +kernel
theorem dX13_saySequences_4 : decode cX13_saySequences 4 = .ok (.sipush 128, 3) := by decide +kernel
theorem dX13_saySequences_7 : decode cX13_saySequences 7 = .ok (.if_icmp .ge 16, 3) := by decide +kernel
theorem dX13_saySequences_10 : decode cX13_saySequences 10 = .ok (.aload_n 0, 1) := by decide +kernel
theorem dX13_saySequences_11 : decode cX13_saySequences 11 = .ok (.aload_n 0, 1) := by decide +kernel
theorem dX13_saySequences_12 : decode cX13_saySequences 12 = .ok (.getfield 443, 3) := by decide +kernel
theorem dX13_saySequences_15 : decode cX13_saySequences 15 = .ok (.i2l, 1) := by decide +kernel
theorem dX13_saySequences_16 : decode cX13_saySequences 16 = .ok (.iconst 1, 1) := by decide +kernel
theorem dX13_saySequences_17 : decode cX13_saySequences 17 = .ok (.invokevirtual 418, 3) := by decide +kernel
theorem dX13_saySequences_20 : decode cX13_saySequences 20 = .ok (.goto 35, 3) := by decide +kernel
theorem dX13_saySequences_23 : decode cX13_saySequences 23 = .ok (.aload_n 0, 1) := by decide +kernel
theorem dX13_saySequences_24 : decode cX13_saySequences 24 = .ok (.sipush 128, 3) := by decide +kernel
theorem dX13_saySequences_27 : decode cX13_saySequences 27 = .ok (.aload_n 0, 1) := by decide +kernel
theorem dX13_saySequences_28 : decode cX13_saySequences 28 = .ok (.getfield 443, 3) := by decide +kernel
theorem dX13_saySequences_31 : decode cX13_saySequences 31 = .ok (.sipush 256, 3) := by decide +kernel
theorem dX13_saySequences_34 : decode cX13_saySequences 34 = .ok (.idiv, 1) := by decide +kernel
theorem dX13_saySequences_35 : decode cX13_saySequences 35 = .ok (.iadd, 1) := by decide +kernel
theorem dX13_saySequences_36 : decode cX13_saySequences 36 = .ok (.i2l, 1) := by decide +kernel
theorem dX13_saySequences_37 : decode cX13_saySequences 37 = .ok (.iconst 1, 1) := by decide +kernel
theorem dX13_saySequences_38 : decode cX13_saySequences 38 = .ok (.invokevirtual 418, 3) := by decide +kernel
theorem dX13_saySequences_41 : decode cX13_saySequences 41 = .ok (.aload_n 0, 1) := by decide +kernel
theorem dX13_saySequences_42 : decode cX13_saySequences 42 = .ok (.aload_n 0, 1) := by decide +kernel
theorem dX13_saySequences_43 : decode cX13_saySequences 43 = .ok (.getfield 443, 3) := by decide +kernel
theorem dX13_saySequences_46 : decode cX13_saySequences 46 = .ok (.sipush 256, 3) := by decide +kernel
theorem dX13_saySequences_49 : decode cX13_saySequences 49 = .ok (.irem, 1) := by decide +kernel
theorem dX13_saySequences_50 : decode cX13_saySequences 50 = .ok (.i2l, 1) := by decide +kernel
theorem dX13_saySequences_51 : decode cX13_saySequences 51 = .ok (.iconst 1, 1) := by decide +kernel
theorem dX13_saySequences_52 : decode cX13_saySequences 52 = .ok (.invokevirtual 418, 3) := by decide +kernel
theorem dX13_saySequences_55 : decode cX13_saySequences 55 = .ok (.aload_n 0, 1) := by decide +kernel
theorem dX13_saySequences_56 : decode cX13_saySequences 56 = .ok (.getfield 443, 3) := by decide +kernel
theorem dX13_saySequences_59 : decode cX13_saySequences 59 = .ok (.ifCond .ne 4, 3) := by decide +kernel
theorem dX13_saySequences_62 : decode cX13_saySequences 62 = .ok (.return_, 1) := by decide +kernel
theorem dX13_saySequences_63 : decode cX13_saySequences 63 = .ok (.iconst 0, 1) := by decide +kernel
theorem dX13_saySequences_64 : decode cX13_saySequences 64 = .ok (.istore_n 2, 1) := by decide +kernel
theorem dX13_saySequences_65 : decode cX13_saySequences 65 = .ok (.iload_n 2, 1) := by decide +kernel
theorem dX13_saySequences_66 : decode cX13_saySequences 66 = .ok (.aload_n 0, 1) := by decide +kernel
theorem dX13_saySequences_67 : decode cX13_saySequences 67 = .ok (.getfield 443, 3) := by decide +kernel
theorem dX13_saySequences_70 : decode cX13_saySequences 70 = .ok (.if_icmp .ge 62, 3) := by decide +kernel
theorem dX13_saySequences_73 : decode cX13_saySequences 73 = .ok (.aload_n 0, 1) := by decide +kernel
theorem dX13_saySequences_74 : decode cX13_saySequences 74 = .ok (.getfield 129, 3) := by decide +kernel
theorem dX13_saySequences_77 : decode cX13_saySequences 77 = .ok (.iload_n 2, 1) := by decide +kernel
theorem dX13_saySequences_78 : decode cX13_saySequences 78 = .ok (.aload_n 0, 1) := by decide +kernel
theorem dX13_saySequences_79 : decode cX13_saySequences 79 = .ok (.getfield 120, 3) := by decide +kernel
theorem dX13_saySequences_82 : decode cX13_saySequences 82 = .ok (.iload_n 2, 1) := by decide +kernel
theorem dX13_saySequences_83 : decode cX13_saySequences 83 = .ok (.iaload, 1) := by decide +kernel
theorem dX13_saySequences_84 : decode cX13_saySequences 84 = .ok (.invokestatic 481, 3) := by decide +kernel
theorem dX13_saySequences_87 : decode cX13_saySequences 87 = .ok (.iastore, 1) := by decide +kernel
theorem dX13_saySequences_88 : decode cX13_saySequences 88 = .ok (.aload_n 0, 1) := by decide +kernel
theorem dX13_saySequences_89 : decode cX13_saySequences 89 = .ok (.getfield 129, 3) := by decide +kernel
theorem dX13_saySequences_92 : decode cX13_saySequences 92 = .ok (.sipush 600, 3) := by decide +kernel
theorem dX13_saySequences_95 : decode cX13_saySequences 95 = .ok (.iload_n 2, 1) := by decide +kernel
theorem dX13_saySequences_96 : decode cX13_saySequences 96 = .ok (.iadd, 1) := by decide +kernel
theorem dX13_saySequences_97 : decode cX13_saySequences 97 = .ok (.aload_n 0, 1) := by decide +kernel
theorem dX13_saySequences_98 : decode cX13_saySequences 98 = .ok (.getfield 126, 3) := by decide +kernel
theorem dX13_saySequences_101 : decode cX13_saySequences 101 = .ok (.iload_n 2, 1) := by decide +kernel
theorem dX13_saySequences_102 : decode cX13_saySequences 102 = .ok (.laload, 1) := by decide +kernel
theorem dX13_saySequences_103 : decode cX13_saySequences 103 = .ok (.invokestatic 484, 3) := by decide +kernel
theorem dX13_saySequences_106 : decode cX13_saySequences 106 = .ok (.iastore, 1) := by decide +kernel
theorem dX13_saySequences_107 : decode cX13_saySequences 107 = .ok (.aload_n 0, 1) := by decide +kernel
theorem dX13_saySequences_108 : decode cX13_saySequences 108 = .ok (.getfield 129, 3) := by decide +kernel
theorem dX13_saySequences_111 : decode cX13_saySequences 111 = .ok (.sipush 1200, 3) := by decide +kernel
theorem dX13_saySequences_114 : decode cX13_saySequences 114 = .ok (.iload_n 2, 1) := by decide +kernel
theorem dX13_saySequences_115 : decode cX13_saySequences 115 = .ok (.iadd, 1) := by decide +kernel
theorem dX13_saySequences_116 : decode cX13_saySequences 116 = .ok (.aload_n 0, 1) := by decide +kernel
theorem dX13_saySequences_117 : decode cX13_saySequences 117 = .ok (.getfield 123, 3) := by decide +kernel
theorem dX13_saySequences_120 : decode cX13_saySequences 120 = .ok (.iload_n 2, 1) := by decide +kernel
theorem dX13_saySequences_121 : decode cX13_saySequences 121 = .ok (.iaload, 1) := by decide +kernel
theorem dX13_saySequences_122 : decode cX13_saySequences 122 = .ok (.invokestatic 488, 3) := by decide +kernel
theorem dX13_saySequences_125 : decode cX13_saySequences 125 = .ok (.iastore, 1) := by decide +kernel
theorem dX13_saySequences_126 : decode cX13_saySequences 126 = .ok (.iinc 2 1, 3) := by decide +kernel
theorem dX13_saySequences_129 : decode cX13_saySequences 129 = .ok (.goto (-64), 3) := by decide +kernel
theorem dX13_saySequences_132 : decode cX13_saySequences 132 = .ok (.aload_n 0, 1) := by decide +kernel
theorem dX13_saySequences_133 : decode cX13_saySequences 133 = .ok (.getfield 412, 3) := by decide +kernel
theorem dX13_saySequences_136 : decode cX13_saySequences 136 = .ok (.istore_n 2, 1) := by decide +kernel
theorem dX13_saySequences_137 : decode cX13_saySequences 137 = .ok (.aload_n 0, 1) := by decide +kernel
theorem dX13_saySequences_138 : decode cX13_saySequences 138 = .ok (.lconst 0, 1) := by decide +kernel
theorem dX13_saySequences_139 : decode cX13_saySequences 139 = .ok (.iconst 1, 1) := by decide +kernel
theorem dX13_saySequences_140 : decode cX13_saySequences 140 = .ok (.invokevirtual 418, 3) := by decide +kernel
theorem dX13_saySequences_143 : decode cX13_saySequences 143 = .ok (.iconst 0, 1) := by decide +kernel
theorem dX13_saySequences_144 : decode cX13_saySequences 144 = .ok (.istore_n 3, 1) := by decide +kernel
theorem dX13_saySequences_145 : decode cX13_saySequences 145 = .ok (.iconst 0, 1) := by decide +kernel
theorem dX13_saySequences_146 : decode cX13_saySequences 146 = .ok (.istore 4, 2) := by decide +kernel
theorem dX13_saySequences_148 : decode cX13_saySequences 148 = .ok (.iload 4, 2) := by decide +kernel
theorem dX13_saySequences_150 : decode cX13_saySequences 150 = .ok (.iconst 3, 1) := by decide +kernel
theorem dX13_saySequences_151 : decode cX13_saySequences 151 = .ok (.if_icmp .ge 27, 3) := by decide +kernel
theorem dX13_saySequences_154 : decode cX13_saySequences 154 = .ok (.iload_n 3, 1) := by decide +kernel
theorem dX13_saySequences_155 : decode cX13_saySequences 155 = .ok (.aload_n 0, 1) := by decide +kernel
theorem dX13_saySequences_156 : decode cX13_saySequences 156 = .ok (.iload_n 1, 1) := by decide +kernel
theorem dX13_saySequences_157 : decode cX13_saySequences 157 = .ok (.iload 4, 2) := by decide +kernel
theorem dX13_saySequences_159 : decode cX13_saySequences 159 = .ok (.invokevirtual 491, 3) := by decide +kernel
theorem dX13_saySequences_162 : decode cX13_saySequences 162 = .ok (.bipush 6, 2) := by decide +kernel
theorem dX13_saySequences_164 : decode cX13_saySequences 164 = .ok (.iconst 2, 1) := by decide +kernel
theorem dX13_saySequences_165 : decode cX13_saySequences 165 = .ok (.iload 4, 2) := by decide +kernel
theorem dX13_saySequences_167 : decode cX13_saySequences 167 = .ok (.imul, 1) := by decide +kernel
theorem dX13_saySequences_168 : decode cX13_saySequences 168 = .ok (.isub, 1) := by decide +kernel
theorem dX13_saySequences_169 : decode cX13_saySequences 169 = .ok (.ishl, 1) := by decide +kernel
theorem dX13_saySequences_170 : decode cX13_saySequences 170 = .ok (.ior, 1) := by decide +kernel
theorem dX13_saySequences_171 : decode cX13_saySequences 171 = .ok (.istore_n 3, 1) := by decide +kernel
theorem dX13_saySequences_172 : decode cX13_saySequences 172 = .ok (.iinc 4 1, 3) := by decide +kernel
theorem dX13_saySequences_175 : decode cX13_saySequences 175 = .ok (.goto (-27), 3) := by decide +kernel
theorem dX13_saySequences_178 : decode cX13_saySequences 178 = .ok (.aload_n 0, 1) := by decide +kernel
theorem dX13_saySequences_179 : decode cX13_saySequences 179 = .ok (.getfield 104, 3) := by decide +kernel
theorem dX13_saySequences_182 : decode cX13_saySequences 182 = .ok (.iload_n 2, 1) := by decide +kernel
theorem dX13_saySequences_183 : decode cX13_saySequences 183 = .ok (.iload_n 3, 1) := by decide +kernel
theorem dX13_saySequences_184 : decode cX13_saySequences 184 = .ok (.i2b, 1) := by decide +kernel
theorem dX13_saySequences_185 : decode cX13_saySequences 185 = .ok (.bastore, 1) := by decide +kernel
theorem dX13_saySequences_186 : decode cX13_saySequences 186 = .ok (.iconst 0, 1) := by decide +kernel
theorem dX13_saySequences_187 : decode cX13_saySequences 187 = .ok (.istore 4, 2) := by decide +kernel
theorem dX13_saySequences_189 : decode cX13_saySequences 189 = .ok (.iload 4, 2) := by decide +kernel
theorem dX13_saySequences_191 : decode cX13_saySequences 191 = .ok (.iconst 3, 1) := by decide +kernel
theorem dX13_saySequences_192 : decode cX13_saySequences 192 = .ok (.if_icmp .ge 15, 3) := by decide +kernel
theorem dX13_saySequences_195 : decode cX13_saySequences 195 = .ok (.aload_n 0, 1) := by decide +kernel
theorem dX13_saySequences_196 : decode cX13_saySequences 196 = .ok (.iload 4, 2) := by decide +kernel
theorem dX13_saySequences_198 : decode cX13_saySequences 198 = .ok (.invokevirtual 494, 3) := by decide +kernel
theorem dX13_saySequences_201 : decode cX13_saySequences 201 = .ok (.iinc 4 1, 3) := by decide +kernel
theorem dX13_saySequences_204 : decode cX13_saySequences 204 = .ok (.goto (-15), 3) := by decide +kernel
theorem dX13_saySequences_207 : decode cX13_saySequences 207 = .ok (.aload_n 0, 1) := by decide +kernel
theorem dX13_saySequences_208 : decode cX13_saySequences 208 = .ok (.aload_n 0, 1) := by decide +kernel
theorem dX13_saySequences_209 : decode cX13_saySequences 209 = .ok (.getfield 132, 3) := by decide +kernel
theorem dX13_saySequences_212 : decode cX13_saySequences 212 = .ok (.iconst 0, 1) := by decide +kernel
theorem dX13_saySequences_213 : decode cX13_saySequences 213 = .ok (.iaload, 1) := by decide +kernel
theorem dX13_saySequences_214 : decode cX13_saySequences 214 = .ok (.i2l, 1) := by decide +kernel
theorem dX13_saySequences_215 : decode cX13_saySequences 215 = .ok (.aload_n 0, 1) := by decide +kernel
theorem dX13_saySequences_216 : decode cX13_saySequences 216 = .ok (.getfield 37, 3) := by decide +kernel
theorem dX13_saySequences_219 : decode cX13_saySequences 219 = .ok (.bipush 7, 2) := by decide +kernel
theorem dX13_saySequences_221 : decode cX13_saySequences 221 = .ok (.iaload, 1) := by decide +kernel
theorem dX13_saySequences_222 : decode cX13_saySequences 222 = .ok (.invokevirtual 473, 3) := by decide +kernel
theorem dX13_saySequences_225 : decode cX13_saySequences 225 = .ok (.aload_n 0, 1) := by decide +kernel
theorem dX13_saySequences_226 : decode cX13_saySequences 226 = .ok (.aload_n 0, 1) := by decide +kernel
theorem dX13_saySequences_227 : decode cX13_saySequences 227 = .ok (.getfield 132, 3) := by decide +kernel
theorem dX13_saySequences_230 : decode cX13_saySequences 230 = .ok (.sipush 600, 3) := by decide +kernel
theorem dX13_saySequences_233 : decode cX13_saySequences 233 = .ok (.iaload, 1) := by decide +kernel
theorem dX13_saySequences_234 : decode cX13_saySequences 234 = .ok (.i2l, 1) := by decide +kernel
theorem dX13_saySequences_235 : decode cX13_saySequences 235 = .ok (.aload_n 0, 1) := by decide +kernel
theorem dX13_saySequences_236 : decode cX13_saySequences 236 = .ok (.getfield 37, 3) := by decide +kernel
theorem dX13_saySequences_239 : decode cX13_saySequences 239 = .ok (.bipush 8, 2) := by decide +kernel
theorem dX13_saySequences_241 : decode cX13_saySequences 241 = .ok (.iaload, 1) := by decide +kernel
theorem dX13_saySequences_242 : decode cX13_saySequences 242 = .ok (.invokevirtual 473, 3) := by decide +kernel
theorem dX13_saySequences_245 : decode cX13_saySequences 245 = .ok (.aload_n 0, 1) := by decide +kernel
theorem dX13_saySequences_246 : decode cX13_saySequences 246 = .ok (.aload_n 0, 1) := by decide +kernel
theorem dX13_saySequences_247 : decode cX13_saySequences 247 = .ok (.getfield 132, 3) := by decide +kernel
theorem dX13_saySequences_250 : decode cX13_saySequences 250 = .ok (.sipush 1200, 3) := by decide +kernel
theorem dX13_saySequences_253 : decode cX13_saySequences 253 = .ok (.iaload, 1) := by decide +kernel
theorem dX13_saySequences_254 : decode cX13_saySequences 254 = .ok (.i2l, 1) := by decide +kernel
theorem dX13_saySequences_255 : decode cX13_saySequences 255 = .ok (.aload_n 0, 1) := by decide +kernel
theorem dX13_saySequences_256 : decode cX13_saySequences 256 = .ok (.getfield 37, 3) := by decide +kernel
theorem dX13_saySequences_259 : decode cX13_saySequences 259 = .ok (.bipush 9, 2) := by decide +kernel
theorem dX13_saySequences_261 : decode cX13_saySequences 261 = .ok (.iaload, 1) := by decide +kernel
theorem dX13_saySequences_262 : decode cX13_saySequences 262 = .ok (.invokevirtual 473, 3) := by decide +kernel
theorem dX13_saySequences_265 : decode cX13_saySequences 265 = .ok (.iconst 0, 1) := by decide +kernel
theorem dX13_saySequences_266 : decode cX13_saySequences 266 = .ok (.istore 4, 2) := by decide +kernel
theorem dX13_saySequences_268 : decode cX13_saySequences 268 = .ok (.iload 4, 2) := by decide +kernel
theorem dX13_saySequences_270 : decode cX13_saySequences 270 = .ok (.aload_n 0, 1) := by decide +kernel
theorem dX13_saySequences_271 : decode cX13_saySequences 271 = .ok (.getfield 443, 3) := by decide +kernel
theorem dX13_saySequences_274 : decode cX13_saySequences 274 = .ok (.if_icmp .ge 140, 3) := by decide +kernel
theorem dX13_saySequences_277 : decode cX13_saySequences 277 = .ok (.aload_n 0, 1) := by decide +kernel
theorem dX13_saySequences_278 : decode cX13_saySequences 278 = .ok (.getfield 129, 3) := by decide +kernel
theorem dX13_saySequences_281 : decode cX13_saySequences 281 = .ok (.sipush 600, 3) := by decide +kernel
theorem dX13_saySequences_284 : decode cX13_saySequences 284 = .ok (.iload 4, 2) := by decide +kernel
theorem dX13_saySequences_286 : decode cX13_saySequences 286 = .ok (.iadd, 1) := by decide +kernel
theorem dX13_saySequences_287 : decode cX13_saySequences 287 = .ok (.iaload, 1) := by decide +kernel
theorem dX13_saySequences_288 : decode cX13_saySequences 288 = .ok (.istore 5, 2) := by decide +kernel
theorem dX13_saySequences_290 : decode cX13_saySequences 290 = .ok (.aload_n 0, 1) := by decide +kernel
theorem dX13_saySequences_291 : decode cX13_saySequences 291 = .ok (.getfield 129, 3) := by decide +kernel
theorem dX13_saySequences_294 : decode cX13_saySequences 294 = .ok (.sipush 1200, 3) := by decide +kernel
theorem dX13_saySequences_297 : decode cX13_saySequences 297 = .ok (.iload 4, 2) := by decide +kernel
theorem dX13_saySequences_299 : decode cX13_saySequences 299 = .ok (.iadd, 1) := by decide +kernel
theorem dX13_saySequences_300 : decode cX13_saySequences 300 = .ok (.iaload, 1) := by decide +kernel
theorem dX13_saySequences_301 : decode cX13_saySequences 301 = .ok (.istore 6, 2) := by decide +kernel
theorem dX13_saySequences_303 : decode cX13_saySequences 303 = .ok (.aload_n 0, 1) := by decide +kernel
theorem dX13_saySequences_304 : decode cX13_saySequences 304 = .ok (.getfield 129, 3) := by decide +kernel
theorem dX13_saySequences_307 : decode cX13_saySequences 307 = .ok (.iload 4, 2) := by decide +kernel
theorem dX13_saySequences_309 : decode cX13_saySequences 309 = .ok (.iaload, 1) := by decide +kernel
theorem dX13_saySequences_310 : decode cX13_saySequences 310 = .ok (.istore 7, 2) := by decide +kernel
theorem dX13_saySequences_312 : decode cX13_saySequences 312 = .ok (.aload_n 0, 1) := by decide +kernel
theorem dX13_saySequences_313 : decode cX13_saySequences 313 = .ok (.aload_n 0, 1) := by decide +kernel
theorem dX13_saySequences_314 : decode cX13_saySequences 314 = .ok (.getfield 126, 3) := by decide +kernel
theorem dX13_saySequences_317 : decode cX13_saySequences 317 = .ok (.iload 4, 2) := by decide +kernel
theorem dX13_saySequences_319 : decode cX13_saySequences 319 = .ok (.laload, 1) := by decide +kernel
theorem dX13_saySequences_320 : decode cX13_saySequences 320 = .ok (.lconst 1, 1) := by decide +kernel
theorem dX13_saySequences_321 : decode cX13_saySequences 321 = .ok (.iload 5, 2) := by decide +kernel
theorem dX13_saySequences_323 : decode cX13_saySequences 323 = .ok (.lshl, 1) := by decide +kernel
theorem dX13_saySequences_324 : decode cX13_saySequences 324 = .ok (.lsub, 1) := by decide +kernel
theorem dX13_saySequences_325 : decode cX13_saySequences 325 = .ok (.iload 5, 2) := by decide +kernel
theorem dX13_saySequences_327 : decode cX13_saySequences 327 = .ok (.invokevirtual 473, 3) := by decide +kernel
theorem dX13_saySequences_330 : decode cX13_saySequences 330 = .ok (.aload_n 0, 1) := by decide +kernel
theorem dX13_saySequences_331 : decode cX13_saySequences 331 = .ok (.aload_n 0, 1) := by decide +kernel
theorem dX13_saySequences_332 : decode cX13_saySequences 332 = .ok (.getfield 123, 3) := by decide +kernel
theorem dX13_saySequences_335 : decode cX13_saySequences 335 = .ok (.iload 4, 2) := by decide +kernel
theorem dX13_saySequences_337 : decode cX13_saySequences 337 = .ok (.iaload, 1) := by decide +kernel
theorem dX13_saySequences_338 : decode cX13_saySequences 338 = .ok (.iload 6, 2) := by decide +kernel
theorem dX13_saySequences_340 : decode cX13_saySequences 340 = .ok (.invokestatic 386, 3) := by decide +kernel
theorem dX13_saySequences_343 : decode cX13_saySequences 343 = .ok (.isub, 1) := by decide +kernel
theorem dX13_saySequences_344 : decode cX13_saySequences 344 = .ok (.i2l, 1) := by decide +kernel
theorem dX13_saySequences_345 : decode cX13_saySequences 345 = .ok (.iload 6, 2) := by decide +kernel
theorem dX13_saySequences_347 : decode cX13_saySequences 347 = .ok (.invokestatic 389, 3) := by decide +kernel
theorem dX13_saySequences_350 : decode cX13_saySequences 350 = .ok (.invokevirtual 473, 3) := by decide +kernel
theorem dX13_saySequences_353 : decode cX13_saySequences 353 = .ok (.aload_n 0, 1) := by decide +kernel
theorem dX13_saySequences_354 : decode cX13_saySequences 354 = .ok (.aload_n 0, 1) := by decide +kernel
theorem dX13_saySequences_355 : decode cX13_saySequences 355 = .ok (.getfield 120, 3) := by decide +kernel
theorem dX13_saySequences_358 : decode cX13_saySequences 358 = .ok (.iload 4, 2) := by decide +kernel
theorem dX13_saySequences_360 : decode cX13_saySequences 360 = .ok (.iaload, 1) := by decide +kernel
theorem dX13_saySequences_361 : decode cX13_saySequences 361 = .ok (.iload 7, 2) := by decide +kernel
theorem dX13_saySequences_363 : decode cX13_saySequences 363 = .ok (.invokestatic 392, 3) := by decide +kernel
theorem dX13_saySequences_366 : decode cX13_saySequences 366 = .ok (.isub, 1) := by decide +kernel
theorem dX13_saySequences_367 : decode cX13_saySequences 367 = .ok (.i2l, 1) := by decide +kernel
theorem dX13_saySequences_368 : decode cX13_saySequences 368 = .ok (.iload 7, 2) := by decide +kernel
theorem dX13_saySequences_370 : decode cX13_saySequences 370 = .ok (.invokestatic 395, 3) := by decide +kernel
theorem dX13_saySequences_373 : decode cX13_saySequences 373 = .ok (.invokevirtual 473, 3) := by decide +kernel
theorem dX13_saySequences_376 : decode cX13_saySequences 376 = .ok (.iload 4, 2) := by decide +kernel
theorem dX13_saySequences_378 : decode cX13_saySequences 378 = .ok (.aload_n 0, 1) := by decide +kernel
theorem dX13_saySequences_379 : decode cX13_saySequences 379 = .ok (.getfield 443, 3) := by decide +kernel
theorem dX13_saySequences_382 : decode cX13_saySequences 382 = .ok (.iconst 1, 1) := by decide +kernel
theorem dX13_saySequences_383 : decode cX13_saySequences 383 = .ok (.isub, 1) := by decide +kernel
theorem dX13_saySequences_384 : decode cX13_saySequences 384 = .ok (.if_icmp .ge 24, 3) := by decide +kernel
theorem dX13_saySequences_387 : decode cX13_saySequences 387 = .ok (.aload_n 0, 1) := by decide +kernel
theorem dX13_saySequences_388 : decode cX13_saySequences 388 = .ok (.iconst 0, 1) := by decide +kernel
theorem dX13_saySequences_389 : decode cX13_saySequences 389 = .ok (.iload 4, 2) := by decide +kernel
theorem dX13_saySequences_391 : decode cX13_saySequences 391 = .ok (.invokevirtual 497, 3) := by decide +kernel
theorem dX13_saySequences_394 : decode cX13_saySequences 394 = .ok (.aload_n 0, 1) := by decide +kernel
theorem dX13_saySequences_395 : decode cX13_saySequences 395 = .ok (.iconst 2, 1) := by decide +kernel
theorem dX13_saySequences_396 : decode cX13_saySequences 396 = .ok (.iload 4, 2) := by decide +kernel
theorem dX13_saySequences_398 : decode cX13_saySequences 398 = .ok (.invokevirtual 497, 3) := by decide +kernel
theorem dX13_saySequences_401 : decode cX13_saySequences 401 = .ok (.aload_n 0, 1) := by decide +kernel
theorem dX13_saySequences_402 : decode cX13_saySequences 402 = .ok (.iconst 1, 1) := by decide +kernel
theorem dX13_saySequences_403 : decode cX13_saySequences 403 = .ok (.iload 4, 2) := by decide +kernel
theorem dX13_saySequences_405 : decode cX13_saySequences 405 = .ok (.invokevirtual 497, 3) := by decide +kernel
theorem dX13_saySequences_408 : decode cX13_saySequences 408 = .ok (.iinc 4 1, 3) := by decide +kernel
theorem dX13_saySequences_411 : decode cX13_saySequences 411 = .ok (.goto (-143), 3) := by decide +kernel
theorem dX13_saySequences_414 : decode cX13_saySequences 414 = .ok (.aload_n 0, 1) := by decide +kernel
theorem dX13_saySequences_415 : decode cX13_saySequences 415 = .ok (.invokevirtual 476, 3) := by decide +kernel
theorem dX13_saySequences_418 : decode cX13_saySequences 418 = .ok (.return_, 1) := by decide +kernel
theorem dX13_goOn_0 : decode cX13_goOn 0 = .ok (.sipush 512, 3) := by decide +kernel
theorem dX13_goOn_3 : decode cX13_goOn 3 = .ok (.bipush 7, 2) := by decide +kernel
theorem dX13_goOn_5 : decode cX13_goOn 5 = .ok (.iload_n 1, 1) := by decide +kernel
theorem dX13_goOn_6 : decode cX13_goOn 6 = .ok (.iadd, 1) := by decide +kernel
theorem dX13_goOn_7 : decode cX13_goOn 7 = .ok (.imul, 1) := by decide +kernel
theorem dX13_goOn_8 : decode cX13_goOn 8 = .ok (.aload_n 0, 1) := by decide +kernel
theorem dX13_goOn_9 : decode cX13_goOn 9 = .ok (.getfield 132, 3) := by decide +kernel
theorem dX13_goOn_12 : decode cX13_goOn 12 = .ok (.sipush 600, 3) := by decide +kernel
theorem dX13_goOn_15 : decode cX13_goOn 15 = .ok (.iload_n 1, 1) := by decide +kernel
theorem dX13_goOn_16 : decode cX13_goOn 16 = .ok (.imul, 1) := by decide +kernel
theorem dX13_goOn_17 : decode cX13_goOn 17 = .ok (.iload_n 2, 1) := by decide +kernel
theorem dX13_goOn_18 : decode cX13_goOn 18 = .ok (.iadd, 1) := by decide +kernel
theorem dX13_goOn_19 : decode cX13_goOn 19 = .ok (.iaload, 1) := by decide +kernel
theorem dX13_goOn_20 : decode cX13_goOn 20 = .ok (.iadd, 1) := by decide +kernel
theorem dX13_goOn_21 : decode cX13_goOn 21 = .ok (.istore_n 3, 1) := by decide +kernel
theorem dX13_goOn_22 : decode cX13_goOn 22 = .ok (.aload_n 0, 1) := by decide +kernel
theorem dX13_goOn_23 : decode cX13_goOn 23 = .ok (.aload_n 0, 1) := by decide +kernel
theorem dX13_goOn_24 : decode cX13_goOn 24 = .ok (.getfield 132, 3) := by decide +kernel
theorem dX13_goOn_27 : decode cX13_goOn 27 = .ok (.sipush 600, 3) := by decide +kernel
theorem dX13_goOn_30 : decode cX13_goOn 30 = .ok (.iload_n 1, 1) := by decide +kernel
theorem dX13_goOn_31 : decode cX13_goOn 31 = .ok (.imul, 1) := by decide +kernel
theorem dX13_goOn_32 : decode cX13_goOn 32 = .ok (.iload_n 2, 1) := by decide +kernel
theorem dX13_goOn_33 : decode cX13_goOn 33 = .ok (.iadd, 1) := by decide +kernel
theorem dX13_goOn_34 : decode cX13_goOn 34 = .ok (.iconst 1, 1) := by decide +kernel
theorem dX13_goOn_35 : decode cX13_goOn 35 = .ok (.iadd, 1) := by decide +kernel
theorem dX13_goOn_36 : decode cX13_goOn 36 = .ok (.iaload, 1) := by decide +kernel
theorem dX13_goOn_37 : decode cX13_goOn 37 = .ok (.aload_n 0, 1) := by decide +kernel
theorem dX13_goOn_38 : decode cX13_goOn 38 = .ok (.getfield 34, 3) := by decide +kernel
theorem dX13_goOn_41 : decode cX13_goOn 41 = .ok (.iload_n 3, 1) := by decide +kernel
theorem dX13_goOn_42 : decode cX13_goOn 42 = .ok (.iaload, 1) := by decide +kernel
theorem dX13_goOn_43 : decode cX13_goOn 43 = .ok (.isub, 1) := by decide +kernel
theorem dX13_goOn_44 : decode cX13_goOn 44 = .ok (.i2l, 1) := by decide +kernel
theorem dX13_goOn_45 : decode cX13_goOn 45 = .ok (.aload_n 0, 1) := by decide +kernel
theorem dX13_goOn_46 : decode cX13_goOn 46 = .ok (.getfield 31, 3) := by decide +kernel
theorem dX13_goOn_49 : decode cX13_goOn 49 = .ok (.iload_n 3, 1) := by decide +kernel
theorem dX13_goOn_50 : decode cX13_goOn 50 = .ok (.baload, 1) := by decide +kernel
theorem dX13_goOn_51 : decode cX13_goOn 51 = .ok (.invokevirtual 473, 3) := by decide +kernel
theorem dX13_goOn_54 : decode cX13_goOn 54 = .ok (.return_, 1) := by decide +kernel
theorem dX13_states_0 : decode cX13_states 0 = .ok (.sipush 512, 3) := by decide +kernel
theorem dX13_states_3 : decode cX13_states 3 = .ok (.bipush 7, 2) := by decide +kernel
theorem dX13_states_5 : decode cX13_states 5 = .ok (.iload_n 1, 1) := by decide +kernel
theorem dX13_states_6 : decode cX13_states 6 = .ok (.iadd, 1) := by decide +kernel
theorem dX13_states_7 : decode cX13_states 7 = .ok (.imul, 1) := by decide +kernel
theorem dX13_states_8 : decode cX13_states 8 = .ok (.istore_n 2, 1) := by decide +kernel
theorem dX13_states_9 : decode cX13_states 9 = .ok (.iconst 1, 1) := by decide +kernel
theorem dX13_states_10 : decode cX13_states 10 = .ok (.aload_n 0, 1) := by decide +kernel
theorem dX13_states_11 : decode cX13_states 11 = .ok (.getfield 37, 3) := by decide +kernel
theorem dX13_states_14 : decode cX13_states 14 = .ok (.bipush 7, 2) := by decide +kernel
theorem dX13_states_16 : decode cX13_states 16 = .ok (.iload_n 1, 1) := by decide +kernel
theorem dX13_states_17 : decode cX13_states 17 = .ok (.iadd, 1) := by decide +kernel
theorem dX13_states_18 : decode cX13_states 18 = .ok (.iaload, 1) := by decide +kernel
theorem dX13_states_19 : decode cX13_states 19 = .ok (.ishl, 1) := by decide +kernel
theorem dX13_states_20 : decode cX13_states 20 = .ok (.istore_n 3, 1) := by decide +kernel
theorem dX13_states_21 : decode cX13_states 21 = .ok (.aload_n 0, 1) := by decide +kernel
theorem dX13_states_22 : decode cX13_states 22 = .ok (.getfield 443, 3) := by decide +kernel
theorem dX13_states_25 : decode cX13_states 25 = .ok (.iconst 1, 1) := by decide +kernel
theorem dX13_states_26 : decode cX13_states 26 = .ok (.isub, 1) := by decide +kernel
theorem dX13_states_27 : decode cX13_states 27 = .ok (.istore 4, 2) := by decide +kernel
theorem dX13_states_29 : decode cX13_states 29 = .ok (.iload 4, 2) := by decide +kernel
theorem dX13_states_31 : decode cX13_states 31 = .ok (.ifCond .lt 161, 3) := by decide +kernel
theorem dX13_states_34 : decode cX13_states 34 = .ok (.aload_n 0, 1) := by decide +kernel
theorem dX13_states_35 : decode cX13_states 35 = .ok (.getfield 129, 3) := by decide +kernel
theorem dX13_states_38 : decode cX13_states 38 = .ok (.sipush 600, 3) := by decide +kernel
theorem dX13_states_41 : decode cX13_states 41 = .ok (.iload_n 1, 1) := by decide +kernel
theorem dX13_states_42 : decode cX13_states 42 = .ok (.imul, 1) := by decide +kernel
theorem dX13_states_43 : decode cX13_states 43 = .ok (.iload 4, 2) := by decide +kernel
theorem dX13_states_45 : decode cX13_states 45 = .ok (.iadd, 1) := by decide +kernel
theorem dX13_states_46 : decode cX13_states 46 = .ok (.iaload, 1) := by decide +kernel
theorem dX13_states_47 : decode cX13_states 47 = .ok (.istore 5, 2) := by decide +kernel
theorem dX13_states_49 : decode cX13_states 49 = .ok (.iconst (-1), 1) := by decide +kernel
theorem dX13_states_50 : decode cX13_states 50 = .ok (.istore 6, 2) := by decide +kernel
theorem dX13_states_52 : decode cX13_states 52 = .ok (.iconst 0, 1) := by decide +kernel
theorem dX13_states_53 : decode cX13_states 53 = .ok (.istore 7, 2) := by decide +kernel
theorem dX13_states_55 : decode cX13_states 55 = .ok (.iload 7, 2) := by decide +kernel
theorem dX13_states_57 : decode cX13_states 57 = .ok (.iload_n 3, 1) := by decide +kernel
theorem dX13_states_58 : decode cX13_states 58 = .ok (.if_icmp .ge 113, 3) := by decide +kernel
theorem dX13_states_61 : decode cX13_states 61 = .ok (.iload 6, 2) := by decide +kernel
theorem dX13_states_63 : decode cX13_states 63 = .ok (.ifCond .ge 108, 3) := by decide +kernel
theorem dX13_states_66 : decode cX13_states 66 = .ok (.aload_n 0, 1) := by decide +kernel
theorem dX13_states_67 : decode cX13_states 67 = .ok (.getfield 27, 3) := by decide +kernel
theorem dX13_states_70 : decode cX13_states 70 = .ok (.iload_n 2, 1) := by decide +kernel
theorem dX13_states_71 : decode cX13_states 71 = .ok (.iload 7, 2) := by decide +kernel
theorem dX13_states_73 : decode cX13_states 73 = .ok (.iadd, 1) := by decide +kernel
theorem dX13_states_74 : decode cX13_states 74 = .ok (.saload, 1) := by decide +kernel
theorem dX13_states_75 : decode cX13_states 75 = .ok (.iload 5, 2) := by decide +kernel
theorem dX13_states_77 : decode cX13_states 77 = .ok (.if_icmp .eq 6, 3) := by decide +kernel
theorem dX13_states_80 : decode cX13_states 80 = .ok (.goto 85, 3) := by decide +kernel
theorem dX13_states_83 : decode cX13_states 83 = .ok (.iload 4, 2) := by decide +kernel
theorem dX13_states_85 : decode cX13_states 85 = .ok (.aload_n 0, 1) := by decide +kernel
theorem dX13_states_86 : decode cX13_states 86 = .ok (.getfield 443, 3) := by decide +kernel
theorem dX13_states_89 : decode cX13_states 89 = .ok (.iconst 1, 1) := by decide +kernel
theorem dX13_states_90 : decode cX13_states 90 = .ok (.isub, 1) := by decide +kernel
theorem dX13_states_91 : decode cX13_states 91 = .ok (.if_icmp .ne 7, 3) := by decide +kernel
theorem dX13_states_94 : decode cX13_states 94 = .ok (.iconst 0, 1) := by decide +kernel
theorem dX13_states_95 : decode cX13_states 95 = .ok (.goto 28, 3) := by decide +kernel
theorem dX13_states_98 : decode cX13_states 98 = .ok (.aload_n 0, 1) := by decide +kernel
theorem dX13_states_99 : decode cX13_states 99 = .ok (.getfield 132, 3) := by decide +kernel
theorem dX13_states_102 : decode cX13_states 102 = .ok (.sipush 600, 3) := by decide +kernel
theorem dX13_states_105 : decode cX13_states 105 = .ok (.iload_n 1, 1) := by decide +kernel
theorem dX13_states_106 : decode cX13_states 106 = .ok (.imul, 1) := by decide +kernel
theorem dX13_states_107 : decode cX13_states 107 = .ok (.iload 4, 2) := by decide +kernel
theorem dX13_states_109 : decode cX13_states 109 = .ok (.iadd, 1) := by decide +kernel
theorem dX13_states_110 : decode cX13_states 110 = .ok (.iconst 1, 1) := by decide +kernel
theorem dX13_states_111 : decode cX13_states 111 = .ok (.iadd, 1) := by decide +kernel
theorem dX13_states_112 : decode cX13_states 112 = .ok (.iaload, 1) := by decide +kernel
theorem dX13_states_113 : decode cX13_states 113 = .ok (.aload_n 0, 1) := by decide +kernel
theorem dX13_states_114 : decode cX13_states 114 = .ok (.getfield 34, 3) := by decide +kernel
theorem dX13_states_117 : decode cX13_states 117 = .ok (.iload_n 2, 1) := by decide +kernel
theorem dX13_states_118 : decode cX13_states 118 = .ok (.iload 7, 2) := by decide +kernel
theorem dX13_states_120 : decode cX13_states 120 = .ok (.iadd, 1) := by decide +kernel
theorem dX13_states_121 : decode cX13_states 121 = .ok (.iaload, 1) := by decide +kernel
theorem dX13_states_122 : decode cX13_states 122 = .ok (.isub, 1) := by decide +kernel
theorem dX13_states_123 : decode cX13_states 123 = .ok (.istore 8, 2) := by decide +kernel
theorem dX13_states_125 : decode cX13_states 125 = .ok (.iload 4, 2) := by decide +kernel
theorem dX13_states_127 : decode cX13_states 127 = .ok (.aload_n 0, 1) := by decide +kernel
theorem dX13_states_128 : decode cX13_states 128 = .ok (.getfield 443, 3) := by decide +kernel
theorem dX13_states_131 : decode cX13_states 131 = .ok (.iconst 1, 1) := by decide +kernel
theorem dX13_states_132 : decode cX13_states 132 = .ok (.isub, 1) := by decide +kernel
theorem dX13_states_133 : decode cX13_states 133 = .ok (.if_icmp .eq 24, 3) := by decide +kernel
theorem dX13_states_136 : decode cX13_states 136 = .ok (.iload 8, 2) := by decide +kernel
theorem dX13_states_138 : decode cX13_states 138 = .ok (.ifCond .lt 24, 3) := by decide +kernel
theorem dX13_states_141 : decode cX13_states 141 = .ok (.iload 8, 2) := by decide +kernel
theorem dX13_states_143 : decode cX13_states 143 = .ok (.iconst 1, 1) := by decide +kernel
theorem dX13_states_144 : decode cX13_states 144 = .ok (.aload_n 0, 1) := by decide +kernel
theorem dX13_states_145 : decode cX13_states 145 = .ok (.getfield 31, 3) := by decide +kernel
theorem dX13_states_148 : decode cX13_states 148 = .ok (.iload_n 2, 1) := by decide +kernel
theorem dX13_states_149 : decode cX13_states 149 = .ok (.iload 7, 2) := by decide +kernel
theorem dX13_states_151 : decode cX13_states 151 = .ok (.iadd, 1) := by decide +kernel
theorem dX13_states_152 : decode cX13_states 152 = .ok (.baload, 1) := by decide +kernel
theorem dX13_states_153 : decode cX13_states 153 = .ok (.ishl, 1) := by decide +kernel
theorem dX13_states_154 : decode cX13_states 154 = .ok (.if_icmp .ge 8, 3) := by decide +kernel
theorem dX13_states_157 : decode cX13_states 157 = .ok (.iload 7, 2) := by decide +kernel
theorem dX13_states_159 : decode cX13_states 159 = .ok (.goto 4, 3) := by decide +kernel
theorem dX13_states_162 : decode cX13_states 162 = .ok (.iconst (-1), 1) := by decide +kernel
theorem dX13_states_163 : decode cX13_states 163 = .ok (.istore 6, 2) := by decide +kernel
theorem dX13_states_165 : decode cX13_states 165 = .ok (.iinc 7 1, 3) := by decide +kernel
theorem dX13_states_168 : decode cX13_states 168 = .ok (.goto (-113), 3) := by decide +kernel
theorem dX13_states_171 : decode cX13_states 171 = .ok (.aload_n 0, 1) := by decide +kernel
theorem dX13_states_172 : decode cX13_states 172 = .ok (.getfield 132, 3) := by decide +kernel
theorem dX13_states_175 : decode cX13_states 175 = .ok (.sipush 600, 3) := by decide +kernel
theorem dX13_states_178 : decode cX13_states 178 = .ok (.iload_n 1, 1) := by decide +kernel
theorem dX13_states_179 : decode cX13_states 179 = .ok (.imul, 1) := by decide +kernel
theorem dX13_states_180 : decode cX13_states 180 = .ok (.iload 4, 2) := by decide +kernel
theorem dX13_states_182 : decode cX13_states 182 = .ok (.iadd, 1) := by decide +kernel
theorem dX13_states_183 : decode cX13_states 183 = .ok (.iload 6, 2) := by decide +kernel
theorem dX13_states_185 : decode cX13_states 185 = .ok (.iastore, 1) := by decide +kernel
theorem dX13_states_186 : decode cX13_states 186 = .ok (.iinc 4 (-1), 3) := by decide +kernel
theorem dX13_states_189 : decode cX13_states 189 = .ok (.goto (-160), 3) := by decide +kernel
theorem dX13_states_192 : decode cX13_states 192 = .ok (.return_, 1) := by decide +kernel
theorem dX13_sayTable_0 : decode cX13_sayTable 0 = .ok (.iload_n 1, 1) := by decide +kernel
theorem dX13_sayTable_1 : decode cX13_sayTable 1 = .ok (.iconst 1, 1) := by decide +kernel
theorem dX13_sayTable_2 : decode cX13_sayTable 2 = .ok (.if_icmp .eq 12, 3) := by decide +kernel
theorem dX13_sayTable_5 : decode cX13_sayTable 5 = .ok (.aload_n 0, 1) := by decide +kernel
theorem dX13_sayTable_6 : decode cX13_sayTable 6 = .ok (.getfield 443, 3) := by decide +kernel
theorem dX13_sayTable_9 : decode cX13_sayTable 9 = .ok (.bipush 8, 2) := by decide +kernel
theorem dX13_sayTable_11 : decode cX13_sayTable 11 = .ok (.if_icmp .ge 14, 3) := by decide +kernel
theorem dX13_sayTable_14 : decode cX13_sayTable 14 = .ok (.aload_n 0, 1) := by decide +kernel
theorem dX13_sayTable_15 : decode cX13_sayTable 15 = .ok (.iload_n 2, 1) := by decide +kernel
theorem dX13_sayTable_16 : decode cX13_sayTable 16 = .ok (.bipush 7, 2) := by decide +kernel
theorem dX13_sayTable_18 : decode cX13_sayTable 18 = .ok (.iload_n 2, 1) := by decide +kernel
theorem dX13_sayTable_19 : decode cX13_sayTable 19 = .ok (.iadd, 1) := by decide +kernel
theorem dX13_sayTable_20 : decode cX13_sayTable 20 = .ok (.invokevirtual 367, 3) := by decide +kernel
theorem dX13_sayTable_23 : decode cX13_sayTable 23 = .ok (.iconst 0, 1) := by decide +kernel
theorem dX13_sayTable_24 : decode cX13_sayTable 24 = .ok (.ireturn, 1) := by decide +kernel
theorem dX13_sayTable_25 : decode cX13_sayTable 25 = .ok (.iconst 0, 1) := by decide +kernel
theorem dX13_sayTable_26 : decode cX13_sayTable 26 = .ok (.istore_n 3, 1) := by decide +kernel
theorem dX13_sayTable_27 : decode cX13_sayTable 27 = .ok (.iconst 0, 1) := by decide +kernel
theorem dX13_sayTable_28 : decode cX13_sayTable 28 = .ok (.istore 4, 2) := by decide +kernel
theorem dX13_sayTable_30 : decode cX13_sayTable 30 = .ok (.iload 4, 2) := by decide +kernel
theorem dX13_sayTable_32 : decode cX13_sayTable 32 = .ok (.sipush 256, 3) := by decide +kernel
theorem dX13_sayTable_35 : decode cX13_sayTable 35 = .ok (.if_icmp .ge 17, 3) := by decide +kernel
theorem dX13_sayTable_38 : decode cX13_sayTable 38 = .ok (.aload_n 0, 1) := by decide +kernel
theorem dX13_sayTable_39 : decode cX13_sayTable 39 = .ok (.getfield 138, 3) := by decide +kernel
theorem dX13_sayTable_42 : decode cX13_sayTable 42 = .ok (.iload 4, 2) := by decide +kernel
theorem dX13_sayTable_44 : decode cX13_sayTable 44 = .ok (.iconst 0, 1) := by decide +kernel
theorem dX13_sayTable_45 : decode cX13_sayTable 45 = .ok (.iastore, 1) := by decide +kernel
theorem dX13_sayTable_46 : decode cX13_sayTable 46 = .ok (.iinc 4 1, 3) := by decide +kernel
theorem dX13_sayTable_49 : decode cX13_sayTable 49 = .ok (.goto (-19), 3) := by decide +kernel
theorem dX13_sayTable_52 : decode cX13_sayTable 52 = .ok (.iconst 0, 1) := by decide +kernel
theorem dX13_sayTable_53 : decode cX13_sayTable 53 = .ok (.istore 4, 2) := by decide +kernel
theorem dX13_sayTable_55 : decode cX13_sayTable 55 = .ok (.iload 4, 2) := by decide +kernel
theorem dX13_sayTable_57 : decode cX13_sayTable 57 = .ok (.aload_n 0, 1) := by decide +kernel
theorem dX13_sayTable_58 : decode cX13_sayTable 58 = .ok (.getfield 443, 3) := by decide +kernel
theorem dX13_sayTable_61 : decode cX13_sayTable 61 = .ok (.if_icmp .ge 48, 3) := by decide +kernel
theorem dX13_sayTable_64 : decode cX13_sayTable 64 = .ok (.aload_n 0, 1) := by decide +kernel
theorem dX13_sayTable_65 : decode cX13_sayTable 65 = .ok (.getfield 129, 3) := by decide +kernel
theorem dX13_sayTable_68 : decode cX13_sayTable 68 = .ok (.sipush 600, 3) := by decide +kernel
theorem dX13_sayTable_71 : decode cX13_sayTable 71 = .ok (.iload_n 2, 1) := by decide +kernel
theorem dX13_sayTable_72 : decode cX13_sayTable 72 = .ok (.imul, 1) := by decide +kernel
theorem dX13_sayTable_73 : decode cX13_sayTable 73 = .ok (.iload 4, 2) := by decide +kernel
theorem dX13_sayTable_75 : decode cX13_sayTable 75 = .ok (.iadd, 1) := by decide +kernel
theorem dX13_sayTable_76 : decode cX13_sayTable 76 = .ok (.iaload, 1) := by decide +kernel
theorem dX13_sayTable_77 : decode cX13_sayTable 77 = .ok (.istore 5, 2) := by decide +kernel
theorem dX13_sayTable_79 : decode cX13_sayTable 79 = .ok (.aload_n 0, 1) := by decide +kernel
theorem dX13_sayTable_80 : decode cX13_sayTable 80 = .ok (.getfield 138, 3) := by decide +kernel
theorem dX13_sayTable_83 : decode cX13_sayTable 83 = .ok (.iload 5, 2) := by decide +kernel
theorem dX13_sayTable_85 : decode cX13_sayTable 85 = .ok (.dup2, 1) := by decide +kernel
theorem dX13_sayTable_86 : decode cX13_sayTable 86 = .ok (.iaload, 1) := by decide +kernel
theorem dX13_sayTable_87 : decode cX13_sayTable 87 = .ok (.iconst 1, 1) := by decide +kernel
theorem dX13_sayTable_88 : decode cX13_sayTable 88 = .ok (.iadd, 1) := by decide +kernel
theorem dX13_sayTable_89 : decode cX13_sayTable 89 = .ok (.iastore, 1) := by decide +kernel
theorem dX13_sayTable_90 : decode cX13_sayTable 90 = .ok (.iload 5, 2) := by decide +kernel
theorem dX13_sayTable_92 : decode cX13_sayTable 92 = .ok (.iload_n 3, 1) := by decide +kernel
theorem dX13_sayTable_93 : decode cX13_sayTable 93 = .ok (.if_icmp .le 8, 3) := by decide +kernel
theorem dX13_sayTable_96 : decode cX13_sayTable 96 = .ok (.iload 5, 2) := by decide +kernel
theorem dX13_sayTable_98 : decode cX13_sayTable 98 = .ok (.goto 4, 3) := by decide +kernel
theorem dX13_sayTable_101 : decode cX13_sayTable 101 = .ok (.iload_n 3, 1) := by decide +kernel
theorem dX13_sayTable_102 : decode cX13_sayTable 102 = .ok (.istore_n 3, 1) := by decide +kernel
theorem dX13_sayTable_103 : decode cX13_sayTable 103 = .ok (.iinc 4 1, 3) := by decide +kernel
theorem dX13_sayTable_106 : decode cX13_sayTable 106 = .ok (.goto (-51), 3) := by decide +kernel
theorem dX13_sayTable_109 : decode cX13_sayTable 109 = .ok (.aload_n 0, 1) := by decide +kernel
theorem dX13_sayTable_110 : decode cX13_sayTable 110 = .ok (.getfield 138, 3) := by decide +kernel
theorem dX13_sayTable_113 : decode cX13_sayTable 113 = .ok (.iload_n 3, 1) := by decide +kernel
theorem dX13_sayTable_114 : decode cX13_sayTable 114 = .ok (.iaload, 1) := by decide +kernel
theorem dX13_sayTable_115 : decode cX13_sayTable 115 = .ok (.aload_n 0, 1) := by decide +kernel
theorem dX13_sayTable_116 : decode cX13_sayTable 116 = .ok (.getfield 443, 3) := by decide +kernel
theorem dX13_sayTable_119 : decode cX13_sayTable 119 = .ok (.if_icmp .ne 21, 3) := by decide +kernel
theorem dX13_sayTable_122 : decode cX13_sayTable 122 = .ok (.aload_n 0, 1) := by decide +kernel
theorem dX13_sayTable_123 : decode cX13_sayTable 123 = .ok (.bipush 7, 2) := by decide +kernel
theorem dX13_sayTable_125 : decode cX13_sayTable 125 = .ok (.iload_n 2, 1) := by decide +kernel
theorem dX13_sayTable_126 : decode cX13_sayTable 126 = .ok (.iadd, 1) := by decide +kernel
theorem dX13_sayTable_127 : decode cX13_sayTable 127 = .ok (.iload_n 3, 1) := by decide +kernel
theorem dX13_sayTable_128 : decode cX13_sayTable 128 = .ok (.invokevirtual 373, 3) := by decide +kernel
theorem dX13_sayTable_131 : decode cX13_sayTable 131 = .ok (.aload_n 0, 1) := by decide +kernel
theorem dX13_sayTable_132 : decode cX13_sayTable 132 = .ok (.iload_n 3, 1) := by decide +kernel
theorem dX13_sayTable_133 : decode cX13_sayTable 133 = .ok (.i2l, 1) := by decide +kernel
theorem dX13_sayTable_134 : decode cX13_sayTable 134 = .ok (.iconst 1, 1) := by decide +kernel
theorem dX13_sayTable_135 : decode cX13_sayTable 135 = .ok (.invokevirtual 418, 3) := by decide +kernel
theorem dX13_sayTable_138 : decode cX13_sayTable 138 = .ok (.iconst 1, 1) := by decide +kernel
theorem dX13_sayTable_139 : decode cX13_sayTable 139 = .ok (.ireturn, 1) := by decide +kernel
theorem dX13_sayTable_140 : decode cX13_sayTable 140 = .ok (.aload_n 0, 1) := by decide +kernel
theorem dX13_sayTable_141 : decode cX13_sayTable 141 = .ok (.aload_n 0, 1) := by decide +kernel
theorem dX13_sayTable_142 : decode cX13_sayTable 142 = .ok (.getfield 443, 3) := by decide +kernel
theorem dX13_sayTable_145 : decode cX13_sayTable 145 = .ok (.bipush 32, 2) := by decide +kernel
theorem dX13_sayTable_147 : decode cX13_sayTable 147 = .ok (.if_icmp .ge 7, 3) := by decide +kernel
theorem dX13_sayTable_150 : decode cX13_sayTable 150 = .ok (.iconst 5, 1) := by decide +kernel
theorem dX13_sayTable_151 : decode cX13_sayTable 151 = .ok (.goto 20, 3) := by decide +kernel
theorem dX13_sayTable_154 : decode cX13_sayTable 154 = .ok (.aload_n 0, 1) := by decide +kernel
theorem dX13_sayTable_155 : decode cX13_sayTable 155 = .ok (.getfield 443, 3) := by decide +kernel
theorem dX13_sayTable_158 : decode cX13_sayTable 158 = .ok (.sipush 128, 3) := by decide +kernel
theorem dX13_sayTable_161 : decode cX13_sayTable 161 = .ok (.if_icmp .ge 8, 3) := by decide +kernel
theorem dX13_sayTable_164 : decode cX13_sayTable 164 = .ok (.bipush 6, 2) := by decide +kernel
theorem dX13_sayTable_166 : decode cX13_sayTable 166 = .ok (.goto 5, 3) := by decide +kernel
theorem dX13_sayTable_169 : decode cX13_sayTable 169 = .ok (.bipush 7, 2) := by decide +kernel
theorem dX13_sayTable_171 : decode cX13_sayTable 171 = .ok (.putfield 210, 3) := by decide +kernel
theorem dX13_sayTable_174 : decode cX13_sayTable 174 = .ok (.iconst 1, 1) := by decide +kernel
theorem dX13_sayTable_175 : decode cX13_sayTable 175 = .ok (.aload_n 0, 1) := by decide +kernel
theorem dX13_sayTable_176 : decode cX13_sayTable 176 = .ok (.getfield 210, 3) := by decide +kernel
theorem dX13_sayTable_179 : decode cX13_sayTable 179 = .ok (.ishl, 1) := by decide +kernel
theorem dX13_sayTable_180 : decode cX13_sayTable 180 = .ok (.istore 4, 2) := by decide +kernel
theorem dX13_sayTable_182 : decode cX13_sayTable 182 = .ok (.aload_n 0, 1) := by decide +kernel
theorem dX13_sayTable_183 : decode cX13_sayTable 183 = .ok (.invokevirtual 213, 3) := by decide +kernel
theorem dX13_sayTable_186 : decode cX13_sayTable 186 = .ok (.iconst 0, 1) := by decide +kernel
theorem dX13_sayTable_187 : decode cX13_sayTable 187 = .ok (.istore 5, 2) := by decide +kernel
theorem dX13_sayTable_189 : decode cX13_sayTable 189 = .ok (.iload 5, 2) := by decide +kernel
theorem dX13_sayTable_191 : decode cX13_sayTable 191 = .ok (.iload_n 3, 1) := by decide +kernel
theorem dX13_sayTable_192 : decode cX13_sayTable 192 = .ok (.if_icmp .gt 68, 3) := by decide +kernel
theorem dX13_sayTable_195 : decode cX13_sayTable 195 = .ok (.aload_n 0, 1) := by decide +kernel
theorem dX13_sayTable_196 : decode cX13_sayTable 196 = .ok (.getfield 138, 3) := by decide +kernel
theorem dX13_sayTable_199 : decode cX13_sayTable 199 = .ok (.iload 5, 2) := by decide +kernel
theorem dX13_sayTable_201 : decode cX13_sayTable 201 = .ok (.iaload, 1) := by decide +kernel
theorem dX13_sayTable_202 : decode cX13_sayTable 202 = .ok (.aload_n 0, 1) := by decide +kernel
theorem dX13_sayTable_203 : decode cX13_sayTable 203 = .ok (.getfield 210, 3) := by decide +kernel
theorem dX13_sayTable_206 : decode cX13_sayTable 206 = .ok (.ishl, 1) := by decide +kernel
theorem dX13_sayTable_207 : decode cX13_sayTable 207 = .ok (.aload_n 0, 1) := by decide +kernel
theorem dX13_sayTable_208 : decode cX13_sayTable 208 = .ok (.getfield 443, 3) := by decide +kernel
theorem dX13_sayTable_211 : decode cX13_sayTable 211 = .ok (.idiv, 1) := by decide +kernel
theorem dX13_sayTable_212 : decode cX13_sayTable 212 = .ok (.istore 6, 2) := by decide +kernel
theorem dX13_sayTable_214 : decode cX13_sayTable 214 = .ok (.aload_n 0, 1) := by decide +kernel
theorem dX13_sayTable_215 : decode cX13_sayTable 215 = .ok (.getfield 23, 3) := by decide +kernel
theorem dX13_sayTable_218 : decode cX13_sayTable 218 = .ok (.iload 5, 2) := by decide +kernel
theorem dX13_sayTable_220 : decode cX13_sayTable 220 = .ok (.aload_n 0, 1) := by decide +kernel
theorem dX13_sayTable_221 : decode cX13_sayTable 221 = .ok (.getfield 138, 3) := by decide +kernel
theorem dX13_sayTable_224 : decode cX13_sayTable 224 = .ok (.iload 5, 2) := by decide +kernel
theorem dX13_sayTable_226 : decode cX13_sayTable 226 = .ok (.iaload, 1) := by decide +kernel
theorem dX13_sayTable_227 : decode cX13_sayTable 227 = .ok (.ifCond .le 12, 3) := by decide +kernel
theorem dX13_sayTable_230 : decode cX13_sayTable 230 = .ok (.iload 6, 2) := by decide +kernel
theorem dX13_sayTable_232 : decode cX13_sayTable 232 = .ok (.ifCond .ne 7, 3) := by decide +kernel
theorem dX13_sayTable_235 : decode cX13_sayTable 235 = .ok (.iconst 1, 1) := by decide +kernel
theorem dX13_sayTable_236 : decode cX13_sayTable 236 = .ok (.goto 5, 3) := by decide +kernel
theorem dX13_sayTable_239 : decode cX13_sayTable 239 = .ok (.iload 6, 2) := by decide +kernel
theorem dX13_sayTable_241 : decode cX13_sayTable 241 = .ok (.iastore, 1) := by decide +kernel
theorem dX13_sayTable_242 : decode cX13_sayTable 242 = .ok (.iload 4, 2) := by decide +kernel
theorem dX13_sayTable_244 : decode cX13_sayTable 244 = .ok (.aload_n 0, 1) := by decide +kernel
theorem dX13_sayTable_245 : decode cX13_sayTable 245 = .ok (.getfield 23, 3) := by decide +kernel
theorem dX13_sayTable_248 : decode cX13_sayTable 248 = .ok (.iload 5, 2) := by decide +kernel
theorem dX13_sayTable_250 : decode cX13_sayTable 250 = .ok (.iaload, 1) := by decide +kernel
theorem dX13_sayTable_251 : decode cX13_sayTable 251 = .ok (.isub, 1) := by decide +kernel
theorem dX13_sayTable_252 : decode cX13_sayTable 252 = .ok (.istore 4, 2) := by decide +kernel
theorem dX13_sayTable_254 : decode cX13_sayTable 254 = .ok (.iinc 5 1, 3) := by decide +kernel
theorem dX13_sayTable_257 : decode cX13_sayTable 257 = .ok (.goto (-68), 3) := by decide +kernel
theorem dX13_sayTable_260 : decode cX13_sayTable 260 = .ok (.iload 4, 2) := by decide +kernel
theorem dX13_sayTable_262 : decode cX13_sayTable 262 = .ok (.ifCond .eq 86, 3) := by decide +kernel
theorem dX13_sayTable_265 : decode cX13_sayTable 265 = .ok (.iconst 0, 1) := by decide +kernel
theorem dX13_sayTable_266 : decode cX13_sayTable 266 = .ok (.istore 5, 2) := by decide +kernel
theorem dX13_sayTable_268 : decode cX13_sayTable 268 = .ok (.iconst 0, 1) := by decide +kernel
theorem dX13_sayTable_269 : decode cX13_sayTable 269 = .ok (.istore 6, 2) := by decide +kernel
theorem dX13_sayTable_271 : decode cX13_sayTable 271 = .ok (.iload 6, 2) := by decide +kernel
theorem dX13_sayTable_273 : decode cX13_sayTable 273 = .ok (.iload_n 3, 1) := by decide +kernel
theorem dX13_sayTable_274 : decode cX13_sayTable 274 = .ok (.if_icmp .gt 35, 3) := by decide +kernel
theorem dX13_sayTable_277 : decode cX13_sayTable 277 = .ok (.aload_n 0, 1) := by decide +kernel
theorem dX13_sayTable_278 : decode cX13_sayTable 278 = .ok (.getfield 23, 3) := by decide +kernel
theorem dX13_sayTable_281 : decode cX13_sayTable 281 = .ok (.iload 6, 2) := by decide +kernel
theorem dX13_sayTable_283 : decode cX13_sayTable 283 = .ok (.iaload, 1) := by decide +kernel
theorem dX13_sayTable_284 : decode cX13_sayTable 284 = .ok (.aload_n 0, 1) := by decide +kernel
theorem dX13_sayTable_285 : decode cX13_sayTable 285 = .ok (.getfield 23, 3) := by decide +kernel
theorem dX13_sayTable_288 : decode cX13_sayTable 288 = .ok (.iload 5, 2) := by decide +kernel
theorem dX13_sayTable_290 : decode cX13_sayTable 290 = .ok (.iaload, 1) := by decide +kernel
theorem dX13_sayTable_291 : decode cX13_sayTable 291 = .ok (.if_icmp .le 8, 3) := by decide +kernel
theorem dX13_sayTable_294 : decode cX13_sayTable 294 = .ok (.iload 6, 2) := by decide +kernel
theorem dX13_sayTable_296 : decode cX13_sayTable 296 = .ok (.goto 5, 3) := by decide +kernel
theorem dX13_sayTable_299 : decode cX13_sayTable 299 = .ok (.iload 5, 2) := by decide +kernel
theorem dX13_sayTable_301 : decode cX13_sayTable 301 = .ok (.istore 5, 2) := by decide +kernel
theorem dX13_sayTable_303 : decode cX13_sayTable 303 = .ok (.iinc 6 1, 3) := by decide +kernel
theorem dX13_sayTable_306 : decode cX13_sayTable 306 = .ok (.goto (-35), 3) := by decide +kernel
theorem dX13_sayTable_309 : decode cX13_sayTable 309 = .ok (.aload_n 0, 1) := by decide +kernel
theorem dX13_sayTable_310 : decode cX13_sayTable 310 = .ok (.getfield 23, 3) := by decide +kernel
theorem dX13_sayTable_313 : decode cX13_sayTable 313 = .ok (.iload 5, 2) := by decide +kernel
theorem dX13_sayTable_315 : decode cX13_sayTable 315 = .ok (.dup2, 1) := by decide +kernel
theorem dX13_sayTable_316 : decode cX13_sayTable 316 = .ok (.iaload, 1) := by decide +kernel
theorem dX13_sayTable_317 : decode cX13_sayTable 317 = .ok (.iload 4, 2) := by decide +kernel
theorem dX13_sayTable_319 : decode cX13_sayTable 319 = .ok (.ifCond .le 8, 3) := by decide +kernel
theorem dX13_sayTable_322 : decode cX13_sayTable 322 = .ok (.iload 4, 2) := by decide +kernel
theorem dX13_sayTable_324 : decode cX13_sayTable 324 = .ok (.goto 4, 3) := by decide +kernel
theorem dX13_sayTable_327 : decode cX13_sayTable 327 = .ok (.iconst (-1), 1) := by decide +kernel
theorem dX13_sayTable_328 : decode cX13_sayTable 328 = .ok (.iadd, 1) := by decide +kernel
theorem dX13_sayTable_329 : decode cX13_sayTable 329 = .ok (.iastore, 1) := by decide +kernel
theorem dX13_sayTable_330 : decode cX13_sayTable 330 = .ok (.iload 4, 2) := by decide +kernel
theorem dX13_sayTable_332 : decode cX13_sayTable 332 = .ok (.ifCond .le 7, 3) := by decide +kernel
theorem dX13_sayTable_335 : decode cX13_sayTable 335 = .ok (.iconst 0, 1) := by decide +kernel
theorem dX13_sayTable_336 : decode cX13_sayTable 336 = .ok (.goto 7, 3) := by decide +kernel
theorem dX13_sayTable_339 : decode cX13_sayTable 339 = .ok (.iload 4, 2) := by decide +kernel
theorem dX13_sayTable_341 : decode cX13_sayTable 341 = .ok (.iconst 1, 1) := by decide +kernel
theorem dX13_sayTable_342 : decode cX13_sayTable 342 = .ok (.iadd, 1) := by decide +kernel
theorem dX13_sayTable_343 : decode cX13_sayTable 343 = .ok (.istore 4, 2) := by decide +kernel
theorem dX13_sayTable_345 : decode cX13_sayTable 345 = .ok (.goto (-85), 3) := by decide +kernel
theorem dX13_sayTable_348 : decode cX13_sayTable 348 = .ok (.aload_n 0, 1) := by decide +kernel
theorem dX13_sayTable_349 : decode cX13_sayTable 349 = .ok (.iload_n 3, 1) := by decide +kernel
theorem dX13_sayTable_350 : decode cX13_sayTable 350 = .ok (.invokevirtual 500, 3) := by decide +kernel
theorem dX13_sayTable_353 : decode cX13_sayTable 353 = .ok (.aload_n 0, 1) := by decide +kernel
theorem dX13_sayTable_354 : decode cX13_sayTable 354 = .ok (.bipush 7, 2) := by decide +kernel
theorem dX13_sayTable_356 : decode cX13_sayTable 356 = .ok (.iload_n 2, 1) := by decide +kernel
theorem dX13_sayTable_357 : decode cX13_sayTable 357 = .ok (.iadd, 1) := by decide +kernel
theorem dX13_sayTable_358 : decode cX13_sayTable 358 = .ok (.invokevirtual 222, 3) := by decide +kernel
theorem dX13_sayTable_361 : decode cX13_sayTable 361 = .ok (.iconst 2, 1) := by decide +kernel
theorem dX13_sayTable_362 : decode cX13_sayTable 362 = .ok (.ireturn, 1) := by decide +kernel
theorem dX13_bit_0 : decode cX13_bit 0 = .ok (.iconst 0, 1) := by decide +kernel
theorem dX13_bit_1 : decode cX13_bit 1 = .ok (.istore_n 3, 1) := by decide +kernel
theorem dX13_bit_2 : decode cX13_bit 2 = .ok (.iload_n 3, 1) := by decide +kernel
theorem dX13_bit_3 : decode cX13_bit 3 = .ok (.iload_n 2, 1) := by decide +kernel
theorem dX13_bit_4 : decode cX13_bit 4 = .ok (.if_icmp .ge 67, 3) := by decide +kernel
theorem dX13_bit_7 : decode cX13_bit 7 = .ok (.aload_n 0, 1) := by decide +kernel
theorem dX13_bit_8 : decode cX13_bit 8 = .ok (.dup, 1) := by decide +kernel
theorem dX13_bit_9 : decode cX13_bit 9 = .ok (.getfield 503, 3) := by decide +kernel
theorem dX13_bit_12 : decode cX13_bit 12 = .ok (.iload_n 1, 1) := by decide +kernel
theorem dX13_bit_13 : decode cX13_bit 13 = .ok (.iload_n 3, 1) := by decide +kernel
theorem dX13_bit_14 : decode cX13_bit 14 = .ok (.ishr, 1) := by decide +kernel
theorem dX13_bit_15 : decode cX13_bit 15 = .ok (.iconst 1, 1) := by decide +kernel
theorem dX13_bit_16 : decode cX13_bit 16 = .ok (.iand, 1) := by decide +kernel
theorem dX13_bit_17 : decode cX13_bit 17 = .ok (.aload_n 0, 1) := by decide +kernel
theorem dX13_bit_18 : decode cX13_bit 18 = .ok (.getfield 506, 3) := by decide +kernel
theorem dX13_bit_21 : decode cX13_bit 21 = .ok (.ishl, 1) := by decide +kernel
theorem dX13_bit_22 : decode cX13_bit 22 = .ok (.ior, 1) := by decide +kernel
theorem dX13_bit_23 : decode cX13_bit 23 = .ok (.putfield 503, 3) := by decide +kernel
theorem dX13_bit_26 : decode cX13_bit 26 = .ok (.aload_n 0, 1) := by decide +kernel
theorem dX13_bit_27 : decode cX13_bit 27 = .ok (.dup, 1) := by decide +kernel
theorem dX13_bit_28 : decode cX13_bit 28 = .ok (.getfield 506, 3) := by decide +kernel
theorem dX13_bit_31 : decode cX13_bit 31 = .ok (.iconst 1, 1) := by decide +kernel
theorem dX13_bit_32 : decode cX13_bit 32 = .ok (.iadd, 1) := by decide +kernel
theorem dX13_bit_33 : decode cX13_bit 33 = .ok (.putfield 506, 3) := by decide +kernel
theorem dX13_bit_36 : decode cX13_bit 36 = .ok (.aload_n 0, 1) := by decide +kernel
theorem dX13_bit_37 : decode cX13_bit 37 = .ok (.getfield 506, 3) := by decide +kernel
theorem dX13_bit_40 : decode cX13_bit 40 = .ok (.bipush 8, 2) := by decide +kernel
theorem dX13_bit_42 : decode cX13_bit 42 = .ok (.if_icmp .ne 23, 3) := by decide +kernel
theorem dX13_bit_45 : decode cX13_bit 45 = .ok (.aload_n 0, 1) := by decide +kernel
theorem dX13_bit_46 : decode cX13_bit 46 = .ok (.aload_n 0, 1) := by decide +kernel
theorem dX13_bit_47 : decode cX13_bit 47 = .ok (.getfield 503, 3) := by decide +kernel
theorem dX13_bit_50 : decode cX13_bit 50 = .ok (.i2l, 1) := by decide +kernel
theorem dX13_bit_51 : decode cX13_bit 51 = .ok (.iconst 1, 1) := by decide +kernel
theorem dX13_bit_52 : decode cX13_bit 52 = .ok (.invokevirtual 418, 3) := by decide +kernel
theorem dX13_bit_55 : decode cX13_bit 55 = .ok (.aload_n 0, 1) := by decide +kernel
theorem dX13_bit_56 : decode cX13_bit 56 = .ok (.iconst 0, 1) := by decide +kernel
theorem dX13_bit_57 : decode cX13_bit 57 = .ok (.putfield 503, 3) := by decide +kernel
theorem dX13_bit_60 : decode cX13_bit 60 = .ok (.aload_n 0, 1) := by decide +kernel
theorem dX13_bit_61 : decode cX13_bit 61 = .ok (.iconst 0, 1) := by decide +kernel
theorem dX13_bit_62 : decode cX13_bit 62 = .ok (.putfield 506, 3) := by decide +kernel
theorem dX13_bit_65 : decode cX13_bit 65 = .ok (.iinc 3 1, 3) := by decide +kernel
theorem dX13_bit_68 : decode cX13_bit 68 = .ok (.goto (-66), 3) := by decide +kernel
theorem dX13_bit_71 : decode cX13_bit 71 = .ok (.return_, 1) := by decide +kernel
theorem dX13_sayCounts_0 : decode cX13_sayCounts 0 = .ok (.aload_n 0, 1) := by decide +kernel
theorem dX13_sayCounts_1 : decode cX13_sayCounts 1 = .ok (.iconst 0, 1) := by decide +kernel
theorem dX13_sayCounts_2 : decode cX13_sayCounts 2 = .ok (.putfield 503, 3) := by decide +kernel
theorem dX13_sayCounts_5 : decode cX13_sayCounts 5 = .ok (.aload_n 0, 1) := by decide +kernel
theorem dX13_sayCounts_6 : decode cX13_sayCounts 6 = .ok (.iconst 0, 1) := by decide +kernel
theorem dX13_sayCounts_7 : decode cX13_sayCounts 7 = .ok (.putfield 506, 3) := by decide +kernel
theorem dX13_sayCounts_10 : decode cX13_sayCounts 10 = .ok (.aload_n 0, 1) := by decide +kernel
theorem dX13_sayCounts_11 : decode cX13_sayCounts 11 = .ok (.aload_n 0, 1) := by decide +kernel
theorem dX13_sayCounts_12 : decode cX13_sayCounts 12 = .ok (.getfield 210, 3) := by decide +kernel
theorem dX13_sayCounts_15 : decode cX13_sayCounts 15 = .ok (.iconst 5, 1) := by decide +kernel
theorem dX13_sayCounts_16 : decode cX13_sayCounts 16 = .ok (.isub, 1) := by decide +kernel
theorem dX13_sayCounts_17 : decode cX13_sayCounts 17 = .ok (.iconst 4, 1) := by decide +kernel
theorem dX13_sayCounts_18 : decode cX13_sayCounts 18 = .ok (.invokevirtual 509, 3) := by decide +kernel
theorem dX13_sayCounts_21 : decode cX13_sayCounts 21 = .ok (.iconst 1, 1) := by decide +kernel
theorem dX13_sayCounts_22 : decode cX13_sayCounts 22 = .ok (.aload_n 0, 1) := by decide +kernel
theorem dX13_sayCounts_23 : decode cX13_sayCounts 23 = .ok (.getfield 210, 3) := by decide +kernel
theorem dX13_sayCounts_26 : decode cX13_sayCounts 26 = .ok (.ishl, 1) := by decide +kernel
theorem dX13_sayCounts_27 : decode cX13_sayCounts 27 = .ok (.istore_n 2, 1) := by decide +kernel
theorem dX13_sayCounts_28 : decode cX13_sayCounts 28 = .ok (.iconst 0, 1) := by decide +kernel
theorem dX13_sayCounts_29 : decode cX13_sayCounts 29 = .ok (.istore_n 3, 1) := by decide +kernel
theorem dX13_sayCounts_30 : decode cX13_sayCounts 30 = .ok (.iload_n 2, 1) := by decide +kernel
theorem dX13_sayCounts_31 : decode cX13_sayCounts 31 = .ok (.ifCond .le 196, 3) := by decide +kernel
theorem dX13_sayCounts_34 : decode cX13_sayCounts 34 = .ok (.iload_n 2, 1) := by decide +kernel
theorem dX13_sayCounts_35 : decode cX13_sayCounts 35 = .ok (.iconst 1, 1) := by decide +kernel
theorem dX13_sayCounts_36 : decode cX13_sayCounts 36 = .ok (.iadd, 1) := by decide +kernel
theorem dX13_sayCounts_37 : decode cX13_sayCounts 37 = .ok (.invokestatic 206, 3) := by decide +kernel
theorem dX13_sayCounts_40 : decode cX13_sayCounts 40 = .ok (.iconst 1, 1) := by decide +kernel
theorem dX13_sayCounts_41 : decode cX13_sayCounts 41 = .ok (.iadd, 1) := by decide +kernel
theorem dX13_sayCounts_42 : decode cX13_sayCounts 42 = .ok (.istore 4, 2) := by decide +kernel
theorem dX13_sayCounts_44 : decode cX13_sayCounts 44 = .ok (.iconst 1, 1) := by decide +kernel
theorem dX13_sayCounts_45 : decode cX13_sayCounts 45 = .ok (.iload 4, 2) := by decide +kernel
theorem dX13_sayCounts_47 : decode cX13_sayCounts 47 = .ok (.ishl, 1) := by decide +kernel
theorem dX13_sayCounts_48 : decode cX13_sayCounts 48 = .ok (.iconst 2, 1) := by decide +kernel
theorem dX13_sayCounts_49 : decode cX13_sayCounts 49 = .ok (.isub, 1) := by decide +kernel
theorem dX13_sayCounts_50 : decode cX13_sayCounts 50 = .ok (.iload_n 2, 1) := by decide +kernel
theorem dX13_sayCounts_51 : decode cX13_sayCounts 51 = .ok (.isub, 1) := by decide +kernel
theorem dX13_sayCounts_52 : decode cX13_sayCounts 52 = .ok (.istore 5, 2) := by decide +kernel
theorem dX13_sayCounts_54 : decode cX13_sayCounts 54 = .ok (.iconst 1, 1) := by decide +kernel
theorem dX13_sayCounts_55 : decode cX13_sayCounts 55 = .ok (.iload 4, 2) := by decide +kernel
theorem dX13_sayCounts_57 : decode cX13_sayCounts 57 = .ok (.iconst 1, 1) := by decide +kernel
theorem dX13_sayCounts_58 : decode cX13_sayCounts 58 = .ok (.isub, 1) := by decide +kernel
theorem dX13_sayCounts_59 : decode cX13_sayCounts 59 = .ok (.ishl, 1) := by decide +kernel
theorem dX13_sayCounts_60 : decode cX13_sayCounts 60 = .ok (.istore 6, 2) := by decide +kernel
theorem dX13_sayCounts_62 : decode cX13_sayCounts 62 = .ok (.aload_n 0, 1) := by decide +kernel
theorem dX13_sayCounts_63 : decode cX13_sayCounts 63 = .ok (.getfield 23, 3) := by decide +kernel
theorem dX13_sayCounts_66 : decode cX13_sayCounts 66 = .ok (.iload_n 3, 1) := by decide +kernel
theorem dX13_sayCounts_67 : decode cX13_sayCounts 67 = .ok (.iaload, 1) := by decide +kernel
theorem dX13_sayCounts_68 : decode cX13_sayCounts 68 = .ok (.iconst 1, 1) := by decide +kernel
theorem dX13_sayCounts_69 : decode cX13_sayCounts 69 = .ok (.iadd, 1) := by decide +kernel
theorem dX13_sayCounts_70 : decode cX13_sayCounts 70 = .ok (.istore 7, 2) := by decide +kernel
theorem dX13_sayCounts_72 : decode cX13_sayCounts 72 = .ok (.iload 7, 2) := by decide +kernel
theorem dX13_sayCounts_74 : decode cX13_sayCounts 74 = .ok (.iload 5, 2) := by decide +kernel
theorem dX13_sayCounts_76 : decode cX13_sayCounts 76 = .ok (.if_icmp .ge 16, 3) := by decide +kernel
theorem dX13_sayCounts_79 : decode cX13_sayCounts 79 = .ok (.aload_n 0, 1) := by decide +kernel
theorem dX13_sayCounts_80 : decode cX13_sayCounts 80 = .ok (.iload 7, 2) := by decide +kernel
theorem dX13_sayCounts_82 : decode cX13_sayCounts 82 = .ok (.iload 4, 2) := by decide +kernel
theorem dX13_sayCounts_84 : decode cX13_sayCounts 84 = .ok (.iconst 1, 1) := by decide +kernel
theorem dX13_sayCounts_85 : decode cX13_sayCounts 85 = .ok (.isub, 1) := by decide +kernel
theorem dX13_sayCounts_86 : decode cX13_sayCounts 86 = .ok (.invokevirtual 509, 3) := by decide +kernel
theorem dX13_sayCounts_89 : decode cX13_sayCounts 89 = .ok (.goto 43, 3) := by decide +kernel
theorem dX13_sayCounts_92 : decode cX13_sayCounts 92 = .ok (.iload 7, 2) := by decide +kernel
theorem dX13_sayCounts_94 : decode cX13_sayCounts 94 = .ok (.iload 6, 2) := by decide +kernel
theorem dX13_sayCounts_96 : decode cX13_sayCounts 96 = .ok (.if_icmp .ge 14, 3) := by decide +kernel
theorem dX13_sayCounts_99 : decode cX13_sayCounts 99 = .ok (.aload_n 0, 1) := by decide +kernel
theorem dX13_sayCounts_100 : decode cX13_sayCounts 100 = .ok (.iload 7, 2) := by decide +kernel
theorem dX13_sayCounts_102 : decode cX13_sayCounts 102 = .ok (.iload 4, 2) := by decide +kernel
theorem dX13_sayCounts_104 : decode cX13_sayCounts 104 = .ok (.invokevirtual 509, 3) := by decide +kernel
theorem dX13_sayCounts_107 : decode cX13_sayCounts 107 = .ok (.goto 25, 3) := by decide +kernel
theorem dX13_sayCounts_110 : decode cX13_sayCounts 110 = .ok (.aload_n 0, 1) := by decide +kernel
theorem dX13_sayCounts_111 : decode cX13_sayCounts 111 = .ok (.iload 7, 2) := by decide +kernel
theorem dX13_sayCounts_113 : decode cX13_sayCounts 113 = .ok (.iload 6, 2) := by decide +kernel
theorem dX13_sayCounts_115 : decode cX13_sayCounts 115 = .ok (.isub, 1) := by decide +kernel
theorem dX13_sayCounts_116 : decode cX13_sayCounts 116 = .ok (.iload 5, 2) := by decide +kernel
theorem dX13_sayCounts_118 : decode cX13_sayCounts 118 = .ok (.iadd, 1) := by decide +kernel
theorem dX13_sayCounts_119 : decode cX13_sayCounts 119 = .ok (.iload 4, 2) := by decide +kernel
theorem dX13_sayCounts_121 : decode cX13_sayCounts 121 = .ok (.iconst 1, 1) := by decide +kernel
theorem dX13_sayCounts_122 : decode cX13_sayCounts 122 = .ok (.isub, 1) := by decide +kernel
theorem dX13_sayCounts_123 : decode cX13_sayCounts 123 = .ok (.invokevirtual 509, 3) := by decide +kernel
theorem dX13_sayCounts_126 : decode cX13_sayCounts 126 = .ok (.aload_n 0, 1) := by decide +kernel
theorem dX13_sayCounts_127 : decode cX13_sayCounts 127 = .ok (.iconst 1, 1) := by decide +kernel
theorem dX13_sayCounts_128 : decode cX13_sayCounts 128 = .ok (.iconst 1, 1) := by decide +kernel
theorem dX13_sayCounts_129 : decode cX13_sayCounts 129 = .ok (.invokevirtual 509, 3) := by decide +kernel
theorem dX13_sayCounts_132 : decode cX13_sayCounts 132 = .ok (.iload_n 2, 1) := by decide +kernel
theorem dX13_sayCounts_133 : decode cX13_sayCounts 133 = .ok (.aload_n 0, 1) := by decide +kernel
theorem dX13_sayCounts_134 : decode cX13_sayCounts 134 = .ok (.getfield 23, 3) := by decide +kernel
theorem dX13_sayCounts_137 : decode cX13_sayCounts 137 = .ok (.iload_n 3, 1) := by decide +kernel
theorem dX13_sayCounts_138 : decode cX13_sayCounts 138 = .ok (.iaload, 1) := by decide +kernel
theorem dX13_sayCounts_139 : decode cX13_sayCounts 139 = .ok (.isub, 1) := by decide +kernel
theorem dX13_sayCounts_140 : decode cX13_sayCounts 140 = .ok (.istore_n 2, 1) := by decide +kernel
theorem dX13_sayCounts_141 : decode cX13_sayCounts 141 = .ok (.aload_n 0, 1) := by decide +kernel
theorem dX13_sayCounts_142 : decode cX13_sayCounts 142 = .ok (.getfield 23, 3) := by decide +kernel
theorem dX13_sayCounts_145 : decode cX13_sayCounts 145 = .ok (.iload_n 3, 1) := by decide +kernel
theorem dX13_sayCounts_146 : decode cX13_sayCounts 146 = .ok (.iaload, 1) := by decide +kernel
theorem dX13_sayCounts_147 : decode cX13_sayCounts 147 = .ok (.ifCond .ne 7, 3) := by decide +kernel
theorem dX13_sayCounts_150 : decode cX13_sayCounts 150 = .ok (.iconst 1, 1) := by decide +kernel
theorem dX13_sayCounts_151 : decode cX13_sayCounts 151 = .ok (.goto 4, 3) := by decide +kernel
theorem dX13_sayCounts_154 : decode cX13_sayCounts 154 = .ok (.iconst 0, 1) := by decide +kernel
theorem dX13_sayCounts_155 : decode cX13_sayCounts 155 = .ok (.istore 8, 2) := by decide +kernel
theorem dX13_sayCounts_157 : decode cX13_sayCounts 157 = .ok (.iinc 3 1, 3) := by decide +kernel
theorem dX13_sayCounts_160 : decode cX13_sayCounts 160 = .ok (.iload 8, 2) := by decide +kernel
theorem dX13_sayCounts_162 : decode cX13_sayCounts 162 = .ok (.ifCond .eq 62, 3) := by decide +kernel
theorem dX13_sayCounts_165 : decode cX13_sayCounts 165 = .ok (.iconst 0, 1) := by decide +kernel
theorem dX13_sayCounts_166 : decode cX13_sayCounts 166 = .ok (.istore 9, 2) := by decide +kernel
theorem dX13_sayCounts_168 : decode cX13_sayCounts 168 = .ok (.iload_n 3, 1) := by decide +kernel
theorem dX13_sayCounts_169 : decode cX13_sayCounts 169 = .ok (.iload 9, 2) := by decide +kernel
theorem dX13_sayCounts_171 : decode cX13_sayCounts 171 = .ok (.iadd, 1) := by decide +kernel
theorem dX13_sayCounts_172 : decode cX13_sayCounts 172 = .ok (.iload_n 1, 1) := by decide +kernel
theorem dX13_sayCounts_173 : decode cX13_sayCounts 173 = .ok (.if_icmp .gt 21, 3) := by decide +kernel
theorem dX13_sayCounts_176 : decode cX13_sayCounts 176 = .ok (.aload_n 0, 1) := by decide +kernel
theorem dX13_sayCounts_177 : decode cX13_sayCounts 177 = .ok (.getfield 23, 3) := by decide +kernel
theorem dX13_sayCounts_180 : decode cX13_sayCounts 180 = .ok (.iload_n 3, 1) := by decide +kernel
theorem dX13_sayCounts_181 : decode cX13_sayCounts 181 = .ok (.iload 9, 2) := by decide +kernel
theorem dX13_sayCounts_183 : decode cX13_sayCounts 183 = .ok (.iadd, 1) := by decide +kernel
theorem dX13_sayCounts_184 : decode cX13_sayCounts 184 = .ok (.iaload, 1) := by decide +kernel
theorem dX13_sayCounts_185 : decode cX13_sayCounts 185 = .ok (.ifCond .ne 9, 3) := by decide +kernel
theorem dX13_sayCounts_188 : decode cX13_sayCounts 188 = .ok (.iinc 9 1, 3) := by decide +kernel
theorem dX13_sayCounts_191 : decode cX13_sayCounts 191 = .ok (.goto (-23), 3) := by decide +kernel
theorem dX13_sayCounts_194 : decode cX13_sayCounts 194 = .ok (.iload_n 3, 1) := by decide +kernel
theorem dX13_sayCounts_195 : decode cX13_sayCounts 195 = .ok (.iload 9, 2) := by decide +kernel
theorem dX13_sayCounts_197 : decode cX13_sayCounts 197 = .ok (.iadd, 1) := by decide +kernel
theorem dX13_sayCounts_198 : decode cX13_sayCounts 198 = .ok (.istore_n 3, 1) := by decide +kernel
theorem dX13_sayCounts_199 : decode cX13_sayCounts 199 = .ok (.iload 9, 2) := by decide +kernel
theorem dX13_sayCounts_201 : decode cX13_sayCounts 201 = .ok (.iconst 3, 1) := by decide +kernel
theorem dX13_sayCounts_202 : decode cX13_sayCounts 202 = .ok (.if_icmp .lt 15, 3) := by decide +kernel
theorem dX13_sayCounts_205 : decode cX13_sayCounts 205 = .ok (.aload_n 0, 1) := by decide +kernel
theorem dX13_sayCounts_206 : decode cX13_sayCounts 206 = .ok (.iconst 3, 1) := by decide +kernel
theorem dX13_sayCounts_207 : decode cX13_sayCounts 207 = .ok (.iconst 2, 1) := by decide +kernel
theorem dX13_sayCounts_208 : decode cX13_sayCounts 208 = .ok (.invokevirtual 509, 3) := by decide +kernel
theorem dX13_sayCounts_211 : decode cX13_sayCounts 211 = .ok (.iinc 9 (-3), 3) := by decide +kernel
theorem dX13_sayCounts_214 : decode cX13_sayCounts 214 = .ok (.goto (-15), 3) := by decide +kernel
theorem dX13_sayCounts_217 : decode cX13_sayCounts 217 = .ok (.aload_n 0, 1) := by decide +kernel
theorem dX13_sayCounts_218 : decode cX13_sayCounts 218 = .ok (.iload 9, 2) := by decide +kernel
theorem dX13_sayCounts_220 : decode cX13_sayCounts 220 = .ok (.iconst 2, 1) := by decide +kernel
theorem dX13_sayCounts_221 : decode cX13_sayCounts 221 = .ok (.invokevirtual 509, 3) := by decide +kernel
theorem dX13_sayCounts_224 : decode cX13_sayCounts 224 = .ok (.goto (-194), 3) := by decide +kernel
theorem dX13_sayCounts_227 : decode cX13_sayCounts 227 = .ok (.aload_n 0, 1) := by decide +kernel
theorem dX13_sayCounts_228 : decode cX13_sayCounts 228 = .ok (.getfield 506, 3) := by decide +kernel
theorem dX13_sayCounts_231 : decode cX13_sayCounts 231 = .ok (.ifCond .le 15, 3) := by decide +kernel
theorem dX13_sayCounts_234 : decode cX13_sayCounts 234 = .ok (.aload_n 0, 1) := by decide +kernel
theorem dX13_sayCounts_235 : decode cX13_sayCounts 235 = .ok (.iconst 0, 1) := by decide +kernel
theorem dX13_sayCounts_236 : decode cX13_sayCounts 236 = .ok (.bipush 8, 2) := by decide +kernel
theorem dX13_sayCounts_238 : decode cX13_sayCounts 238 = .ok (.aload_n 0, 1) := by decide +kernel
theorem dX13_sayCounts_239 : decode cX13_sayCounts 239 = .ok (.getfield 506, 3) := by decide +kernel
theorem dX13_sayCounts_242 : decode cX13_sayCounts 242 = .ok (.isub, 1) := by decide +kernel
theorem dX13_sayCounts_243 : decode cX13_sayCounts 243 = .ok (.invokevirtual 509, 3) := by decide +kernel
theorem dX13_sayCounts_246 : decode cX13_sayCounts 246 = .ok (.return_, 1) := by decide +kernel
theorem dJ9_abs_0f7a4_0 : decode cJ9_abs_0f7a4 0 = .ok (.iload_n 0, 1) := by decide +kernel
theorem dJ9_abs_0f7a4_1 : decode cJ9_abs_0f7a4 1 = .ok (.ifCond .ge 8, 3) := by decide +kernel
theorem dJ9_abs_0f7a4_4 : decode cJ9_abs_0f7a4 4 = .ok (.iload_n 0, 1) := by decide +kernel
theorem dJ9_abs_0f7a4_5 : decode cJ9_abs_0f7a4 5 = .ok (.ineg, 1) := by decide +kernel
theorem dJ9_abs_0f7a4_6 : decode cJ9_abs_0f7a4 6 = .ok (.goto 4, 3) := by decide +kernel
theorem dJ9_abs_0f7a4_9 : decode cJ9_abs_0f7a4 9 = .ok (.iload_n 0, 1) := by decide +kernel
theorem dJ9_abs_0f7a4_10 : decode cJ9_abs_0f7a4 10 = .ok (.ireturn, 1) := by decide +kernel
theorem dJ9_max_7cf53_0 : decode cJ9_max_7cf53 0 = .ok (.iload_n 0, 1) := by decide +kernel
theorem dJ9_max_7cf53_1 : decode cJ9_max_7cf53 1 = .ok (.iload_n 1, 1) := by decide +kernel
theorem dJ9_max_7cf53_2 : decode cJ9_max_7cf53 2 = .ok (.if_icmp .lt 7, 3) := by decide +kernel
theorem dJ9_max_7cf53_5 : decode cJ9_max_7cf53 5 = .ok (.iload_n 0, 1) := by decide +kernel
theorem dJ9_max_7cf53_6 : decode cJ9_max_7cf53 6 = .ok (.goto 4, 3) := by decide +kernel
theorem dJ9_max_7cf53_9 : decode cJ9_max_7cf53 9 = .ok (.iload_n 1, 1) := by decide +kernel
theorem dJ9_max_7cf53_10 : decode cJ9_max_7cf53 10 = .ok (.ireturn, 1) := by decide +kernel
theorem dJ9_min_7cf53_0 : decode cJ9_min_7cf53 0 = .ok (.iload_n 0, 1) := by decide +kernel
theorem dJ9_min_7cf53_1 : decode cJ9_min_7cf53 1 = .ok (.iload_n 1, 1) := by decide +kernel
theorem dJ9_min_7cf53_2 : decode cJ9_min_7cf53 2 = .ok (.if_icmp .gt 7, 3) := by decide +kernel
theorem dJ9_min_7cf53_5 : decode cJ9_min_7cf53 5 = .ok (.iload_n 0, 1) := by decide +kernel
theorem dJ9_min_7cf53_6 : decode cJ9_min_7cf53 6 = .ok (.goto 4, 3) := by decide +kernel
theorem dJ9_min_7cf53_9 : decode cJ9_min_7cf53 9 = .ok (.iload_n 1, 1) := by decide +kernel
theorem dJ9_min_7cf53_10 : decode cJ9_min_7cf53 10 = .ok (.ireturn, 1) := by decide +kernel
theorem dJ9_min_f86c9_0 : decode cJ9_min_f86c9 0 = .ok (.lload_n 0, 1) := by decide +kernel
theorem dJ9_min_f86c9_1 : decode cJ9_min_f86c9 1 = .ok (.lload_n 2, 1) := by decide +kernel
theorem dJ9_min_f86c9_2 : decode cJ9_min_f86c9 2 = .ok (.lcmp, 1) := by decide +kernel
theorem dJ9_min_f86c9_3 : decode cJ9_min_f86c9 3 = .ok (.ifCond .gt 7, 3) := by decide +kernel
theorem dJ9_min_f86c9_6 : decode cJ9_min_f86c9 6 = .ok (.lload_n 0, 1) := by decide +kernel
theorem dJ9_min_f86c9_7 : decode cJ9_min_f86c9 7 = .ok (.goto 4, 3) := by decide +kernel
theorem dJ9_min_f86c9_10 : decode cJ9_min_f86c9 10 = .ok (.lload_n 2, 1) := by decide +kernel
theorem dJ9_min_f86c9_11 : decode cJ9_min_f86c9 11 = .ok (.lreturn, 1) := by decide +kernel
theorem dJ7_fill_53178_0 : decode cJ7_fill_53178 0 = .ok (.iconst 0, 1) := by decide +kernel
theorem dJ7_fill_53178_1 : decode cJ7_fill_53178 1 = .ok (.istore_n 2, 1) := by decide +kernel
theorem dJ7_fill_53178_2 : decode cJ7_fill_53178 2 = .ok (.aload_n 0, 1) := by decide +kernel
theorem dJ7_fill_53178_3 : decode cJ7_fill_53178 3 = .ok (.arraylength, 1) := by decide +kernel
theorem dJ7_fill_53178_4 : decode cJ7_fill_53178 4 = .ok (.istore_n 3, 1) := by decide +kernel
theorem dJ7_fill_53178_5 : decode cJ7_fill_53178 5 = .ok (.iload_n 2, 1) := by decide +kernel
theorem dJ7_fill_53178_6 : decode cJ7_fill_53178 6 = .ok (.iload_n 3, 1) := by decide +kernel
theorem dJ7_fill_53178_7 : decode cJ7_fill_53178 7 = .ok (.if_icmp .ge 13, 3) := by decide +kernel
theorem dJ7_fill_53178_10 : decode cJ7_fill_53178 10 = .ok (.aload_n 0, 1) := by decide +kernel
theorem dJ7_fill_53178_11 : decode cJ7_fill_53178 11 = .ok (.iload_n 2, 1) := by decide +kernel
theorem dJ7_fill_53178_12 : decode cJ7_fill_53178 12 = .ok (.iload_n 1, 1) := by decide +kernel
theorem dJ7_fill_53178_13 : decode cJ7_fill_53178 13 = .ok (.iastore, 1) := by decide +kernel
theorem dJ7_fill_53178_14 : decode cJ7_fill_53178 14 = .ok (.iinc 2 1, 3) := by decide +kernel
theorem dJ7_fill_53178_17 : decode cJ7_fill_53178 17 = .ok (.goto (-12), 3) := by decide +kernel
theorem dJ7_fill_53178_20 : decode cJ7_fill_53178 20 = .ok (.return_, 1) := by decide +kernel
theorem dL_law_0 : decode cL_law 0 = .ok (.new 7, 3) := by decide +kernel
theorem dL_law_3 : decode cL_law 3 = .ok (.dup, 1) := by decide +kernel
theorem dL_law_4 : decode cL_law 4 = .ok (.invokespecial 9, 3) := by decide +kernel
theorem dL_law_7 : decode cL_law 7 = .ok (.astore_n 1, 1) := by decide +kernel
theorem dL_law_8 : decode cL_law 8 = .ok (.new 10, 3) := by decide +kernel
theorem dL_law_11 : decode cL_law 11 = .ok (.dup, 1) := by decide +kernel
theorem dL_law_12 : decode cL_law 12 = .ok (.invokespecial 12, 3) := by decide +kernel
theorem dL_law_15 : decode cL_law 15 = .ok (.astore_n 2, 1) := by decide +kernel
theorem dL_law_16 : decode cL_law 16 = .ok (.iconst 0, 1) := by decide +kernel
theorem dL_law_17 : decode cL_law 17 = .ok (.istore_n 3, 1) := by decide +kernel
theorem dL_law_18 : decode cL_law 18 = .ok (.iload_n 3, 1) := by decide +kernel
theorem dL_law_19 : decode cL_law 19 = .ok (.aload_n 0, 1) := by decide +kernel
theorem dL_law_20 : decode cL_law 20 = .ok (.arraylength, 1) := by decide +kernel
theorem dL_law_21 : decode cL_law 21 = .ok (.iconst 4, 1) := by decide +kernel
theorem dL_law_22 : decode cL_law 22 = .ok (.isub, 1) := by decide +kernel
theorem dL_law_23 : decode cL_law 23 = .ok (.if_icmp .gt 633, 3) := by decide +kernel
theorem dL_law_26 : decode cL_law 26 = .ok (.aload_n 0, 1) := by decide +kernel
theorem dL_law_27 : decode cL_law 27 = .ok (.iload_n 3, 1) := by decide +kernel
theorem dL_law_28 : decode cL_law 28 = .ok (.iaload, 1) := by decide +kernel
theorem dL_law_29 : decode cL_law 29 = .ok (.bipush 31, 2) := by decide +kernel
theorem dL_law_31 : decode cL_law 31 = .ok (.iand, 1) := by decide +kernel
theorem dL_law_32 : decode cL_law 32 = .ok (.tableswitch 618 0 17 #[88, 151, 194, 207, 240, 263, 296, 309, 322, 335, 388, 401, 434, 457, 496, 519, 552, 595], 88) := by decide +kernel
theorem dL_law_120 : decode cL_law 120 = .ok (.aload_n 1, 1) := by decide +kernel
theorem dL_law_121 : decode cL_law 121 = .ok (.aload_n 0, 1) := by decide +kernel
theorem dL_law_122 : decode cL_law 122 = .ok (.iload_n 3, 1) := by decide +kernel
theorem dL_law_123 : decode cL_law 123 = .ok (.iconst 1, 1) := by decide +kernel
theorem dL_law_124 : decode cL_law 124 = .ok (.iadd, 1) := by decide +kernel
theorem dL_law_125 : decode cL_law 125 = .ok (.iaload, 1) := by decide +kernel
theorem dL_law_126 : decode cL_law 126 = .ok (.i2l, 1) := by decide +kernel
theorem dL_law_127 : decode cL_law 127 = .ok (.bipush 32, 2) := by decide +kernel
theorem dL_law_129 : decode cL_law 129 = .ok (.lshl, 1) := by decide +kernel
theorem dL_law_130 : decode cL_law 130 = .ok (.aload_n 0, 1) := by decide +kernel
theorem dL_law_131 : decode cL_law 131 = .ok (.iload_n 3, 1) := by decide +kernel
theorem dL_law_132 : decode cL_law 132 = .ok (.iconst 2, 1) := by decide +kernel
theorem dL_law_133 : decode cL_law 133 = .ok (.iadd, 1) := by decide +kernel
theorem dL_law_134 : decode cL_law 134 = .ok (.iaload, 1) := by decide +kernel
theorem dL_law_135 : decode cL_law 135 = .ok (.i2l, 1) := by decide +kernel
theorem dL_law_136 : decode cL_law 136 = .ok (.ldc2_w 13, 3) := by decide +kernel
theorem dL_law_139 : decode cL_law 139 = .ok (.land, 1) := by decide +kernel
theorem dL_law_140 : decode cL_law 140 = .ok (.lor, 1) := by decide +kernel
theorem dL_law_141 : decode cL_law 141 = .ok (.aload_n 0, 1) := by decide +kernel
theorem dL_law_142 : decode cL_law 142 = .ok (.iload_n 3, 1) := by decide +kernel
theorem dL_law_143 : decode cL_law 143 = .ok (.iconst 3, 1) := by decide +kernel
theorem dL_law_144 : decode cL_law 144 = .ok (.iadd, 1) := by decide +kernel
theorem dL_law_145 : decode cL_law 145 = .ok (.iaload, 1) := by decide +kernel
theorem dL_law_146 : decode cL_law 146 = .ok (.invokevirtual 15, 3) := by decide +kernel
theorem dL_law_149 : decode cL_law 149 = .ok (.pop, 1) := by decide +kernel
theorem dL_law_150 : decode cL_law 150 = .ok (.aload_n 2, 1) := by decide +kernel
theorem dL_law_151 : decode cL_law 151 = .ok (.aload_n 0, 1) := by decide +kernel
theorem dL_law_152 : decode cL_law 152 = .ok (.iload_n 3, 1) := by decide +kernel
theorem dL_law_153 : decode cL_law 153 = .ok (.iconst 1, 1) := by decide +kernel
theorem dL_law_154 : decode cL_law 154 = .ok (.iadd, 1) := by decide +kernel
theorem dL_law_155 : decode cL_law 155 = .ok (.iaload, 1) := by decide +kernel
theorem dL_law_156 : decode cL_law 156 = .ok (.i2l, 1) := by decide +kernel
theorem dL_law_157 : decode cL_law 157 = .ok (.bipush 32, 2) := by decide +kernel
theorem dL_law_159 : decode cL_law 159 = .ok (.lshl, 1) := by decide +kernel
theorem dL_law_160 : decode cL_law 160 = .ok (.aload_n 0, 1) := by decide +kernel
theorem dL_law_161 : decode cL_law 161 = .ok (.iload_n 3, 1) := by decide +kernel
theorem dL_law_162 : decode cL_law 162 = .ok (.iconst 2, 1) := by decide +kernel
theorem dL_law_163 : decode cL_law 163 = .ok (.iadd, 1) := by decide +kernel
theorem dL_law_164 : decode cL_law 164 = .ok (.iaload, 1) := by decide +kernel
theorem dL_law_165 : decode cL_law 165 = .ok (.i2l, 1) := by decide +kernel
theorem dL_law_166 : decode cL_law 166 = .ok (.ldc2_w 13, 3) := by decide +kernel
theorem dL_law_169 : decode cL_law 169 = .ok (.land, 1) := by decide +kernel
theorem dL_law_170 : decode cL_law 170 = .ok (.lor, 1) := by decide +kernel
theorem dL_law_171 : decode cL_law 171 = .ok (.aload_n 0, 1) := by decide +kernel
theorem dL_law_172 : decode cL_law 172 = .ok (.iload_n 3, 1) := by decide +kernel
theorem dL_law_173 : decode cL_law 173 = .ok (.iconst 3, 1) := by decide +kernel
theorem dL_law_174 : decode cL_law 174 = .ok (.iadd, 1) := by decide +kernel
theorem dL_law_175 : decode cL_law 175 = .ok (.iaload, 1) := by decide +kernel
theorem dL_law_176 : decode cL_law 176 = .ok (.invokevirtual 19, 3) := by decide +kernel
theorem dL_law_179 : decode cL_law 179 = .ok (.pop, 1) := by decide +kernel
theorem dL_law_180 : decode cL_law 180 = .ok (.goto 470, 3) := by decide +kernel
theorem dL_law_183 : decode cL_law 183 = .ok (.aload_n 1, 1) := by decide +kernel
theorem dL_law_184 : decode cL_law 184 = .ok (.aload_n 0, 1) := by decide +kernel
theorem dL_law_185 : decode cL_law 185 = .ok (.iload_n 3, 1) := by decide +kernel
theorem dL_law_186 : decode cL_law 186 = .ok (.iconst 1, 1) := by decide +kernel
theorem dL_law_187 : decode cL_law 187 = .ok (.iadd, 1) := by decide +kernel
theorem dL_law_188 : decode cL_law 188 = .ok (.iaload, 1) := by decide +kernel
theorem dL_law_189 : decode cL_law 189 = .ok (.aload_n 0, 1) := by decide +kernel
theorem dL_law_190 : decode cL_law 190 = .ok (.iload_n 3, 1) := by decide +kernel
theorem dL_law_191 : decode cL_law 191 = .ok (.iconst 2, 1) := by decide +kernel
theorem dL_law_192 : decode cL_law 192 = .ok (.iadd, 1) := by decide +kernel
theorem dL_law_193 : decode cL_law 193 = .ok (.iaload, 1) := by decide +kernel
theorem dL_law_194 : decode cL_law 194 = .ok (.aload_n 0, 1) := by decide +kernel
theorem dL_law_195 : decode cL_law 195 = .ok (.iload_n 3, 1) := by decide +kernel
theorem dL_law_196 : decode cL_law 196 = .ok (.iconst 3, 1) := by decide +kernel
theorem dL_law_197 : decode cL_law 197 = .ok (.iadd, 1) := by decide +kernel
theorem dL_law_198 : decode cL_law 198 = .ok (.iaload, 1) := by decide +kernel
theorem dL_law_199 : decode cL_law 199 = .ok (.invokevirtual 20, 3) := by decide +kernel
theorem dL_law_202 : decode cL_law 202 = .ok (.pop, 1) := by decide +kernel
theorem dL_law_203 : decode cL_law 203 = .ok (.aload_n 2, 1) := by decide +kernel
theorem dL_law_204 : decode cL_law 204 = .ok (.aload_n 0, 1) := by decide +kernel
theorem dL_law_205 : decode cL_law 205 = .ok (.iload_n 3, 1) := by decide +kernel
theorem dL_law_206 : decode cL_law 206 = .ok (.iconst 1, 1) := by decide +kernel
theorem dL_law_207 : decode cL_law 207 = .ok (.iadd, 1) := by decide +kernel
theorem dL_law_208 : decode cL_law 208 = .ok (.iaload, 1) := by decide +kernel
theorem dL_law_209 : decode cL_law 209 = .ok (.aload_n 0, 1) := by decide +kernel
theorem dL_law_210 : decode cL_law 210 = .ok (.iload_n 3, 1) := by decide +kernel
theorem dL_law_211 : decode cL_law 211 = .ok (.iconst 2, 1) := by decide +kernel
theorem dL_law_212 : decode cL_law 212 = .ok (.iadd, 1) := by decide +kernel
theorem dL_law_213 : decode cL_law 213 = .ok (.iaload, 1) := by decide +kernel
theorem dL_law_214 : decode cL_law 214 = .ok (.aload_n 0, 1) := by decide +kernel
theorem dL_law_215 : decode cL_law 215 = .ok (.iload_n 3, 1) := by decide +kernel
theorem dL_law_216 : decode cL_law 216 = .ok (.iconst 3, 1) := by decide +kernel
theorem dL_law_217 : decode cL_law 217 = .ok (.iadd, 1) := by decide +kernel
theorem dL_law_218 : decode cL_law 218 = .ok (.iaload, 1) := by decide +kernel
theorem dL_law_219 : decode cL_law 219 = .ok (.invokevirtual 24, 3) := by decide +kernel
theorem dL_law_222 : decode cL_law 222 = .ok (.pop, 1) := by decide +kernel
theorem dL_law_223 : decode cL_law 223 = .ok (.goto 427, 3) := by decide +kernel
theorem dL_law_226 : decode cL_law 226 = .ok (.aload_n 1, 1) := by decide +kernel
theorem dL_law_227 : decode cL_law 227 = .ok (.invokevirtual 25, 3) := by decide +kernel
theorem dL_law_230 : decode cL_law 230 = .ok (.pop, 1) := by decide +kernel
theorem dL_law_231 : decode cL_law 231 = .ok (.aload_n 2, 1) := by decide +kernel
theorem dL_law_232 : decode cL_law 232 = .ok (.invokevirtual 29, 3) := by decide +kernel
theorem dL_law_235 : decode cL_law 235 = .ok (.pop, 1) := by decide +kernel
theorem dL_law_236 : decode cL_law 236 = .ok (.goto 414, 3) := by decide +kernel
theorem dL_law_239 : decode cL_law 239 = .ok (.aload_n 1, 1) := by decide +kernel
theorem dL_law_240 : decode cL_law 240 = .ok (.aload_n 0, 1) := by decide +kernel
theorem dL_law_241 : decode cL_law 241 = .ok (.iload_n 3, 1) := by decide +kernel
theorem dL_law_242 : decode cL_law 242 = .ok (.iconst 1, 1) := by decide +kernel
theorem dL_law_243 : decode cL_law 243 = .ok (.iadd, 1) := by decide +kernel
theorem dL_law_244 : decode cL_law 244 = .ok (.iaload, 1) := by decide +kernel
theorem dL_law_245 : decode cL_law 245 = .ok (.aload_n 0, 1) := by decide +kernel
theorem dL_law_246 : decode cL_law 246 = .ok (.iload_n 3, 1) := by decide +kernel
theorem dL_law_247 : decode cL_law 247 = .ok (.iconst 2, 1) := by decide +kernel
theorem dL_law_248 : decode cL_law 248 = .ok (.iadd, 1) := by decide +kernel
theorem dL_law_249 : decode cL_law 249 = .ok (.iaload, 1) := by decide +kernel
theorem dL_law_250 : decode cL_law 250 = .ok (.invokevirtual 30, 3) := by decide +kernel
theorem dL_law_253 : decode cL_law 253 = .ok (.pop, 1) := by decide +kernel
theorem dL_law_254 : decode cL_law 254 = .ok (.aload_n 2, 1) := by decide +kernel
theorem dL_law_255 : decode cL_law 255 = .ok (.aload_n 0, 1) := by decide +kernel
theorem dL_law_256 : decode cL_law 256 = .ok (.iload_n 3, 1) := by decide +kernel
theorem dL_law_257 : decode cL_law 257 = .ok (.iconst 1, 1) := by decide +kernel
theorem dL_law_258 : decode cL_law 258 = .ok (.iadd, 1) := by decide +kernel
theorem dL_law_259 : decode cL_law 259 = .ok (.iaload, 1) := by decide +kernel
theorem dL_law_260 : decode cL_law 260 = .ok (.aload_n 0, 1) := by decide +kernel
theorem dL_law_261 : decode cL_law 261 = .ok (.iload_n 3, 1) := by decide +kernel
theorem dL_law_262 : decode cL_law 262 = .ok (.iconst 2, 1) := by decide +kernel
theorem dL_law_263 : decode cL_law 263 = .ok (.iadd, 1) := by decide +kernel
theorem dL_law_264 : decode cL_law 264 = .ok (.iaload, 1) := by decide +kernel
theorem dL_law_265 : decode cL_law 265 = .ok (.invokevirtual 34, 3) := by decide +kernel
theorem dL_law_268 : decode cL_law 268 = .ok (.pop, 1) := by decide +kernel
theorem dL_law_269 : decode cL_law 269 = .ok (.goto 381, 3) := by decide +kernel
theorem dL_law_272 : decode cL_law 272 = .ok (.aload_n 1, 1) := by decide +kernel
theorem dL_law_273 : decode cL_law 273 = .ok (.aload_n 0, 1) := by decide +kernel
theorem dL_law_274 : decode cL_law 274 = .ok (.iload_n 3, 1) := by decide +kernel
theorem dL_law_275 : decode cL_law 275 = .ok (.iconst 1, 1) := by decide +kernel
theorem dL_law_276 : decode cL_law 276 = .ok (.iadd, 1) := by decide +kernel
theorem dL_law_277 : decode cL_law 277 = .ok (.iaload, 1) := by decide +kernel
theorem dL_law_278 : decode cL_law 278 = .ok (.invokevirtual 35, 3) := by decide +kernel
theorem dL_law_281 : decode cL_law 281 = .ok (.aload_n 2, 1) := by decide +kernel
theorem dL_law_282 : decode cL_law 282 = .ok (.aload_n 0, 1) := by decide +kernel
theorem dL_law_283 : decode cL_law 283 = .ok (.iload_n 3, 1) := by decide +kernel
theorem dL_law_284 : decode cL_law 284 = .ok (.iconst 1, 1) := by decide +kernel
theorem dL_law_285 : decode cL_law 285 = .ok (.iadd, 1) := by decide +kernel
theorem dL_law_286 : decode cL_law 286 = .ok (.iaload, 1) := by decide +kernel
theorem dL_law_287 : decode cL_law 287 = .ok (.invokevirtual 39, 3) := by decide +kernel
theorem dL_law_290 : decode cL_law 290 = .ok (.if_icmp .eq 360, 3) := by decide +kernel
theorem dL_law_293 : decode cL_law 293 = .ok (.iconst 0, 1) := by decide +kernel
theorem dL_law_294 : decode cL_law 294 = .ok (.ireturn, 1) := by decide +kernel
theorem dL_law_295 : decode cL_law 295 = .ok (.aload_n 1, 1) := by decide +kernel
theorem dL_law_296 : decode cL_law 296 = .ok (.aload_n 0, 1) := by decide +kernel
theorem dL_law_297 : decode cL_law 297 = .ok (.iload_n 3, 1) := by decide +kernel
theorem dL_law_298 : decode cL_law 298 = .ok (.iconst 1, 1) := by decide +kernel
theorem dL_law_299 : decode cL_law 299 = .ok (.iadd, 1) := by decide +kernel
theorem dL_law_300 : decode cL_law 300 = .ok (.iaload, 1) := by decide +kernel
theorem dL_law_301 : decode cL_law 301 = .ok (.aload_n 0, 1) := by decide +kernel
theorem dL_law_302 : decode cL_law 302 = .ok (.iload_n 3, 1) := by decide +kernel
theorem dL_law_303 : decode cL_law 303 = .ok (.iconst 2, 1) := by decide +kernel
theorem dL_law_304 : decode cL_law 304 = .ok (.iadd, 1) := by decide +kernel
theorem dL_law_305 : decode cL_law 305 = .ok (.iaload, 1) := by decide +kernel
theorem dL_law_306 : decode cL_law 306 = .ok (.invokevirtual 40, 3) := by decide +kernel
theorem dL_law_309 : decode cL_law 309 = .ok (.pop, 1) := by decide +kernel
theorem dL_law_310 : decode cL_law 310 = .ok (.aload_n 2, 1) := by decide +kernel
theorem dL_law_311 : decode cL_law 311 = .ok (.aload_n 0, 1) := by decide +kernel
theorem dL_law_312 : decode cL_law 312 = .ok (.iload_n 3, 1) := by decide +kernel
theorem dL_law_313 : decode cL_law 313 = .ok (.iconst 1, 1) := by decide +kernel
theorem dL_law_314 : decode cL_law 314 = .ok (.iadd, 1) := by decide +kernel
theorem dL_law_315 : decode cL_law 315 = .ok (.iaload, 1) := by decide +kernel
theorem dL_law_316 : decode cL_law 316 = .ok (.aload_n 0, 1) := by decide +kernel
theorem dL_law_317 : decode cL_law 317 = .ok (.iload_n 3, 1) := by decide +kernel
theorem dL_law_318 : decode cL_law 318 = .ok (.iconst 2, 1) := by decide +kernel
theorem dL_law_319 : decode cL_law 319 = .ok (.iadd, 1) := by decide +kernel
theorem dL_law_320 : decode cL_law 320 = .ok (.iaload, 1) := by decide +kernel
theorem dL_law_321 : decode cL_law 321 = .ok (.invokevirtual 43, 3) := by decide +kernel
theorem dL_law_324 : decode cL_law 324 = .ok (.pop, 1) := by decide +kernel
theorem dL_law_325 : decode cL_law 325 = .ok (.goto 325, 3) := by decide +kernel
theorem dL_law_328 : decode cL_law 328 = .ok (.aload_n 1, 1) := by decide +kernel
theorem dL_law_329 : decode cL_law 329 = .ok (.invokevirtual 44, 3) := by decide +kernel
theorem dL_law_332 : decode cL_law 332 = .ok (.pop, 1) := by decide +kernel
theorem dL_law_333 : decode cL_law 333 = .ok (.aload_n 2, 1) := by decide +kernel
theorem dL_law_334 : decode cL_law 334 = .ok (.invokevirtual 47, 3) := by decide +kernel
theorem dL_law_337 : decode cL_law 337 = .ok (.pop, 1) := by decide +kernel
theorem dL_law_338 : decode cL_law 338 = .ok (.goto 312, 3) := by decide +kernel
theorem dL_law_341 : decode cL_law 341 = .ok (.aload_n 1, 1) := by decide +kernel
theorem dL_law_342 : decode cL_law 342 = .ok (.invokevirtual 48, 3) := by decide +kernel
theorem dL_law_345 : decode cL_law 345 = .ok (.pop, 1) := by decide +kernel
theorem dL_law_346 : decode cL_law 346 = .ok (.aload_n 2, 1) := by decide +kernel
theorem dL_law_347 : decode cL_law 347 = .ok (.invokevirtual 51, 3) := by decide +kernel
theorem dL_law_350 : decode cL_law 350 = .ok (.pop, 1) := by decide +kernel
theorem dL_law_351 : decode cL_law 351 = .ok (.goto 299, 3) := by decide +kernel
theorem dL_law_354 : decode cL_law 354 = .ok (.aload_n 1, 1) := by decide +kernel
theorem dL_law_355 : decode cL_law 355 = .ok (.invokevirtual 52, 3) := by decide +kernel
theorem dL_law_358 : decode cL_law 358 = .ok (.pop, 1) := by decide +kernel
theorem dL_law_359 : decode cL_law 359 = .ok (.aload_n 2, 1) := by decide +kernel
theorem dL_law_360 : decode cL_law 360 = .ok (.invokevirtual 55, 3) := by decide +kernel
theorem dL_law_363 : decode cL_law 363 = .ok (.pop, 1) := by decide +kernel
theorem dL_law_364 : decode cL_law 364 = .ok (.goto 286, 3) := by decide +kernel
theorem dL_law_367 : decode cL_law 367 = .ok (.aload_n 1, 1) := by decide +kernel
theorem dL_law_368 : decode cL_law 368 = .ok (.aload_n 0, 1) := by decide +kernel
theorem dL_law_369 : decode cL_law 369 = .ok (.iload_n 3, 1) := by decide +kernel
theorem dL_law_370 : decode cL_law 370 = .ok (.iconst 1, 1) := by decide +kernel
theorem dL_law_371 : decode cL_law 371 = .ok (.iadd, 1) := by decide +kernel
theorem dL_law_372 : decode cL_law 372 = .ok (.iaload, 1) := by decide +kernel
theorem dL_law_373 : decode cL_law 373 = .ok (.i2l, 1) := by decide +kernel
theorem dL_law_374 : decode cL_law 374 = .ok (.bipush 32, 2) := by decide +kernel
theorem dL_law_376 : decode cL_law 376 = .ok (.lshl, 1) := by decide +kernel
theorem dL_law_377 : decode cL_law 377 = .ok (.aload_n 0, 1) := by decide +kernel
theorem dL_law_378 : decode cL_law 378 = .ok (.iload_n 3, 1) := by decide +kernel
theorem dL_law_379 : decode cL_law 379 = .ok (.iconst 2, 1) := by decide +kernel
theorem dL_law_380 : decode cL_law 380 = .ok (.iadd, 1) := by decide +kernel
theorem dL_law_381 : decode cL_law 381 = .ok (.iaload, 1) := by decide +kernel
theorem dL_law_382 : decode cL_law 382 = .ok (.i2l, 1) := by decide +kernel
theorem dL_law_383 : decode cL_law 383 = .ok (.ldc2_w 13, 3) := by decide +kernel
theorem dL_law_386 : decode cL_law 386 = .ok (.land, 1) := by decide +kernel
theorem dL_law_387 : decode cL_law 387 = .ok (.lor, 1) := by decide +kernel
theorem dL_law_388 : decode cL_law 388 = .ok (.invokevirtual 56, 3) := by decide +kernel
theorem dL_law_391 : decode cL_law 391 = .ok (.pop, 1) := by decide +kernel
theorem dL_law_392 : decode cL_law 392 = .ok (.aload_n 2, 1) := by decide +kernel
theorem dL_law_393 : decode cL_law 393 = .ok (.aload_n 0, 1) := by decide +kernel
theorem dL_law_394 : decode cL_law 394 = .ok (.iload_n 3, 1) := by decide +kernel
theorem dL_law_395 : decode cL_law 395 = .ok (.iconst 1, 1) := by decide +kernel
theorem dL_law_396 : decode cL_law 396 = .ok (.iadd, 1) := by decide +kernel
theorem dL_law_397 : decode cL_law 397 = .ok (.iaload, 1) := by decide +kernel
theorem dL_law_398 : decode cL_law 398 = .ok (.i2l, 1) := by decide +kernel
theorem dL_law_399 : decode cL_law 399 = .ok (.bipush 32, 2) := by decide +kernel
theorem dL_law_401 : decode cL_law 401 = .ok (.lshl, 1) := by decide +kernel
theorem dL_law_402 : decode cL_law 402 = .ok (.aload_n 0, 1) := by decide +kernel
theorem dL_law_403 : decode cL_law 403 = .ok (.iload_n 3, 1) := by decide +kernel
theorem dL_law_404 : decode cL_law 404 = .ok (.iconst 2, 1) := by decide +kernel
theorem dL_law_405 : decode cL_law 405 = .ok (.iadd, 1) := by decide +kernel
theorem dL_law_406 : decode cL_law 406 = .ok (.iaload, 1) := by decide +kernel
theorem dL_law_407 : decode cL_law 407 = .ok (.i2l, 1) := by decide +kernel
theorem dL_law_408 : decode cL_law 408 = .ok (.ldc2_w 13, 3) := by decide +kernel
theorem dL_law_411 : decode cL_law 411 = .ok (.land, 1) := by decide +kernel
theorem dL_law_412 : decode cL_law 412 = .ok (.lor, 1) := by decide +kernel
theorem dL_law_413 : decode cL_law 413 = .ok (.invokevirtual 60, 3) := by decide +kernel
theorem dL_law_416 : decode cL_law 416 = .ok (.pop, 1) := by decide +kernel
theorem dL_law_417 : decode cL_law 417 = .ok (.goto 233, 3) := by decide +kernel
theorem dL_law_420 : decode cL_law 420 = .ok (.aload_n 1, 1) := by decide +kernel
theorem dL_law_421 : decode cL_law 421 = .ok (.invokevirtual 61, 3) := by decide +kernel
theorem dL_law_424 : decode cL_law 424 = .ok (.pop, 1) := by decide +kernel
theorem dL_law_425 : decode cL_law 425 = .ok (.aload_n 2, 1) := by decide +kernel
theorem dL_law_426 : decode cL_law 426 = .ok (.invokevirtual 64, 3) := by decide +kernel
theorem dL_law_429 : decode cL_law 429 = .ok (.pop, 1) := by decide +kernel
theorem dL_law_430 : decode cL_law 430 = .ok (.goto 220, 3) := by decide +kernel
theorem dL_law_433 : decode cL_law 433 = .ok (.aload_n 1, 1) := by decide +kernel
theorem dL_law_434 : decode cL_law 434 = .ok (.aload_n 0, 1) := by decide +kernel
theorem dL_law_435 : decode cL_law 435 = .ok (.iload_n 3, 1) := by decide +kernel
theorem dL_law_436 : decode cL_law 436 = .ok (.iconst 1, 1) := by decide +kernel
theorem dL_law_437 : decode cL_law 437 = .ok (.iadd, 1) := by decide +kernel
theorem dL_law_438 : decode cL_law 438 = .ok (.iaload, 1) := by decide +kernel
theorem dL_law_439 : decode cL_law 439 = .ok (.aload_n 0, 1) := by decide +kernel
theorem dL_law_440 : decode cL_law 440 = .ok (.iload_n 3, 1) := by decide +kernel
theorem dL_law_441 : decode cL_law 441 = .ok (.iconst 2, 1) := by decide +kernel
theorem dL_law_442 : decode cL_law 442 = .ok (.iadd, 1) := by decide +kernel
theorem dL_law_443 : decode cL_law 443 = .ok (.iaload, 1) := by decide +kernel
theorem dL_law_444 : decode cL_law 444 = .ok (.invokevirtual 65, 3) := by decide +kernel
theorem dL_law_447 : decode cL_law 447 = .ok (.pop, 1) := by decide +kernel
theorem dL_law_448 : decode cL_law 448 = .ok (.aload_n 2, 1) := by decide +kernel
theorem dL_law_449 : decode cL_law 449 = .ok (.aload_n 0, 1) := by decide +kernel
theorem dL_law_450 : decode cL_law 450 = .ok (.iload_n 3, 1) := by decide +kernel
theorem dL_law_451 : decode cL_law 451 = .ok (.iconst 1, 1) := by decide +kernel
theorem dL_law_452 : decode cL_law 452 = .ok (.iadd, 1) := by decide +kernel
theorem dL_law_453 : decode cL_law 453 = .ok (.iaload, 1) := by decide +kernel
theorem dL_law_454 : decode cL_law 454 = .ok (.aload_n 0, 1) := by decide +kernel
theorem dL_law_455 : decode cL_law 455 = .ok (.iload_n 3, 1) := by decide +kernel
theorem dL_law_456 : decode cL_law 456 = .ok (.iconst 2, 1) := by decide +kernel
theorem dL_law_457 : decode cL_law 457 = .ok (.iadd, 1) := by decide +kernel
theorem dL_law_458 : decode cL_law 458 = .ok (.iaload, 1) := by decide +kernel
theorem dL_law_459 : decode cL_law 459 = .ok (.invokevirtual 68, 3) := by decide +kernel
theorem dL_law_462 : decode cL_law 462 = .ok (.pop, 1) := by decide +kernel
theorem dL_law_463 : decode cL_law 463 = .ok (.goto 187, 3) := by decide +kernel
theorem dL_law_466 : decode cL_law 466 = .ok (.aload_n 1, 1) := by decide +kernel
theorem dL_law_467 : decode cL_law 467 = .ok (.aload_n 0, 1) := by decide +kernel
theorem dL_law_468 : decode cL_law 468 = .ok (.iload_n 3, 1) := by decide +kernel
theorem dL_law_469 : decode cL_law 469 = .ok (.iconst 1, 1) := by decide +kernel
theorem dL_law_470 : decode cL_law 470 = .ok (.iadd, 1) := by decide +kernel
theorem dL_law_471 : decode cL_law 471 = .ok (.iaload, 1) := by decide +kernel
theorem dL_law_472 : decode cL_law 472 = .ok (.invokevirtual 69, 3) := by decide +kernel
theorem dL_law_475 : decode cL_law 475 = .ok (.pop, 1) := by decide +kernel
theorem dL_law_476 : decode cL_law 476 = .ok (.aload_n 2, 1) := by decide +kernel
theorem dL_law_477 : decode cL_law 477 = .ok (.aload_n 0, 1) := by decide +kernel
theorem dL_law_478 : decode cL_law 478 = .ok (.iload_n 3, 1) := by decide +kernel
theorem dL_law_479 : decode cL_law 479 = .ok (.iconst 1, 1) := by decide +kernel
theorem dL_law_480 : decode cL_law 480 = .ok (.iadd, 1) := by decide +kernel
theorem dL_law_481 : decode cL_law 481 = .ok (.iaload, 1) := by decide +kernel
theorem dL_law_482 : decode cL_law 482 = .ok (.invokevirtual 72, 3) := by decide +kernel
theorem dL_law_485 : decode cL_law 485 = .ok (.pop, 1) := by decide +kernel
theorem dL_law_486 : decode cL_law 486 = .ok (.goto 164, 3) := by decide +kernel
theorem dL_law_489 : decode cL_law 489 = .ok (.aload_n 1, 1) := by decide +kernel
theorem dL_law_490 : decode cL_law 490 = .ok (.aload_n 0, 1) := by decide +kernel
theorem dL_law_491 : decode cL_law 491 = .ok (.iload_n 3, 1) := by decide +kernel
theorem dL_law_492 : decode cL_law 492 = .ok (.iconst 1, 1) := by decide +kernel
theorem dL_law_493 : decode cL_law 493 = .ok (.iadd, 1) := by decide +kernel
theorem dL_law_494 : decode cL_law 494 = .ok (.iaload, 1) := by decide +kernel
theorem dL_law_495 : decode cL_law 495 = .ok (.ifCond .eq 7, 3) := by decide +kernel
theorem dL_law_498 : decode cL_law 498 = .ok (.iconst 1, 1) := by decide +kernel
theorem dL_law_499 : decode cL_law 499 = .ok (.goto 4, 3) := by decide +kernel
theorem dL_law_502 : decode cL_law 502 = .ok (.iconst 0, 1) := by decide +kernel
theorem dL_law_503 : decode cL_law 503 = .ok (.invokevirtual 73, 3) := by decide +kernel
theorem dL_law_506 : decode cL_law 506 = .ok (.pop, 1) := by decide +kernel
theorem dL_law_507 : decode cL_law 507 = .ok (.aload_n 2, 1) := by decide +kernel
theorem dL_law_508 : decode cL_law 508 = .ok (.aload_n 0, 1) := by decide +kernel
theorem dL_law_509 : decode cL_law 509 = .ok (.iload_n 3, 1) := by decide +kernel
theorem dL_law_510 : decode cL_law 510 = .ok (.iconst 1, 1) := by decide +kernel
theorem dL_law_511 : decode cL_law 511 = .ok (.iadd, 1) := by decide +kernel
theorem dL_law_512 : decode cL_law 512 = .ok (.iaload, 1) := by decide +kernel
theorem dL_law_513 : decode cL_law 513 = .ok (.ifCond .eq 7, 3) := by decide +kernel
theorem dL_law_516 : decode cL_law 516 = .ok (.iconst 1, 1) := by decide +kernel
theorem dL_law_517 : decode cL_law 517 = .ok (.goto 4, 3) := by decide +kernel
theorem dL_law_520 : decode cL_law 520 = .ok (.iconst 0, 1) := by decide +kernel
theorem dL_law_521 : decode cL_law 521 = .ok (.invokevirtual 77, 3) := by decide +kernel
theorem dL_law_524 : decode cL_law 524 = .ok (.pop, 1) := by decide +kernel
theorem dL_law_525 : decode cL_law 525 = .ok (.goto 125, 3) := by decide +kernel
theorem dL_law_528 : decode cL_law 528 = .ok (.aload_n 1, 1) := by decide +kernel
theorem dL_law_529 : decode cL_law 529 = .ok (.aload_n 0, 1) := by decide +kernel
theorem dL_law_530 : decode cL_law 530 = .ok (.iload_n 3, 1) := by decide +kernel
theorem dL_law_531 : decode cL_law 531 = .ok (.iconst 1, 1) := by decide +kernel
theorem dL_law_532 : decode cL_law 532 = .ok (.iadd, 1) := by decide +kernel
theorem dL_law_533 : decode cL_law 533 = .ok (.iaload, 1) := by decide +kernel
theorem dL_law_534 : decode cL_law 534 = .ok (.invokevirtual 78, 3) := by decide +kernel
theorem dL_law_537 : decode cL_law 537 = .ok (.pop, 1) := by decide +kernel
theorem dL_law_538 : decode cL_law 538 = .ok (.aload_n 2, 1) := by decide +kernel
theorem dL_law_539 : decode cL_law 539 = .ok (.aload_n 0, 1) := by decide +kernel
theorem dL_law_540 : decode cL_law 540 = .ok (.iload_n 3, 1) := by decide +kernel
theorem dL_law_541 : decode cL_law 541 = .ok (.iconst 1, 1) := by decide +kernel
theorem dL_law_542 : decode cL_law 542 = .ok (.iadd, 1) := by decide +kernel
theorem dL_law_543 : decode cL_law 543 = .ok (.iaload, 1) := by decide +kernel
theorem dL_law_544 : decode cL_law 544 = .ok (.invokevirtual 81, 3) := by decide +kernel
theorem dL_law_547 : decode cL_law 547 = .ok (.pop, 1) := by decide +kernel
theorem dL_law_548 : decode cL_law 548 = .ok (.goto 102, 3) := by decide +kernel
theorem dL_law_551 : decode cL_law 551 = .ok (.aload_n 1, 1) := by decide +kernel
theorem dL_law_552 : decode cL_law 552 = .ok (.aload_n 0, 1) := by decide +kernel
theorem dL_law_553 : decode cL_law 553 = .ok (.iload_n 3, 1) := by decide +kernel
theorem dL_law_554 : decode cL_law 554 = .ok (.iconst 1, 1) := by decide +kernel
theorem dL_law_555 : decode cL_law 555 = .ok (.iadd, 1) := by decide +kernel
theorem dL_law_556 : decode cL_law 556 = .ok (.iaload, 1) := by decide +kernel
theorem dL_law_557 : decode cL_law 557 = .ok (.aload_n 0, 1) := by decide +kernel
theorem dL_law_558 : decode cL_law 558 = .ok (.iload_n 3, 1) := by decide +kernel
theorem dL_law_559 : decode cL_law 559 = .ok (.iconst 2, 1) := by decide +kernel
theorem dL_law_560 : decode cL_law 560 = .ok (.iadd, 1) := by decide +kernel
theorem dL_law_561 : decode cL_law 561 = .ok (.iaload, 1) := by decide +kernel
theorem dL_law_562 : decode cL_law 562 = .ok (.invokevirtual 82, 3) := by decide +kernel
theorem dL_law_565 : decode cL_law 565 = .ok (.pop, 1) := by decide +kernel
theorem dL_law_566 : decode cL_law 566 = .ok (.aload_n 2, 1) := by decide +kernel
theorem dL_law_567 : decode cL_law 567 = .ok (.aload_n 0, 1) := by decide +kernel
theorem dL_law_568 : decode cL_law 568 = .ok (.iload_n 3, 1) := by decide +kernel
theorem dL_law_569 : decode cL_law 569 = .ok (.iconst 1, 1) := by decide +kernel
theorem dL_law_570 : decode cL_law 570 = .ok (.iadd, 1) := by decide +kernel
theorem dL_law_571 : decode cL_law 571 = .ok (.iaload, 1) := by decide +kernel
theorem dL_law_572 : decode cL_law 572 = .ok (.aload_n 0, 1) := by decide +kernel
theorem dL_law_573 : decode cL_law 573 = .ok (.iload_n 3, 1) := by decide +kernel
theorem dL_law_574 : decode cL_law 574 = .ok (.iconst 2, 1) := by decide +kernel
theorem dL_law_575 : decode cL_law 575 = .ok (.iadd, 1) := by decide +kernel
theorem dL_law_576 : decode cL_law 576 = .ok (.iaload, 1) := by decide +kernel
theorem dL_law_577 : decode cL_law 577 = .ok (.invokevirtual 85, 3) := by decide +kernel
theorem dL_law_580 : decode cL_law 580 = .ok (.pop, 1) := by decide +kernel
theorem dL_law_581 : decode cL_law 581 = .ok (.goto 69, 3) := by decide +kernel
theorem dL_law_584 : decode cL_law 584 = .ok (.aload_n 1, 1) := by decide +kernel
theorem dL_law_585 : decode cL_law 585 = .ok (.aload_n 0, 1) := by decide +kernel
theorem dL_law_586 : decode cL_law 586 = .ok (.iload_n 3, 1) := by decide +kernel
theorem dL_law_587 : decode cL_law 587 = .ok (.iconst 1, 1) := by decide +kernel
theorem dL_law_588 : decode cL_law 588 = .ok (.iadd, 1) := by decide +kernel
theorem dL_law_589 : decode cL_law 589 = .ok (.iaload, 1) := by decide +kernel
theorem dL_law_590 : decode cL_law 590 = .ok (.aload_n 0, 1) := by decide +kernel
theorem dL_law_591 : decode cL_law 591 = .ok (.iload_n 3, 1) := by decide +kernel
theorem dL_law_592 : decode cL_law 592 = .ok (.iconst 2, 1) := by decide +kernel
theorem dL_law_593 : decode cL_law 593 = .ok (.iadd, 1) := by decide +kernel
theorem dL_law_594 : decode cL_law 594 = .ok (.iaload, 1) := by decide +kernel
theorem dL_law_595 : decode cL_law 595 = .ok (.aload_n 0, 1) := by decide +kernel
theorem dL_law_596 : decode cL_law 596 = .ok (.iload_n 3, 1) := by decide +kernel
theorem dL_law_597 : decode cL_law 597 = .ok (.iconst 3, 1) := by decide +kernel
theorem dL_law_598 : decode cL_law 598 = .ok (.iadd, 1) := by decide +kernel
theorem dL_law_599 : decode cL_law 599 = .ok (.iaload, 1) := by decide +kernel
theorem dL_law_600 : decode cL_law 600 = .ok (.invokevirtual 86, 3) := by decide +kernel
theorem dL_law_603 : decode cL_law 603 = .ok (.pop, 1) := by decide +kernel
theorem dL_law_604 : decode cL_law 604 = .ok (.aload_n 2, 1) := by decide +kernel
theorem dL_law_605 : decode cL_law 605 = .ok (.aload_n 0, 1) := by decide +kernel
theorem dL_law_606 : decode cL_law 606 = .ok (.iload_n 3, 1) := by decide +kernel
theorem dL_law_607 : decode cL_law 607 = .ok (.iconst 1, 1) := by decide +kernel
theorem dL_law_608 : decode cL_law 608 = .ok (.iadd, 1) := by decide +kernel
theorem dL_law_609 : decode cL_law 609 = .ok (.iaload, 1) := by decide +kernel
theorem dL_law_610 : decode cL_law 610 = .ok (.aload_n 0, 1) := by decide +kernel
theorem dL_law_611 : decode cL_law 611 = .ok (.iload_n 3, 1) := by decide +kernel
theorem dL_law_612 : decode cL_law 612 = .ok (.iconst 2, 1) := by decide +kernel
theorem dL_law_613 : decode cL_law 613 = .ok (.iadd, 1) := by decide +kernel
theorem dL_law_614 : decode cL_law 614 = .ok (.iaload, 1) := by decide +kernel
theorem dL_law_615 : decode cL_law 615 = .ok (.aload_n 0, 1) := by decide +kernel
theorem dL_law_616 : decode cL_law 616 = .ok (.iload_n 3, 1) := by decide +kernel
theorem dL_law_617 : decode cL_law 617 = .ok (.iconst 3, 1) := by decide +kernel
theorem dL_law_618 : decode cL_law 618 = .ok (.iadd, 1) := by decide +kernel
theorem dL_law_619 : decode cL_law 619 = .ok (.iaload, 1) := by decide +kernel
theorem dL_law_620 : decode cL_law 620 = .ok (.invokevirtual 89, 3) := by decide +kernel
theorem dL_law_623 : decode cL_law 623 = .ok (.pop, 1) := by decide +kernel
theorem dL_law_624 : decode cL_law 624 = .ok (.goto 26, 3) := by decide +kernel
theorem dL_law_627 : decode cL_law 627 = .ok (.aload_n 1, 1) := by decide +kernel
theorem dL_law_628 : decode cL_law 628 = .ok (.aload_n 0, 1) := by decide +kernel
theorem dL_law_629 : decode cL_law 629 = .ok (.iload_n 3, 1) := by decide +kernel
theorem dL_law_630 : decode cL_law 630 = .ok (.iconst 1, 1) := by decide +kernel
theorem dL_law_631 : decode cL_law 631 = .ok (.iadd, 1) := by decide +kernel
theorem dL_law_632 : decode cL_law 632 = .ok (.iaload, 1) := by decide +kernel
theorem dL_law_633 : decode cL_law 633 = .ok (.invokevirtual 90, 3) := by decide +kernel
theorem dL_law_636 : decode cL_law 636 = .ok (.pop, 1) := by decide +kernel
theorem dL_law_637 : decode cL_law 637 = .ok (.aload_n 2, 1) := by decide +kernel
theorem dL_law_638 : decode cL_law 638 = .ok (.aload_n 0, 1) := by decide +kernel
theorem dL_law_639 : decode cL_law 639 = .ok (.iload_n 3, 1) := by decide +kernel
theorem dL_law_640 : decode cL_law 640 = .ok (.iconst 1, 1) := by decide +kernel
theorem dL_law_641 : decode cL_law 641 = .ok (.iadd, 1) := by decide +kernel
theorem dL_law_642 : decode cL_law 642 = .ok (.iaload, 1) := by decide +kernel
theorem dL_law_643 : decode cL_law 643 = .ok (.invokevirtual 93, 3) := by decide +kernel
theorem dL_law_646 : decode cL_law 646 = .ok (.pop, 1) := by decide +kernel
theorem dL_law_647 : decode cL_law 647 = .ok (.goto 3, 3) := by decide +kernel
theorem dL_law_650 : decode cL_law 650 = .ok (.iinc 3 4, 3) := by decide +kernel
theorem dL_law_653 : decode cL_law 653 = .ok (.goto (-635), 3) := by decide +kernel
theorem dL_law_656 : decode cL_law 656 = .ok (.iconst 1, 1) := by decide +kernel
theorem dL_law_657 : decode cL_law 657 = .ok (.ireturn, 1) := by decide +kernel
