theorem dX13_alone_12 : decode cX13_alone 12 = .ok (.iconst 1, 1) := by decide +kernel
theorem dX13_alone_13 : decode cX13_alone 13 = .ok (.bastore, 1) := by decide +kernel
theorem dX13_alone_14 : decode cX13_alone 14 = .ok (.aload_n 0, 1) := by decide +kernel
theorem dX13_alone_15 : decode cX13_alone 15 = .ok (.getfield 27, 3) := by decide +kernel
theorem dX13_alone_18 : decode cX13_alone 18 = .ok (.sipush 512, 3) := by decide +kernel
theorem dX13_alone_21 : decode cX13_alone 21 = .ok (.iload_n 1, 1) := by decide +kernel
theorem dX13_alone_22 : decode cX13_alone 22 = .ok (.imul, 1) := by decide +kernel
theorem dX13_alone_23 : decode cX13_alone 23 = .ok (.iload_n 2, 1) := by decide +kernel
theorem dX13_alone_24 : decode cX13_alone 24 = .ok (.i2s, 1) := by decide +kernel
theorem dX13_alone_25 : decode cX13_alone 25 = .ok (.sastore, 1) := by decide +kernel
theorem dX13_alone_26 : decode cX13_alone 26 = .ok (.aload_n 0, 1) := by decide +kernel
theorem dX13_alone_27 : decode cX13_alone 27 = .ok (.getfield 31, 3) := by decide +kernel
theorem dX13_alone_30 : decode cX13_alone 30 = .ok (.sipush 512, 3) := by decide +kernel
theorem dX13_alone_33 : decode cX13_alone 33 = .ok (.iload_n 1, 1) := by decide +kernel
theorem dX13_alone_34 : decode cX13_alone 34 = .ok (.imul, 1) := by decide +kernel
theorem dX13_alone_35 : decode cX13_alone 35 = .ok (.iconst 0, 1) := by decide +kernel
theorem dX13_alone_36 : decode cX13_alone 36 = .ok (.bastore, 1) := by decide +kernel
theorem dX13_alone_37 : decode cX13_alone 37 = .ok (.aload_n 0, 1) := by decide +kernel
theorem dX13_alone_38 : decode cX13_alone 38 = .ok (.getfield 34, 3) := by decide +kernel
theorem dX13_alone_41 : decode cX13_alone 41 = .ok (.sipush 512, 3) := by decide +kernel
theorem dX13_alone_44 : decode cX13_alone 44 = .ok (.iload_n 1, 1) := by decide +kernel
theorem dX13_alone_45 : decode cX13_alone 45 = .ok (.imul, 1) := by decide +kernel
theorem dX13_alone_46 : decode cX13_alone 46 = .ok (.iconst 0, 1) := by decide +kernel
theorem dX13_alone_47 : decode cX13_alone 47 = .ok (.iastore, 1) := by decide +kernel
theorem dX13_alone_48 : decode cX13_alone 48 = .ok (.return_, 1) := by decide +kernel
theorem dX13_copyTable_0 : decode cX13_copyTable 0 = .ok (.aload_n 0, 1) := by decide +kernel
theorem dX13_copyTable_1 : decode cX13_copyTable 1 = .ok (.getfield 40, 3) := by decide +kernel
theorem dX13_copyTable_4 : decode cX13_copyTable 4 = .ok (.iload_n 2, 1) := by decide +kernel
theorem dX13_copyTable_5 : decode cX13_copyTable 5 = .ok (.aload_n 0, 1) := by decide +kernel
theorem dX13_copyTable_6 : decode cX13_copyTable 6 = .ok (.getfield 40, 3) := by decide +kernel
theorem dX13_copyTable_9 : decode cX13_copyTable 9 = .ok (.iload_n 1, 1) := by decide +kernel
theorem dX13_copyTable_10 : decode cX13_copyTable 10 = .ok (.baload, 1) := by decide +kernel
theorem dX13_copyTable_11 : decode cX13_copyTable 11 = .ok (.bastore, 1) := by decide +kernel
theorem dX13_copyTable_12 : decode cX13_copyTable 12 = .ok (.aload_n 0, 1) := by decide +kernel
theorem dX13_copyTable_13 : decode cX13_copyTable 13 = .ok (.getfield 37, 3) := by decide +kernel
theorem dX13_copyTable_16 : decode cX13_copyTable 16 = .ok (.iload_n 2, 1) := by decide +kernel
theorem dX13_copyTable_17 : decode cX13_copyTable 17 = .ok (.aload_n 0, 1) := by decide +kernel
theorem dX13_copyTable_18 : decode cX13_copyTable 18 = .ok (.getfield 37, 3) := by decide +kernel
theorem dX13_copyTable_21 : decode cX13_copyTable 21 = .ok (.iload_n 1, 1) := by decide +kernel
theorem dX13_copyTable_22 : decode cX13_copyTable 22 = .ok (.iaload, 1) := by decide +kernel
theorem dX13_copyTable_23 : decode cX13_copyTable 23 = .ok (.iastore, 1) := by decide +kernel
theorem dX13_copyTable_24 : decode cX13_copyTable 24 = .ok (.iconst 0, 1) := by decide +kernel
theorem dX13_copyTable_25 : decode cX13_copyTable 25 = .ok (.istore_n 3, 1) := by decide +kernel
theorem dX13_copyTable_26 : decode cX13_copyTable 26 = .ok (.iload_n 3, 1) := by decide +kernel
theorem dX13_copyTable_27 : decode cX13_copyTable 27 = .ok (.sipush 512, 3) := by decide +kernel
theorem dX13_copyTable_30 : decode cX13_copyTable 30 = .ok (.if_icmp .ge 81, 3) := by decide +kernel
theorem dX13_copyTable_33 : decode cX13_copyTable 33 = .ok (.aload_n 0, 1) := by decide +kernel
theorem dX13_copyTable_34 : decode cX13_copyTable 34 = .ok (.getfield 27, 3) := by decide +kernel
theorem dX13_copyTable_37 : decode cX13_copyTable 37 = .ok (.sipush 512, 3) := by decide +kernel
theorem dX13_copyTable_40 : decode cX13_copyTable 40 = .ok (.iload_n 2, 1) := by decide +kernel
theorem dX13_copyTable_41 : decode cX13_copyTable 41 = .ok (.imul, 1) := by decide +kernel
theorem dX13_copyTable_42 : decode cX13_copyTable 42 = .ok (.iload_n 3, 1) := by decide +kernel
theorem dX13_copyTable_43 : decode cX13_copyTable 43 = .ok (.iadd, 1) := by decide +kernel
theorem dX13_copyTable_44 : decode cX13_copyTable 44 = .ok (.aload_n 0, 1) := by decide +kernel
theorem dX13_copyTable_45 : decode cX13_copyTable 45 = .ok (.getfield 27, 3) := by decide +kernel
theorem dX13_copyTable_48 : decode cX13_copyTable 48 = .ok (.sipush 512, 3) := by decide +kernel
theorem dX13_copyTable_51 : decode cX13_copyTable 51 = .ok (.iload_n 1, 1) := by decide +kernel
theorem dX13_copyTable_52 : decode cX13_copyTable 52 = .ok (.imul, 1) := by decide +kernel
theorem dX13_copyTable_53 : decode cX13_copyTable 53 = .ok (.iload_n 3, 1) := by decide +kernel
theorem dX13_copyTable_54 : decode cX13_copyTable 54 = .ok (.iadd, 1) := by decide +kernel
theorem dX13_copyTable_55 : decode cX13_copyTable 55 = .ok (.saload, 1) := by decide +kernel
theorem dX13_copyTable_56 : decode cX13_copyTable 56 = .ok (.sastore, 1) := by decide +kernel
theorem dX13_copyTable_57 : decode cX13_copyTable 57 = .ok (.aload_n 0, 1) := by decide +kernel
theorem dX13_copyTable_58 : decode cX13_copyTable 58 = .ok (.getfield 31, 3) := by decide +kernel
theorem dX13_copyTable_61 : decode cX13_copyTable 61 = .ok (.sipush 512, 3) := by decide +kernel
theorem dX13_copyTable_64 : decode cX13_copyTable 64 = .ok (.iload_n 2, 1) := by decide +kernel
theorem dX13_copyTable_65 : decode cX13_copyTable 65 = .ok (.imul, 1) := by decide +kernel
theorem dX13_copyTable_66 : decode cX13_copyTable 66 = .ok (.iload_n 3, 1) := by decide +kernel
theorem dX13_copyTable_67 : decode cX13_copyTable 67 = .ok (.iadd, 1) := by decide +kernel
theorem dX13_copyTable_68 : decode cX13_copyTable 68 = .ok (.aload_n 0, 1) := by decide +kernel
theorem dX13_copyTable_69 : decode cX13_copyTable 69 = .ok (.getfield 31, 3) := by decide +kernel
theorem dX13_copyTable_72 : decode cX13_copyTable 72 = .ok (.sipush 512, 3) := by decide +kernel
theorem dX13_copyTable_75 : decode cX13_copyTable 75 = .ok (.iload_n 1, 1) := by decide +kernel
theorem dX13_copyTable_76 : decode cX13_copyTable 76 = .ok (.imul, 1) := by decide +kernel
theorem dX13_copyTable_77 : decode cX13_copyTable 77 = .ok (.iload_n 3, 1) := by decide +kernel
theorem dX13_copyTable_78 : decode cX13_copyTable 78 = .ok (.iadd, 1) := by decide +kernel
theorem dX13_copyTable_79 : decode cX13_copyTable 79 = .ok (.baload, 1) := by decide +kernel
theorem dX13_copyTable_80 : decode cX13_copyTable 80 = .ok (.bastore, 1) := by decide +kernel
theorem dX13_copyTable_81 : decode cX13_copyTable 81 = .ok (.aload_n 0, 1) := by decide +kernel
theorem dX13_copyTable_82 : decode cX13_copyTable 82 = .ok (.getfield 34, 3) := by decide +kernel
theorem dX13_copyTable_85 : decode cX13_copyTable 85 = .ok (.sipush 512, 3) := by decide +kernel
theorem dX13_copyTable_88 : decode cX13_copyTable 88 = .ok (.iload_n 2, 1) := by decide +kernel
theorem dX13_copyTable_89 : decode cX13_copyTable 89 = .ok (.imul, 1) := by decide +kernel
theorem dX13_copyTable_90 : decode cX13_copyTable 90 = .ok (.iload_n 3, 1) := by decide +kernel
theorem dX13_copyTable_91 : decode cX13_copyTable 91 = .ok (.iadd, 1) := by decide +kernel
theorem dX13_copyTable_92 : decode cX13_copyTable 92 = .ok (.aload_n 0, 1) := by decide +kernel
theorem dX13_copyTable_93 : decode cX13_copyTable 93 = .ok (.getfield 34, 3) := by decide +kernel
theorem dX13_copyTable_96 : decode cX13_copyTable 96 = .ok (.sipush 512, 3) := by decide +kernel
theorem dX13_copyTable_99 : decode cX13_copyTable 99 = .ok (.iload_n 1, 1) := by decide +kernel
theorem dX13_copyTable_100 : decode cX13_copyTable 100 = .ok (.imul, 1) := by decide +kernel
theorem dX13_copyTable_101 : decode cX13_copyTable 101 = .ok (.iload_n 3, 1) := by decide +kernel
theorem dX13_copyTable_102 : decode cX13_copyTable 102 = .ok (.iadd, 1) := by decide +kernel
theorem dX13_copyTable_103 : decode cX13_copyTable 103 = .ok (.iaload, 1) := by decide +kernel
theorem dX13_copyTable_104 : decode cX13_copyTable 104 = .ok (.iastore, 1) := by decide +kernel
theorem dX13_copyTable_105 : decode cX13_copyTable 105 = .ok (.iinc 3 1, 3) := by decide +kernel
theorem dX13_copyTable_108 : decode cX13_copyTable 108 = .ok (.goto (-82), 3) := by decide +kernel
theorem dX13_copyTable_111 : decode cX13_copyTable 111 = .ok (.return_, 1) := by decide +kernel
theorem dX13_noCounts_0 : decode cX13_noCounts 0 = .ok (.iconst 0, 1) := by decide +kernel
theorem dX13_noCounts_1 : decode cX13_noCounts 1 = .ok (.istore_n 1, 1) := by decide +kernel
theorem dX13_noCounts_2 : decode cX13_noCounts 2 = .ok (.iload_n 1, 1) := by decide +kernel
theorem dX13_noCounts_3 : decode cX13_noCounts 3 = .ok (.sipush 256, 3) := by decide +kernel
theorem dX13_noCounts_6 : decode cX13_noCounts 6 = .ok (.if_icmp .ge 16, 3) := by decide +kernel
theorem dX13_noCounts_9 : decode cX13_noCounts 9 = .ok (.aload_n 0, 1) := by decide +kernel
theorem dX13_noCounts_10 : decode cX13_noCounts 10 = .ok (.getfield 23, 3) := by decide +kernel
theorem dX13_noCounts_13 : decode cX13_noCounts 13 = .ok (.iload_n 1, 1) := by decide +kernel
theorem dX13_noCounts_14 : decode cX13_noCounts 14 = .ok (.iconst 0, 1) := by decide +kernel
theorem dX13_noCounts_15 : decode cX13_noCounts 15 = .ok (.iastore, 1) := by decide +kernel
theorem dX13_noCounts_16 : decode cX13_noCounts 16 = .ok (.iinc 1 1, 3) := by decide +kernel
theorem dX13_noCounts_19 : decode cX13_noCounts 19 = .ok (.goto (-17), 3) := by decide +kernel
theorem dX13_noCounts_22 : decode cX13_noCounts 22 = .ok (.return_, 1) := by decide +kernel
theorem dX13_toldCounts_0 : decode cX13_toldCounts 0 = .ok (.aload_n 0, 1) := by decide +kernel
theorem dX13_toldCounts_1 : decode cX13_toldCounts 1 = .ok (.invokevirtual 213, 3) := by decide +kernel
theorem dX13_toldCounts_4 : decode cX13_toldCounts 4 = .ok (.aload_n 0, 1) := by decide +kernel
theorem dX13_toldCounts_5 : decode cX13_toldCounts 5 = .ok (.bipush 8, 2) := by decide +kernel
theorem dX13_toldCounts_7 : decode cX13_toldCounts 7 = .ok (.iload_n 1, 1) := by decide +kernel
theorem dX13_toldCounts_8 : decode cX13_toldCounts 8 = .ok (.imul, 1) := by decide +kernel
theorem dX13_toldCounts_9 : decode cX13_toldCounts 9 = .ok (.putfield 193, 3) := by decide +kernel
theorem dX13_toldCounts_12 : decode cX13_toldCounts 12 = .ok (.aload_n 0, 1) := by decide +kernel
theorem dX13_toldCounts_13 : decode cX13_toldCounts 13 = .ok (.bipush 8, 2) := by decide +kernel
theorem dX13_toldCounts_15 : decode cX13_toldCounts 15 = .ok (.iload_n 2, 1) := by decide +kernel
theorem dX13_toldCounts_16 : decode cX13_toldCounts 16 = .ok (.imul, 1) := by decide +kernel
theorem dX13_toldCounts_17 : decode cX13_toldCounts 17 = .ok (.putfield 190, 3) := by decide +kernel
theorem dX13_toldCounts_20 : decode cX13_toldCounts 20 = .ok (.aload_n 0, 1) := by decide +kernel
theorem dX13_toldCounts_21 : decode cX13_toldCounts 21 = .ok (.iconst 0, 1) := by decide +kernel
theorem dX13_toldCounts_22 : decode cX13_toldCounts 22 = .ok (.putfield 196, 3) := by decide +kernel
theorem dX13_toldCounts_25 : decode cX13_toldCounts 25 = .ok (.iconst 5, 1) := by decide +kernel
theorem dX13_toldCounts_26 : decode cX13_toldCounts 26 = .ok (.aload_n 0, 1) := by decide +kernel
theorem dX13_toldCounts_27 : decode cX13_toldCounts 27 = .ok (.iconst 4, 1) := by decide +kernel
theorem dX13_toldCounts_28 : decode cX13_toldCounts 28 = .ok (.invokevirtual 216, 3) := by decide +kernel
theorem dX13_toldCounts_31 : decode cX13_toldCounts 31 = .ok (.iadd, 1) := by decide +kernel
theorem dX13_toldCounts_32 : decode cX13_toldCounts 32 = .ok (.istore 5, 2) := by decide +kernel
theorem dX13_toldCounts_34 : decode cX13_toldCounts 34 = .ok (.aload_n 0, 1) := by decide +kernel
theorem dX13_toldCounts_35 : decode cX13_toldCounts 35 = .ok (.getfield 196, 3) := by decide +kernel
theorem dX13_toldCounts_38 : decode cX13_toldCounts 38 = .ok (.ifCond .ne 10, 3) := by decide +kernel
theorem dX13_toldCounts_41 : decode cX13_toldCounts 41 = .ok (.iload 5, 2) := by decide +kernel
theorem dX13_toldCounts_43 : decode cX13_toldCounts 43 = .ok (.iload 4, 2) := by decide +kernel
theorem dX13_toldCounts_45 : decode cX13_toldCounts 45 = .ok (.if_icmp .le 5, 3) := by decide +kernel
theorem dX13_toldCounts_48 : decode cX13_toldCounts 48 = .ok (.iconst (-1), 1) := by decide +kernel
theorem dX13_toldCounts_49 : decode cX13_toldCounts 49 = .ok (.ireturn, 1) := by decide +kernel
theorem dX13_toldCounts_50 : decode cX13_toldCounts 50 = .ok (.aload_n 0, 1) := by decide +kernel
theorem dX13_toldCounts_51 : decode cX13_toldCounts 51 = .ok (.iload 5, 2) := by decide +kernel
theorem dX13_toldCounts_53 : decode cX13_toldCounts 53 = .ok (.putfield 210, 3) := by decide +kernel
theorem dX13_toldCounts_56 : decode cX13_toldCounts 56 = .ok (.iconst 1, 1) := by decide +kernel
theorem dX13_toldCounts_57 : decode cX13_toldCounts 57 = .ok (.iload 5, 2) := by decide +kernel
theorem dX13_toldCounts_59 : decode cX13_toldCounts 59 = .ok (.ishl, 1) := by decide +kernel
theorem dX13_toldCounts_60 : decode cX13_toldCounts 60 = .ok (.istore 6, 2) := by decide +kernel
theorem dX13_toldCounts_62 : decode cX13_toldCounts 62 = .ok (.iconst 0, 1) := by decide +kernel
theorem dX13_toldCounts_63 : decode cX13_toldCounts 63 = .ok (.istore 7, 2) := by decide +kernel
theorem dX13_toldCounts_65 : decode cX13_toldCounts 65 = .ok (.iload 6, 2) := by decide +kernel
theorem dX13_toldCounts_67 : decode cX13_toldCounts 67 = .ok (.ifCond .le 177, 3) := by decide +kernel
theorem dX13_toldCounts_70 : decode cX13_toldCounts 70 = .ok (.iload 7, 2) := by decide +kernel
theorem dX13_toldCounts_72 : decode cX13_toldCounts 72 = .ok (.iload_n 3, 1) := by decide +kernel
theorem dX13_toldCounts_73 : decode cX13_toldCounts 73 = .ok (.if_icmp .le 5, 3) := by decide +kernel
theorem dX13_toldCounts_76 : decode cX13_toldCounts 76 = .ok (.iconst (-1), 1) := by decide +kernel
theorem dX13_toldCounts_77 : decode cX13_toldCounts 77 = .ok (.ireturn, 1) := by decide +kernel
theorem dX13_toldCounts_78 : decode cX13_toldCounts 78 = .ok (.iload 6, 2) := by decide +kernel
theorem dX13_toldCounts_80 : decode cX13_toldCounts 80 = .ok (.iconst 1, 1) := by decide +kernel
theorem dX13_toldCounts_81 : decode cX13_toldCounts 81 = .ok (.iadd, 1) := by decide +kernel
theorem dX13_toldCounts_82 : decode cX13_toldCounts 82 = .ok (.invokestatic 206, 3) := by decide +kernel
theorem dX13_toldCounts_85 : decode cX13_toldCounts 85 = .ok (.iconst 1, 1) := by decide +kernel
theorem dX13_toldCounts_86 : decode cX13_toldCounts 86 = .ok (.iadd, 1) := by decide +kernel
theorem dX13_toldCounts_87 : decode cX13_toldCounts 87 = .ok (.istore 8, 2) := by decide +kernel
theorem dX13_toldCounts_89 : decode cX13_toldCounts 89 = .ok (.iconst 1, 1) := by decide +kernel
theorem dX13_toldCounts_90 : decode cX13_toldCounts 90 = .ok (.iload 8, 2) := by decide +kernel
theorem dX13_toldCounts_92 : decode cX13_toldCounts 92 = .ok (.ishl, 1) := by decide +kernel
theorem dX13_toldCounts_93 : decode cX13_toldCounts 93 = .ok (.iconst 2, 1) := by decide +kernel
theorem dX13_toldCounts_94 : decode cX13_toldCounts 94 = .ok (.isub, 1) := by decide +kernel
theorem dX13_toldCounts_95 : decode cX13_toldCounts 95 = .ok (.iload 6, 2) := by decide +kernel
theorem dX13_toldCounts_97 : decode cX13_toldCounts 97 = .ok (.isub, 1) := by decide +kernel
theorem dX13_toldCounts_98 : decode cX13_toldCounts 98 = .ok (.istore 9, 2) := by decide +kernel
theorem dX13_toldCounts_100 : decode cX13_toldCounts 100 = .ok (.aload_n 0, 1) := by decide +kernel
theorem dX13_toldCounts_101 : decode cX13_toldCounts 101 = .ok (.iload 8, 2) := by decide +kernel
theorem dX13_toldCounts_103 : decode cX13_toldCounts 103 = .ok (.iconst 1, 1) := by decide +kernel
theorem dX13_toldCounts_104 : decode cX13_toldCounts 104 = .ok (.isub, 1) := by decide +kernel
theorem dX13_toldCounts_105 : decode cX13_toldCounts 105 = .ok (.invokevirtual 216, 3) := by decide +kernel
theorem dX13_toldCounts_108 : decode cX13_toldCounts 108 = .ok (.istore 10, 2) := by decide +kernel
theorem dX13_toldCounts_110 : decode cX13_toldCounts 110 = .ok (.aload_n 0, 1) := by decide +kernel
theorem dX13_toldCounts_111 : decode cX13_toldCounts 111 = .ok (.getfield 196, 3) := by decide +kernel
theorem dX13_toldCounts_114 : decode cX13_toldCounts 114 = .ok (.ifCond .ne 33, 3) := by decide +kernel
theorem dX13_toldCounts_117 : decode cX13_toldCounts 117 = .ok (.iload 10, 2) := by decide +kernel
theorem dX13_toldCounts_119 : decode cX13_toldCounts 119 = .ok (.iload 9, 2) := by decide +kernel
theorem dX13_toldCounts_121 : decode cX13_toldCounts 121 = .ok (.if_icmp .lt 26, 3) := by decide +kernel
theorem dX13_toldCounts_124 : decode cX13_toldCounts 124 = .ok (.aload_n 0, 1) := by decide +kernel
theorem dX13_toldCounts_125 : decode cX13_toldCounts 125 = .ok (.iconst 1, 1) := by decide +kernel
theorem dX13_toldCounts_126 : decode cX13_toldCounts 126 = .ok (.invokevirtual 216, 3) := by decide +kernel
theorem dX13_toldCounts_129 : decode cX13_toldCounts 129 = .ok (.iconst 1, 1) := by decide +kernel
theorem dX13_toldCounts_130 : decode cX13_toldCounts 130 = .ok (.if_icmp .ne 17, 3) := by decide +kernel
theorem dX13_toldCounts_133 : decode cX13_toldCounts 133 = .ok (.iload 10, 2) := by decide +kernel
theorem dX13_toldCounts_135 : decode cX13_toldCounts 135 = .ok (.iconst 1, 1) := by decide +kernel
theorem dX13_toldCounts_136 : decode cX13_toldCounts 136 = .ok (.iload 8, 2) := by decide +kernel
theorem dX13_toldCounts_138 : decode cX13_toldCounts 138 = .ok (.iconst 1, 1) := by decide +kernel
theorem dX13_toldCounts_139 : decode cX13_toldCounts 139 = .ok (.isub, 1) := by decide +kernel
theorem dX13_toldCounts_140 : decode cX13_toldCounts 140 = .ok (.ishl, 1) := by decide +kernel
theorem dX13_toldCounts_141 : decode cX13_toldCounts 141 = .ok (.iload 9, 2) := by decide +kernel
theorem dX13_toldCounts_143 : decode cX13_toldCounts 143 = .ok (.isub, 1) := by decide +kernel
theorem dX13_toldCounts_144 : decode cX13_toldCounts 144 = .ok (.iadd, 1) := by decide +kernel
theorem dX13_toldCounts_145 : decode cX13_toldCounts 145 = .ok (.istore 10, 2) := by decide +kernel
theorem dX13_toldCounts_147 : decode cX13_toldCounts 147 = .ok (.iload 10, 2) := by decide +kernel
theorem dX13_toldCounts_149 : decode cX13_toldCounts 149 = .ok (.iconst 1, 1) := by decide +kernel
theorem dX13_toldCounts_150 : decode cX13_toldCounts 150 = .ok (.isub, 1) := by decide +kernel
theorem dX13_toldCounts_151 : decode cX13_toldCounts 151 = .ok (.istore 11, 2) := by decide +kernel
theorem dX13_toldCounts_153 : decode cX13_toldCounts 153 = .ok (.aload_n 0, 1) := by decide +kernel
theorem dX13_toldCounts_154 : decode cX13_toldCounts 154 = .ok (.getfield 196, 3) := by decide +kernel
theorem dX13_toldCounts_157 : decode cX13_toldCounts 157 = .ok (.ifCond .ne 10, 3) := by decide +kernel
theorem dX13_toldCounts_160 : decode cX13_toldCounts 160 = .ok (.iload 11, 2) := by decide +kernel
theorem dX13_toldCounts_162 : decode cX13_toldCounts 162 = .ok (.iload 6, 2) := by decide +kernel
theorem dX13_toldCounts_164 : decode cX13_toldCounts 164 = .ok (.if_icmp .le 5, 3) := by decide +kernel
theorem dX13_toldCounts_167 : decode cX13_toldCounts 167 = .ok (.iconst (-1), 1) := by decide +kernel
theorem dX13_toldCounts_168 : decode cX13_toldCounts 168 = .ok (.ireturn, 1) := by decide +kernel
theorem dX13_toldCounts_169 : decode cX13_toldCounts 169 = .ok (.aload_n 0, 1) := by decide +kernel
theorem dX13_toldCounts_170 : decode cX13_toldCounts 170 = .ok (.getfield 23, 3) := by decide +kernel
theorem dX13_toldCounts_173 : decode cX13_toldCounts 173 = .ok (.iload 7, 2) := by decide +kernel
theorem dX13_toldCounts_175 : decode cX13_toldCounts 175 = .ok (.iload 11, 2) := by decide +kernel
theorem dX13_toldCounts_177 : decode cX13_toldCounts 177 = .ok (.iastore, 1) := by decide +kernel
theorem dX13_toldCounts_178 : decode cX13_toldCounts 178 = .ok (.iinc 7 1, 3) := by decide +kernel
theorem dX13_toldCounts_181 : decode cX13_toldCounts 181 = .ok (.iload 6, 2) := by decide +kernel
theorem dX13_toldCounts_183 : decode cX13_toldCounts 183 = .ok (.iload 11, 2) := by decide +kernel
theorem dX13_toldCounts_185 : decode cX13_toldCounts 185 = .ok (.ifCond .ge 7, 3) := by decide +kernel
theorem dX13_toldCounts_188 : decode cX13_toldCounts 188 = .ok (.iconst 1, 1) := by decide +kernel
theorem dX13_toldCounts_189 : decode cX13_toldCounts 189 = .ok (.goto 5, 3) := by decide +kernel
theorem dX13_toldCounts_192 : decode cX13_toldCounts 192 = .ok (.iload 11, 2) := by decide +kernel
theorem dX13_toldCounts_194 : decode cX13_toldCounts 194 = .ok (.isub, 1) := by decide +kernel
theorem dX13_toldCounts_195 : decode cX13_toldCounts 195 = .ok (.istore 6, 2) := by decide +kernel
theorem dX13_toldCounts_197 : decode cX13_toldCounts 197 = .ok (.iload 11, 2) := by decide +kernel
theorem dX13_toldCounts_199 : decode cX13_toldCounts 199 = .ok (.ifCond .ne 7, 3) := by decide +kernel
theorem dX13_toldCounts_202 : decode cX13_toldCounts 202 = .ok (.iconst 3, 1) := by decide +kernel
theorem dX13_toldCounts_203 : decode cX13_toldCounts 203 = .ok (.goto 4, 3) := by decide +kernel
theorem dX13_toldCounts_206 : decode cX13_toldCounts 206 = .ok (.iconst 0, 1) := by decide +kernel
theorem dX13_toldCounts_207 : decode cX13_toldCounts 207 = .ok (.istore 12, 2) := by decide +kernel
theorem dX13_toldCounts_209 : decode cX13_toldCounts 209 = .ok (.iload 12, 2) := by decide +kernel
theorem dX13_toldCounts_211 : decode cX13_toldCounts 211 = .ok (.iconst 3, 1) := by decide +kernel
theorem dX13_toldCounts_212 : decode cX13_toldCounts 212 = .ok (.if_icmp .ne 29, 3) := by decide +kernel
theorem dX13_toldCounts_215 : decode cX13_toldCounts 215 = .ok (.aload_n 0, 1) := by decide +kernel
theorem dX13_toldCounts_216 : decode cX13_toldCounts 216 = .ok (.iconst 2, 1) := by decide +kernel
theorem dX13_toldCounts_217 : decode cX13_toldCounts 217 = .ok (.invokevirtual 216, 3) := by decide +kernel
theorem dX13_toldCounts_220 : decode cX13_toldCounts 220 = .ok (.istore 12, 2) := by decide +kernel
theorem dX13_toldCounts_222 : decode cX13_toldCounts 222 = .ok (.aload_n 0, 1) := by decide +kernel
theorem dX13_toldCounts_223 : decode cX13_toldCounts 223 = .ok (.getfield 196, 3) := by decide +kernel
theorem dX13_toldCounts_226 : decode cX13_toldCounts 226 = .ok (.ifCond .eq 5, 3) := by decide +kernel
theorem dX13_toldCounts_229 : decode cX13_toldCounts 229 = .ok (.iconst (-1), 1) := by decide +kernel
theorem dX13_toldCounts_230 : decode cX13_toldCounts 230 = .ok (.ireturn, 1) := by decide +kernel
theorem dX13_toldCounts_231 : decode cX13_toldCounts 231 = .ok (.iload 7, 2) := by decide +kernel
theorem dX13_toldCounts_233 : decode cX13_toldCounts 233 = .ok (.iload 12, 2) := by decide +kernel
theorem dX13_toldCounts_235 : decode cX13_toldCounts 235 = .ok (.iadd, 1) := by decide +kernel
theorem dX13_toldCounts_236 : decode cX13_toldCounts 236 = .ok (.istore 7, 2) := by decide +kernel
theorem dX13_toldCounts_238 : decode cX13_toldCounts 238 = .ok (.goto (-29), 3) := by decide +kernel
theorem dX13_toldCounts_241 : decode cX13_toldCounts 241 = .ok (.goto (-176), 3) := by decide +kernel
theorem dX13_toldCounts_244 : decode cX13_toldCounts 244 = .ok (.aload_n 0, 1) := by decide +kernel
theorem dX13_toldCounts_245 : decode cX13_toldCounts 245 = .ok (.getfield 193, 3) := by decide +kernel
theorem dX13_toldCounts_248 : decode cX13_toldCounts 248 = .ok (.bipush 7, 2) := by decide +kernel
theorem dX13_toldCounts_250 : decode cX13_toldCounts 250 = .ok (.iadd, 1) := by decide +kernel
theorem dX13_toldCounts_251 : decode cX13_toldCounts 251 = .ok (.iconst 3, 1) := by decide +kernel
theorem dX13_toldCounts_252 : decode cX13_toldCounts 252 = .ok (.ishr, 1) := by decide +kernel
theorem dX13_toldCounts_253 : decode cX13_toldCounts 253 = .ok (.ireturn, 1) := by decide +kernel
theorem dX13_mostLog_0 : decode cX13_mostLog 0 = .ok (.iload_n 0, 1) := by decide +kernel
theorem dX13_mostLog_1 : decode cX13_mostLog 1 = .ok (.iconst 1, 1) := by decide +kernel
theorem dX13_mostLog_2 : decode cX13_mostLog 2 = .ok (.if_icmp .ne 8, 3) := by decide +kernel
theorem dX13_mostLog_5 : decode cX13_mostLog 5 = .ok (.bipush 8, 2) := by decide +kernel
theorem dX13_mostLog_7 : decode cX13_mostLog 7 = .ok (.goto 5, 3) := by decide +kernel
theorem dX13_mostLog_10 : decode cX13_mostLog 10 = .ok (.bipush 9, 2) := by decide +kernel
theorem dX13_mostLog_12 : decode cX13_mostLog 12 = .ok (.ireturn, 1) := by decide +kernel
theorem dX13_greatest_0 : decode cX13_greatest 0 = .ok (.iload_n 0, 1) := by decide +kernel
theorem dX13_greatest_1 : decode cX13_greatest 1 = .ok (.ifCond .ne 8, 3) := by decide +kernel
theorem dX13_greatest_4 : decode cX13_greatest 4 = .ok (.bipush 35, 2) := by decide +kernel
theorem dX13_greatest_6 : decode cX13_greatest 6 = .ok (.goto 15, 3) := by decide +kernel
theorem dX13_greatest_9 : decode cX13_greatest 9 = .ok (.iload_n 0, 1) := by decide +kernel
theorem dX13_greatest_10 : decode cX13_greatest 10 = .ok (.iconst 1, 1) := by decide +kernel
theorem dX13_greatest_11 : decode cX13_greatest 11 = .ok (.if_icmp .ne 8, 3) := by decide +kernel
theorem dX13_greatest_14 : decode cX13_greatest 14 = .ok (.bipush 31, 2) := by decide +kernel
theorem dX13_greatest_16 : decode cX13_greatest 16 = .ok (.goto 5, 3) := by decide +kernel
theorem dX13_greatest_19 : decode cX13_greatest 19 = .ok (.bipush 52, 2) := by decide +kernel
theorem dX13_greatest_21 : decode cX13_greatest 21 = .ok (.ireturn, 1) := by decide +kernel
theorem dX13_defaults_0 : decode cX13_defaults 0 = .ok (.aload_n 0, 1) := by decide +kernel
theorem dX13_defaults_1 : decode cX13_defaults 1 = .ok (.invokevirtual 213, 3) := by decide +kernel
theorem dX13_defaults_4 : decode cX13_defaults 4 = .ok (.aload_n 0, 1) := by decide +kernel
theorem dX13_defaults_5 : decode cX13_defaults 5 = .ok (.iload_n 1, 1) := by decide +kernel
theorem dX13_defaults_6 : decode cX13_defaults 6 = .ok (.iconst 1, 1) := by decide +kernel
theorem dX13_defaults_7 : decode cX13_defaults 7 = .ok (.if_icmp .ne 7, 3) := by decide +kernel
theorem dX13_defaults_10 : decode cX13_defaults 10 = .ok (.iconst 5, 1) := by decide +kernel
theorem dX13_defaults_11 : decode cX13_defaults 11 = .ok (.goto 5, 3) := by decide +kernel
theorem dX13_defaults_14 : decode cX13_defaults 14 = .ok (.bipush 6, 2) := by decide +kernel
theorem dX13_defaults_16 : decode cX13_defaults 16 = .ok (.putfield 210, 3) := by decide +kernel
theorem dX13_defaults_19 : decode cX13_defaults 19 = .ok (.iconst 0, 1) := by decide +kernel
theorem dX13_defaults_20 : decode cX13_defaults 20 = .ok (.istore_n 3, 1) := by decide +kernel
theorem dX13_defaults_21 : decode cX13_defaults 21 = .ok (.iload_n 3, 1) := by decide +kernel
theorem dX13_defaults_22 : decode cX13_defaults 22 = .ok (.iload_n 1, 1) := by decide +kernel
theorem dX13_defaults_23 : decode cX13_defaults 23 = .ok (.iconst 1, 1) := by decide +kernel
theorem dX13_defaults_24 : decode cX13_defaults 24 = .ok (.if_icmp .ne 8, 3) := by decide +kernel
theorem dX13_defaults_27 : decode cX13_defaults 27 = .ok (.bipush 28, 2) := by decide +kernel
theorem dX13_defaults_29 : decode cX13_defaults 29 = .ok (.goto 7, 3) := by decide +kernel
theorem dX13_defaults_32 : decode cX13_defaults 32 = .ok (.iload_n 1, 1) := by decide +kernel
theorem dX13_defaults_33 : decode cX13_defaults 33 = .ok (.invokestatic 219, 3) := by decide +kernel
theorem dX13_defaults_36 : decode cX13_defaults 36 = .ok (.if_icmp .gt 169, 3) := by decide +kernel
theorem dX13_defaults_39 : decode cX13_defaults 39 = .ok (.iload_n 1, 1) := by decide +kernel
theorem dX13_defaults_40 : decode cX13_defaults 40 = .ok (.ifCond .ne 68, 3) := by decide +kernel
theorem dX13_defaults_43 : decode cX13_defaults 43 = .ok (.aload_n 0, 1) := by decide +kernel
theorem dX13_defaults_44 : decode cX13_defaults 44 = .ok (.getfield 23, 3) := by decide +kernel
theorem dX13_defaults_47 : decode cX13_defaults 47 = .ok (.iload_n 3, 1) := by decide +kernel
theorem dX13_defaults_48 : decode cX13_defaults 48 = .ok (.iload_n 3, 1) := by decide +kernel
theorem dX13_defaults_49 : decode cX13_defaults 49 = .ok (.ifCond .ne 7, 3) := by decide +kernel
theorem dX13_defaults_52 : decode cX13_defaults 52 = .ok (.iconst 4, 1) := by decide +kernel
theorem dX13_defaults_53 : decode cX13_defaults 53 = .ok (.goto 51, 3) := by decide +kernel
theorem dX13_defaults_56 : decode cX13_defaults 56 = .ok (.iload_n 3, 1) := by decide +kernel
theorem dX13_defaults_57 : decode cX13_defaults 57 = .ok (.iconst 1, 1) := by decide +kernel
theorem dX13_defaults_58 : decode cX13_defaults 58 = .ok (.if_icmp .eq 9, 3) := by decide +kernel
theorem dX13_defaults_61 : decode cX13_defaults 61 = .ok (.iload_n 3, 1) := by decide +kernel
theorem dX13_defaults_62 : decode cX13_defaults 62 = .ok (.bipush 25, 2) := by decide +kernel
theorem dX13_defaults_64 : decode cX13_defaults 64 = .ok (.if_icmp .ne 7, 3) := by decide +kernel
theorem dX13_defaults_67 : decode cX13_defaults 67 = .ok (.iconst 3, 1) := by decide +kernel
theorem dX13_defaults_68 : decode cX13_defaults 68 = .ok (.goto 36, 3) := by decide +kernel
theorem dX13_defaults_71 : decode cX13_defaults 71 = .ok (.iload_n 3, 1) := by decide +kernel
theorem dX13_defaults_72 : decode cX13_defaults 72 = .ok (.bipush 31, 2) := by decide +kernel
theorem dX13_defaults_74 : decode cX13_defaults 74 = .ok (.if_icmp .le 7, 3) := by decide +kernel
theorem dX13_defaults_77 : decode cX13_defaults 77 = .ok (.iconst (-1), 1) := by decide +kernel
theorem dX13_defaults_78 : decode cX13_defaults 78 = .ok (.goto 26, 3) := by decide +kernel
theorem dX13_defaults_81 : decode cX13_defaults 81 = .ok (.iload_n 3, 1) := by decide +kernel
theorem dX13_defaults_82 : decode cX13_defaults 82 = .ok (.bipush 13, 2) := by decide +kernel
theorem dX13_defaults_84 : decode cX13_defaults 84 = .ok (.if_icmp .lt 9, 3) := by decide +kernel
theorem dX13_defaults_87 : decode cX13_defaults 87 = .ok (.iload_n 3, 1) := by decide +kernel
theorem dX13_defaults_88 : decode cX13_defaults 88 = .ok (.bipush 15, 2) := by decide +kernel
theorem dX13_defaults_90 : decode cX13_defaults 90 = .ok (.if_icmp .le 9, 3) := by decide +kernel
theorem dX13_defaults_93 : decode cX13_defaults 93 = .ok (.iload_n 3, 1) := by decide +kernel
theorem dX13_defaults_94 : decode cX13_defaults 94 = .ok (.bipush 27, 2) := by decide +kernel
theorem dX13_defaults_96 : decode cX13_defaults 96 = .ok (.if_icmp .lt 7, 3) := by decide +kernel
theorem dX13_defaults_99 : decode cX13_defaults 99 = .ok (.iconst 1, 1) := by decide +kernel
theorem dX13_defaults_100 : decode cX13_defaults 100 = .ok (.goto 4, 3) := by decide +kernel
theorem dX13_defaults_103 : decode cX13_defaults 103 = .ok (.iconst 2, 1) := by decide +kernel
theorem dX13_defaults_104 : decode cX13_defaults 104 = .ok (.iastore, 1) := by decide +kernel
theorem dX13_defaults_105 : decode cX13_defaults 105 = .ok (.goto 94, 3) := by decide +kernel
theorem dX13_defaults_108 : decode cX13_defaults 108 = .ok (.iload_n 1, 1) := by decide +kernel
theorem dX13_defaults_109 : decode cX13_defaults 109 = .ok (.iconst 1, 1) := by decide +kernel
theorem dX13_defaults_110 : decode cX13_defaults 110 = .ok (.if_icmp .ne 39, 3) := by decide +kernel
theorem dX13_defaults_113 : decode cX13_defaults 113 = .ok (.aload_n 0, 1) := by decide +kernel
theorem dX13_defaults_114 : decode cX13_defaults 114 = .ok (.getfield 23, 3) := by decide +kernel
theorem dX13_defaults_117 : decode cX13_defaults 117 = .ok (.iload_n 3, 1) := by decide +kernel
theorem dX13_defaults_118 : decode cX13_defaults 118 = .ok (.iload_n 3, 1) := by decide +kernel
theorem dX13_defaults_119 : decode cX13_defaults 119 = .ok (.bipush 23, 2) := by decide +kernel
theorem dX13_defaults_121 : decode cX13_defaults 121 = .ok (.if_icmp .le 7, 3) := by decide +kernel
theorem dX13_defaults_124 : decode cX13_defaults 124 = .ok (.iconst (-1), 1) := by decide +kernel
theorem dX13_defaults_125 : decode cX13_defaults 125 = .ok (.goto 20, 3) := by decide +kernel
theorem dX13_defaults_128 : decode cX13_defaults 128 = .ok (.iload_n 3, 1) := by decide +kernel
theorem dX13_defaults_129 : decode cX13_defaults 129 = .ok (.bipush 6, 2) := by decide +kernel
theorem dX13_defaults_131 : decode cX13_defaults 131 = .ok (.if_icmp .lt 13, 3) := by decide +kernel
theorem dX13_defaults_134 : decode cX13_defaults 134 = .ok (.iload_n 3, 1) := by decide +kernel
theorem dX13_defaults_135 : decode cX13_defaults 135 = .ok (.bipush 8, 2) := by decide +kernel
theorem dX13_defaults_137 : decode cX13_defaults 137 = .ok (.if_icmp .gt 7, 3) := by decide +kernel
theorem dX13_defaults_140 : decode cX13_defaults 140 = .ok (.iconst 2, 1) := by decide +kernel
theorem dX13_defaults_141 : decode cX13_defaults 141 = .ok (.goto 4, 3) := by decide +kernel
theorem dX13_defaults_144 : decode cX13_defaults 144 = .ok (.iconst 1, 1) := by decide +kernel
theorem dX13_defaults_145 : decode cX13_defaults 145 = .ok (.iastore, 1) := by decide +kernel
theorem dX13_defaults_146 : decode cX13_defaults 146 = .ok (.goto 53, 3) := by decide +kernel
theorem dX13_defaults_149 : decode cX13_defaults 149 = .ok (.aload_n 0, 1) := by decide +kernel
theorem dX13_defaults_150 : decode cX13_defaults 150 = .ok (.getfield 23, 3) := by decide +kernel
theorem dX13_defaults_153 : decode cX13_defaults 153 = .ok (.iload_n 3, 1) := by decide +kernel
theorem dX13_defaults_154 : decode cX13_defaults 154 = .ok (.iload_n 3, 1) := by decide +kernel
theorem dX13_defaults_155 : decode cX13_defaults 155 = .ok (.iconst 1, 1) := by decide +kernel
theorem dX13_defaults_156 : decode cX13_defaults 156 = .ok (.if_icmp .ne 7, 3) := by decide +kernel
theorem dX13_defaults_159 : decode cX13_defaults 159 = .ok (.iconst 4, 1) := by decide +kernel
theorem dX13_defaults_160 : decode cX13_defaults 160 = .ok (.goto 38, 3) := by decide +kernel
theorem dX13_defaults_163 : decode cX13_defaults 163 = .ok (.iload_n 3, 1) := by decide +kernel
theorem dX13_defaults_164 : decode cX13_defaults 164 = .ok (.iconst 2, 1) := by decide +kernel
theorem dX13_defaults_165 : decode cX13_defaults 165 = .ok (.if_icmp .ne 7, 3) := by decide +kernel
theorem dX13_defaults_168 : decode cX13_defaults 168 = .ok (.iconst 3, 1) := by decide +kernel
theorem dX13_defaults_169 : decode cX13_defaults 169 = .ok (.goto 29, 3) := by decide +kernel
theorem dX13_defaults_172 : decode cX13_defaults 172 = .ok (.iload_n 3, 1) := by decide +kernel
theorem dX13_defaults_173 : decode cX13_defaults 173 = .ok (.iconst 3, 1) := by decide +kernel
theorem dX13_defaults_174 : decode cX13_defaults 174 = .ok (.if_icmp .lt 13, 3) := by decide +kernel
theorem dX13_defaults_177 : decode cX13_defaults 177 = .ok (.iload_n 3, 1) := by decide +kernel
theorem dX13_defaults_178 : decode cX13_defaults 178 = .ok (.bipush 8, 2) := by decide +kernel
theorem dX13_defaults_180 : decode cX13_defaults 180 = .ok (.if_icmp .gt 7, 3) := by decide +kernel
theorem dX13_defaults_183 : decode cX13_defaults 183 = .ok (.iconst 2, 1) := by decide +kernel
theorem dX13_defaults_184 : decode cX13_defaults 184 = .ok (.goto 14, 3) := by decide +kernel
theorem dX13_defaults_187 : decode cX13_defaults 187 = .ok (.iload_n 3, 1) := by decide +kernel
theorem dX13_defaults_188 : decode cX13_defaults 188 = .ok (.bipush 45, 2) := by decide +kernel
theorem dX13_defaults_190 : decode cX13_defaults 190 = .ok (.if_icmp .le 7, 3) := by decide +kernel
theorem dX13_defaults_193 : decode cX13_defaults 193 = .ok (.iconst (-1), 1) := by decide +kernel
theorem dX13_defaults_194 : decode cX13_defaults 194 = .ok (.goto 4, 3) := by decide +kernel
theorem dX13_defaults_197 : decode cX13_defaults 197 = .ok (.iconst 1, 1) := by decide +kernel
theorem dX13_defaults_198 : decode cX13_defaults 198 = .ok (.iastore, 1) := by decide +kernel
theorem dX13_defaults_199 : decode cX13_defaults 199 = .ok (.iinc 3 1, 3) := by decide +kernel
theorem dX13_defaults_202 : decode cX13_defaults 202 = .ok (.goto (-181), 3) := by decide +kernel
theorem dX13_defaults_205 : decode cX13_defaults 205 = .ok (.aload_n 0, 1) := by decide +kernel
theorem dX13_defaults_206 : decode cX13_defaults 206 = .ok (.iload_n 2, 1) := by decide +kernel
theorem dX13_defaults_207 : decode cX13_defaults 207 = .ok (.invokevirtual 222, 3) := by decide +kernel
theorem dX13_defaults_210 : decode cX13_defaults 210 = .ok (.return_, 1) := by decide +kernel
theorem dX13_copyCode_0 : decode cX13_copyCode 0 = .ok (.aload_n 0, 1) := by decide +kernel
theorem dX13_copyCode_1 : decode cX13_copyCode 1 = .ok (.getfield 50, 3) := by decide +kernel
theorem dX13_copyCode_4 : decode cX13_copyCode 4 = .ok (.iload_n 2, 1) := by decide +kernel
theorem dX13_copyCode_5 : decode cX13_copyCode 5 = .ok (.aload_n 0, 1) := by decide +kernel
theorem dX13_copyCode_6 : decode cX13_copyCode 6 = .ok (.getfield 50, 3) := by decide +kernel
theorem dX13_copyCode_9 : decode cX13_copyCode 9 = .ok (.iload_n 1, 1) := by decide +kernel
theorem dX13_copyCode_10 : decode cX13_copyCode 10 = .ok (.baload, 1) := by decide +kernel
theorem dX13_copyCode_11 : decode cX13_copyCode 11 = .ok (.bastore, 1) := by decide +kernel
theorem dX13_copyCode_12 : decode cX13_copyCode 12 = .ok (.aload_n 0, 1) := by decide +kernel
theorem dX13_copyCode_13 : decode cX13_copyCode 13 = .ok (.getfield 53, 3) := by decide +kernel
theorem dX13_copyCode_16 : decode cX13_copyCode 16 = .ok (.iload_n 2, 1) := by decide +kernel
theorem dX13_copyCode_17 : decode cX13_copyCode 17 = .ok (.aload_n 0, 1) := by decide +kernel
theorem dX13_copyCode_18 : decode cX13_copyCode 18 = .ok (.getfield 53, 3) := by decide +kernel
theorem dX13_copyCode_21 : decode cX13_copyCode 21 = .ok (.iload_n 1, 1) := by decide +kernel
theorem dX13_copyCode_22 : decode cX13_copyCode 22 = .ok (.iaload, 1) := by decide +kernel
theorem dX13_copyCode_23 : decode cX13_copyCode 23 = .ok (.iastore, 1) := by decide +kernel
theorem dX13_copyCode_24 : decode cX13_copyCode 24 = .ok (.iconst 0, 1) := by decide +kernel
theorem dX13_copyCode_25 : decode cX13_copyCode 25 = .ok (.istore_n 3, 1) := by decide +kernel
theorem dX13_copyCode_26 : decode cX13_copyCode 26 = .ok (.iload_n 3, 1) := by decide +kernel
theorem dX13_copyCode_27 : decode cX13_copyCode 27 = .ok (.sipush 256, 3) := by decide +kernel
theorem dX13_copyCode_30 : decode cX13_copyCode 30 = .ok (.if_icmp .ge 33, 3) := by decide +kernel
theorem dX13_copyCode_33 : decode cX13_copyCode 33 = .ok (.aload_n 0, 1) := by decide +kernel
theorem dX13_copyCode_34 : decode cX13_copyCode 34 = .ok (.getfield 47, 3) := by decide +kernel
theorem dX13_copyCode_37 : decode cX13_copyCode 37 = .ok (.sipush 256, 3) := by decide +kernel
theorem dX13_copyCode_40 : decode cX13_copyCode 40 = .ok (.iload_n 2, 1) := by decide +kernel
theorem dX13_copyCode_41 : decode cX13_copyCode 41 = .ok (.imul, 1) := by decide +kernel
theorem dX13_copyCode_42 : decode cX13_copyCode 42 = .ok (.iload_n 3, 1) := by decide +kernel
theorem dX13_copyCode_43 : decode cX13_copyCode 43 = .ok (.iadd, 1) := by decide +kernel
theorem dX13_copyCode_44 : decode cX13_copyCode 44 = .ok (.aload_n 0, 1) := by decide +kernel
theorem dX13_copyCode_45 : decode cX13_copyCode 45 = .ok (.getfield 47, 3) := by decide +kernel
theorem dX13_copyCode_48 : decode cX13_copyCode 48 = .ok (.sipush 256, 3) := by decide +kernel
theorem dX13_copyCode_51 : decode cX13_copyCode 51 = .ok (.iload_n 1, 1) := by decide +kernel
theorem dX13_copyCode_52 : decode cX13_copyCode 52 = .ok (.imul, 1) := by decide +kernel
theorem dX13_copyCode_53 : decode cX13_copyCode 53 = .ok (.iload_n 3, 1) := by decide +kernel
theorem dX13_copyCode_54 : decode cX13_copyCode 54 = .ok (.iadd, 1) := by decide +kernel
theorem dX13_copyCode_55 : decode cX13_copyCode 55 = .ok (.iaload, 1) := by decide +kernel
theorem dX13_copyCode_56 : decode cX13_copyCode 56 = .ok (.iastore, 1) := by decide +kernel
theorem dX13_copyCode_57 : decode cX13_copyCode 57 = .ok (.iinc 3 1, 3) := by decide +kernel
theorem dX13_copyCode_60 : decode cX13_copyCode 60 = .ok (.goto (-34), 3) := by decide +kernel
theorem dX13_copyCode_63 : decode cX13_copyCode 63 = .ok (.iconst 0, 1) := by decide +kernel
theorem dX13_copyCode_64 : decode cX13_copyCode 64 = .ok (.istore_n 3, 1) := by decide +kernel
theorem dX13_copyCode_65 : decode cX13_copyCode 65 = .ok (.iload_n 3, 1) := by decide +kernel
theorem dX13_copyCode_66 : decode cX13_copyCode 66 = .ok (.sipush 2048, 3) := by decide +kernel
theorem dX13_copyCode_69 : decode cX13_copyCode 69 = .ok (.if_icmp .ge 33, 3) := by decide +kernel
theorem dX13_copyCode_72 : decode cX13_copyCode 72 = .ok (.aload_n 0, 1) := by decide +kernel
theorem dX13_copyCode_73 : decode cX13_copyCode 73 = .ok (.getfield 56, 3) := by decide +kernel
theorem dX13_copyCode_76 : decode cX13_copyCode 76 = .ok (.sipush 2048, 3) := by decide +kernel
theorem dX13_copyCode_79 : decode cX13_copyCode 79 = .ok (.iload_n 2, 1) := by decide +kernel
theorem dX13_copyCode_80 : decode cX13_copyCode 80 = .ok (.imul, 1) := by decide +kernel
theorem dX13_copyCode_81 : decode cX13_copyCode 81 = .ok (.iload_n 3, 1) := by decide +kernel
theorem dX13_copyCode_82 : decode cX13_copyCode 82 = .ok (.iadd, 1) := by decide +kernel
theorem dX13_copyCode_83 : decode cX13_copyCode 83 = .ok (.aload_n 0, 1) := by decide +kernel
theorem dX13_copyCode_84 : decode cX13_copyCode 84 = .ok (.getfield 56, 3) := by decide +kernel
theorem dX13_copyCode_87 : decode cX13_copyCode 87 = .ok (.sipush 2048, 3) := by decide +kernel
theorem dX13_copyCode_90 : decode cX13_copyCode 90 = .ok (.iload_n 1, 1) := by decide +kernel
theorem dX13_copyCode_91 : decode cX13_copyCode 91 = .ok (.imul, 1) := by decide +kernel
theorem dX13_copyCode_92 : decode cX13_copyCode 92 = .ok (.iload_n 3, 1) := by decide +kernel
theorem dX13_copyCode_93 : decode cX13_copyCode 93 = .ok (.iadd, 1) := by decide +kernel
theorem dX13_copyCode_94 : decode cX13_copyCode 94 = .ok (.saload, 1) := by decide +kernel
theorem dX13_copyCode_95 : decode cX13_copyCode 95 = .ok (.sastore, 1) := by decide +kernel
theorem dX13_copyCode_96 : decode cX13_copyCode 96 = .ok (.iinc 3 1, 3) := by decide +kernel
theorem dX13_copyCode_99 : decode cX13_copyCode 99 = .ok (.goto (-34), 3) := by decide +kernel
theorem dX13_copyCode_102 : decode cX13_copyCode 102 = .ok (.return_, 1) := by decide +kernel
theorem dX13_toldWeights_0 : decode cX13_toldWeights 0 = .ok (.aload_n 0, 1) := by decide +kernel
theorem dX13_toldWeights_1 : decode cX13_toldWeights 1 = .ok (.iload_n 1, 1) := by decide +kernel
theorem dX13_toldWeights_2 : decode cX13_toldWeights 2 = .ok (.iload_n 2, 1) := by decide +kernel
theorem dX13_toldWeights_3 : decode cX13_toldWeights 3 = .ok (.sipush 255, 3) := by decide +kernel
theorem dX13_toldWeights_6 : decode cX13_toldWeights 6 = .ok (.bipush 6, 2) := by decide +kernel
theorem dX13_toldWeights_8 : decode cX13_toldWeights 8 = .ok (.invokevirtual 226, 3) := by decide +kernel
theorem dX13_toldWeights_11 : decode cX13_toldWeights 11 = .ok (.istore_n 3, 1) := by decide +kernel
theorem dX13_toldWeights_12 : decode cX13_toldWeights 12 = .ok (.iload_n 3, 1) := by decide +kernel
theorem dX13_toldWeights_13 : decode cX13_toldWeights 13 = .ok (.ifCond .ge 5, 3) := by decide +kernel
theorem dX13_toldWeights_16 : decode cX13_toldWeights 16 = .ok (.iconst (-1), 1) := by decide +kernel
theorem dX13_toldWeights_17 : decode cX13_toldWeights 17 = .ok (.ireturn, 1) := by decide +kernel
theorem dX13_toldWeights_18 : decode cX13_toldWeights 18 = .ok (.aload_n 0, 1) := by decide +kernel
theorem dX13_toldWeights_19 : decode cX13_toldWeights 19 = .ok (.bipush 6, 2) := by decide +kernel
theorem dX13_toldWeights_21 : decode cX13_toldWeights 21 = .ok (.invokevirtual 222, 3) := by decide +kernel
theorem dX13_toldWeights_24 : decode cX13_toldWeights 24 = .ok (.aload_n 0, 1) := by decide +kernel
theorem dX13_toldWeights_25 : decode cX13_toldWeights 25 = .ok (.iload_n 3, 1) := by decide +kernel
theorem dX13_toldWeights_26 : decode cX13_toldWeights 26 = .ok (.iload_n 2, 1) := by decide +kernel
theorem dX13_toldWeights_27 : decode cX13_toldWeights 27 = .ok (.invokevirtual 230, 3) := by decide +kernel
theorem dX13_toldWeights_30 : decode cX13_toldWeights 30 = .ok (.ifCond .ne 5, 3) := by decide +kernel
theorem dX13_toldWeights_33 : decode cX13_toldWeights 33 = .ok (.iconst (-1), 1) := by decide +kernel
theorem dX13_toldWeights_34 : decode cX13_toldWeights 34 = .ok (.ireturn, 1) := by decide +kernel
theorem dX13_toldWeights_35 : decode cX13_toldWeights 35 = .ok (.sipush 3072, 3) := by decide +kernel
theorem dX13_toldWeights_38 : decode cX13_toldWeights 38 = .ok (.istore 4, 2) := by decide +kernel
theorem dX13_toldWeights_40 : decode cX13_toldWeights 40 = .ok (.aload_n 0, 1) := by decide +kernel
theorem dX13_toldWeights_41 : decode cX13_toldWeights 41 = .ok (.aload_n 0, 1) := by decide +kernel
theorem dX13_toldWeights_42 : decode cX13_toldWeights 42 = .ok (.getfield 210, 3) := by decide +kernel
theorem dX13_toldWeights_45 : decode cX13_toldWeights 45 = .ok (.invokevirtual 234, 3) := by decide +kernel
theorem dX13_toldWeights_48 : decode cX13_toldWeights 48 = .ok (.l2i, 1) := by decide +kernel
theorem dX13_toldWeights_49 : decode cX13_toldWeights 49 = .ok (.istore 5, 2) := by decide +kernel
theorem dX13_toldWeights_51 : decode cX13_toldWeights 51 = .ok (.aload_n 0, 1) := by decide +kernel
theorem dX13_toldWeights_52 : decode cX13_toldWeights 52 = .ok (.aload_n 0, 1) := by decide +kernel
theorem dX13_toldWeights_53 : decode cX13_toldWeights 53 = .ok (.getfield 210, 3) := by decide +kernel
theorem dX13_toldWeights_56 : decode cX13_toldWeights 56 = .ok (.invokevirtual 234, 3) := by decide +kernel
theorem dX13_toldWeights_59 : decode cX13_toldWeights 59 = .ok (.l2i, 1) := by decide +kernel
theorem dX13_toldWeights_60 : decode cX13_toldWeights 60 = .ok (.istore 6, 2) := by decide +kernel
theorem dX13_toldWeights_62 : decode cX13_toldWeights 62 = .ok (.aload_n 0, 1) := by decide +kernel
theorem dX13_toldWeights_63 : decode cX13_toldWeights 63 = .ok (.getfield 196, 3) := by decide +kernel
theorem dX13_toldWeights_66 : decode cX13_toldWeights 66 = .ok (.ifCond .eq 5, 3) := by decide +kernel
theorem dX13_toldWeights_69 : decode cX13_toldWeights 69 = .ok (.iconst (-1), 1) := by decide +kernel
theorem dX13_toldWeights_70 : decode cX13_toldWeights 70 = .ok (.ireturn, 1) := by decide +kernel
theorem dX13_toldWeights_71 : decode cX13_toldWeights 71 = .ok (.iconst 0, 1) := by decide +kernel
theorem dX13_toldWeights_72 : decode cX13_toldWeights 72 = .ok (.istore 7, 2) := by decide +kernel
theorem dX13_toldWeights_74 : decode cX13_toldWeights 74 = .ok (.iconst 1, 1) := by decide +kernel
theorem dX13_toldWeights_75 : decode cX13_toldWeights 75 = .ok (.istore 8, 2) := by decide +kernel
theorem dX13_toldWeights_77 : decode cX13_toldWeights 77 = .ok (.iload 8, 2) := by decide +kernel
theorem dX13_toldWeights_79 : decode cX13_toldWeights 79 = .ok (.ifCond .eq 125, 3) := by decide +kernel
theorem dX13_toldWeights_82 : decode cX13_toldWeights 82 = .ok (.iload 7, 2) := by decide +kernel
theorem dX13_toldWeights_84 : decode cX13_toldWeights 84 = .ok (.sipush 255, 3) := by decide +kernel
theorem dX13_toldWeights_87 : decode cX13_toldWeights 87 = .ok (.if_icmp .ne 5, 3) := by decide +kernel
theorem dX13_toldWeights_90 : decode cX13_toldWeights 90 = .ok (.iconst (-1), 1) := by decide +kernel
theorem dX13_toldWeights_91 : decode cX13_toldWeights 91 = .ok (.ireturn, 1) := by decide +kernel
theorem dX13_toldWeights_92 : decode cX13_toldWeights 92 = .ok (.aload_n 0, 1) := by decide +kernel
theorem dX13_toldWeights_93 : decode cX13_toldWeights 93 = .ok (.getfield 59, 3) := by decide +kernel
theorem dX13_toldWeights_96 : decode cX13_toldWeights 96 = .ok (.iload 7, 2) := by decide +kernel
theorem dX13_toldWeights_98 : decode cX13_toldWeights 98 = .ok (.aload_n 0, 1) := by decide +kernel
theorem dX13_toldWeights_99 : decode cX13_toldWeights 99 = .ok (.getfield 27, 3) := by decide +kernel
theorem dX13_toldWeights_102 : decode cX13_toldWeights 102 = .ok (.iload 4, 2) := by decide +kernel
theorem dX13_toldWeights_104 : decode cX13_toldWeights 104 = .ok (.iload 5, 2) := by decide +kernel
theorem dX13_toldWeights_106 : decode cX13_toldWeights 106 = .ok (.iadd, 1) := by decide +kernel
theorem dX13_toldWeights_107 : decode cX13_toldWeights 107 = .ok (.saload, 1) := by decide +kernel
theorem dX13_toldWeights_108 : decode cX13_toldWeights 108 = .ok (.iastore, 1) := by decide +kernel
theorem dX13_toldWeights_109 : decode cX13_toldWeights 109 = .ok (.iinc 7 1, 3) := by decide +kernel
theorem dX13_toldWeights_112 : decode cX13_toldWeights 112 = .ok (.aload_n 0, 1) := by decide +kernel
theorem dX13_toldWeights_113 : decode cX13_toldWeights 113 = .ok (.getfield 203, 3) := by decide +kernel
theorem dX13_toldWeights_116 : decode cX13_toldWeights 116 = .ok (.aload_n 0, 1) := by decide +kernel
theorem dX13_toldWeights_117 : decode cX13_toldWeights 117 = .ok (.getfield 31, 3) := by decide +kernel
theorem dX13_toldWeights_120 : decode cX13_toldWeights 120 = .ok (.iload 4, 2) := by decide +kernel
theorem dX13_toldWeights_122 : decode cX13_toldWeights 122 = .ok (.iload 5, 2) := by decide +kernel
theorem dX13_toldWeights_124 : decode cX13_toldWeights 124 = .ok (.iadd, 1) := by decide +kernel
theorem dX13_toldWeights_125 : decode cX13_toldWeights 125 = .ok (.baload, 1) := by decide +kernel
theorem dX13_toldWeights_126 : decode cX13_toldWeights 126 = .ok (.if_icmp .ge 39, 3) := by decide +kernel
theorem dX13_toldWeights_129 : decode cX13_toldWeights 129 = .ok (.iload 7, 2) := by decide +kernel
theorem dX13_toldWeights_131 : decode cX13_toldWeights 131 = .ok (.sipush 255, 3) := by decide +kernel
theorem dX13_toldWeights_134 : decode cX13_toldWeights 134 = .ok (.if_icmp .ne 5, 3) := by decide +kernel
theorem dX13_toldWeights_137 : decode cX13_toldWeights 137 = .ok (.iconst (-1), 1) := by decide +kernel
theorem dX13_toldWeights_138 : decode cX13_toldWeights 138 = .ok (.ireturn, 1) := by decide +kernel
theorem dX13_toldWeights_139 : decode cX13_toldWeights 139 = .ok (.aload_n 0, 1) := by decide +kernel
theorem dX13_toldWeights_140 : decode cX13_toldWeights 140 = .ok (.getfield 59, 3) := by decide +kernel
theorem dX13_toldWeights_143 : decode cX13_toldWeights 143 = .ok (.iload 7, 2) := by decide +kernel
theorem dX13_toldWeights_145 : decode cX13_toldWeights 145 = .ok (.aload_n 0, 1) := by decide +kernel
theorem dX13_toldWeights_146 : decode cX13_toldWeights 146 = .ok (.getfield 27, 3) := by decide +kernel
theorem dX13_toldWeights_149 : decode cX13_toldWeights 149 = .ok (.iload 4, 2) := by decide +kernel
theorem dX13_toldWeights_151 : decode cX13_toldWeights 151 = .ok (.iload 6, 2) := by decide +kernel
theorem dX13_toldWeights_153 : decode cX13_toldWeights 153 = .ok (.iadd, 1) := by decide +kernel
theorem dX13_toldWeights_154 : decode cX13_toldWeights 154 = .ok (.saload, 1) := by decide +kernel
theorem dX13_toldWeights_155 : decode cX13_toldWeights 155 = .ok (.iastore, 1) := by decide +kernel
theorem dX13_toldWeights_156 : decode cX13_toldWeights 156 = .ok (.iinc 7 1, 3) := by decide +kernel
theorem dX13_toldWeights_159 : decode cX13_toldWeights 159 = .ok (.iconst 0, 1) := by decide +kernel
theorem dX13_toldWeights_160 : decode cX13_toldWeights 160 = .ok (.istore 8, 2) := by decide +kernel
theorem dX13_toldWeights_162 : decode cX13_toldWeights 162 = .ok (.goto (-85), 3) := by decide +kernel
theorem dX13_toldWeights_165 : decode cX13_toldWeights 165 = .ok (.aload_n 0, 1) := by decide +kernel
theorem dX13_toldWeights_166 : decode cX13_toldWeights 166 = .ok (.getfield 34, 3) := by decide +kernel
theorem dX13_toldWeights_169 : decode cX13_toldWeights 169 = .ok (.iload 4, 2) := by decide +kernel
theorem dX13_toldWeights_171 : decode cX13_toldWeights 171 = .ok (.iload 5, 2) := by decide +kernel
theorem dX13_toldWeights_173 : decode cX13_toldWeights 173 = .ok (.iadd, 1) := by decide +kernel
theorem dX13_toldWeights_174 : decode cX13_toldWeights 174 = .ok (.iaload, 1) := by decide +kernel
theorem dX13_toldWeights_175 : decode cX13_toldWeights 175 = .ok (.aload_n 0, 1) := by decide +kernel
theorem dX13_toldWeights_176 : decode cX13_toldWeights 176 = .ok (.aload_n 0, 1) := by decide +kernel
theorem dX13_toldWeights_177 : decode cX13_toldWeights 177 = .ok (.getfield 31, 3) := by decide +kernel
theorem dX13_toldWeights_180 : decode cX13_toldWeights 180 = .ok (.iload 4, 2) := by decide +kernel
theorem dX13_toldWeights_182 : decode cX13_toldWeights 182 = .ok (.iload 5, 2) := by decide +kernel
theorem dX13_toldWeights_184 : decode cX13_toldWeights 184 = .ok (.iadd, 1) := by decide +kernel
theorem dX13_toldWeights_185 : decode cX13_toldWeights 185 = .ok (.baload, 1) := by decide +kernel
theorem dX13_toldWeights_186 : decode cX13_toldWeights 186 = .ok (.invokevirtual 234, 3) := by decide +kernel
theorem dX13_toldWeights_189 : decode cX13_toldWeights 189 = .ok (.l2i, 1) := by decide +kernel
theorem dX13_toldWeights_190 : decode cX13_toldWeights 190 = .ok (.iadd, 1) := by decide +kernel
theorem dX13_toldWeights_191 : decode cX13_toldWeights 191 = .ok (.istore 9, 2) := by decide +kernel
theorem dX13_toldWeights_193 : decode cX13_toldWeights 193 = .ok (.iload 6, 2) := by decide +kernel
theorem dX13_toldWeights_195 : decode cX13_toldWeights 195 = .ok (.istore 5, 2) := by decide +kernel
theorem dX13_toldWeights_197 : decode cX13_toldWeights 197 = .ok (.iload 9, 2) := by decide +kernel
theorem dX13_toldWeights_199 : decode cX13_toldWeights 199 = .ok (.istore 6, 2) := by decide +kernel
theorem dX13_toldWeights_201 : decode cX13_toldWeights 201 = .ok (.goto (-124), 3) := by decide +kernel
theorem dX13_toldWeights_204 : decode cX13_toldWeights 204 = .ok (.iload 7, 2) := by decide +kernel
theorem dX13_toldWeights_206 : decode cX13_toldWeights 206 = .ok (.ireturn, 1) := by decide +kernel
theorem dX13_code_0 : decode cX13_code 0 = .ok (.iload_n 2, 1) := by decide +kernel
theorem dX13_code_1 : decode cX13_code 1 = .ok (.iload_n 3, 1) := by decide +kernel
theorem dX13_code_2 : decode cX13_code 2 = .ok (.if_icmp .lt 5, 3) := by decide +kernel
theorem dX13_code_5 : decode cX13_code 5 = .ok (.iconst (-1), 1) := by decide +kernel
theorem dX13_code_6 : decode cX13_code 6 = .ok (.ireturn, 1) := by decide +kernel
theorem dX13_code_7 : decode cX13_code 7 = .ok (.aload_n 0, 1) := by decide +kernel
theorem dX13_code_8 : decode cX13_code 8 = .ok (.getfield 20, 3) := by decide +kernel
theorem dX13_code_11 : decode cX13_code 11 = .ok (.iload_n 2, 1) := by decide +kernel
theorem dX13_code_12 : decode cX13_code 12 = .ok (.baload, 1) := by decide +kernel
theorem dX13_code_13 : decode cX13_code 13 = .ok (.sipush 255, 3) := by decide +kernel
theorem dX13_code_16 : decode cX13_code 16 = .ok (.iand, 1) := by decide +kernel
theorem dX13_code_17 : decode cX13_code 17 = .ok (.istore 4, 2) := by decide +kernel
theorem dX13_code_19 : decode cX13_code 19 = .ok (.iload 4, 2) := by decide +kernel
theorem dX13_code_21 : decode cX13_code 21 = .ok (.bipush 127, 2) := by decide +kernel
theorem dX13_code_23 : decode cX13_code 23 = .ok (.if_icmp .le 90, 3) := by decide +kernel
theorem dX13_code_26 : decode cX13_code 26 = .ok (.iload 4, 2) := by decide +kernel
theorem dX13_code_28 : decode cX13_code 28 = .ok (.bipush 127, 2) := by decide +kernel
theorem dX13_code_30 : decode cX13_code 30 = .ok (.isub, 1) := by decide +kernel
theorem dX13_code_31 : decode cX13_code 31 = .ok (.istore 5, 2) := by decide +kernel
theorem dX13_code_33 : decode cX13_code 33 = .ok (.iload_n 2, 1) := by decide +kernel
theorem dX13_code_34 : decode cX13_code 34 = .ok (.iconst 1, 1) := by decide +kernel
theorem dX13_code_35 : decode cX13_code 35 = .ok (.iadd, 1) := by decide +kernel
theorem dX13_code_36 : decode cX13_code 36 = .ok (.iload 5, 2) := by decide +kernel
theorem dX13_code_38 : decode cX13_code 38 = .ok (.iconst 1, 1) := by decide +kernel
theorem dX13_code_39 : decode cX13_code 39 = .ok (.iadd, 1) := by decide +kernel
theorem dX13_code_40 : decode cX13_code 40 = .ok (.iconst 2, 1) := by decide +kernel
theorem dX13_code_41 : decode cX13_code 41 = .ok (.idiv, 1) := by decide +kernel
theorem dX13_code_42 : decode cX13_code 42 = .ok (.iadd, 1) := by decide +kernel
theorem dX13_code_43 : decode cX13_code 43 = .ok (.istore 6, 2) := by decide +kernel
theorem dX13_code_45 : decode cX13_code 45 = .ok (.iload 6, 2) := by decide +kernel
theorem dX13_code_47 : decode cX13_code 47 = .ok (.iload_n 3, 1) := by decide +kernel
theorem dX13_code_48 : decode cX13_code 48 = .ok (.if_icmp .le 5, 3) := by decide +kernel
theorem dX13_code_51 : decode cX13_code 51 = .ok (.iconst (-1), 1) := by decide +kernel
theorem dX13_code_52 : decode cX13_code 52 = .ok (.ireturn, 1) := by decide +kernel
theorem dX13_code_53 : decode cX13_code 53 = .ok (.iconst 0, 1) := by decide +kernel
theorem dX13_code_54 : decode cX13_code 54 = .ok (.istore 7, 2) := by decide +kernel
theorem dX13_code_56 : decode cX13_code 56 = .ok (.iload 7, 2) := by decide +kernel
theorem dX13_code_58 : decode cX13_code 58 = .ok (.iload 5, 2) := by decide +kernel
theorem dX13_code_60 : decode cX13_code 60 = .ok (.if_icmp .ge 50, 3) := by decide +kernel
theorem dX13_code_63 : decode cX13_code 63 = .ok (.aload_n 0, 1) := by decide +kernel
theorem dX13_code_64 : decode cX13_code 64 = .ok (.getfield 20, 3) := by decide +kernel
theorem dX13_code_67 : decode cX13_code 67 = .ok (.iload_n 2, 1) := by decide +kernel
theorem dX13_code_68 : decode cX13_code 68 = .ok (.iconst 1, 1) := by decide +kernel
theorem dX13_code_69 : decode cX13_code 69 = .ok (.iadd, 1) := by decide +kernel
theorem dX13_code_70 : decode cX13_code 70 = .ok (.iload 7, 2) := by decide +kernel
theorem dX13_code_72 : decode cX13_code 72 = .ok (.iconst 2, 1) := by decide +kernel
theorem dX13_code_73 : decode cX13_code 73 = .ok (.idiv, 1) := by decide +kernel
theorem dX13_code_74 : decode cX13_code 74 = .ok (.iadd, 1) := by decide +kernel
theorem dX13_code_75 : decode cX13_code 75 = .ok (.baload, 1) := by decide +kernel
theorem dX13_code_76 : decode cX13_code 76 = .ok (.istore 8, 2) := by decide +kernel
theorem dX13_code_78 : decode cX13_code 78 = .ok (.aload_n 0, 1) := by decide +kernel
theorem dX13_code_79 : decode cX13_code 79 = .ok (.getfield 59, 3) := by decide +kernel
theorem dX13_code_82 : decode cX13_code 82 = .ok (.iload 7, 2) := by decide +kernel
theorem dX13_code_84 : decode cX13_code 84 = .ok (.iload 7, 2) := by decide +kernel
theorem dX13_code_86 : decode cX13_code 86 = .ok (.iconst 2, 1) := by decide +kernel
theorem dX13_code_87 : decode cX13_code 87 = .ok (.irem, 1) := by decide +kernel
theorem dX13_code_88 : decode cX13_code 88 = .ok (.ifCond .ne 10, 3) := by decide +kernel
theorem dX13_code_91 : decode cX13_code 91 = .ok (.iload 8, 2) := by decide +kernel
theorem dX13_code_93 : decode cX13_code 93 = .ok (.iconst 4, 1) := by decide +kernel
theorem dX13_code_94 : decode cX13_code 94 = .ok (.ishr, 1) := by decide +kernel
theorem dX13_code_95 : decode cX13_code 95 = .ok (.goto 5, 3) := by decide +kernel
theorem dX13_code_98 : decode cX13_code 98 = .ok (.iload 8, 2) := by decide +kernel
theorem dX13_code_100 : decode cX13_code 100 = .ok (.bipush 15, 2) := by decide +kernel
theorem dX13_code_102 : decode cX13_code 102 = .ok (.iand, 1) := by decide +kernel
theorem dX13_code_103 : decode cX13_code 103 = .ok (.iastore, 1) := by decide +kernel
theorem dX13_code_104 : decode cX13_code 104 = .ok (.iinc 7 1, 3) := by decide +kernel
theorem dX13_code_107 : decode cX13_code 107 = .ok (.goto (-51), 3) := by decide +kernel
theorem dX13_code_110 : decode cX13_code 110 = .ok (.goto 30, 3) := by decide +kernel
theorem dX13_code_113 : decode cX13_code 113 = .ok (.iload_n 2, 1) := by decide +kernel
theorem dX13_code_114 : decode cX13_code 114 = .ok (.iconst 1, 1) := by decide +kernel
theorem dX13_code_115 : decode cX13_code 115 = .ok (.iadd, 1) := by decide +kernel
theorem dX13_code_116 : decode cX13_code 116 = .ok (.iload 4, 2) := by decide +kernel
theorem dX13_code_118 : decode cX13_code 118 = .ok (.iadd, 1) := by decide +kernel
theorem dX13_code_119 : decode cX13_code 119 = .ok (.istore 6, 2) := by decide +kernel
theorem dX13_code_121 : decode cX13_code 121 = .ok (.iload 6, 2) := by decide +kernel
theorem dX13_code_123 : decode cX13_code 123 = .ok (.iload_n 3, 1) := by decide +kernel
theorem dX13_code_124 : decode cX13_code 124 = .ok (.if_icmp .le 5, 3) := by decide +kernel
theorem dX13_code_127 : decode cX13_code 127 = .ok (.iconst (-1), 1) := by decide +kernel
theorem dX13_code_128 : decode cX13_code 128 = .ok (.ireturn, 1) := by decide +kernel
theorem dX13_code_129 : decode cX13_code 129 = .ok (.aload_n 0, 1) := by decide +kernel
theorem dX13_code_130 : decode cX13_code 130 = .ok (.iload_n 2, 1) := by decide +kernel
theorem dX13_code_131 : decode cX13_code 131 = .ok (.iconst 1, 1) := by decide +kernel
theorem dX13_code_132 : decode cX13_code 132 = .ok (.iadd, 1) := by decide +kernel
theorem dX13_code_133 : decode cX13_code 133 = .ok (.iload 6, 2) := by decide +kernel
theorem dX13_code_135 : decode cX13_code 135 = .ok (.invokevirtual 238, 3) := by decide +kernel
theorem dX13_code_138 : decode cX13_code 138 = .ok (.istore 5, 2) := by decide +kernel
theorem dX13_code_140 : decode cX13_code 140 = .ok (.iload 5, 2) := by decide +kernel
theorem dX13_code_142 : decode cX13_code 142 = .ok (.ifCond .lt 18, 3) := by decide +kernel
theorem dX13_code_145 : decode cX13_code 145 = .ok (.aload_n 0, 1) := by decide +kernel
theorem dX13_code_146 : decode cX13_code 146 = .ok (.iload_n 1, 1) := by decide +kernel
theorem dX13_code_147 : decode cX13_code 147 = .ok (.iload 5, 2) := by decide +kernel
theorem dX13_code_149 : decode cX13_code 149 = .ok (.invokevirtual 242, 3) := by decide +kernel
theorem dX13_code_152 : decode cX13_code 152 = .ok (.ifCond .eq 8, 3) := by decide +kernel
theorem dX13_code_155 : decode cX13_code 155 = .ok (.iload 6, 2) := by decide +kernel
theorem dX13_code_157 : decode cX13_code 157 = .ok (.goto 4, 3) := by decide +kernel
theorem dX13_code_160 : decode cX13_code 160 = .ok (.iconst (-1), 1) := by decide +kernel
theorem dX13_code_161 : decode cX13_code 161 = .ok (.ireturn, 1) := by decide +kernel
theorem dX13_codeOf_0 : decode cX13_codeOf 0 = .ok (.iconst 0, 1) := by decide +kernel
theorem dX13_codeOf_1 : decode cX13_codeOf 1 = .ok (.istore_n 3, 1) := by decide +kernel
theorem dX13_codeOf_2 : decode cX13_codeOf 2 = .ok (.iconst 0, 1) := by decide +kernel
theorem dX13_codeOf_3 : decode cX13_codeOf 3 = .ok (.istore 4, 2) := by decide +kernel
theorem dX13_codeOf_5 : decode cX13_codeOf 5 = .ok (.iload 4, 2) := by decide +kernel
theorem dX13_codeOf_7 : decode cX13_codeOf 7 = .ok (.iload_n 2, 1) := by decide +kernel
theorem dX13_codeOf_8 : decode cX13_codeOf 8 = .ok (.if_icmp .ge 51, 3) := by decide +kernel
theorem dX13_codeOf_11 : decode cX13_codeOf 11 = .ok (.aload_n 0, 1) := by decide +kernel
theorem dX13_codeOf_12 : decode cX13_codeOf 12 = .ok (.getfield 59, 3) := by decide +kernel
theorem dX13_codeOf_15 : decode cX13_codeOf 15 = .ok (.iload 4, 2) := by decide +kernel
theorem dX13_codeOf_17 : decode cX13_codeOf 17 = .ok (.iaload, 1) := by decide +kernel
theorem dX13_codeOf_18 : decode cX13_codeOf 18 = .ok (.bipush 11, 2) := by decide +kernel
theorem dX13_codeOf_20 : decode cX13_codeOf 20 = .ok (.if_icmp .le 5, 3) := by decide +kernel
theorem dX13_codeOf_23 : decode cX13_codeOf 23 = .ok (.iconst 0, 1) := by decide +kernel
theorem dX13_codeOf_24 : decode cX13_codeOf 24 = .ok (.ireturn, 1) := by decide +kernel
theorem dX13_codeOf_25 : decode cX13_codeOf 25 = .ok (.iload_n 3, 1) := by decide +kernel
theorem dX13_codeOf_26 : decode cX13_codeOf 26 = .ok (.aload_n 0, 1) := by decide +kernel
theorem dX13_codeOf_27 : decode cX13_codeOf 27 = .ok (.getfield 59, 3) := by decide +kernel
theorem dX13_codeOf_30 : decode cX13_codeOf 30 = .ok (.iload 4, 2) := by decide +kernel
theorem dX13_codeOf_32 : decode cX13_codeOf 32 = .ok (.iaload, 1) := by decide +kernel
theorem dX13_codeOf_33 : decode cX13_codeOf 33 = .ok (.ifCond .le 17, 3) := by decide +kernel
theorem dX13_codeOf_36 : decode cX13_codeOf 36 = .ok (.iconst 1, 1) := by decide +kernel
theorem dX13_codeOf_37 : decode cX13_codeOf 37 = .ok (.aload_n 0, 1) := by decide +kernel
theorem dX13_codeOf_38 : decode cX13_codeOf 38 = .ok (.getfield 59, 3) := by decide +kernel
theorem dX13_codeOf_41 : decode cX13_codeOf 41 = .ok (.iload 4, 2) := by decide +kernel
theorem dX13_codeOf_43 : decode cX13_codeOf 43 = .ok (.iaload, 1) := by decide +kernel
theorem dX13_codeOf_44 : decode cX13_codeOf 44 = .ok (.iconst 1, 1) := by decide +kernel
theorem dX13_codeOf_45 : decode cX13_codeOf 45 = .ok (.isub, 1) := by decide +kernel
theorem dX13_codeOf_46 : decode cX13_codeOf 46 = .ok (.ishl, 1) := by decide +kernel
theorem dX13_codeOf_47 : decode cX13_codeOf 47 = .ok (.goto 4, 3) := by decide +kernel
theorem dX13_codeOf_50 : decode cX13_codeOf 50 = .ok (.iconst 0, 1) := by decide +kernel
theorem dX13_codeOf_51 : decode cX13_codeOf 51 = .ok (.iadd, 1) := by decide +kernel
theorem dX13_codeOf_52 : decode cX13_codeOf 52 = .ok (.istore_n 3, 1) := by decide +kernel
theorem dX13_codeOf_53 : decode cX13_codeOf 53 = .ok (.iinc 4 1, 3) := by decide +kernel
theorem dX13_codeOf_56 : decode cX13_codeOf 56 = .ok (.goto (-51), 3) := by decide +kernel
theorem dX13_codeOf_59 : decode cX13_codeOf 59 = .ok (.iload_n 3, 1) := by decide +kernel
theorem dX13_codeOf_60 : decode cX13_codeOf 60 = .ok (.ifCond .ne 5, 3) := by decide +kernel
theorem dX13_codeOf_63 : decode cX13_codeOf 63 = .ok (.iconst 0, 1) := by decide +kernel
theorem dX13_codeOf_64 : decode cX13_codeOf 64 = .ok (.ireturn, 1) := by decide +kernel
theorem dX13_codeOf_65 : decode cX13_codeOf 65 = .ok (.iload_n 3, 1) := by decide +kernel
theorem dX13_codeOf_66 : decode cX13_codeOf 66 = .ok (.invokestatic 206, 3) := by decide +kernel
theorem dX13_codeOf_69 : decode cX13_codeOf 69 = .ok (.iconst 1, 1) := by decide +kernel
theorem dX13_codeOf_70 : decode cX13_codeOf 70 = .ok (.iadd, 1) := by decide +kernel
theorem dX13_codeOf_71 : decode cX13_codeOf 71 = .ok (.istore 4, 2) := by decide +kernel
theorem dX13_codeOf_73 : decode cX13_codeOf 73 = .ok (.iconst 1, 1) := by decide +kernel
theorem dX13_codeOf_74 : decode cX13_codeOf 74 = .ok (.iload 4, 2) := by decide +kernel
theorem dX13_codeOf_76 : decode cX13_codeOf 76 = .ok (.ishl, 1) := by decide +kernel
theorem dX13_codeOf_77 : decode cX13_codeOf 77 = .ok (.iload_n 3, 1) := by decide +kernel
theorem dX13_codeOf_78 : decode cX13_codeOf 78 = .ok (.isub, 1) := by decide +kernel
theorem dX13_codeOf_79 : decode cX13_codeOf 79 = .ok (.istore 5, 2) := by decide +kernel
theorem dX13_codeOf_81 : decode cX13_codeOf 81 = .ok (.iload 4, 2) := by decide +kernel
theorem dX13_codeOf_83 : decode cX13_codeOf 83 = .ok (.bipush 11, 2) := by decide +kernel
theorem dX13_codeOf_85 : decode cX13_codeOf 85 = .ok (.if_icmp .gt 13, 3) := by decide +kernel
theorem dX13_codeOf_88 : decode cX13_codeOf 88 = .ok (.iload 5, 2) := by decide +kernel
theorem dX13_codeOf_90 : decode cX13_codeOf 90 = .ok (.iload 5, 2) := by decide +kernel
theorem dX13_codeOf_92 : decode cX13_codeOf 92 = .ok (.iconst 1, 1) := by decide +kernel
theorem dX13_codeOf_93 : decode cX13_codeOf 93 = .ok (.isub, 1) := by decide +kernel
theorem dX13_codeOf_94 : decode cX13_codeOf 94 = .ok (.iand, 1) := by decide +kernel
theorem dX13_codeOf_95 : decode cX13_codeOf 95 = .ok (.ifCond .eq 5, 3) := by decide +kernel
theorem dX13_codeOf_98 : decode cX13_codeOf 98 = .ok (.iconst 0, 1) := by decide +kernel
theorem dX13_codeOf_99 : decode cX13_codeOf 99 = .ok (.ireturn, 1) := by decide +kernel
theorem dX13_codeOf_100 : decode cX13_codeOf 100 = .ok (.aload_n 0, 1) := by decide +kernel
theorem dX13_codeOf_101 : decode cX13_codeOf 101 = .ok (.getfield 59, 3) := by decide +kernel
theorem dX13_codeOf_104 : decode cX13_codeOf 104 = .ok (.iload_n 2, 1) := by decide +kernel
theorem dX13_codeOf_105 : decode cX13_codeOf 105 = .ok (.iload 5, 2) := by decide +kernel
theorem dX13_codeOf_107 : decode cX13_codeOf 107 = .ok (.invokestatic 206, 3) := by decide +kernel
theorem dX13_codeOf_110 : decode cX13_codeOf 110 = .ok (.iconst 1, 1) := by decide +kernel
theorem dX13_codeOf_111 : decode cX13_codeOf 111 = .ok (.iadd, 1) := by decide +kernel
theorem dX13_codeOf_112 : decode cX13_codeOf 112 = .ok (.iastore, 1) := by decide +kernel
theorem dX13_codeOf_113 : decode cX13_codeOf 113 = .ok (.aload_n 0, 1) := by decide +kernel
theorem dX13_codeOf_114 : decode cX13_codeOf 114 = .ok (.getfield 50, 3) := by decide +kernel
theorem dX13_codeOf_117 : decode cX13_codeOf 117 = .ok (.iload_n 1, 1) := by decide +kernel
theorem dX13_codeOf_118 : decode cX13_codeOf 118 = .ok (.iconst 1, 1) := by decide +kernel
theorem dX13_codeOf_119 : decode cX13_codeOf 119 = .ok (.bastore, 1) := by decide +kernel
theorem dX13_codeOf_120 : decode cX13_codeOf 120 = .ok (.aload_n 0, 1) := by decide +kernel
theorem dX13_codeOf_121 : decode cX13_codeOf 121 = .ok (.getfield 53, 3) := by decide +kernel
theorem dX13_codeOf_124 : decode cX13_codeOf 124 = .ok (.iload_n 1, 1) := by decide +kernel
theorem dX13_codeOf_125 : decode cX13_codeOf 125 = .ok (.iload 4, 2) := by decide +kernel
theorem dX13_codeOf_127 : decode cX13_codeOf 127 = .ok (.iastore, 1) := by decide +kernel
theorem dX13_codeOf_128 : decode cX13_codeOf 128 = .ok (.iconst 0, 1) := by decide +kernel
theorem dX13_codeOf_129 : decode cX13_codeOf 129 = .ok (.istore 6, 2) := by decide +kernel
theorem dX13_codeOf_131 : decode cX13_codeOf 131 = .ok (.iload 6, 2) := by decide +kernel
theorem dX13_codeOf_133 : decode cX13_codeOf 133 = .ok (.sipush 256, 3) := by decide +kernel
theorem dX13_codeOf_136 : decode cX13_codeOf 136 = .ok (.if_icmp .ge 54, 3) := by decide +kernel
theorem dX13_codeOf_139 : decode cX13_codeOf 139 = .ok (.aload_n 0, 1) := by decide +kernel
theorem dX13_codeOf_140 : decode cX13_codeOf 140 = .ok (.getfield 47, 3) := by decide +kernel
theorem dX13_codeOf_143 : decode cX13_codeOf 143 = .ok (.sipush 256, 3) := by decide +kernel
theorem dX13_codeOf_146 : decode cX13_codeOf 146 = .ok (.iload_n 1, 1) := by decide +kernel
theorem dX13_codeOf_147 : decode cX13_codeOf 147 = .ok (.imul, 1) := by decide +kernel
theorem dX13_codeOf_148 : decode cX13_codeOf 148 = .ok (.iload 6, 2) := by decide +kernel
theorem dX13_codeOf_150 : decode cX13_codeOf 150 = .ok (.iadd, 1) := by decide +kernel
theorem dX13_codeOf_151 : decode cX13_codeOf 151 = .ok (.iload 6, 2) := by decide +kernel
theorem dX13_codeOf_153 : decode cX13_codeOf 153 = .ok (.iload_n 2, 1) := by decide +kernel
theorem dX13_codeOf_154 : decode cX13_codeOf 154 = .ok (.if_icmp .gt 28, 3) := by decide +kernel
theorem dX13_codeOf_157 : decode cX13_codeOf 157 = .ok (.aload_n 0, 1) := by decide +kernel
theorem dX13_codeOf_158 : decode cX13_codeOf 158 = .ok (.getfield 59, 3) := by decide +kernel
theorem dX13_codeOf_161 : decode cX13_codeOf 161 = .ok (.iload 6, 2) := by decide +kernel
theorem dX13_codeOf_163 : decode cX13_codeOf 163 = .ok (.iaload, 1) := by decide +kernel
theorem dX13_codeOf_164 : decode cX13_codeOf 164 = .ok (.ifCond .le 18, 3) := by decide +kernel
theorem dX13_codeOf_167 : decode cX13_codeOf 167 = .ok (.iload 4, 2) := by decide +kernel
theorem dX13_codeOf_169 : decode cX13_codeOf 169 = .ok (.iconst 1, 1) := by decide +kernel
theorem dX13_codeOf_170 : decode cX13_codeOf 170 = .ok (.iadd, 1) := by decide +kernel
theorem dX13_codeOf_171 : decode cX13_codeOf 171 = .ok (.aload_n 0, 1) := by decide +kernel
theorem dX13_codeOf_172 : decode cX13_codeOf 172 = .ok (.getfield 59, 3) := by decide +kernel
theorem dX13_codeOf_175 : decode cX13_codeOf 175 = .ok (.iload 6, 2) := by decide +kernel
theorem dX13_codeOf_177 : decode cX13_codeOf 177 = .ok (.iaload, 1) := by decide +kernel
theorem dX13_codeOf_178 : decode cX13_codeOf 178 = .ok (.isub, 1) := by decide +kernel
theorem dX13_codeOf_179 : decode cX13_codeOf 179 = .ok (.goto 4, 3) := by decide +kernel
theorem dX13_codeOf_182 : decode cX13_codeOf 182 = .ok (.iconst 0, 1) := by decide +kernel
theorem dX13_codeOf_183 : decode cX13_codeOf 183 = .ok (.iastore, 1) := by decide +kernel
theorem dX13_codeOf_184 : decode cX13_codeOf 184 = .ok (.iinc 6 1, 3) := by decide +kernel
theorem dX13_codeOf_187 : decode cX13_codeOf 187 = .ok (.goto (-56), 3) := by decide +kernel
theorem dX13_codeOf_190 : decode cX13_codeOf 190 = .ok (.iconst 0, 1) := by decide +kernel
theorem dX13_codeOf_191 : decode cX13_codeOf 191 = .ok (.istore 6, 2) := by decide +kernel
theorem dX13_codeOf_193 : decode cX13_codeOf 193 = .ok (.iconst 1, 1) := by decide +kernel
theorem dX13_codeOf_194 : decode cX13_codeOf 194 = .ok (.istore 7, 2) := by decide +kernel
theorem dX13_codeOf_196 : decode cX13_codeOf 196 = .ok (.iload 7, 2) := by decide +kernel
theorem dX13_codeOf_198 : decode cX13_codeOf 198 = .ok (.iload 4, 2) := by decide +kernel
theorem dX13_codeOf_200 : decode cX13_codeOf 200 = .ok (.if_icmp .gt 75, 3) := by decide +kernel
theorem dX13_codeOf_203 : decode cX13_codeOf 203 = .ok (.iconst 0, 1) := by decide +kernel
theorem dX13_codeOf_204 : decode cX13_codeOf 204 = .ok (.istore 8, 2) := by decide +kernel
theorem dX13_codeOf_206 : decode cX13_codeOf 206 = .ok (.iload 8, 2) := by decide +kernel
theorem dX13_codeOf_208 : decode cX13_codeOf 208 = .ok (.iload_n 2, 1) := by decide +kernel
theorem dX13_codeOf_209 : decode cX13_codeOf 209 = .ok (.if_icmp .gt 60, 3) := by decide +kernel
theorem dX13_codeOf_212 : decode cX13_codeOf 212 = .ok (.iconst 0, 1) := by decide +kernel
theorem dX13_codeOf_213 : decode cX13_codeOf 213 = .ok (.istore 9, 2) := by decide +kernel
theorem dX13_codeOf_215 : decode cX13_codeOf 215 = .ok (.aload_n 0, 1) := by decide +kernel
theorem dX13_codeOf_216 : decode cX13_codeOf 216 = .ok (.getfield 59, 3) := by decide +kernel
theorem dX13_codeOf_219 : decode cX13_codeOf 219 = .ok (.iload 8, 2) := by decide +kernel
theorem dX13_codeOf_221 : decode cX13_codeOf 221 = .ok (.iaload, 1) := by decide +kernel
theorem dX13_codeOf_222 : decode cX13_codeOf 222 = .ok (.iload 7, 2) := by decide +kernel
theorem dX13_codeOf_224 : decode cX13_codeOf 224 = .ok (.if_icmp .ne 39, 3) := by decide +kernel
theorem dX13_codeOf_227 : decode cX13_codeOf 227 = .ok (.iload 9, 2) := by decide +kernel
theorem dX13_codeOf_229 : decode cX13_codeOf 229 = .ok (.iconst 1, 1) := by decide +kernel
theorem dX13_codeOf_230 : decode cX13_codeOf 230 = .ok (.iload 7, 2) := by decide +kernel
theorem dX13_codeOf_232 : decode cX13_codeOf 232 = .ok (.iconst 1, 1) := by decide +kernel
theorem dX13_codeOf_233 : decode cX13_codeOf 233 = .ok (.isub, 1) := by decide +kernel
theorem dX13_codeOf_234 : decode cX13_codeOf 234 = .ok (.ishl, 1) := by decide +kernel
theorem dX13_codeOf_235 : decode cX13_codeOf 235 = .ok (.if_icmp .ge 28, 3) := by decide +kernel
theorem dX13_codeOf_238 : decode cX13_codeOf 238 = .ok (.aload_n 0, 1) := by decide +kernel
theorem dX13_codeOf_239 : decode cX13_codeOf 239 = .ok (.getfield 56, 3) := by decide +kernel
theorem dX13_codeOf_242 : decode cX13_codeOf 242 = .ok (.sipush 2048, 3) := by decide +kernel
theorem dX13_codeOf_245 : decode cX13_codeOf 245 = .ok (.iload_n 1, 1) := by decide +kernel
theorem dX13_codeOf_246 : decode cX13_codeOf 246 = .ok (.imul, 1) := by decide +kernel
theorem dX13_codeOf_247 : decode cX13_codeOf 247 = .ok (.iload 6, 2) := by decide +kernel
theorem dX13_codeOf_249 : decode cX13_codeOf 249 = .ok (.iadd, 1) := by decide +kernel
theorem dX13_codeOf_250 : decode cX13_codeOf 250 = .ok (.iload 8, 2) := by decide +kernel
theorem dX13_codeOf_252 : decode cX13_codeOf 252 = .ok (.i2s, 1) := by decide +kernel
theorem dX13_codeOf_253 : decode cX13_codeOf 253 = .ok (.sastore, 1) := by decide +kernel
theorem dX13_codeOf_254 : decode cX13_codeOf 254 = .ok (.iinc 6 1, 3) := by decide +kernel
theorem dX13_codeOf_257 : decode cX13_codeOf 257 = .ok (.iinc 9 1, 3) := by decide +kernel
theorem dX13_codeOf_260 : decode cX13_codeOf 260 = .ok (.goto (-45), 3) := by decide +kernel
theorem dX13_codeOf_263 : decode cX13_codeOf 263 = .ok (.iinc 8 1, 3) := by decide +kernel
theorem dX13_codeOf_266 : decode cX13_codeOf 266 = .ok (.goto (-60), 3) := by decide +kernel
theorem dX13_codeOf_269 : decode cX13_codeOf 269 = .ok (.iinc 7 1, 3) := by decide +kernel
theorem dX13_codeOf_272 : decode cX13_codeOf 272 = .ok (.goto (-76), 3) := by decide +kernel
theorem dX13_codeOf_275 : decode cX13_codeOf 275 = .ok (.iconst 1, 1) := by decide +kernel
theorem dX13_codeOf_276 : decode cX13_codeOf 276 = .ok (.ireturn, 1) := by decide +kernel
theorem dX13_keep_0 : decode cX13_keep 0 = .ok (.aload_n 0, 1) := by decide +kernel
theorem dX13_keep_1 : decode cX13_keep 1 = .ok (.getfield 150, 3) := by decide +kernel
theorem dX13_keep_4 : decode cX13_keep 4 = .ok (.sipush 3000, 3) := by decide +kernel
theorem dX13_keep_7 : decode cX13_keep 7 = .ok (.if_icmp .le 6, 3) := by decide +kernel
theorem dX13_keep_10 : decode cX13_keep 10 = .ok (.bipush (-4), 2) := by decide +kernel
theorem dX13_keep_12 : decode cX13_keep 12 = .ok (.ireturn, 1) := by decide +kernel
theorem dX13_keep_13 : decode cX13_keep 13 = .ok (.aload_n 0, 1) := by decide +kernel
theorem dX13_keep_14 : decode cX13_keep 14 = .ok (.iconst (-1), 1) := by decide +kernel
theorem dX13_keep_15 : decode cX13_keep 15 = .ok (.putfield 16, 3) := by decide +kernel
theorem dX13_keep_18 : decode cX13_keep 18 = .ok (.aload_n 0, 1) := by decide +kernel
theorem dX13_keep_19 : decode cX13_keep 19 = .ok (.iconst 0, 1) := by decide +kernel
theorem dX13_keep_20 : decode cX13_keep 20 = .ok (.putfield 158, 3) := by decide +kernel
theorem dX13_keep_23 : decode cX13_keep 23 = .ok (.aload_n 0, 1) := by decide +kernel
theorem dX13_keep_24 : decode cX13_keep 24 = .ok (.getfield 150, 3) := by decide +kernel
theorem dX13_keep_27 : decode cX13_keep 27 = .ok (.ifCond .ne 20, 3) := by decide +kernel
theorem dX13_keep_30 : decode cX13_keep 30 = .ok (.aload_n 0, 1) := by decide +kernel
theorem dX13_keep_31 : decode cX13_keep 31 = .ok (.iconst 0, 1) := by decide +kernel
theorem dX13_keep_32 : decode cX13_keep 32 = .ok (.putfield 245, 3) := by decide +kernel
theorem dX13_keep_35 : decode cX13_keep 35 = .ok (.aload_n 0, 1) := by decide +kernel
theorem dX13_keep_36 : decode cX13_keep 36 = .ok (.iconst 0, 1) := by decide +kernel
theorem dX13_keep_37 : decode cX13_keep 37 = .ok (.putfield 248, 3) := by decide +kernel
theorem dX13_keep_40 : decode cX13_keep 40 = .ok (.aload_n 0, 1) := by decide +kernel
theorem dX13_keep_41 : decode cX13_keep 41 = .ok (.iconst 0, 1) := by decide +kernel
theorem dX13_keep_42 : decode cX13_keep 42 = .ok (.putfield 251, 3) := by decide +kernel
theorem dX13_keep_45 : decode cX13_keep 45 = .ok (.iconst 0, 1) := by decide +kernel
theorem dX13_keep_46 : decode cX13_keep 46 = .ok (.ireturn, 1) := by decide +kernel
theorem dX13_keep_47 : decode cX13_keep 47 = .ok (.aload_n 0, 1) := by decide +kernel
theorem dX13_keep_48 : decode cX13_keep 48 = .ok (.getfield 150, 3) := by decide +kernel
theorem dX13_keep_51 : decode cX13_keep 51 = .ok (.iconst 4, 1) := by decide +kernel
theorem dX13_keep_52 : decode cX13_keep 52 = .ok (.if_icmp .lt 19, 3) := by decide +kernel
theorem dX13_keep_55 : decode cX13_keep 55 = .ok (.aload_n 0, 1) := by decide +kernel
theorem dX13_keep_56 : decode cX13_keep 56 = .ok (.getfield 7, 3) := by decide +kernel
theorem dX13_keep_59 : decode cX13_keep 59 = .ok (.iconst 0, 1) := by decide +kernel
theorem dX13_keep_60 : decode cX13_keep 60 = .ok (.iconst 4, 1) := by decide +kernel
theorem dX13_keep_61 : decode cX13_keep 61 = .ok (.invokestatic 175, 3) := by decide +kernel
theorem dX13_keep_64 : decode cX13_keep 64 = .ok (.ldc2_w 254, 3) := by decide +kernel
theorem dX13_keep_67 : decode cX13_keep 67 = .ok (.lcmp, 1) := by decide +kernel
theorem dX13_keep_68 : decode cX13_keep 68 = .ok (.ifCond .eq 25, 3) := by decide +kernel
theorem dX13_keep_71 : decode cX13_keep 71 = .ok (.aload_n 0, 1) := by decide +kernel
theorem dX13_keep_72 : decode cX13_keep 72 = .ok (.iconst 1, 1) := by decide +kernel
theorem dX13_keep_73 : decode cX13_keep 73 = .ok (.putfield 245, 3) := by decide +kernel
theorem dX13_keep_76 : decode cX13_keep 76 = .ok (.aload_n 0, 1) := by decide +kernel
theorem dX13_keep_77 : decode cX13_keep 77 = .ok (.iconst 0, 1) := by decide +kernel
theorem dX13_keep_78 : decode cX13_keep 78 = .ok (.putfield 248, 3) := by decide +kernel
theorem dX13_keep_81 : decode cX13_keep 81 = .ok (.aload_n 0, 1) := by decide +kernel
theorem dX13_keep_82 : decode cX13_keep 82 = .ok (.iconst 0, 1) := by decide +kernel
theorem dX13_keep_83 : decode cX13_keep 83 = .ok (.putfield 251, 3) := by decide +kernel
theorem dX13_keep_86 : decode cX13_keep 86 = .ok (.aload_n 0, 1) := by decide +kernel
theorem dX13_keep_87 : decode cX13_keep 87 = .ok (.iconst 0, 1) := by decide +kernel
theorem dX13_keep_88 : decode cX13_keep 88 = .ok (.invokevirtual 256, 3) := by decide +kernel
theorem dX13_keep_91 : decode cX13_keep 91 = .ok (.iconst 0, 1) := by decide +kernel
theorem dX13_keep_92 : decode cX13_keep 92 = .ok (.ireturn, 1) := by decide +kernel
theorem dX13_keep_93 : decode cX13_keep 93 = .ok (.aload_n 0, 1) := by decide +kernel
theorem dX13_keep_94 : decode cX13_keep 94 = .ok (.invokevirtual 259, 3) := by decide +kernel
theorem dX13_keep_97 : decode cX13_keep 97 = .ok (.istore_n 1, 1) := by decide +kernel
theorem dX13_keep_98 : decode cX13_keep 98 = .ok (.iload_n 1, 1) := by decide +kernel
theorem dX13_keep_99 : decode cX13_keep 99 = .ok (.ifCond .ge 14, 3) := by decide +kernel
theorem dX13_keep_102 : decode cX13_keep 102 = .ok (.aload_n 0, 1) := by decide +kernel
theorem dX13_keep_103 : decode cX13_keep 103 = .ok (.bipush 21, 2) := by decide +kernel
theorem dX13_keep_105 : decode cX13_keep 105 = .ok (.iconst 0, 1) := by decide +kernel
theorem dX13_keep_106 : decode cX13_keep 106 = .ok (.invokevirtual 263, 3) := by decide +kernel
theorem dX13_keep_109 : decode cX13_keep 109 = .ok (.pop, 1) := by decide +kernel
theorem dX13_keep_110 : decode cX13_keep 110 = .ok (.bipush (-31), 2) := by decide +kernel
theorem dX13_keep_112 : decode cX13_keep 112 = .ok (.ireturn, 1) := by decide +kernel
theorem dX13_keep_113 : decode cX13_keep 113 = .ok (.iconst 0, 1) := by decide +kernel
theorem dX13_keep_114 : decode cX13_keep 114 = .ok (.istore_n 2, 1) := by decide +kernel
theorem dX13_keep_115 : decode cX13_keep 115 = .ok (.iload_n 2, 1) := by decide +kernel
theorem dX13_keep_116 : decode cX13_keep 116 = .ok (.iconst 3, 1) := by decide +kernel
theorem dX13_keep_117 : decode cX13_keep 117 = .ok (.if_icmp .ge 20, 3) := by decide +kernel
theorem dX13_keep_120 : decode cX13_keep 120 = .ok (.aload_n 0, 1) := by decide +kernel
theorem dX13_keep_121 : decode cX13_keep 121 = .ok (.bipush 7, 2) := by decide +kernel
theorem dX13_keep_123 : decode cX13_keep 123 = .ok (.iload_n 2, 1) := by decide +kernel
theorem dX13_keep_124 : decode cX13_keep 124 = .ok (.iadd, 1) := by decide +kernel
theorem dX13_keep_125 : decode cX13_keep 125 = .ok (.iconst 3, 1) := by decide +kernel
theorem dX13_keep_126 : decode cX13_keep 126 = .ok (.iload_n 2, 1) := by decide +kernel
theorem dX13_keep_127 : decode cX13_keep 127 = .ok (.iadd, 1) := by decide +kernel
theorem dX13_keep_128 : decode cX13_keep 128 = .ok (.invokevirtual 266, 3) := by decide +kernel
theorem dX13_keep_131 : decode cX13_keep 131 = .ok (.iinc 2 1, 3) := by decide +kernel
theorem dX13_keep_134 : decode cX13_keep 134 = .ok (.goto (-19), 3) := by decide +kernel
theorem dX13_keep_137 : decode cX13_keep 137 = .ok (.aload_n 0, 1) := by decide +kernel
theorem dX13_keep_138 : decode cX13_keep 138 = .ok (.iconst 2, 1) := by decide +kernel
theorem dX13_keep_139 : decode cX13_keep 139 = .ok (.iconst 1, 1) := by decide +kernel
theorem dX13_keep_140 : decode cX13_keep 140 = .ok (.invokevirtual 270, 3) := by decide +kernel
theorem dX13_keep_143 : decode cX13_keep 143 = .ok (.iconst 0, 1) := by decide +kernel
theorem dX13_keep_144 : decode cX13_keep 144 = .ok (.istore_n 2, 1) := by decide +kernel
theorem dX13_keep_145 : decode cX13_keep 145 = .ok (.iload_n 2, 1) := by decide +kernel
theorem dX13_keep_146 : decode cX13_keep 146 = .ok (.iconst 3, 1) := by decide +kernel
theorem dX13_keep_147 : decode cX13_keep 147 = .ok (.if_icmp .ge 29, 3) := by decide +kernel
theorem dX13_keep_150 : decode cX13_keep 150 = .ok (.aload_n 0, 1) := by decide +kernel
theorem dX13_keep_151 : decode cX13_keep 151 = .ok (.getfield 65, 3) := by decide +kernel
theorem dX13_keep_154 : decode cX13_keep 154 = .ok (.iload_n 2, 1) := by decide +kernel
theorem dX13_keep_155 : decode cX13_keep 155 = .ok (.aload_n 0, 1) := by decide +kernel
theorem dX13_keep_156 : decode cX13_keep 156 = .ok (.getfield 7, 3) := by decide +kernel
theorem dX13_keep_159 : decode cX13_keep 159 = .ok (.iload_n 1, 1) := by decide +kernel
theorem dX13_keep_160 : decode cX13_keep 160 = .ok (.iconst 4, 1) := by decide +kernel
theorem dX13_keep_161 : decode cX13_keep 161 = .ok (.iload_n 2, 1) := by decide +kernel
theorem dX13_keep_162 : decode cX13_keep 162 = .ok (.imul, 1) := by decide +kernel
theorem dX13_keep_163 : decode cX13_keep 163 = .ok (.iadd, 1) := by decide +kernel
theorem dX13_keep_164 : decode cX13_keep 164 = .ok (.iconst 4, 1) := by decide +kernel
theorem dX13_keep_165 : decode cX13_keep 165 = .ok (.invokestatic 175, 3) := by decide +kernel
theorem dX13_keep_168 : decode cX13_keep 168 = .ok (.l2i, 1) := by decide +kernel
theorem dX13_keep_169 : decode cX13_keep 169 = .ok (.iastore, 1) := by decide +kernel
theorem dX13_keep_170 : decode cX13_keep 170 = .ok (.iinc 2 1, 3) := by decide +kernel
theorem dX13_keep_173 : decode cX13_keep 173 = .ok (.goto (-28), 3) := by decide +kernel
theorem dX13_keep_176 : decode cX13_keep 176 = .ok (.aload_n 0, 1) := by decide +kernel
theorem dX13_keep_177 : decode cX13_keep 177 = .ok (.iconst 1, 1) := by decide +kernel
theorem dX13_keep_178 : decode cX13_keep 178 = .ok (.putfield 245, 3) := by decide +kernel
theorem dX13_keep_181 : decode cX13_keep 181 = .ok (.aload_n 0, 1) := by decide +kernel
theorem dX13_keep_182 : decode cX13_keep 182 = .ok (.iconst 1, 1) := by decide +kernel
theorem dX13_keep_183 : decode cX13_keep 183 = .ok (.putfield 248, 3) := by decide +kernel
theorem dX13_keep_186 : decode cX13_keep 186 = .ok (.aload_n 0, 1) := by decide +kernel
theorem dX13_keep_187 : decode cX13_keep 187 = .ok (.aload_n 0, 1) := by decide +kernel
theorem dX13_keep_188 : decode cX13_keep 188 = .ok (.getfield 7, 3) := by decide +kernel
theorem dX13_keep_191 : decode cX13_keep 191 = .ok (.iconst 4, 1) := by decide +kernel
theorem dX13_keep_192 : decode cX13_keep 192 = .ok (.iconst 4, 1) := by decide +kernel
theorem dX13_keep_193 : decode cX13_keep 193 = .ok (.invokestatic 175, 3) := by decide +kernel
theorem dX13_keep_196 : decode cX13_keep 196 = .ok (.l2i, 1) := by decide +kernel
theorem dX13_keep_197 : decode cX13_keep 197 = .ok (.putfield 251, 3) := by decide +kernel
theorem dX13_keep_200 : decode cX13_keep 200 = .ok (.aload_n 0, 1) := by decide +kernel
theorem dX13_keep_201 : decode cX13_keep 201 = .ok (.iload_n 1, 1) := by decide +kernel
theorem dX13_keep_202 : decode cX13_keep 202 = .ok (.bipush 12, 2) := by decide +kernel
theorem dX13_keep_204 : decode cX13_keep 204 = .ok (.iadd, 1) := by decide +kernel
theorem dX13_keep_205 : decode cX13_keep 205 = .ok (.invokevirtual 256, 3) := by decide +kernel
theorem dX13_keep_208 : decode cX13_keep 208 = .ok (.aload_n 0, 1) := by decide +kernel
theorem dX13_keep_209 : decode cX13_keep 209 = .ok (.getfield 251, 3) := by decide +kernel
theorem dX13_keep_212 : decode cX13_keep 212 = .ok (.ireturn, 1) := by decide +kernel
theorem dX13_content_0 : decode cX13_content 0 = .ok (.aload_n 0, 1) := by decide +kernel
theorem dX13_content_1 : decode cX13_content 1 = .ok (.aload_n 0, 1) := by decide +kernel
theorem dX13_content_2 : decode cX13_content 2 = .ok (.getfield 150, 3) := by decide +kernel
theorem dX13_content_5 : decode cX13_content 5 = .ok (.iload_n 1, 1) := by decide +kernel
theorem dX13_content_6 : decode cX13_content 6 = .ok (.isub, 1) := by decide +kernel
theorem dX13_content_7 : decode cX13_content 7 = .ok (.putfield 273, 3) := by decide +kernel
theorem dX13_content_10 : decode cX13_content 10 = .ok (.iconst 0, 1) := by decide +kernel
theorem dX13_content_11 : decode cX13_content 11 = .ok (.istore_n 2, 1) := by decide +kernel
theorem dX13_content_12 : decode cX13_content 12 = .ok (.iload_n 2, 1) := by decide +kernel
theorem dX13_content_13 : decode cX13_content 13 = .ok (.aload_n 0, 1) := by decide +kernel
theorem dX13_content_14 : decode cX13_content 14 = .ok (.getfield 273, 3) := by decide +kernel
theorem dX13_content_17 : decode cX13_content 17 = .ok (.if_icmp .ge 23, 3) := by decide +kernel
theorem dX13_content_20 : decode cX13_content 20 = .ok (.aload_n 0, 1) := by decide +kernel
theorem dX13_content_21 : decode cX13_content 21 = .ok (.getfield 62, 3) := by decide +kernel
theorem dX13_content_24 : decode cX13_content 24 = .ok (.iload_n 2, 1) := by decide +kernel
theorem dX13_content_25 : decode cX13_content 25 = .ok (.aload_n 0, 1) := by decide +kernel
theorem dX13_content_26 : decode cX13_content 26 = .ok (.getfield 7, 3) := by decide +kernel
theorem dX13_content_29 : decode cX13_content 29 = .ok (.iload_n 1, 1) := by decide +kernel
theorem dX13_content_30 : decode cX13_content 30 = .ok (.iload_n 2, 1) := by decide +kernel
theorem dX13_content_31 : decode cX13_content 31 = .ok (.iadd, 1) := by decide +kernel
theorem dX13_content_32 : decode cX13_content 32 = .ok (.baload, 1) := by decide +kernel
theorem dX13_content_33 : decode cX13_content 33 = .ok (.bastore, 1) := by decide +kernel
theorem dX13_content_34 : decode cX13_content 34 = .ok (.iinc 2 1, 3) := by decide +kernel
theorem dX13_content_37 : decode cX13_content 37 = .ok (.goto (-25), 3) := by decide +kernel
theorem dX13_content_40 : decode cX13_content 40 = .ok (.return_, 1) := by decide +kernel
theorem dX13_tabled_0 : decode cX13_tabled 0 = .ok (.aload_n 0, 1) := by decide +kernel
theorem dX13_tabled_1 : decode cX13_tabled 1 = .ok (.aload_n 0, 1) := by decide +kernel
theorem dX13_tabled_2 : decode cX13_tabled 2 = .ok (.getfield 7, 3) := by decide +kernel
theorem dX13_tabled_5 : decode cX13_tabled 5 = .ok (.putfield 20, 3) := by decide +kernel
theorem dX13_tabled_8 : decode cX13_tabled 8 = .ok (.aload_n 0, 1) := by decide +kernel
theorem dX13_tabled_9 : decode cX13_tabled 9 = .ok (.getfield 150, 3) := by decide +kernel
theorem dX13_tabled_12 : decode cX13_tabled 12 = .ok (.bipush 8, 2) := by decide +kernel
theorem dX13_tabled_14 : decode cX13_tabled 14 = .ok (.if_icmp .lt 17, 3) := by decide +kernel
theorem dX13_tabled_17 : decode cX13_tabled 17 = .ok (.aload_n 0, 1) := by decide +kernel
theorem dX13_tabled_18 : decode cX13_tabled 18 = .ok (.getfield 7, 3) := by decide +kernel
theorem dX13_tabled_21 : decode cX13_tabled 21 = .ok (.iconst 4, 1) := by decide +kernel
theorem dX13_tabled_22 : decode cX13_tabled 22 = .ok (.iconst 4, 1) := by decide +kernel
theorem dX13_tabled_23 : decode cX13_tabled 23 = .ok (.invokestatic 175, 3) := by decide +kernel
theorem dX13_tabled_26 : decode cX13_tabled 26 = .ok (.lconst 0, 1) := by decide +kernel
theorem dX13_tabled_27 : decode cX13_tabled 27 = .ok (.lcmp, 1) := by decide +kernel
theorem dX13_tabled_28 : decode cX13_tabled 28 = .ok (.ifCond .ne 5, 3) := by decide +kernel
theorem dX13_tabled_31 : decode cX13_tabled 31 = .ok (.iconst (-1), 1) := by decide +kernel
theorem dX13_tabled_32 : decode cX13_tabled 32 = .ok (.ireturn, 1) := by decide +kernel
theorem dX13_tabled_33 : decode cX13_tabled 33 = .ok (.aload_n 0, 1) := by decide +kernel
theorem dX13_tabled_34 : decode cX13_tabled 34 = .ok (.iconst 2, 1) := by decide +kernel
theorem dX13_tabled_35 : decode cX13_tabled 35 = .ok (.bipush 8, 2) := by decide +kernel
theorem dX13_tabled_37 : decode cX13_tabled 37 = .ok (.aload_n 0, 1) := by decide +kernel
theorem dX13_tabled_38 : decode cX13_tabled 38 = .ok (.getfield 150, 3) := by decide +kernel
theorem dX13_tabled_41 : decode cX13_tabled 41 = .ok (.invokevirtual 276, 3) := by decide +kernel
theorem dX13_tabled_44 : decode cX13_tabled 44 = .ok (.istore_n 1, 1) := by decide +kernel
theorem dX13_tabled_45 : decode cX13_tabled 45 = .ok (.iconst 0, 1) := by decide +kernel
theorem dX13_tabled_46 : decode cX13_tabled 46 = .ok (.istore_n 2, 1) := by decide +kernel
theorem dX13_tabled_47 : decode cX13_tabled 47 = .ok (.iload_n 2, 1) := by decide +kernel
theorem dX13_tabled_48 : decode cX13_tabled 48 = .ok (.iconst 3, 1) := by decide +kernel
theorem dX13_tabled_49 : decode cX13_tabled 49 = .ok (.if_icmp .ge 62, 3) := by decide +kernel
theorem dX13_tabled_52 : decode cX13_tabled 52 = .ok (.iload_n 1, 1) := by decide +kernel
theorem dX13_tabled_53 : decode cX13_tabled 53 = .ok (.ifCond .lt 58, 3) := by decide +kernel
theorem dX13_tabled_56 : decode cX13_tabled 56 = .ok (.iload_n 2, 1) := by decide +kernel
theorem dX13_tabled_57 : decode cX13_tabled 57 = .ok (.ifCond .ne 7, 3) := by decide +kernel
theorem dX13_tabled_60 : decode cX13_tabled 60 = .ok (.iconst 1, 1) := by decide +kernel
theorem dX13_tabled_61 : decode cX13_tabled 61 = .ok (.goto 13, 3) := by decide +kernel
theorem dX13_tabled_64 : decode cX13_tabled 64 = .ok (.iload_n 2, 1) := by decide +kernel
theorem dX13_tabled_65 : decode cX13_tabled 65 = .ok (.iconst 1, 1) := by decide +kernel
theorem dX13_tabled_66 : decode cX13_tabled 66 = .ok (.if_icmp .ne 7, 3) := by decide +kernel
theorem dX13_tabled_69 : decode cX13_tabled 69 = .ok (.iconst 2, 1) := by decide +kernel
theorem dX13_tabled_70 : decode cX13_tabled 70 = .ok (.goto 4, 3) := by decide +kernel
theorem dX13_tabled_73 : decode cX13_tabled 73 = .ok (.iconst 0, 1) := by decide +kernel
theorem dX13_tabled_74 : decode cX13_tabled 74 = .ok (.istore_n 3, 1) := by decide +kernel
theorem dX13_tabled_75 : decode cX13_tabled 75 = .ok (.aload_n 0, 1) := by decide +kernel
theorem dX13_tabled_76 : decode cX13_tabled 76 = .ok (.iload_n 1, 1) := by decide +kernel
theorem dX13_tabled_77 : decode cX13_tabled 77 = .ok (.aload_n 0, 1) := by decide +kernel
theorem dX13_tabled_78 : decode cX13_tabled 78 = .ok (.getfield 150, 3) := by decide +kernel
theorem dX13_tabled_81 : decode cX13_tabled 81 = .ok (.iload_n 3, 1) := by decide +kernel
theorem dX13_tabled_82 : decode cX13_tabled 82 = .ok (.invokestatic 219, 3) := by decide +kernel
theorem dX13_tabled_85 : decode cX13_tabled 85 = .ok (.iload_n 3, 1) := by decide +kernel
theorem dX13_tabled_86 : decode cX13_tabled 86 = .ok (.invokestatic 280, 3) := by decide +kernel
theorem dX13_tabled_89 : decode cX13_tabled 89 = .ok (.invokevirtual 226, 3) := by decide +kernel
theorem dX13_tabled_92 : decode cX13_tabled 92 = .ok (.istore_n 1, 1) := by decide +kernel
theorem dX13_tabled_93 : decode cX13_tabled 93 = .ok (.iload_n 1, 1) := by decide +kernel
theorem dX13_tabled_94 : decode cX13_tabled 94 = .ok (.ifCond .lt 11, 3) := by decide +kernel
theorem dX13_tabled_97 : decode cX13_tabled 97 = .ok (.aload_n 0, 1) := by decide +kernel
theorem dX13_tabled_98 : decode cX13_tabled 98 = .ok (.bipush 7, 2) := by decide +kernel
theorem dX13_tabled_100 : decode cX13_tabled 100 = .ok (.iload_n 3, 1) := by decide +kernel
theorem dX13_tabled_101 : decode cX13_tabled 101 = .ok (.iadd, 1) := by decide +kernel
theorem dX13_tabled_102 : decode cX13_tabled 102 = .ok (.invokevirtual 222, 3) := by decide +kernel
theorem dX13_tabled_105 : decode cX13_tabled 105 = .ok (.iinc 2 1, 3) := by decide +kernel
theorem dX13_tabled_108 : decode cX13_tabled 108 = .ok (.goto (-61), 3) := by decide +kernel
theorem dX13_tabled_111 : decode cX13_tabled 111 = .ok (.iload_n 1, 1) := by decide +kernel
theorem dX13_tabled_112 : decode cX13_tabled 112 = .ok (.ifCond .lt 14, 3) := by decide +kernel
theorem dX13_tabled_115 : decode cX13_tabled 115 = .ok (.aload_n 0, 1) := by decide +kernel
theorem dX13_tabled_116 : decode cX13_tabled 116 = .ok (.getfield 150, 3) := by decide +kernel
theorem dX13_tabled_119 : decode cX13_tabled 119 = .ok (.iload_n 1, 1) := by decide +kernel
theorem dX13_tabled_120 : decode cX13_tabled 120 = .ok (.isub, 1) := by decide +kernel
theorem dX13_tabled_121 : decode cX13_tabled 121 = .ok (.bipush 12, 2) := by decide +kernel
theorem dX13_tabled_123 : decode cX13_tabled 123 = .ok (.if_icmp .ge 5, 3) := by decide +kernel
theorem dX13_tabled_126 : decode cX13_tabled 126 = .ok (.iconst (-1), 1) := by decide +kernel
theorem dX13_tabled_127 : decode cX13_tabled 127 = .ok (.ireturn, 1) := by decide +kernel
theorem dX13_tabled_128 : decode cX13_tabled 128 = .ok (.iconst 0, 1) := by decide +kernel
theorem dX13_tabled_129 : decode cX13_tabled 129 = .ok (.istore_n 2, 1) := by decide +kernel
theorem dX13_tabled_130 : decode cX13_tabled 130 = .ok (.iload_n 2, 1) := by decide +kernel
theorem dX13_tabled_131 : decode cX13_tabled 131 = .ok (.iconst 3, 1) := by decide +kernel
theorem dX13_tabled_132 : decode cX13_tabled 132 = .ok (.if_icmp .ge 46, 3) := by decide +kernel
theorem dX13_tabled_135 : decode cX13_tabled 135 = .ok (.aload_n 0, 1) := by decide +kernel
theorem dX13_tabled_136 : decode cX13_tabled 136 = .ok (.getfield 7, 3) := by decide +kernel
theorem dX13_tabled_139 : decode cX13_tabled 139 = .ok (.iload_n 1, 1) := by decide +kernel
theorem dX13_tabled_140 : decode cX13_tabled 140 = .ok (.iconst 4, 1) := by decide +kernel
theorem dX13_tabled_141 : decode cX13_tabled 141 = .ok (.iload_n 2, 1) := by decide +kernel
theorem dX13_tabled_142 : decode cX13_tabled 142 = .ok (.imul, 1) := by decide +kernel
theorem dX13_tabled_143 : decode cX13_tabled 143 = .ok (.iadd, 1) := by decide +kernel
theorem dX13_tabled_144 : decode cX13_tabled 144 = .ok (.iconst 4, 1) := by decide +kernel
theorem dX13_tabled_145 : decode cX13_tabled 145 = .ok (.invokestatic 175, 3) := by decide +kernel
theorem dX13_tabled_148 : decode cX13_tabled 148 = .ok (.lstore_n 3, 1) := by decide +kernel
theorem dX13_tabled_149 : decode cX13_tabled 149 = .ok (.lload_n 3, 1) := by decide +kernel
theorem dX13_tabled_150 : decode cX13_tabled 150 = .ok (.lconst 0, 1) := by decide +kernel
theorem dX13_tabled_151 : decode cX13_tabled 151 = .ok (.lcmp, 1) := by decide +kernel
theorem dX13_tabled_152 : decode cX13_tabled 152 = .ok (.ifCond .eq 18, 3) := by decide +kernel
theorem dX13_tabled_155 : decode cX13_tabled 155 = .ok (.lload_n 3, 1) := by decide +kernel
theorem dX13_tabled_156 : decode cX13_tabled 156 = .ok (.aload_n 0, 1) := by decide +kernel
theorem dX13_tabled_157 : decode cX13_tabled 157 = .ok (.getfield 150, 3) := by decide +kernel
theorem dX13_tabled_160 : decode cX13_tabled 160 = .ok (.iload_n 1, 1) := by decide +kernel
theorem dX13_tabled_161 : decode cX13_tabled 161 = .ok (.isub, 1) := by decide +kernel
theorem dX13_tabled_162 : decode cX13_tabled 162 = .ok (.bipush 12, 2) := by decide +kernel
theorem dX13_tabled_164 : decode cX13_tabled 164 = .ok (.isub, 1) := by decide +kernel
theorem dX13_tabled_165 : decode cX13_tabled 165 = .ok (.i2l, 1) := by decide +kernel
theorem dX13_tabled_166 : decode cX13_tabled 166 = .ok (.lcmp, 1) := by decide +kernel
theorem dX13_tabled_167 : decode cX13_tabled 167 = .ok (.ifCond .le 5, 3) := by decide +kernel
theorem dX13_tabled_170 : decode cX13_tabled 170 = .ok (.iconst (-1), 1) := by decide +kernel
theorem dX13_tabled_171 : decode cX13_tabled 171 = .ok (.ireturn, 1) := by decide +kernel
theorem dX13_tabled_172 : decode cX13_tabled 172 = .ok (.iinc 2 1, 3) := by decide +kernel
theorem dX13_tabled_175 : decode cX13_tabled 175 = .ok (.goto (-45), 3) := by decide +kernel
theorem dX13_tabled_178 : decode cX13_tabled 178 = .ok (.iload_n 1, 1) := by decide +kernel
theorem dX13_tabled_179 : decode cX13_tabled 179 = .ok (.ireturn, 1) := by decide +kernel
theorem dX13_wants_0 : decode cX13_wants 0 = .ok (.aload_n 0, 1) := by decide +kernel
theorem dX13_wants_1 : decode cX13_wants 1 = .ok (.getfield 150, 3) := by decide +kernel
theorem dX13_wants_4 : decode cX13_wants 4 = .ok (.aload_n 0, 1) := by decide +kernel
theorem dX13_wants_5 : decode cX13_wants 5 = .ok (.getfield 283, 3) := by decide +kernel
theorem dX13_wants_8 : decode cX13_wants 8 = .ok (.isub, 1) := by decide +kernel
theorem dX13_wants_9 : decode cX13_wants 9 = .ok (.iload_n 1, 1) := by decide +kernel
theorem dX13_wants_10 : decode cX13_wants 10 = .ok (.if_icmp .ge 15, 3) := by decide +kernel
theorem dX13_wants_13 : decode cX13_wants 13 = .ok (.aload_n 0, 1) := by decide +kernel
theorem dX13_wants_14 : decode cX13_wants 14 = .ok (.iconst 1, 1) := by decide +kernel
theorem dX13_wants_15 : decode cX13_wants 15 = .ok (.aload_n 0, 1) := by decide +kernel
theorem dX13_wants_16 : decode cX13_wants 16 = .ok (.getfield 150, 3) := by decide +kernel
theorem dX13_wants_19 : decode cX13_wants 19 = .ok (.invokevirtual 263, 3) := by decide +kernel
theorem dX13_wants_22 : decode cX13_wants 22 = .ok (.ifCond .eq 7, 3) := by decide +kernel
theorem dX13_wants_25 : decode cX13_wants 25 = .ok (.iconst 1, 1) := by decide +kernel
theorem dX13_wants_26 : decode cX13_wants 26 = .ok (.goto 4, 3) := by decide +kernel
theorem dX13_wants_29 : decode cX13_wants 29 = .ok (.iconst 0, 1) := by decide +kernel
theorem dX13_wants_30 : decode cX13_wants 30 = .ok (.ireturn, 1) := by decide +kernel
theorem dX13_open_0 : decode cX13_open 0 = .ok (.lload_n 1, 1) := by decide +kernel
theorem dX13_open_1 : decode cX13_open 1 = .ok (.lconst 0, 1) := by decide +kernel
theorem dX13_open_2 : decode cX13_open 2 = .ok (.lcmp, 1) := by decide +kernel
theorem dX13_open_3 : decode cX13_open 3 = .ok (.ifCond .ge 6, 3) := by decide +kernel
theorem dX13_open_6 : decode cX13_open 6 = .ok (.bipush (-2), 2) := by decide +kernel
theorem dX13_open_8 : decode cX13_open 8 = .ok (.ireturn, 1) := by decide +kernel
theorem dX13_open_9 : decode cX13_open 9 = .ok (.aload_n 0, 1) := by decide +kernel
theorem dX13_open_10 : decode cX13_open 10 = .ok (.iconst 0, 1) := by decide +kernel
theorem dX13_open_11 : decode cX13_open 11 = .ok (.putfield 158, 3) := by decide +kernel
theorem dX13_open_14 : decode cX13_open 14 = .ok (.aload_n 0, 1) := by decide +kernel
theorem dX13_open_15 : decode cX13_open 15 = .ok (.iconst (-1), 1) := by decide +kernel
theorem dX13_open_16 : decode cX13_open 16 = .ok (.putfield 16, 3) := by decide +kernel
theorem dX13_open_19 : decode cX13_open 19 = .ok (.aload_n 0, 1) := by decide +kernel
theorem dX13_open_20 : decode cX13_open 20 = .ok (.aload_n 0, 1) := by decide +kernel
theorem dX13_open_21 : decode cX13_open 21 = .ok (.getfield 7, 3) := by decide +kernel
theorem dX13_open_24 : decode cX13_open 24 = .ok (.putfield 20, 3) := by decide +kernel
theorem dX13_open_27 : decode cX13_open 27 = .ok (.aload_n 0, 1) := by decide +kernel
theorem dX13_open_28 : decode cX13_open 28 = .ok (.iconst 0, 1) := by decide +kernel
theorem dX13_open_29 : decode cX13_open 29 = .ok (.putfield 286, 3) := by decide +kernel
theorem dX13_open_32 : decode cX13_open 32 = .ok (.aload_n 0, 1) := by decide +kernel
theorem dX13_open_33 : decode cX13_open 33 = .ok (.iconst 0, 1) := by decide +kernel
theorem dX13_open_34 : decode cX13_open 34 = .ok (.putfield 289, 3) := by decide +kernel
theorem dX13_open_37 : decode cX13_open 37 = .ok (.iconst 0, 1) := by decide +kernel
theorem dX13_open_38 : decode cX13_open 38 = .ok (.istore_n 3, 1) := by decide +kernel
theorem dX13_open_39 : decode cX13_open 39 = .ok (.iload_n 3, 1) := by decide +kernel
theorem dX13_open_40 : decode cX13_open 40 = .ok (.bipush 12, 2) := by decide +kernel
theorem dX13_open_42 : decode cX13_open 42 = .ok (.if_icmp .ge 16, 3) := by decide +kernel
theorem dX13_open_45 : decode cX13_open 45 = .ok (.aload_n 0, 1) := by decide +kernel
theorem dX13_open_46 : decode cX13_open 46 = .ok (.getfield 89, 3) := by decide +kernel
theorem dX13_open_49 : decode cX13_open 49 = .ok (.iload_n 3, 1) := by decide +kernel
theorem dX13_open_50 : decode cX13_open 50 = .ok (.iconst 0, 1) := by decide +kernel
theorem dX13_open_51 : decode cX13_open 51 = .ok (.iastore, 1) := by decide +kernel
theorem dX13_open_52 : decode cX13_open 52 = .ok (.iinc 3 1, 3) := by decide +kernel
theorem dX13_open_55 : decode cX13_open 55 = .ok (.goto (-16), 3) := by decide +kernel
theorem dX13_open_58 : decode cX13_open 58 = .ok (.iconst 0, 1) := by decide +kernel
theorem dX13_open_59 : decode cX13_open 59 = .ok (.istore_n 3, 1) := by decide +kernel
theorem dX13_open_60 : decode cX13_open 60 = .ok (.iload_n 3, 1) := by decide +kernel
theorem dX13_open_61 : decode cX13_open 61 = .ok (.iconst 3, 1) := by decide +kernel
theorem dX13_open_62 : decode cX13_open 62 = .ok (.if_icmp .ge 23, 3) := by decide +kernel
theorem dX13_open_65 : decode cX13_open 65 = .ok (.aload_n 0, 1) := by decide +kernel
theorem dX13_open_66 : decode cX13_open 66 = .ok (.getfield 40, 3) := by decide +kernel
theorem dX13_open_69 : decode cX13_open 69 = .ok (.iload_n 3, 1) := by decide +kernel
theorem dX13_open_70 : decode cX13_open 70 = .ok (.iconst 0, 1) := by decide +kernel
theorem dX13_open_71 : decode cX13_open 71 = .ok (.bastore, 1) := by decide +kernel
theorem dX13_open_72 : decode cX13_open 72 = .ok (.aload_n 0, 1) := by decide +kernel
theorem dX13_open_73 : decode cX13_open 73 = .ok (.getfield 85, 3) := by decide +kernel
theorem dX13_open_76 : decode cX13_open 76 = .ok (.iload_n 3, 1) := by decide +kernel
theorem dX13_open_77 : decode cX13_open 77 = .ok (.lconst 0, 1) := by decide +kernel
theorem dX13_open_78 : decode cX13_open 78 = .ok (.lastore, 1) := by decide +kernel
theorem dX13_open_79 : decode cX13_open 79 = .ok (.iinc 3 1, 3) := by decide +kernel
theorem dX13_open_82 : decode cX13_open 82 = .ok (.goto (-22), 3) := by decide +kernel
theorem dX13_open_85 : decode cX13_open 85 = .ok (.aload_n 0, 1) := by decide +kernel
theorem dX13_open_86 : decode cX13_open 86 = .ok (.getfield 50, 3) := by decide +kernel
theorem dX13_open_89 : decode cX13_open 89 = .ok (.iconst 0, 1) := by decide +kernel
theorem dX13_open_90 : decode cX13_open 90 = .ok (.iconst 0, 1) := by decide +kernel
theorem dX13_open_91 : decode cX13_open 91 = .ok (.bastore, 1) := by decide +kernel
theorem dX13_open_92 : decode cX13_open 92 = .ok (.aload_n 0, 1) := by decide +kernel
theorem dX13_open_93 : decode cX13_open 93 = .ok (.iconst 0, 1) := by decide +kernel
theorem dX13_open_94 : decode cX13_open 94 = .ok (.putfield 283, 3) := by decide +kernel
theorem dX13_open_97 : decode cX13_open 97 = .ok (.aload_n 0, 1) := by decide +kernel
theorem dX13_open_98 : decode cX13_open 98 = .ok (.getfield 283, 3) := by decide +kernel
theorem dX13_open_101 : decode cX13_open 101 = .ok (.aload_n 0, 1) := by decide +kernel
theorem dX13_open_102 : decode cX13_open 102 = .ok (.getfield 150, 3) := by decide +kernel
theorem dX13_open_105 : decode cX13_open 105 = .ok (.if_icmp .ge 18, 3) := by decide +kernel
theorem dX13_open_108 : decode cX13_open 108 = .ok (.aload_n 0, 1) := by decide +kernel
theorem dX13_open_109 : decode cX13_open 109 = .ok (.getfield 158, 3) := by decide +kernel
theorem dX13_open_112 : decode cX13_open 112 = .ok (.ifCond .ne 11, 3) := by decide +kernel
theorem dX13_open_115 : decode cX13_open 115 = .ok (.aload_n 0, 1) := by decide +kernel
theorem dX13_open_116 : decode cX13_open 116 = .ok (.lload_n 1, 1) := by decide +kernel
theorem dX13_open_117 : decode cX13_open 117 = .ok (.invokevirtual 292, 3) := by decide +kernel
theorem dX13_open_120 : decode cX13_open 120 = .ok (.goto (-23), 3) := by decide +kernel
theorem dX13_open_123 : decode cX13_open 123 = .ok (.iconst 0, 1) := by decide +kernel
theorem dX13_open_124 : decode cX13_open 124 = .ok (.istore_n 3, 1) := by decide +kernel
theorem dX13_open_125 : decode cX13_open 125 = .ok (.iload_n 3, 1) := by decide +kernel
theorem dX13_open_126 : decode cX13_open 126 = .ok (.iconst 3, 1) := by decide +kernel
theorem dX13_open_127 : decode cX13_open 127 = .ok (.if_icmp .ge 25, 3) := by decide +kernel
theorem dX13_open_130 : decode cX13_open 130 = .ok (.aload_n 0, 1) := by decide +kernel
theorem dX13_open_131 : decode cX13_open 131 = .ok (.getfield 89, 3) := by decide +kernel
theorem dX13_open_134 : decode cX13_open 134 = .ok (.bipush 6, 2) := by decide +kernel
theorem dX13_open_136 : decode cX13_open 136 = .ok (.iload_n 3, 1) := by decide +kernel
theorem dX13_open_137 : decode cX13_open 137 = .ok (.iadd, 1) := by decide +kernel
theorem dX13_open_138 : decode cX13_open 138 = .ok (.aload_n 0, 1) := by decide +kernel
theorem dX13_open_139 : decode cX13_open 139 = .ok (.getfield 85, 3) := by decide +kernel
theorem dX13_open_142 : decode cX13_open 142 = .ok (.iload_n 3, 1) := by decide +kernel
theorem dX13_open_143 : decode cX13_open 143 = .ok (.laload, 1) := by decide +kernel
theorem dX13_open_144 : decode cX13_open 144 = .ok (.l2i, 1) := by decide +kernel
theorem dX13_open_145 : decode cX13_open 145 = .ok (.iastore, 1) := by decide +kernel
theorem dX13_open_146 : decode cX13_open 146 = .ok (.iinc 3 1, 3) := by decide +kernel
theorem dX13_open_149 : decode cX13_open 149 = .ok (.goto (-24), 3) := by decide +kernel
theorem dX13_open_152 : decode cX13_open 152 = .ok (.aload_n 0, 1) := by decide +kernel
theorem dX13_open_153 : decode cX13_open 153 = .ok (.getfield 158, 3) := by decide +kernel
theorem dX13_open_156 : decode cX13_open 156 = .ok (.ifCond .le 11, 3) := by decide +kernel
theorem dX13_open_159 : decode cX13_open 159 = .ok (.bipush (-10), 2) := by decide +kernel
theorem dX13_open_161 : decode cX13_open 161 = .ok (.aload_n 0, 1) := by decide +kernel
theorem dX13_open_162 : decode cX13_open 162 = .ok (.getfield 158, 3) := by decide +kernel
theorem dX13_open_165 : decode cX13_open 165 = .ok (.isub, 1) := by decide +kernel
theorem dX13_open_166 : decode cX13_open 166 = .ok (.ireturn, 1) := by decide +kernel
theorem dX13_open_167 : decode cX13_open 167 = .ok (.iconst 0, 1) := by decide +kernel
theorem dX13_open_168 : decode cX13_open 168 = .ok (.istore_n 3, 1) := by decide +kernel
theorem dX13_open_169 : decode cX13_open 169 = .ok (.iload_n 3, 1) := by decide +kernel
theorem dX13_open_170 : decode cX13_open 170 = .ok (.aload_n 0, 1) := by decide +kernel
theorem dX13_open_171 : decode cX13_open 171 = .ok (.getfield 286, 3) := by decide +kernel
theorem dX13_open_174 : decode cX13_open 174 = .ok (.if_icmp .ge 21, 3) := by decide +kernel
theorem dX13_open_177 : decode cX13_open 177 = .ok (.aload_n 0, 1) := by decide +kernel
theorem dX13_open_178 : decode cX13_open 178 = .ok (.getfield 13, 3) := by decide +kernel
theorem dX13_open_181 : decode cX13_open 181 = .ok (.iload_n 3, 1) := by decide +kernel
theorem dX13_open_182 : decode cX13_open 182 = .ok (.aload_n 0, 1) := by decide +kernel
theorem dX13_open_183 : decode cX13_open 183 = .ok (.getfield 71, 3) := by decide +kernel
theorem dX13_open_186 : decode cX13_open 186 = .ok (.iload_n 3, 1) := by decide +kernel
theorem dX13_open_187 : decode cX13_open 187 = .ok (.baload, 1) := by decide +kernel
theorem dX13_open_188 : decode cX13_open 188 = .ok (.bastore, 1) := by decide +kernel
theorem dX13_open_189 : decode cX13_open 189 = .ok (.iinc 3 1, 3) := by decide +kernel
theorem dX13_open_192 : decode cX13_open 192 = .ok (.goto (-23), 3) := by decide +kernel
theorem dX13_open_195 : decode cX13_open 195 = .ok (.aload_n 0, 1) := by decide +kernel
theorem dX13_open_196 : decode cX13_open 196 = .ok (.aload_n 0, 1) := by decide +kernel
theorem dX13_open_197 : decode cX13_open 197 = .ok (.getfield 286, 3) := by decide +kernel
theorem dX13_open_200 : decode cX13_open 200 = .ok (.putfield 155, 3) := by decide +kernel
theorem dX13_open_203 : decode cX13_open 203 = .ok (.aload_n 0, 1) := by decide +kernel
theorem dX13_open_204 : decode cX13_open 204 = .ok (.getfield 155, 3) := by decide +kernel
theorem dX13_open_207 : decode cX13_open 207 = .ok (.ireturn, 1) := by decide +kernel
theorem dX13_frame_0 : decode cX13_frame 0 = .ok (.aload_n 0, 1) := by decide +kernel
theorem dX13_frame_1 : decode cX13_frame 1 = .ok (.getfield 283, 3) := by decide +kernel
theorem dX13_frame_4 : decode cX13_frame 4 = .ok (.istore_n 3, 1) := by decide +kernel
theorem dX13_frame_5 : decode cX13_frame 5 = .ok (.aload_n 0, 1) := by decide +kernel
theorem dX13_frame_6 : decode cX13_frame 6 = .ok (.iconst 4, 1) := by decide +kernel
theorem dX13_frame_7 : decode cX13_frame 7 = .ok (.invokevirtual 296, 3) := by decide +kernel
theorem dX13_frame_10 : decode cX13_frame 10 = .ok (.ifCond .ne 4, 3) := by decide +kernel
theorem dX13_frame_13 : decode cX13_frame 13 = .ok (.return_, 1) := by decide +kernel
theorem dX13_frame_14 : decode cX13_frame 14 = .ok (.aload_n 0, 1) := by decide +kernel
theorem dX13_frame_15 : decode cX13_frame 15 = .ok (.getfield 7, 3) := by decide +kernel
theorem dX13_frame_18 : decode cX13_frame 18 = .ok (.aload_n 0, 1) := by decide +kernel
theorem dX13_frame_19 : decode cX13_frame 19 = .ok (.getfield 283, 3) := by decide +kernel
theorem dX13_frame_22 : decode cX13_frame 22 = .ok (.iconst 4, 1) := by decide +kernel
theorem dX13_frame_23 : decode cX13_frame 23 = .ok (.invokestatic 175, 3) := by decide +kernel
theorem dX13_frame_26 : decode cX13_frame 26 = .ok (.lstore 4, 2) := by decide +kernel
theorem dX13_frame_28 : decode cX13_frame 28 = .ok (.aload_n 0, 1) := by decide +kernel
theorem dX13_frame_29 : decode cX13_frame 29 = .ok (.dup, 1) := by decide +kernel
theorem dX13_frame_30 : decode cX13_frame 30 = .ok (.getfield 283, 3) := by decide +kernel
theorem dX13_frame_33 : decode cX13_frame 33 = .ok (.iconst 4, 1) := by decide +kernel
theorem dX13_frame_34 : decode cX13_frame 34 = .ok (.iadd, 1) := by decide +kernel
theorem dX13_frame_35 : decode cX13_frame 35 = .ok (.putfield 283, 3) := by decide +kernel
theorem dX13_frame_38 : decode cX13_frame 38 = .ok (.lload 4, 2) := by decide +kernel
theorem dX13_frame_40 : decode cX13_frame 40 = .ok (.ldc2_w 300, 3) := by decide +kernel
theorem dX13_frame_43 : decode cX13_frame 43 = .ok (.lcmp, 1) := by decide +kernel
theorem dX13_frame_44 : decode cX13_frame 44 = .ok (.ifCond .lt 98, 3) := by decide +kernel
theorem dX13_frame_47 : decode cX13_frame 47 = .ok (.lload 4, 2) := by decide +kernel
theorem dX13_frame_49 : decode cX13_frame 49 = .ok (.ldc2_w 302, 3) := by decide +kernel
theorem dX13_frame_52 : decode cX13_frame 52 = .ok (.lcmp, 1) := by decide +kernel
theorem dX13_frame_53 : decode cX13_frame 53 = .ok (.ifCond .gt 89, 3) := by decide +kernel
theorem dX13_frame_56 : decode cX13_frame 56 = .ok (.aload_n 0, 1) := by decide +kernel
theorem dX13_frame_57 : decode cX13_frame 57 = .ok (.iconst 4, 1) := by decide +kernel
theorem dX13_frame_58 : decode cX13_frame 58 = .ok (.invokevirtual 296, 3) := by decide +kernel
theorem dX13_frame_61 : decode cX13_frame 61 = .ok (.ifCond .ne 4, 3) := by decide +kernel
theorem dX13_frame_64 : decode cX13_frame 64 = .ok (.return_, 1) := by decide +kernel
theorem dX13_frame_65 : decode cX13_frame 65 = .ok (.aload_n 0, 1) := by decide +kernel
theorem dX13_frame_66 : decode cX13_frame 66 = .ok (.getfield 7, 3) := by decide +kernel
theorem dX13_frame_69 : decode cX13_frame 69 = .ok (.aload_n 0, 1) := by decide +kernel
theorem dX13_frame_70 : decode cX13_frame 70 = .ok (.getfield 283, 3) := by decide +kernel
theorem dX13_frame_73 : decode cX13_frame 73 = .ok (.iconst 4, 1) := by decide +kernel
theorem dX13_frame_74 : decode cX13_frame 74 = .ok (.invokestatic 175, 3) := by decide +kernel
theorem dX13_frame_77 : decode cX13_frame 77 = .ok (.lstore 6, 2) := by decide +kernel
theorem dX13_frame_79 : decode cX13_frame 79 = .ok (.aload_n 0, 1) := by decide +kernel
theorem dX13_frame_80 : decode cX13_frame 80 = .ok (.dup, 1) := by decide +kernel
theorem dX13_frame_81 : decode cX13_frame 81 = .ok (.getfield 283, 3) := by decide +kernel
theorem dX13_frame_84 : decode cX13_frame 84 = .ok (.iconst 4, 1) := by decide +kernel
theorem dX13_frame_85 : decode cX13_frame 85 = .ok (.iadd, 1) := by decide +kernel
theorem dX13_frame_86 : decode cX13_frame 86 = .ok (.putfield 283, 3) := by decide +kernel
theorem dX13_frame_89 : decode cX13_frame 89 = .ok (.aload_n 0, 1) := by decide +kernel
theorem dX13_frame_90 : decode cX13_frame 90 = .ok (.getfield 150, 3) := by decide +kernel
theorem dX13_frame_93 : decode cX13_frame 93 = .ok (.aload_n 0, 1) := by decide +kernel
theorem dX13_frame_94 : decode cX13_frame 94 = .ok (.getfield 283, 3) := by decide +kernel
theorem dX13_frame_97 : decode cX13_frame 97 = .ok (.isub, 1) := by decide +kernel
theorem dX13_frame_98 : decode cX13_frame 98 = .ok (.i2l, 1) := by decide +kernel
theorem dX13_frame_99 : decode cX13_frame 99 = .ok (.lload 6, 2) := by decide +kernel
theorem dX13_frame_101 : decode cX13_frame 101 = .ok (.lcmp, 1) := by decide +kernel
theorem dX13_frame_102 : decode cX13_frame 102 = .ok (.ifCond .ge 14, 3) := by decide +kernel
theorem dX13_frame_105 : decode cX13_frame 105 = .ok (.aload_n 0, 1) := by decide +kernel
theorem dX13_frame_106 : decode cX13_frame 106 = .ok (.iconst 1, 1) := by decide +kernel
theorem dX13_frame_107 : decode cX13_frame 107 = .ok (.aload_n 0, 1) := by decide +kernel
theorem dX13_frame_108 : decode cX13_frame 108 = .ok (.getfield 150, 3) := by decide +kernel
theorem dX13_frame_111 : decode cX13_frame 111 = .ok (.invokevirtual 263, 3) := by decide +kernel
theorem dX13_frame_114 : decode cX13_frame 114 = .ok (.pop, 1) := by decide +kernel
theorem dX13_frame_115 : decode cX13_frame 115 = .ok (.return_, 1) := by decide +kernel
theorem dX13_frame_116 : decode cX13_frame 116 = .ok (.aload_n 0, 1) := by decide +kernel
theorem dX13_frame_117 : decode cX13_frame 117 = .ok (.dup, 1) := by decide +kernel
theorem dX13_frame_118 : decode cX13_frame 118 = .ok (.getfield 283, 3) := by decide +kernel
theorem dX13_frame_121 : decode cX13_frame 121 = .ok (.lload 6, 2) := by decide +kernel
theorem dX13_frame_123 : decode cX13_frame 123 = .ok (.l2i, 1) := by decide +kernel
theorem dX13_frame_124 : decode cX13_frame 124 = .ok (.iadd, 1) := by decide +kernel
theorem dX13_frame_125 : decode cX13_frame 125 = .ok (.putfield 283, 3) := by decide +kernel
theorem dX13_frame_128 : decode cX13_frame 128 = .ok (.aload_n 0, 1) := by decide +kernel
theorem dX13_frame_129 : decode cX13_frame 129 = .ok (.getfield 89, 3) := by decide +kernel
theorem dX13_frame_132 : decode cX13_frame 132 = .ok (.bipush 11, 2) := by decide +kernel
theorem dX13_frame_134 : decode cX13_frame 134 = .ok (.dup2, 1) := by decide +kernel
theorem dX13_frame_135 : decode cX13_frame 135 = .ok (.iaload, 1) := by decide +kernel
theorem dX13_frame_136 : decode cX13_frame 136 = .ok (.iconst 1, 1) := by decide +kernel
theorem dX13_frame_137 : decode cX13_frame 137 = .ok (.iadd, 1) := by decide +kernel
theorem dX13_frame_138 : decode cX13_frame 138 = .ok (.iastore, 1) := by decide +kernel
theorem dX13_frame_139 : decode cX13_frame 139 = .ok (.goto 27, 3) := by decide +kernel
theorem dX13_frame_142 : decode cX13_frame 142 = .ok (.lload 4, 2) := by decide +kernel
theorem dX13_frame_144 : decode cX13_frame 144 = .ok (.ldc2_w 304, 3) := by decide +kernel
theorem dX13_frame_147 : decode cX13_frame 147 = .ok (.lcmp, 1) := by decide +kernel
theorem dX13_frame_148 : decode cX13_frame 148 = .ok (.ifCond .eq 13, 3) := by decide +kernel
theorem dX13_frame_151 : decode cX13_frame 151 = .ok (.aload_n 0, 1) := by decide +kernel
theorem dX13_frame_152 : decode cX13_frame 152 = .ok (.iconst 2, 1) := by decide +kernel
theorem dX13_frame_153 : decode cX13_frame 153 = .ok (.iload_n 3, 1) := by decide +kernel
theorem dX13_frame_154 : decode cX13_frame 154 = .ok (.invokevirtual 263, 3) := by decide +kernel
theorem dX13_frame_157 : decode cX13_frame 157 = .ok (.pop, 1) := by decide +kernel
theorem dX13_frame_158 : decode cX13_frame 158 = .ok (.goto 8, 3) := by decide +kernel
theorem dX13_frame_161 : decode cX13_frame 161 = .ok (.aload_n 0, 1) := by decide +kernel
theorem dX13_frame_162 : decode cX13_frame 162 = .ok (.lload_n 1, 1) := by decide +kernel
theorem dX13_frame_163 : decode cX13_frame 163 = .ok (.invokevirtual 306, 3) := by decide +kernel
theorem dX13_frame_166 : decode cX13_frame 166 = .ok (.return_, 1) := by decide +kernel
theorem dX13_head_0 : decode cX13_head 0 = .ok (.aload_n 0, 1) := by decide +kernel
theorem dX13_head_1 : decode cX13_head 1 = .ok (.iconst 1, 1) := by decide +kernel
theorem dX13_head_2 : decode cX13_head 2 = .ok (.invokevirtual 296, 3) := by decide +kernel
theorem dX13_head_5 : decode cX13_head 5 = .ok (.ifCond .ne 4, 3) := by decide +kernel
theorem dX13_head_8 : decode cX13_head 8 = .ok (.return_, 1) := by decide +kernel
theorem dX13_head_9 : decode cX13_head 9 = .ok (.aload_n 0, 1) := by decide +kernel
theorem dX13_head_10 : decode cX13_head 10 = .ok (.getfield 7, 3) := by decide +kernel
theorem dX13_head_13 : decode cX13_head 13 = .ok (.aload_n 0, 1) := by decide +kernel
theorem dX13_head_14 : decode cX13_head 14 = .ok (.getfield 283, 3) := by decide +kernel
theorem dX13_head_17 : decode cX13_head 17 = .ok (.baload, 1) := by decide +kernel
theorem dX13_head_18 : decode cX13_head 18 = .ok (.sipush 255, 3) := by decide +kernel
theorem dX13_head_21 : decode cX13_head 21 = .ok (.iand, 1) := by decide +kernel
theorem dX13_head_22 : decode cX13_head 22 = .ok (.istore_n 3, 1) := by decide +kernel
theorem dX13_head_23 : decode cX13_head 23 = .ok (.iload_n 3, 1) := by decide +kernel
theorem dX13_head_24 : decode cX13_head 24 = .ok (.bipush 8, 2) := by decide +kernel
theorem dX13_head_26 : decode cX13_head 26 = .ok (.iand, 1) := by decide +kernel
theorem dX13_head_27 : decode cX13_head 27 = .ok (.ifCond .le 14, 3) := by decide +kernel
theorem dX13_head_30 : decode cX13_head 30 = .ok (.aload_n 0, 1) := by decide +kernel
theorem dX13_head_31 : decode cX13_head 31 = .ok (.iconst 3, 1) := by decide +kernel
theorem dX13_head_32 : decode cX13_head 32 = .ok (.aload_n 0, 1) := by decide +kernel
theorem dX13_head_33 : decode cX13_head 33 = .ok (.getfield 283, 3) := by decide +kernel
theorem dX13_head_36 : decode cX13_head 36 = .ok (.invokevirtual 263, 3) := by decide +kernel
theorem dX13_head_39 : decode cX13_head 39 = .ok (.pop, 1) := by decide +kernel
theorem dX13_head_40 : decode cX13_head 40 = .ok (.return_, 1) := by decide +kernel
theorem dX13_head_41 : decode cX13_head 41 = .ok (.aload_n 0, 1) := by decide +kernel
theorem dX13_head_42 : decode cX13_head 42 = .ok (.dup, 1) := by decide +kernel
theorem dX13_head_43 : decode cX13_head 43 = .ok (.getfield 283, 3) := by decide +kernel
theorem dX13_head_46 : decode cX13_head 46 = .ok (.iconst 1, 1) := by decide +kernel
theorem dX13_head_47 : decode cX13_head 47 = .ok (.iadd, 1) := by decide +kernel
theorem dX13_head_48 : decode cX13_head 48 = .ok (.putfield 283, 3) := by decide +kernel
theorem dX13_head_51 : decode cX13_head 51 = .ok (.iload_n 3, 1) := by decide +kernel
theorem dX13_head_52 : decode cX13_head 52 = .ok (.bipush 32, 2) := by decide +kernel
theorem dX13_head_54 : decode cX13_head 54 = .ok (.iand, 1) := by decide +kernel
theorem dX13_head_55 : decode cX13_head 55 = .ok (.ifCond .le 7, 3) := by decide +kernel
theorem dX13_head_58 : decode cX13_head 58 = .ok (.iconst 1, 1) := by decide +kernel
theorem dX13_head_59 : decode cX13_head 59 = .ok (.goto 4, 3) := by decide +kernel
theorem dX13_head_62 : decode cX13_head 62 = .ok (.iconst 0, 1) := by decide +kernel
theorem dX13_head_63 : decode cX13_head 63 = .ok (.istore 4, 2) := by decide +kernel
theorem dX13_head_65 : decode cX13_head 65 = .ok (.iload 4, 2) := by decide +kernel
theorem dX13_head_67 : decode cX13_head 67 = .ok (.ifCond .ne 89, 3) := by decide +kernel
theorem dX13_head_70 : decode cX13_head 70 = .ok (.aload_n 0, 1) := by decide +kernel
theorem dX13_head_71 : decode cX13_head 71 = .ok (.iconst 1, 1) := by decide +kernel
theorem dX13_head_72 : decode cX13_head 72 = .ok (.invokevirtual 296, 3) := by decide +kernel
theorem dX13_head_75 : decode cX13_head 75 = .ok (.ifCond .ne 4, 3) := by decide +kernel
theorem dX13_head_78 : decode cX13_head 78 = .ok (.return_, 1) := by decide +kernel
theorem dX13_head_79 : decode cX13_head 79 = .ok (.aload_n 0, 1) := by decide +kernel
theorem dX13_head_80 : decode cX13_head 80 = .ok (.getfield 7, 3) := by decide +kernel
theorem dX13_head_83 : decode cX13_head 83 = .ok (.aload_n 0, 1) := by decide +kernel
theorem dX13_head_84 : decode cX13_head 84 = .ok (.getfield 283, 3) := by decide +kernel
theorem dX13_head_87 : decode cX13_head 87 = .ok (.baload, 1) := by decide +kernel
theorem dX13_head_88 : decode cX13_head 88 = .ok (.sipush 255, 3) := by decide +kernel
theorem dX13_head_91 : decode cX13_head 91 = .ok (.iand, 1) := by decide +kernel
theorem dX13_head_92 : decode cX13_head 92 = .ok (.istore 5, 2) := by decide +kernel
theorem dX13_head_94 : decode cX13_head 94 = .ok (.lconst 1, 1) := by decide +kernel
theorem dX13_head_95 : decode cX13_head 95 = .ok (.bipush 10, 2) := by decide +kernel
theorem dX13_head_97 : decode cX13_head 97 = .ok (.iload 5, 2) := by decide +kernel
theorem dX13_head_99 : decode cX13_head 99 = .ok (.bipush 8, 2) := by decide +kernel
theorem dX13_head_101 : decode cX13_head 101 = .ok (.idiv, 1) := by decide +kernel
theorem dX13_head_102 : decode cX13_head 102 = .ok (.iadd, 1) := by decide +kernel
theorem dX13_head_103 : decode cX13_head 103 = .ok (.lshl, 1) := by decide +kernel
theorem dX13_head_104 : decode cX13_head 104 = .ok (.lstore 6, 2) := by decide +kernel
theorem dX13_head_106 : decode cX13_head 106 = .ok (.aload_n 0, 1) := by decide +kernel
theorem dX13_head_107 : decode cX13_head 107 = .ok (.lload 6, 2) := by decide +kernel
theorem dX13_head_109 : decode cX13_head 109 = .ok (.iload 5, 2) := by decide +kernel
theorem dX13_head_111 : decode cX13_head 111 = .ok (.bipush 8, 2) := by decide +kernel
theorem dX13_head_113 : decode cX13_head 113 = .ok (.irem, 1) := by decide +kernel
theorem dX13_head_114 : decode cX13_head 114 = .ok (.i2l, 1) := by decide +kernel
theorem dX13_head_115 : decode cX13_head 115 = .ok (.lload 6, 2) := by decide +kernel
theorem dX13_head_117 : decode cX13_head 117 = .ok (.ldc2_w 309, 3) := by decide +kernel
theorem dX13_head_120 : decode cX13_head 120 = .ok (.ldiv, 1) := by decide +kernel
theorem dX13_head_121 : decode cX13_head 121 = .ok (.lmul, 1) := by decide +kernel
theorem dX13_head_122 : decode cX13_head 122 = .ok (.ladd, 1) := by decide +kernel
theorem dX13_head_123 : decode cX13_head 123 = .ok (.putfield 311, 3) := by decide +kernel
theorem dX13_head_126 : decode cX13_head 126 = .ok (.aload_n 0, 1) := by decide +kernel
theorem dX13_head_127 : decode cX13_head 127 = .ok (.getfield 311, 3) := by decide +kernel
theorem dX13_head_130 : decode cX13_head 130 = .ok (.lload_n 1, 1) := by decide +kernel
theorem dX13_head_131 : decode cX13_head 131 = .ok (.lcmp, 1) := by decide +kernel
theorem dX13_head_132 : decode cX13_head 132 = .ok (.ifCond .le 14, 3) := by decide +kernel
theorem dX13_head_135 : decode cX13_head 135 = .ok (.aload_n 0, 1) := by decide +kernel
theorem dX13_head_136 : decode cX13_head 136 = .ok (.iconst 4, 1) := by decide +kernel
theorem dX13_head_137 : decode cX13_head 137 = .ok (.aload_n 0, 1) := by decide +kernel
theorem dX13_head_138 : decode cX13_head 138 = .ok (.getfield 283, 3) := by decide +kernel
theorem dX13_head_141 : decode cX13_head 141 = .ok (.invokevirtual 263, 3) := by decide +kernel
theorem dX13_head_144 : decode cX13_head 144 = .ok (.pop, 1) := by decide +kernel
theorem dX13_head_145 : decode cX13_head 145 = .ok (.return_, 1) := by decide +kernel
theorem dX13_head_146 : decode cX13_head 146 = .ok (.aload_n 0, 1) := by decide +kernel
theorem dX13_head_147 : decode cX13_head 147 = .ok (.dup, 1) := by decide +kernel
theorem dX13_head_148 : decode cX13_head 148 = .ok (.getfield 283, 3) := by decide +kernel
theorem dX13_head_151 : decode cX13_head 151 = .ok (.iconst 1, 1) := by decide +kernel
theorem dX13_head_152 : decode cX13_head 152 = .ok (.iadd, 1) := by decide +kernel
theorem dX13_head_153 : decode cX13_head 153 = .ok (.putfield 283, 3) := by decide +kernel
theorem dX13_head_156 : decode cX13_head 156 = .ok (.iload_n 3, 1) := by decide +kernel
theorem dX13_head_157 : decode cX13_head 157 = .ok (.iconst 3, 1) := by decide +kernel
theorem dX13_head_158 : decode cX13_head 158 = .ok (.iand, 1) := by decide +kernel
theorem dX13_head_159 : decode cX13_head 159 = .ok (.iconst 3, 1) := by decide +kernel
theorem dX13_head_160 : decode cX13_head 160 = .ok (.if_icmp .ne 7, 3) := by decide +kernel
theorem dX13_head_163 : decode cX13_head 163 = .ok (.iconst 4, 1) := by decide +kernel
theorem dX13_head_164 : decode cX13_head 164 = .ok (.goto 6, 3) := by decide +kernel
theorem dX13_head_167 : decode cX13_head 167 = .ok (.iload_n 3, 1) := by decide +kernel
theorem dX13_head_168 : decode cX13_head 168 = .ok (.iconst 3, 1) := by decide +kernel
theorem dX13_head_169 : decode cX13_head 169 = .ok (.iand, 1) := by decide +kernel
theorem dX13_head_170 : decode cX13_head 170 = .ok (.istore 5, 2) := by decide +kernel
theorem dX13_head_172 : decode cX13_head 172 = .ok (.aload_n 0, 1) := by decide +kernel
theorem dX13_head_173 : decode cX13_head 173 = .ok (.iload 5, 2) := by decide +kernel
theorem dX13_head_175 : decode cX13_head 175 = .ok (.invokevirtual 296, 3) := by decide +kernel
theorem dX13_head_178 : decode cX13_head 178 = .ok (.ifCond .ne 4, 3) := by decide +kernel
theorem dX13_head_181 : decode cX13_head 181 = .ok (.return_, 1) := by decide +kernel
theorem dX13_head_182 : decode cX13_head 182 = .ok (.aload_n 0, 1) := by decide +kernel
theorem dX13_head_183 : decode cX13_head 183 = .ok (.getfield 7, 3) := by decide +kernel
theorem dX13_head_186 : decode cX13_head 186 = .ok (.aload_n 0, 1) := by decide +kernel
theorem dX13_head_187 : decode cX13_head 187 = .ok (.getfield 283, 3) := by decide +kernel
theorem dX13_head_190 : decode cX13_head 190 = .ok (.iload 5, 2) := by decide +kernel
theorem dX13_head_192 : decode cX13_head 192 = .ok (.invokestatic 175, 3) := by decide +kernel
theorem dX13_head_195 : decode cX13_head 195 = .ok (.l2i, 1) := by decide +kernel
theorem dX13_head_196 : decode cX13_head 196 = .ok (.istore 6, 2) := by decide +kernel
theorem dX13_head_198 : decode cX13_head 198 = .ok (.iload 6, 2) := by decide +kernel
theorem dX13_head_200 : decode cX13_head 200 = .ok (.ifCond .eq 34, 3) := by decide +kernel
theorem dX13_head_203 : decode cX13_head 203 = .ok (.iload 6, 2) := by decide +kernel
theorem dX13_head_205 : decode cX13_head 205 = .ok (.aload_n 0, 1) := by decide +kernel
theorem dX13_head_206 : decode cX13_head 206 = .ok (.getfield 245, 3) := by decide +kernel
theorem dX13_head_209 : decode cX13_head 209 = .ok (.ifCond .eq 10, 3) := by decide +kernel
theorem dX13_head_212 : decode cX13_head 212 = .ok (.aload_n 0, 1) := by decide +kernel
theorem dX13_head_213 : decode cX13_head 213 = .ok (.getfield 251, 3) := by decide +kernel
theorem dX13_head_216 : decode cX13_head 216 = .ok (.goto 4, 3) := by decide +kernel
theorem dX13_head_219 : decode cX13_head 219 = .ok (.iconst 0, 1) := by decide +kernel
theorem dX13_head_220 : decode cX13_head 220 = .ok (.if_icmp .eq 14, 3) := by decide +kernel
theorem dX13_head_223 : decode cX13_head 223 = .ok (.aload_n 0, 1) := by decide +kernel
theorem dX13_head_224 : decode cX13_head 224 = .ok (.iconst 5, 1) := by decide +kernel
theorem dX13_head_225 : decode cX13_head 225 = .ok (.aload_n 0, 1) := by decide +kernel
theorem dX13_head_226 : decode cX13_head 226 = .ok (.getfield 283, 3) := by decide +kernel
theorem dX13_head_229 : decode cX13_head 229 = .ok (.invokevirtual 263, 3) := by decide +kernel
theorem dX13_head_232 : decode cX13_head 232 = .ok (.pop, 1) := by decide +kernel
theorem dX13_head_233 : decode cX13_head 233 = .ok (.return_, 1) := by decide +kernel
theorem dX13_head_234 : decode cX13_head 234 = .ok (.aload_n 0, 1) := by decide +kernel
theorem dX13_head_235 : decode cX13_head 235 = .ok (.dup, 1) := by decide +kernel
theorem dX13_head_236 : decode cX13_head 236 = .ok (.getfield 283, 3) := by decide +kernel
theorem dX13_head_239 : decode cX13_head 239 = .ok (.iload 5, 2) := by decide +kernel
theorem dX13_head_241 : decode cX13_head 241 = .ok (.iadd, 1) := by decide +kernel
theorem dX13_head_242 : decode cX13_head 242 = .ok (.putfield 283, 3) := by decide +kernel
theorem dX13_head_245 : decode cX13_head 245 = .ok (.aload_n 0, 1) := by decide +kernel
theorem dX13_head_246 : decode cX13_head 246 = .ok (.lload_n 1, 1) := by decide +kernel
theorem dX13_head_247 : decode cX13_head 247 = .ok (.iload_n 3, 1) := by decide +kernel
theorem dX13_head_248 : decode cX13_head 248 = .ok (.iload 4, 2) := by decide +kernel
theorem dX13_head_250 : decode cX13_head 250 = .ok (.iload 6, 2) := by decide +kernel
theorem dX13_head_252 : decode cX13_head 252 = .ok (.invokevirtual 315, 3) := by decide +kernel
theorem dX13_head_255 : decode cX13_head 255 = .ok (.return_, 1) := by decide +kernel
theorem dX13_sized_0 : decode cX13_sized 0 = .ok (.iload_n 3, 1) := by decide +kernel
theorem dX13_sized_1 : decode cX13_sized 1 = .ok (.bipush 6, 2) := by decide +kernel
theorem dX13_sized_3 : decode cX13_sized 3 = .ok (.ishr, 1) := by decide +kernel
theorem dX13_sized_4 : decode cX13_sized 4 = .ok (.istore 6, 2) := by decide +kernel
theorem dX13_sized_6 : decode cX13_sized 6 = .ok (.iload 6, 2) := by decide +kernel
theorem dX13_sized_8 : decode cX13_sized 8 = .ok (.ifCond .ne 16, 3) := by decide +kernel
theorem dX13_sized_11 : decode cX13_sized 11 = .ok (.iload 4, 2) := by decide +kernel
theorem dX13_sized_13 : decode cX13_sized 13 = .ok (.ifCond .eq 7, 3) := by decide +kernel
theorem dX13_sized_16 : decode cX13_sized 16 = .ok (.iconst 1, 1) := by decide +kernel
theorem dX13_sized_17 : decode cX13_sized 17 = .ok (.goto 29, 3) := by decide +kernel
theorem dX13_sized_20 : decode cX13_sized 20 = .ok (.iconst 0, 1) := by decide +kernel
theorem dX13_sized_21 : decode cX13_sized 21 = .ok (.goto 25, 3) := by decide +kernel
theorem dX13_sized_24 : decode cX13_sized 24 = .ok (.iload 6, 2) := by decide +kernel
theorem dX13_sized_26 : decode cX13_sized 26 = .ok (.iconst 1, 1) := by decide +kernel
theorem dX13_sized_27 : decode cX13_sized 27 = .ok (.if_icmp .ne 7, 3) := by decide +kernel
theorem dX13_sized_30 : decode cX13_sized 30 = .ok (.iconst 2, 1) := by decide +kernel
theorem dX13_sized_31 : decode cX13_sized 31 = .ok (.goto 15, 3) := by decide +kernel
theorem dX13_sized_34 : decode cX13_sized 34 = .ok (.iload 6, 2) := by decide +kernel
theorem dX13_sized_36 : decode cX13_sized 36 = .ok (.iconst 2, 1) := by decide +kernel
theorem dX13_sized_37 : decode cX13_sized 37 = .ok (.if_icmp .ne 7, 3) := by decide +kernel
theorem dX13_sized_40 : decode cX13_sized 40 = .ok (.iconst 4, 1) := by decide +kernel
theorem dX13_sized_41 : decode cX13_sized 41 = .ok (.goto 5, 3) := by decide +kernel
theorem dX13_sized_44 : decode cX13_sized 44 = .ok (.bipush 8, 2) := by decide +kernel
theorem dX13_sized_46 : decode cX13_sized 46 = .ok (.istore 7, 2) := by decide +kernel
theorem dX13_sized_48 : decode cX13_sized 48 = .ok (.aload_n 0, 1) := by decide +kernel
theorem dX13_sized_49 : decode cX13_sized 49 = .ok (.iload 7, 2) := by decide +kernel
theorem dX13_sized_51 : decode cX13_sized 51 = .ok (.invokevirtual 296, 3) := by decide +kernel
theorem dX13_sized_54 : decode cX13_sized 54 = .ok (.ifCond .ne 4, 3) := by decide +kernel
theorem dX13_sized_57 : decode cX13_sized 57 = .ok (.return_, 1) := by decide +kernel
theorem dX13_sized_58 : decode cX13_sized 58 = .ok (.aload_n 0, 1) := by decide +kernel
theorem dX13_sized_59 : decode cX13_sized 59 = .ok (.getfield 283, 3) := by decide +kernel
theorem dX13_sized_62 : decode cX13_sized 62 = .ok (.istore 8, 2) := by decide +kernel
theorem dX13_sized_64 : decode cX13_sized 64 = .ok (.aload_n 0, 1) := by decide +kernel
theorem dX13_sized_65 : decode cX13_sized 65 = .ok (.getfield 7, 3) := by decide +kernel
theorem dX13_sized_68 : decode cX13_sized 68 = .ok (.aload_n 0, 1) := by decide +kernel
theorem dX13_sized_69 : decode cX13_sized 69 = .ok (.getfield 283, 3) := by decide +kernel
theorem dX13_sized_72 : decode cX13_sized 72 = .ok (.iload 7, 2) := by decide +kernel
theorem dX13_sized_74 : decode cX13_sized 74 = .ok (.invokestatic 175, 3) := by decide +kernel
theorem dX13_sized_77 : decode cX13_sized 77 = .ok (.iload 6, 2) := by decide +kernel
theorem dX13_sized_79 : decode cX13_sized 79 = .ok (.iconst 1, 1) := by decide +kernel
theorem dX13_sized_80 : decode cX13_sized 80 = .ok (.if_icmp .ne 9, 3) := by decide +kernel
theorem dX13_sized_83 : decode cX13_sized 83 = .ok (.ldc2_w 319, 3) := by decide +kernel
theorem dX13_sized_86 : decode cX13_sized 86 = .ok (.goto 4, 3) := by decide +kernel
theorem dX13_sized_89 : decode cX13_sized 89 = .ok (.lconst 0, 1) := by decide +kernel
theorem dX13_sized_90 : decode cX13_sized 90 = .ok (.ladd, 1) := by decide +kernel
theorem dX13_sized_91 : decode cX13_sized 91 = .ok (.lstore 9, 2) := by decide +kernel
theorem dX13_sized_93 : decode cX13_sized 93 = .ok (.iload 4, 2) := by decide +kernel
theorem dX13_sized_95 : decode cX13_sized 95 = .ok (.ifCond .eq 38, 3) := by decide +kernel
theorem dX13_sized_98 : decode cX13_sized 98 = .ok (.aload_n 0, 1) := by decide +kernel
theorem dX13_sized_99 : decode cX13_sized 99 = .ok (.lload 9, 2) := by decide +kernel
theorem dX13_sized_101 : decode cX13_sized 101 = .ok (.putfield 311, 3) := by decide +kernel
theorem dX13_sized_104 : decode cX13_sized 104 = .ok (.aload_n 0, 1) := by decide +kernel
theorem dX13_sized_105 : decode cX13_sized 105 = .ok (.getfield 311, 3) := by decide +kernel
theorem dX13_sized_108 : decode cX13_sized 108 = .ok (.lconst 0, 1) := by decide +kernel
theorem dX13_sized_109 : decode cX13_sized 109 = .ok (.lcmp, 1) := by decide +kernel
theorem dX13_sized_110 : decode cX13_sized 110 = .ok (.ifCond .lt 12, 3) := by decide +kernel
theorem dX13_sized_113 : decode cX13_sized 113 = .ok (.aload_n 0, 1) := by decide +kernel
theorem dX13_sized_114 : decode cX13_sized 114 = .ok (.getfield 311, 3) := by decide +kernel
theorem dX13_sized_117 : decode cX13_sized 117 = .ok (.lload_n 1, 1) := by decide +kernel
theorem dX13_sized_118 : decode cX13_sized 118 = .ok (.lcmp, 1) := by decide +kernel
theorem dX13_sized_119 : decode cX13_sized 119 = .ok (.ifCond .le 14, 3) := by decide +kernel
theorem dX13_sized_122 : decode cX13_sized 122 = .ok (.aload_n 0, 1) := by decide +kernel
theorem dX13_sized_123 : decode cX13_sized 123 = .ok (.iconst 4, 1) := by decide +kernel
theorem dX13_sized_124 : decode cX13_sized 124 = .ok (.aload_n 0, 1) := by decide +kernel
theorem dX13_sized_125 : decode cX13_sized 125 = .ok (.getfield 283, 3) := by decide +kernel
theorem dX13_sized_128 : decode cX13_sized 128 = .ok (.invokevirtual 263, 3) := by decide +kernel
theorem dX13_sized_131 : decode cX13_sized 131 = .ok (.pop, 1) := by decide +kernel
theorem dX13_sized_132 : decode cX13_sized 132 = .ok (.return_, 1) := by decide +kernel
theorem dX13_sized_133 : decode cX13_sized 133 = .ok (.aload_n 0, 1) := by decide +kernel
theorem dX13_sized_134 : decode cX13_sized 134 = .ok (.dup, 1) := by decide +kernel
theorem dX13_sized_135 : decode cX13_sized 135 = .ok (.getfield 283, 3) := by decide +kernel
theorem dX13_sized_138 : decode cX13_sized 138 = .ok (.iload 7, 2) := by decide +kernel
theorem dX13_sized_140 : decode cX13_sized 140 = .ok (.iadd, 1) := by decide +kernel
theorem dX13_sized_141 : decode cX13_sized 141 = .ok (.putfield 283, 3) := by decide +kernel
theorem dX13_sized_144 : decode cX13_sized 144 = .ok (.aload_n 0, 1) := by decide +kernel
theorem dX13_sized_145 : decode cX13_sized 145 = .ok (.getfield 89, 3) := by decide +kernel
theorem dX13_sized_148 : decode cX13_sized 148 = .ok (.iconst 0, 1) := by decide +kernel
theorem dX13_sized_149 : decode cX13_sized 149 = .ok (.dup2, 1) := by decide +kernel
theorem dX13_sized_150 : decode cX13_sized 150 = .ok (.iaload, 1) := by decide +kernel
theorem dX13_sized_151 : decode cX13_sized 151 = .ok (.iconst 1, 1) := by decide +kernel
theorem dX13_sized_152 : decode cX13_sized 152 = .ok (.iadd, 1) := by decide +kernel
theorem dX13_sized_153 : decode cX13_sized 153 = .ok (.iastore, 1) := by decide +kernel
theorem dX13_sized_154 : decode cX13_sized 154 = .ok (.aload_n 0, 1) := by decide +kernel
theorem dX13_sized_155 : decode cX13_sized 155 = .ok (.getfield 89, 3) := by decide +kernel
theorem dX13_sized_158 : decode cX13_sized 158 = .ok (.bipush 9, 2) := by decide +kernel
theorem dX13_sized_160 : decode cX13_sized 160 = .ok (.aload_n 0, 1) := by decide +kernel
theorem dX13_sized_161 : decode cX13_sized 161 = .ok (.getfield 311, 3) := by decide +kernel
theorem dX13_sized_164 : decode cX13_sized 164 = .ok (.l2i, 1) := by decide +kernel
theorem dX13_sized_165 : decode cX13_sized 165 = .ok (.ldc_w 321, 3) := by decide +kernel
theorem dX13_sized_168 : decode cX13_sized 168 = .ok (.iand, 1) := by decide +kernel
theorem dX13_sized_169 : decode cX13_sized 169 = .ok (.iastore, 1) := by decide +kernel
theorem dX13_sized_170 : decode cX13_sized 170 = .ok (.aload_n 0, 1) := by decide +kernel
theorem dX13_sized_171 : decode cX13_sized 171 = .ok (.getfield 89, 3) := by decide +kernel
theorem dX13_sized_174 : decode cX13_sized 174 = .ok (.bipush 10, 2) := by decide +kernel
theorem dX13_sized_176 : decode cX13_sized 176 = .ok (.iload 7, 2) := by decide +kernel
theorem dX13_sized_178 : decode cX13_sized 178 = .ok (.ifCond .ne 7, 3) := by decide +kernel
theorem dX13_sized_181 : decode cX13_sized 181 = .ok (.iconst (-1), 1) := by decide +kernel
theorem dX13_sized_182 : decode cX13_sized 182 = .ok (.goto 10, 3) := by decide +kernel
theorem dX13_sized_185 : decode cX13_sized 185 = .ok (.lload 9, 2) := by decide +kernel
theorem dX13_sized_187 : decode cX13_sized 187 = .ok (.l2i, 1) := by decide +kernel
theorem dX13_sized_188 : decode cX13_sized 188 = .ok (.ldc_w 321, 3) := by decide +kernel
theorem dX13_sized_191 : decode cX13_sized 191 = .ok (.iand, 1) := by decide +kernel
theorem dX13_sized_192 : decode cX13_sized 192 = .ok (.iastore, 1) := by decide +kernel
theorem dX13_sized_193 : decode cX13_sized 193 = .ok (.aload_n 0, 1) := by decide +kernel
theorem dX13_sized_194 : decode cX13_sized 194 = .ok (.aload_n 0, 1) := by decide +kernel
theorem dX13_sized_195 : decode cX13_sized 195 = .ok (.getfield 311, 3) := by decide +kernel
theorem dX13_sized_198 : decode cX13_sized 198 = .ok (.ldc2_w 322, 3) := by decide +kernel
theorem dX13_sized_201 : decode cX13_sized 201 = .ok (.lcmp, 1) := by decide +kernel
theorem dX13_sized_202 : decode cX13_sized 202 = .ok (.ifCond .le 8, 3) := by decide +kernel
theorem dX13_sized_205 : decode cX13_sized 205 = .ok (.ldc 78, 2) := by decide +kernel
theorem dX13_sized_207 : decode cX13_sized 207 = .ok (.goto 8, 3) := by decide +kernel
theorem dX13_sized_210 : decode cX13_sized 210 = .ok (.aload_n 0, 1) := by decide +kernel
theorem dX13_sized_211 : decode cX13_sized 211 = .ok (.getfield 311, 3) := by decide +kernel
theorem dX13_sized_214 : decode cX13_sized 214 = .ok (.l2i, 1) := by decide +kernel
theorem dX13_sized_215 : decode cX13_sized 215 = .ok (.putfield 324, 3) := by decide +kernel
theorem dX13_sized_218 : decode cX13_sized 218 = .ok (.aload_n 0, 1) := by decide +kernel
theorem dX13_sized_219 : decode cX13_sized 219 = .ok (.iload 5, 2) := by decide +kernel
theorem dX13_sized_221 : decode cX13_sized 221 = .ok (.invokevirtual 327, 3) := by decide +kernel
theorem dX13_sized_224 : decode cX13_sized 224 = .ok (.iconst 1, 1) := by decide +kernel
theorem dX13_sized_225 : decode cX13_sized 225 = .ok (.istore 11, 2) := by decide +kernel
theorem dX13_sized_227 : decode cX13_sized 227 = .ok (.iload 11, 2) := by decide +kernel
theorem dX13_sized_229 : decode cX13_sized 229 = .ok (.ifCond .eq 27, 3) := by decide +kernel
theorem dX13_sized_232 : decode cX13_sized 232 = .ok (.aload_n 0, 1) := by decide +kernel
theorem dX13_sized_233 : decode cX13_sized 233 = .ok (.getfield 158, 3) := by decide +kernel
theorem dX13_sized_236 : decode cX13_sized 236 = .ok (.ifCond .ne 20, 3) := by decide +kernel
theorem dX13_sized_239 : decode cX13_sized 239 = .ok (.aload_n 0, 1) := by decide +kernel
theorem dX13_sized_240 : decode cX13_sized 240 = .ok (.invokevirtual 330, 3) := by decide +kernel
theorem dX13_sized_243 : decode cX13_sized 243 = .ok (.ifCond .ne 7, 3) := by decide +kernel
theorem dX13_sized_246 : decode cX13_sized 246 = .ok (.iconst 1, 1) := by decide +kernel
theorem dX13_sized_247 : decode cX13_sized 247 = .ok (.goto 4, 3) := by decide +kernel
theorem dX13_sized_250 : decode cX13_sized 250 = .ok (.iconst 0, 1) := by decide +kernel
theorem dX13_sized_251 : decode cX13_sized 251 = .ok (.istore 11, 2) := by decide +kernel
theorem dX13_sized_253 : decode cX13_sized 253 = .ok (.goto (-26), 3) := by decide +kernel
theorem dX13_sized_256 : decode cX13_sized 256 = .ok (.aload_n 0, 1) := by decide +kernel
theorem dX13_sized_257 : decode cX13_sized 257 = .ok (.getfield 158, 3) := by decide +kernel
theorem dX13_sized_260 : decode cX13_sized 260 = .ok (.ifCond .ne 33, 3) := by decide +kernel
theorem dX13_sized_263 : decode cX13_sized 263 = .ok (.iload 7, 2) := by decide +kernel
theorem dX13_sized_265 : decode cX13_sized 265 = .ok (.ifCond .le 28, 3) := by decide +kernel
theorem dX13_sized_268 : decode cX13_sized 268 = .ok (.lload 9, 2) := by decide +kernel
theorem dX13_sized_270 : decode cX13_sized 270 = .ok (.aload_n 0, 1) := by decide +kernel
theorem dX13_sized_271 : decode cX13_sized 271 = .ok (.getfield 286, 3) := by decide +kernel
theorem dX13_sized_274 : decode cX13_sized 274 = .ok (.aload_n 0, 1) := by decide +kernel
theorem dX13_sized_275 : decode cX13_sized 275 = .ok (.getfield 334, 3) := by decide +kernel
theorem dX13_sized_278 : decode cX13_sized 278 = .ok (.isub, 1) := by decide +kernel
theorem dX13_sized_279 : decode cX13_sized 279 = .ok (.i2l, 1) := by decide +kernel
theorem dX13_sized_280 : decode cX13_sized 280 = .ok (.lcmp, 1) := by decide +kernel
theorem dX13_sized_281 : decode cX13_sized 281 = .ok (.ifCond .eq 12, 3) := by decide +kernel
theorem dX13_sized_284 : decode cX13_sized 284 = .ok (.aload_n 0, 1) := by decide +kernel
theorem dX13_sized_285 : decode cX13_sized 285 = .ok (.bipush 8, 2) := by decide +kernel
