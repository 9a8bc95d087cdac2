theorem dX5_readHead_95 : decode cX5_readHead 95 = .ok (.ireturn, 1) := by decide +kernel
theorem dX5_readHead_96 : decode cX5_readHead 96 = .ok (.aload_n 0, 1) := by decide +kernel
theorem dX5_readHead_97 : decode cX5_readHead 97 = .ok (.iload_n 1, 1) := by decide +kernel
theorem dX5_readHead_98 : decode cX5_readHead 98 = .ok (.iconst 3, 1) := by decide +kernel
theorem dX5_readHead_99 : decode cX5_readHead 99 = .ok (.iand, 1) := by decide +kernel
theorem dX5_readHead_100 : decode cX5_readHead 100 = .ok (.invokevirtual 146, 3) := by decide +kernel
theorem dX5_readHead_103 : decode cX5_readHead 103 = .ok (.ifCond .eq 15, 3) := by decide +kernel
theorem dX5_readHead_106 : decode cX5_readHead 106 = .ok (.aload_n 0, 1) := by decide +kernel
theorem dX5_readHead_107 : decode cX5_readHead 107 = .ok (.iload_n 1, 1) := by decide +kernel
theorem dX5_readHead_108 : decode cX5_readHead 108 = .ok (.bipush 6, 2) := by decide +kernel
theorem dX5_readHead_110 : decode cX5_readHead 110 = .ok (.ishr, 1) := by decide +kernel
theorem dX5_readHead_111 : decode cX5_readHead 111 = .ok (.iload_n 2, 1) := by decide +kernel
theorem dX5_readHead_112 : decode cX5_readHead 112 = .ok (.invokevirtual 150, 3) := by decide +kernel
theorem dX5_readHead_115 : decode cX5_readHead 115 = .ok (.ifCond .ne 5, 3) := by decide +kernel
theorem dX5_readHead_118 : decode cX5_readHead 118 = .ok (.iconst 0, 1) := by decide +kernel
theorem dX5_readHead_119 : decode cX5_readHead 119 = .ok (.ireturn, 1) := by decide +kernel
theorem dX5_readHead_120 : decode cX5_readHead 120 = .ok (.aload_n 0, 1) := by decide +kernel
theorem dX5_readHead_121 : decode cX5_readHead 121 = .ok (.invokevirtual 154, 3) := by decide +kernel
theorem dX5_readHead_124 : decode cX5_readHead 124 = .ok (.iconst 1, 1) := by decide +kernel
theorem dX5_readHead_125 : decode cX5_readHead 125 = .ok (.ireturn, 1) := by decide +kernel
theorem dX5_readSpan_0 : decode cX5_readSpan 0 = .ok (.aload_n 0, 1) := by decide +kernel
theorem dX5_readSpan_1 : decode cX5_readSpan 1 = .ok (.lconst 1, 1) := by decide +kernel
theorem dX5_readSpan_2 : decode cX5_readSpan 2 = .ok (.invokevirtual 105, 3) := by decide +kernel
theorem dX5_readSpan_5 : decode cX5_readSpan 5 = .ok (.ifCond .ne 8, 3) := by decide +kernel
theorem dX5_readSpan_8 : decode cX5_readSpan 8 = .ok (.aload_n 0, 1) := by decide +kernel
theorem dX5_readSpan_9 : decode cX5_readSpan 9 = .ok (.invokevirtual 109, 3) := by decide +kernel
theorem dX5_readSpan_12 : decode cX5_readSpan 12 = .ok (.ireturn, 1) := by decide +kernel
theorem dX5_readSpan_13 : decode cX5_readSpan 13 = .ok (.aload_n 0, 1) := by decide +kernel
theorem dX5_readSpan_14 : decode cX5_readSpan 14 = .ok (.getfield 14, 3) := by decide +kernel
theorem dX5_readSpan_17 : decode cX5_readSpan 17 = .ok (.aload_n 0, 1) := by decide +kernel
theorem dX5_readSpan_18 : decode cX5_readSpan 18 = .ok (.getfield 53, 3) := by decide +kernel
theorem dX5_readSpan_21 : decode cX5_readSpan 21 = .ok (.invokevirtual 136, 3) := by decide +kernel
theorem dX5_readSpan_24 : decode cX5_readSpan 24 = .ok (.istore_n 1, 1) := by decide +kernel
theorem dX5_readSpan_25 : decode cX5_readSpan 25 = .ok (.lconst 1, 1) := by decide +kernel
theorem dX5_readSpan_26 : decode cX5_readSpan 26 = .ok (.bipush 10, 2) := by decide +kernel
theorem dX5_readSpan_28 : decode cX5_readSpan 28 = .ok (.iload_n 1, 1) := by decide +kernel
theorem dX5_readSpan_29 : decode cX5_readSpan 29 = .ok (.bipush 8, 2) := by decide +kernel
theorem dX5_readSpan_31 : decode cX5_readSpan 31 = .ok (.idiv, 1) := by decide +kernel
theorem dX5_readSpan_32 : decode cX5_readSpan 32 = .ok (.iadd, 1) := by decide +kernel
theorem dX5_readSpan_33 : decode cX5_readSpan 33 = .ok (.lshl, 1) := by decide +kernel
theorem dX5_readSpan_34 : decode cX5_readSpan 34 = .ok (.lstore_n 2, 1) := by decide +kernel
theorem dX5_readSpan_35 : decode cX5_readSpan 35 = .ok (.aload_n 0, 1) := by decide +kernel
theorem dX5_readSpan_36 : decode cX5_readSpan 36 = .ok (.lload_n 2, 1) := by decide +kernel
theorem dX5_readSpan_37 : decode cX5_readSpan 37 = .ok (.iload_n 1, 1) := by decide +kernel
theorem dX5_readSpan_38 : decode cX5_readSpan 38 = .ok (.bipush 8, 2) := by decide +kernel
theorem dX5_readSpan_40 : decode cX5_readSpan 40 = .ok (.irem, 1) := by decide +kernel
theorem dX5_readSpan_41 : decode cX5_readSpan 41 = .ok (.i2l, 1) := by decide +kernel
theorem dX5_readSpan_42 : decode cX5_readSpan 42 = .ok (.lload_n 2, 1) := by decide +kernel
theorem dX5_readSpan_43 : decode cX5_readSpan 43 = .ok (.ldc2_w 157, 3) := by decide +kernel
theorem dX5_readSpan_46 : decode cX5_readSpan 46 = .ok (.ldiv, 1) := by decide +kernel
theorem dX5_readSpan_47 : decode cX5_readSpan 47 = .ok (.lmul, 1) := by decide +kernel
theorem dX5_readSpan_48 : decode cX5_readSpan 48 = .ok (.ladd, 1) := by decide +kernel
theorem dX5_readSpan_49 : decode cX5_readSpan 49 = .ok (.putfield 159, 3) := by decide +kernel
theorem dX5_readSpan_52 : decode cX5_readSpan 52 = .ok (.aload_n 0, 1) := by decide +kernel
theorem dX5_readSpan_53 : decode cX5_readSpan 53 = .ok (.getfield 159, 3) := by decide +kernel
theorem dX5_readSpan_56 : decode cX5_readSpan 56 = .ok (.aload_n 0, 1) := by decide +kernel
theorem dX5_readSpan_57 : decode cX5_readSpan 57 = .ok (.getfield 49, 3) := by decide +kernel
theorem dX5_readSpan_60 : decode cX5_readSpan 60 = .ok (.lcmp, 1) := by decide +kernel
theorem dX5_readSpan_61 : decode cX5_readSpan 61 = .ok (.ifCond .le 16, 3) := by decide +kernel
theorem dX5_readSpan_64 : decode cX5_readSpan 64 = .ok (.aload_n 0, 1) := by decide +kernel
theorem dX5_readSpan_65 : decode cX5_readSpan 65 = .ok (.getfield 23, 3) := by decide +kernel
theorem dX5_readSpan_68 : decode cX5_readSpan 68 = .ok (.iconst 4, 1) := by decide +kernel
theorem dX5_readSpan_69 : decode cX5_readSpan 69 = .ok (.aload_n 0, 1) := by decide +kernel
theorem dX5_readSpan_70 : decode cX5_readSpan 70 = .ok (.getfield 53, 3) := by decide +kernel
theorem dX5_readSpan_73 : decode cX5_readSpan 73 = .ok (.invokevirtual 122, 3) := by decide +kernel
theorem dX5_readSpan_76 : decode cX5_readSpan 76 = .ok (.ireturn, 1) := by decide +kernel
theorem dX5_readSpan_77 : decode cX5_readSpan 77 = .ok (.aload_n 0, 1) := by decide +kernel
theorem dX5_readSpan_78 : decode cX5_readSpan 78 = .ok (.dup, 1) := by decide +kernel
theorem dX5_readSpan_79 : decode cX5_readSpan 79 = .ok (.getfield 53, 3) := by decide +kernel
theorem dX5_readSpan_82 : decode cX5_readSpan 82 = .ok (.iconst 1, 1) := by decide +kernel
theorem dX5_readSpan_83 : decode cX5_readSpan 83 = .ok (.iadd, 1) := by decide +kernel
theorem dX5_readSpan_84 : decode cX5_readSpan 84 = .ok (.putfield 53, 3) := by decide +kernel
theorem dX5_readSpan_87 : decode cX5_readSpan 87 = .ok (.iconst 1, 1) := by decide +kernel
theorem dX5_readSpan_88 : decode cX5_readSpan 88 = .ok (.ireturn, 1) := by decide +kernel
theorem dX5_readNumber_0 : decode cX5_readNumber 0 = .ok (.iload_n 1, 1) := by decide +kernel
theorem dX5_readNumber_1 : decode cX5_readNumber 1 = .ok (.iconst 3, 1) := by decide +kernel
theorem dX5_readNumber_2 : decode cX5_readNumber 2 = .ok (.if_icmp .ne 7, 3) := by decide +kernel
theorem dX5_readNumber_5 : decode cX5_readNumber 5 = .ok (.iconst 4, 1) := by decide +kernel
theorem dX5_readNumber_6 : decode cX5_readNumber 6 = .ok (.goto 4, 3) := by decide +kernel
theorem dX5_readNumber_9 : decode cX5_readNumber 9 = .ok (.iload_n 1, 1) := by decide +kernel
theorem dX5_readNumber_10 : decode cX5_readNumber 10 = .ok (.istore_n 2, 1) := by decide +kernel
theorem dX5_readNumber_11 : decode cX5_readNumber 11 = .ok (.aload_n 0, 1) := by decide +kernel
theorem dX5_readNumber_12 : decode cX5_readNumber 12 = .ok (.iload_n 2, 1) := by decide +kernel
theorem dX5_readNumber_13 : decode cX5_readNumber 13 = .ok (.i2l, 1) := by decide +kernel
theorem dX5_readNumber_14 : decode cX5_readNumber 14 = .ok (.invokevirtual 105, 3) := by decide +kernel
theorem dX5_readNumber_17 : decode cX5_readNumber 17 = .ok (.ifCond .ne 8, 3) := by decide +kernel
theorem dX5_readNumber_20 : decode cX5_readNumber 20 = .ok (.aload_n 0, 1) := by decide +kernel
theorem dX5_readNumber_21 : decode cX5_readNumber 21 = .ok (.invokevirtual 109, 3) := by decide +kernel
theorem dX5_readNumber_24 : decode cX5_readNumber 24 = .ok (.ireturn, 1) := by decide +kernel
theorem dX5_readNumber_25 : decode cX5_readNumber 25 = .ok (.aload_n 0, 1) := by decide +kernel
theorem dX5_readNumber_26 : decode cX5_readNumber 26 = .ok (.getfield 14, 3) := by decide +kernel
theorem dX5_readNumber_29 : decode cX5_readNumber 29 = .ok (.aload_n 0, 1) := by decide +kernel
theorem dX5_readNumber_30 : decode cX5_readNumber 30 = .ok (.getfield 53, 3) := by decide +kernel
theorem dX5_readNumber_33 : decode cX5_readNumber 33 = .ok (.iload_n 2, 1) := by decide +kernel
theorem dX5_readNumber_34 : decode cX5_readNumber 34 = .ok (.invokevirtual 112, 3) := by decide +kernel
theorem dX5_readNumber_37 : decode cX5_readNumber 37 = .ok (.l2i, 1) := by decide +kernel
theorem dX5_readNumber_38 : decode cX5_readNumber 38 = .ok (.istore_n 3, 1) := by decide +kernel
theorem dX5_readNumber_39 : decode cX5_readNumber 39 = .ok (.aload_n 0, 1) := by decide +kernel
theorem dX5_readNumber_40 : decode cX5_readNumber 40 = .ok (.getfield 45, 3) := by decide +kernel
theorem dX5_readNumber_43 : decode cX5_readNumber 43 = .ok (.ifnull 18, 3) := by decide +kernel
theorem dX5_readNumber_46 : decode cX5_readNumber 46 = .ok (.aload_n 0, 1) := by decide +kernel
theorem dX5_readNumber_47 : decode cX5_readNumber 47 = .ok (.getfield 45, 3) := by decide +kernel
theorem dX5_readNumber_50 : decode cX5_readNumber 50 = .ok (.getfield 162, 3) := by decide +kernel
theorem dX5_readNumber_53 : decode cX5_readNumber 53 = .ok (.iload_n 3, 1) := by decide +kernel
theorem dX5_readNumber_54 : decode cX5_readNumber 54 = .ok (.if_icmp .ne 7, 3) := by decide +kernel
theorem dX5_readNumber_57 : decode cX5_readNumber 57 = .ok (.iconst 1, 1) := by decide +kernel
theorem dX5_readNumber_58 : decode cX5_readNumber 58 = .ok (.goto 4, 3) := by decide +kernel
theorem dX5_readNumber_61 : decode cX5_readNumber 61 = .ok (.iconst 0, 1) := by decide +kernel
theorem dX5_readNumber_62 : decode cX5_readNumber 62 = .ok (.istore 4, 2) := by decide +kernel
theorem dX5_readNumber_64 : decode cX5_readNumber 64 = .ok (.iload_n 3, 1) := by decide +kernel
theorem dX5_readNumber_65 : decode cX5_readNumber 65 = .ok (.ifCond .eq 21, 3) := by decide +kernel
theorem dX5_readNumber_68 : decode cX5_readNumber 68 = .ok (.iload 4, 2) := by decide +kernel
theorem dX5_readNumber_70 : decode cX5_readNumber 70 = .ok (.ifCond .ne 16, 3) := by decide +kernel
theorem dX5_readNumber_73 : decode cX5_readNumber 73 = .ok (.aload_n 0, 1) := by decide +kernel
theorem dX5_readNumber_74 : decode cX5_readNumber 74 = .ok (.getfield 23, 3) := by decide +kernel
theorem dX5_readNumber_77 : decode cX5_readNumber 77 = .ok (.iconst 5, 1) := by decide +kernel
theorem dX5_readNumber_78 : decode cX5_readNumber 78 = .ok (.aload_n 0, 1) := by decide +kernel
theorem dX5_readNumber_79 : decode cX5_readNumber 79 = .ok (.getfield 53, 3) := by decide +kernel
theorem dX5_readNumber_82 : decode cX5_readNumber 82 = .ok (.invokevirtual 122, 3) := by decide +kernel
theorem dX5_readNumber_85 : decode cX5_readNumber 85 = .ok (.ireturn, 1) := by decide +kernel
theorem dX5_readNumber_86 : decode cX5_readNumber 86 = .ok (.aload_n 0, 1) := by decide +kernel
theorem dX5_readNumber_87 : decode cX5_readNumber 87 = .ok (.iload 4, 2) := by decide +kernel
theorem dX5_readNumber_89 : decode cX5_readNumber 89 = .ok (.ifCond .eq 10, 3) := by decide +kernel
theorem dX5_readNumber_92 : decode cX5_readNumber 92 = .ok (.aload_n 0, 1) := by decide +kernel
theorem dX5_readNumber_93 : decode cX5_readNumber 93 = .ok (.getfield 45, 3) := by decide +kernel
theorem dX5_readNumber_96 : decode cX5_readNumber 96 = .ok (.goto 4, 3) := by decide +kernel
theorem dX5_readNumber_99 : decode cX5_readNumber 99 = .ok (.aconst_null, 1) := by decide +kernel
theorem dX5_readNumber_100 : decode cX5_readNumber 100 = .ok (.putfield 166, 3) := by decide +kernel
theorem dX5_readNumber_103 : decode cX5_readNumber 103 = .ok (.aload_n 0, 1) := by decide +kernel
theorem dX5_readNumber_104 : decode cX5_readNumber 104 = .ok (.dup, 1) := by decide +kernel
theorem dX5_readNumber_105 : decode cX5_readNumber 105 = .ok (.getfield 53, 3) := by decide +kernel
theorem dX5_readNumber_108 : decode cX5_readNumber 108 = .ok (.iload_n 2, 1) := by decide +kernel
theorem dX5_readNumber_109 : decode cX5_readNumber 109 = .ok (.iadd, 1) := by decide +kernel
theorem dX5_readNumber_110 : decode cX5_readNumber 110 = .ok (.putfield 53, 3) := by decide +kernel
theorem dX5_readNumber_113 : decode cX5_readNumber 113 = .ok (.iconst 1, 1) := by decide +kernel
theorem dX5_readNumber_114 : decode cX5_readNumber 114 = .ok (.ireturn, 1) := by decide +kernel
theorem dX5_readSize_0 : decode cX5_readSize 0 = .ok (.iload_n 1, 1) := by decide +kernel
theorem dX5_readSize_1 : decode cX5_readSize 1 = .ok (.ifCond .ne 15, 3) := by decide +kernel
theorem dX5_readSize_4 : decode cX5_readSize 4 = .ok (.iload_n 2, 1) := by decide +kernel
theorem dX5_readSize_5 : decode cX5_readSize 5 = .ok (.ifCond .eq 7, 3) := by decide +kernel
theorem dX5_readSize_8 : decode cX5_readSize 8 = .ok (.iconst 1, 1) := by decide +kernel
theorem dX5_readSize_9 : decode cX5_readSize 9 = .ok (.goto 10, 3) := by decide +kernel
theorem dX5_readSize_12 : decode cX5_readSize 12 = .ok (.iconst 0, 1) := by decide +kernel
theorem dX5_readSize_13 : decode cX5_readSize 13 = .ok (.goto 6, 3) := by decide +kernel
theorem dX5_readSize_16 : decode cX5_readSize 16 = .ok (.iconst 1, 1) := by decide +kernel
theorem dX5_readSize_17 : decode cX5_readSize 17 = .ok (.iload_n 1, 1) := by decide +kernel
theorem dX5_readSize_18 : decode cX5_readSize 18 = .ok (.ishl, 1) := by decide +kernel
theorem dX5_readSize_19 : decode cX5_readSize 19 = .ok (.istore_n 3, 1) := by decide +kernel
theorem dX5_readSize_20 : decode cX5_readSize 20 = .ok (.aload_n 0, 1) := by decide +kernel
theorem dX5_readSize_21 : decode cX5_readSize 21 = .ok (.iload_n 3, 1) := by decide +kernel
theorem dX5_readSize_22 : decode cX5_readSize 22 = .ok (.i2l, 1) := by decide +kernel
theorem dX5_readSize_23 : decode cX5_readSize 23 = .ok (.invokevirtual 105, 3) := by decide +kernel
theorem dX5_readSize_26 : decode cX5_readSize 26 = .ok (.ifCond .ne 8, 3) := by decide +kernel
theorem dX5_readSize_29 : decode cX5_readSize 29 = .ok (.aload_n 0, 1) := by decide +kernel
theorem dX5_readSize_30 : decode cX5_readSize 30 = .ok (.invokevirtual 109, 3) := by decide +kernel
theorem dX5_readSize_33 : decode cX5_readSize 33 = .ok (.ireturn, 1) := by decide +kernel
theorem dX5_readSize_34 : decode cX5_readSize 34 = .ok (.aload_n 0, 1) := by decide +kernel
theorem dX5_readSize_35 : decode cX5_readSize 35 = .ok (.aload_n 0, 1) := by decide +kernel
theorem dX5_readSize_36 : decode cX5_readSize 36 = .ok (.getfield 53, 3) := by decide +kernel
theorem dX5_readSize_39 : decode cX5_readSize 39 = .ok (.putfield 169, 3) := by decide +kernel
theorem dX5_readSize_42 : decode cX5_readSize 42 = .ok (.aload_n 0, 1) := by decide +kernel
theorem dX5_readSize_43 : decode cX5_readSize 43 = .ok (.iload_n 3, 1) := by decide +kernel
theorem dX5_readSize_44 : decode cX5_readSize 44 = .ok (.ifCond .le 7, 3) := by decide +kernel
theorem dX5_readSize_47 : decode cX5_readSize 47 = .ok (.iconst 1, 1) := by decide +kernel
theorem dX5_readSize_48 : decode cX5_readSize 48 = .ok (.goto 4, 3) := by decide +kernel
theorem dX5_readSize_51 : decode cX5_readSize 51 = .ok (.iconst 0, 1) := by decide +kernel
theorem dX5_readSize_52 : decode cX5_readSize 52 = .ok (.putfield 172, 3) := by decide +kernel
theorem dX5_readSize_55 : decode cX5_readSize 55 = .ok (.aload_n 0, 1) := by decide +kernel
theorem dX5_readSize_56 : decode cX5_readSize 56 = .ok (.aload_n 0, 1) := by decide +kernel
theorem dX5_readSize_57 : decode cX5_readSize 57 = .ok (.getfield 14, 3) := by decide +kernel
theorem dX5_readSize_60 : decode cX5_readSize 60 = .ok (.aload_n 0, 1) := by decide +kernel
theorem dX5_readSize_61 : decode cX5_readSize 61 = .ok (.getfield 53, 3) := by decide +kernel
theorem dX5_readSize_64 : decode cX5_readSize 64 = .ok (.iload_n 3, 1) := by decide +kernel
theorem dX5_readSize_65 : decode cX5_readSize 65 = .ok (.invokevirtual 112, 3) := by decide +kernel
theorem dX5_readSize_68 : decode cX5_readSize 68 = .ok (.iload_n 1, 1) := by decide +kernel
theorem dX5_readSize_69 : decode cX5_readSize 69 = .ok (.iconst 1, 1) := by decide +kernel
theorem dX5_readSize_70 : decode cX5_readSize 70 = .ok (.if_icmp .ne 9, 3) := by decide +kernel
theorem dX5_readSize_73 : decode cX5_readSize 73 = .ok (.sipush 256, 3) := by decide +kernel
theorem dX5_readSize_76 : decode cX5_readSize 76 = .ok (.goto 4, 3) := by decide +kernel
theorem dX5_readSize_79 : decode cX5_readSize 79 = .ok (.iconst 0, 1) := by decide +kernel
theorem dX5_readSize_80 : decode cX5_readSize 80 = .ok (.i2l, 1) := by decide +kernel
theorem dX5_readSize_81 : decode cX5_readSize 81 = .ok (.ladd, 1) := by decide +kernel
theorem dX5_readSize_82 : decode cX5_readSize 82 = .ok (.putfield 175, 3) := by decide +kernel
theorem dX5_readSize_85 : decode cX5_readSize 85 = .ok (.aload_n 0, 1) := by decide +kernel
theorem dX5_readSize_86 : decode cX5_readSize 86 = .ok (.dup, 1) := by decide +kernel
theorem dX5_readSize_87 : decode cX5_readSize 87 = .ok (.getfield 53, 3) := by decide +kernel
theorem dX5_readSize_90 : decode cX5_readSize 90 = .ok (.iload_n 3, 1) := by decide +kernel
theorem dX5_readSize_91 : decode cX5_readSize 91 = .ok (.iadd, 1) := by decide +kernel
theorem dX5_readSize_92 : decode cX5_readSize 92 = .ok (.putfield 53, 3) := by decide +kernel
theorem dX5_readSize_95 : decode cX5_readSize 95 = .ok (.iload_n 2, 1) := by decide +kernel
theorem dX5_readSize_96 : decode cX5_readSize 96 = .ok (.ifCond .eq 45, 3) := by decide +kernel
theorem dX5_readSize_99 : decode cX5_readSize 99 = .ok (.aload_n 0, 1) := by decide +kernel
theorem dX5_readSize_100 : decode cX5_readSize 100 = .ok (.aload_n 0, 1) := by decide +kernel
theorem dX5_readSize_101 : decode cX5_readSize 101 = .ok (.getfield 175, 3) := by decide +kernel
theorem dX5_readSize_104 : decode cX5_readSize 104 = .ok (.putfield 159, 3) := by decide +kernel
theorem dX5_readSize_107 : decode cX5_readSize 107 = .ok (.aload_n 0, 1) := by decide +kernel
theorem dX5_readSize_108 : decode cX5_readSize 108 = .ok (.getfield 159, 3) := by decide +kernel
theorem dX5_readSize_111 : decode cX5_readSize 111 = .ok (.lconst 0, 1) := by decide +kernel
theorem dX5_readSize_112 : decode cX5_readSize 112 = .ok (.lcmp, 1) := by decide +kernel
theorem dX5_readSize_113 : decode cX5_readSize 113 = .ok (.ifCond .lt 15, 3) := by decide +kernel
theorem dX5_readSize_116 : decode cX5_readSize 116 = .ok (.aload_n 0, 1) := by decide +kernel
theorem dX5_readSize_117 : decode cX5_readSize 117 = .ok (.getfield 159, 3) := by decide +kernel
theorem dX5_readSize_120 : decode cX5_readSize 120 = .ok (.aload_n 0, 1) := by decide +kernel
theorem dX5_readSize_121 : decode cX5_readSize 121 = .ok (.getfield 49, 3) := by decide +kernel
theorem dX5_readSize_124 : decode cX5_readSize 124 = .ok (.lcmp, 1) := by decide +kernel
theorem dX5_readSize_125 : decode cX5_readSize 125 = .ok (.ifCond .le 16, 3) := by decide +kernel
theorem dX5_readSize_128 : decode cX5_readSize 128 = .ok (.aload_n 0, 1) := by decide +kernel
theorem dX5_readSize_129 : decode cX5_readSize 129 = .ok (.getfield 23, 3) := by decide +kernel
theorem dX5_readSize_132 : decode cX5_readSize 132 = .ok (.iconst 4, 1) := by decide +kernel
theorem dX5_readSize_133 : decode cX5_readSize 133 = .ok (.aload_n 0, 1) := by decide +kernel
theorem dX5_readSize_134 : decode cX5_readSize 134 = .ok (.getfield 169, 3) := by decide +kernel
theorem dX5_readSize_137 : decode cX5_readSize 137 = .ok (.invokevirtual 122, 3) := by decide +kernel
theorem dX5_readSize_140 : decode cX5_readSize 140 = .ok (.ireturn, 1) := by decide +kernel
theorem dX5_readSize_141 : decode cX5_readSize 141 = .ok (.iconst 1, 1) := by decide +kernel
theorem dX5_readSize_142 : decode cX5_readSize 142 = .ok (.ireturn, 1) := by decide +kernel
theorem dX5_beginFrame_0 : decode cX5_beginFrame 0 = .ok (.aload_n 0, 1) := by decide +kernel
theorem dX5_beginFrame_1 : decode cX5_beginFrame 1 = .ok (.getfield 23, 3) := by decide +kernel
theorem dX5_beginFrame_4 : decode cX5_beginFrame 4 = .ok (.getfield 132, 3) := by decide +kernel
theorem dX5_beginFrame_7 : decode cX5_beginFrame 7 = .ok (.iconst 0, 1) := by decide +kernel
theorem dX5_beginFrame_8 : decode cX5_beginFrame 8 = .ok (.dup2, 1) := by decide +kernel
theorem dX5_beginFrame_9 : decode cX5_beginFrame 9 = .ok (.iaload, 1) := by decide +kernel
theorem dX5_beginFrame_10 : decode cX5_beginFrame 10 = .ok (.iconst 1, 1) := by decide +kernel
theorem dX5_beginFrame_11 : decode cX5_beginFrame 11 = .ok (.iadd, 1) := by decide +kernel
theorem dX5_beginFrame_12 : decode cX5_beginFrame 12 = .ok (.iastore, 1) := by decide +kernel
theorem dX5_beginFrame_13 : decode cX5_beginFrame 13 = .ok (.aload_n 0, 1) := by decide +kernel
theorem dX5_beginFrame_14 : decode cX5_beginFrame 14 = .ok (.getfield 23, 3) := by decide +kernel
theorem dX5_beginFrame_17 : decode cX5_beginFrame 17 = .ok (.getfield 132, 3) := by decide +kernel
theorem dX5_beginFrame_20 : decode cX5_beginFrame 20 = .ok (.bipush 9, 2) := by decide +kernel
theorem dX5_beginFrame_22 : decode cX5_beginFrame 22 = .ok (.aload_n 0, 1) := by decide +kernel
theorem dX5_beginFrame_23 : decode cX5_beginFrame 23 = .ok (.getfield 159, 3) := by decide +kernel
theorem dX5_beginFrame_26 : decode cX5_beginFrame 26 = .ok (.ldc2_w 178, 3) := by decide +kernel
theorem dX5_beginFrame_29 : decode cX5_beginFrame 29 = .ok (.land, 1) := by decide +kernel
theorem dX5_beginFrame_30 : decode cX5_beginFrame 30 = .ok (.l2i, 1) := by decide +kernel
theorem dX5_beginFrame_31 : decode cX5_beginFrame 31 = .ok (.iastore, 1) := by decide +kernel
theorem dX5_beginFrame_32 : decode cX5_beginFrame 32 = .ok (.aload_n 0, 1) := by decide +kernel
theorem dX5_beginFrame_33 : decode cX5_beginFrame 33 = .ok (.getfield 23, 3) := by decide +kernel
theorem dX5_beginFrame_36 : decode cX5_beginFrame 36 = .ok (.getfield 132, 3) := by decide +kernel
theorem dX5_beginFrame_39 : decode cX5_beginFrame 39 = .ok (.bipush 10, 2) := by decide +kernel
theorem dX5_beginFrame_41 : decode cX5_beginFrame 41 = .ok (.aload_n 0, 1) := by decide +kernel
theorem dX5_beginFrame_42 : decode cX5_beginFrame 42 = .ok (.getfield 172, 3) := by decide +kernel
theorem dX5_beginFrame_45 : decode cX5_beginFrame 45 = .ok (.ifCond .eq 15, 3) := by decide +kernel
theorem dX5_beginFrame_48 : decode cX5_beginFrame 48 = .ok (.aload_n 0, 1) := by decide +kernel
theorem dX5_beginFrame_49 : decode cX5_beginFrame 49 = .ok (.getfield 175, 3) := by decide +kernel
theorem dX5_beginFrame_52 : decode cX5_beginFrame 52 = .ok (.ldc2_w 178, 3) := by decide +kernel
theorem dX5_beginFrame_55 : decode cX5_beginFrame 55 = .ok (.land, 1) := by decide +kernel
theorem dX5_beginFrame_56 : decode cX5_beginFrame 56 = .ok (.l2i, 1) := by decide +kernel
theorem dX5_beginFrame_57 : decode cX5_beginFrame 57 = .ok (.goto 4, 3) := by decide +kernel
theorem dX5_beginFrame_60 : decode cX5_beginFrame 60 = .ok (.iconst (-1), 1) := by decide +kernel
theorem dX5_beginFrame_61 : decode cX5_beginFrame 61 = .ok (.iastore, 1) := by decide +kernel
theorem dX5_beginFrame_62 : decode cX5_beginFrame 62 = .ok (.aload_n 0, 1) := by decide +kernel
theorem dX5_beginFrame_63 : decode cX5_beginFrame 63 = .ok (.getfield 32, 3) := by decide +kernel
theorem dX5_beginFrame_66 : decode cX5_beginFrame 66 = .ok (.aload_n 0, 1) := by decide +kernel
theorem dX5_beginFrame_67 : decode cX5_beginFrame 67 = .ok (.getfield 166, 3) := by decide +kernel
theorem dX5_beginFrame_70 : decode cX5_beginFrame 70 = .ok (.invokevirtual 180, 3) := by decide +kernel
theorem dX5_beginFrame_73 : decode cX5_beginFrame 73 = .ok (.aload_n 0, 1) := by decide +kernel
theorem dX5_beginFrame_74 : decode cX5_beginFrame 74 = .ok (.getfield 41, 3) := by decide +kernel
theorem dX5_beginFrame_77 : decode cX5_beginFrame 77 = .ok (.aload_n 0, 1) := by decide +kernel
theorem dX5_beginFrame_78 : decode cX5_beginFrame 78 = .ok (.getfield 20, 3) := by decide +kernel
theorem dX5_beginFrame_81 : decode cX5_beginFrame 81 = .ok (.aload_n 0, 1) := by decide +kernel
theorem dX5_beginFrame_82 : decode cX5_beginFrame 82 = .ok (.getfield 166, 3) := by decide +kernel
theorem dX5_beginFrame_85 : decode cX5_beginFrame 85 = .ok (.aload_n 0, 1) := by decide +kernel
theorem dX5_beginFrame_86 : decode cX5_beginFrame 86 = .ok (.getfield 159, 3) := by decide +kernel
theorem dX5_beginFrame_89 : decode cX5_beginFrame 89 = .ok (.invokevirtual 183, 3) := by decide +kernel
theorem dX5_beginFrame_92 : decode cX5_beginFrame 92 = .ok (.return_, 1) := by decide +kernel
theorem dX5_readBlockHead_0 : decode cX5_readBlockHead 0 = .ok (.aload_n 0, 1) := by decide +kernel
theorem dX5_readBlockHead_1 : decode cX5_readBlockHead 1 = .ok (.aload_n 0, 1) := by decide +kernel
theorem dX5_readBlockHead_2 : decode cX5_readBlockHead 2 = .ok (.getfield 53, 3) := by decide +kernel
theorem dX5_readBlockHead_5 : decode cX5_readBlockHead 5 = .ok (.putfield 186, 3) := by decide +kernel
theorem dX5_readBlockHead_8 : decode cX5_readBlockHead 8 = .ok (.aload_n 0, 1) := by decide +kernel
theorem dX5_readBlockHead_9 : decode cX5_readBlockHead 9 = .ok (.ldc2_w 189, 3) := by decide +kernel
theorem dX5_readBlockHead_12 : decode cX5_readBlockHead 12 = .ok (.invokevirtual 105, 3) := by decide +kernel
theorem dX5_readBlockHead_15 : decode cX5_readBlockHead 15 = .ok (.ifCond .ne 8, 3) := by decide +kernel
theorem dX5_readBlockHead_18 : decode cX5_readBlockHead 18 = .ok (.aload_n 0, 1) := by decide +kernel
theorem dX5_readBlockHead_19 : decode cX5_readBlockHead 19 = .ok (.invokevirtual 109, 3) := by decide +kernel
theorem dX5_readBlockHead_22 : decode cX5_readBlockHead 22 = .ok (.ireturn, 1) := by decide +kernel
theorem dX5_readBlockHead_23 : decode cX5_readBlockHead 23 = .ok (.aload_n 0, 1) := by decide +kernel
theorem dX5_readBlockHead_24 : decode cX5_readBlockHead 24 = .ok (.getfield 23, 3) := by decide +kernel
theorem dX5_readBlockHead_27 : decode cX5_readBlockHead 27 = .ok (.getfield 132, 3) := by decide +kernel
theorem dX5_readBlockHead_30 : decode cX5_readBlockHead 30 = .ok (.iconst 1, 1) := by decide +kernel
theorem dX5_readBlockHead_31 : decode cX5_readBlockHead 31 = .ok (.dup2, 1) := by decide +kernel
theorem dX5_readBlockHead_32 : decode cX5_readBlockHead 32 = .ok (.iaload, 1) := by decide +kernel
theorem dX5_readBlockHead_33 : decode cX5_readBlockHead 33 = .ok (.iconst 1, 1) := by decide +kernel
theorem dX5_readBlockHead_34 : decode cX5_readBlockHead 34 = .ok (.iadd, 1) := by decide +kernel
theorem dX5_readBlockHead_35 : decode cX5_readBlockHead 35 = .ok (.iastore, 1) := by decide +kernel
theorem dX5_readBlockHead_36 : decode cX5_readBlockHead 36 = .ok (.aload_n 0, 1) := by decide +kernel
theorem dX5_readBlockHead_37 : decode cX5_readBlockHead 37 = .ok (.getfield 14, 3) := by decide +kernel
theorem dX5_readBlockHead_40 : decode cX5_readBlockHead 40 = .ok (.aload_n 0, 1) := by decide +kernel
theorem dX5_readBlockHead_41 : decode cX5_readBlockHead 41 = .ok (.getfield 53, 3) := by decide +kernel
theorem dX5_readBlockHead_44 : decode cX5_readBlockHead 44 = .ok (.iconst 3, 1) := by decide +kernel
theorem dX5_readBlockHead_45 : decode cX5_readBlockHead 45 = .ok (.invokevirtual 112, 3) := by decide +kernel
theorem dX5_readBlockHead_48 : decode cX5_readBlockHead 48 = .ok (.l2i, 1) := by decide +kernel
theorem dX5_readBlockHead_49 : decode cX5_readBlockHead 49 = .ok (.istore_n 1, 1) := by decide +kernel
theorem dX5_readBlockHead_50 : decode cX5_readBlockHead 50 = .ok (.aload_n 0, 1) := by decide +kernel
theorem dX5_readBlockHead_51 : decode cX5_readBlockHead 51 = .ok (.iload_n 1, 1) := by decide +kernel
theorem dX5_readBlockHead_52 : decode cX5_readBlockHead 52 = .ok (.iconst 1, 1) := by decide +kernel
theorem dX5_readBlockHead_53 : decode cX5_readBlockHead 53 = .ok (.iand, 1) := by decide +kernel
theorem dX5_readBlockHead_54 : decode cX5_readBlockHead 54 = .ok (.ifCond .eq 7, 3) := by decide +kernel
theorem dX5_readBlockHead_57 : decode cX5_readBlockHead 57 = .ok (.iconst 1, 1) := by decide +kernel
theorem dX5_readBlockHead_58 : decode cX5_readBlockHead 58 = .ok (.goto 4, 3) := by decide +kernel
theorem dX5_readBlockHead_61 : decode cX5_readBlockHead 61 = .ok (.iconst 0, 1) := by decide +kernel
theorem dX5_readBlockHead_62 : decode cX5_readBlockHead 62 = .ok (.putfield 72, 3) := by decide +kernel
theorem dX5_readBlockHead_65 : decode cX5_readBlockHead 65 = .ok (.aload_n 0, 1) := by decide +kernel
theorem dX5_readBlockHead_66 : decode cX5_readBlockHead 66 = .ok (.iload_n 1, 1) := by decide +kernel
theorem dX5_readBlockHead_67 : decode cX5_readBlockHead 67 = .ok (.iconst 1, 1) := by decide +kernel
theorem dX5_readBlockHead_68 : decode cX5_readBlockHead 68 = .ok (.ishr, 1) := by decide +kernel
theorem dX5_readBlockHead_69 : decode cX5_readBlockHead 69 = .ok (.iconst 3, 1) := by decide +kernel
theorem dX5_readBlockHead_70 : decode cX5_readBlockHead 70 = .ok (.iand, 1) := by decide +kernel
theorem dX5_readBlockHead_71 : decode cX5_readBlockHead 71 = .ok (.putfield 79, 3) := by decide +kernel
theorem dX5_readBlockHead_74 : decode cX5_readBlockHead 74 = .ok (.aload_n 0, 1) := by decide +kernel
theorem dX5_readBlockHead_75 : decode cX5_readBlockHead 75 = .ok (.iload_n 1, 1) := by decide +kernel
theorem dX5_readBlockHead_76 : decode cX5_readBlockHead 76 = .ok (.iconst 3, 1) := by decide +kernel
theorem dX5_readBlockHead_77 : decode cX5_readBlockHead 77 = .ok (.ishr, 1) := by decide +kernel
theorem dX5_readBlockHead_78 : decode cX5_readBlockHead 78 = .ok (.putfield 191, 3) := by decide +kernel
theorem dX5_readBlockHead_81 : decode cX5_readBlockHead 81 = .ok (.aload_n 0, 1) := by decide +kernel
theorem dX5_readBlockHead_82 : decode cX5_readBlockHead 82 = .ok (.getfield 79, 3) := by decide +kernel
theorem dX5_readBlockHead_85 : decode cX5_readBlockHead 85 = .ok (.iconst 2, 1) := by decide +kernel
theorem dX5_readBlockHead_86 : decode cX5_readBlockHead 86 = .ok (.if_icmp .gt 17, 3) := by decide +kernel
theorem dX5_readBlockHead_89 : decode cX5_readBlockHead 89 = .ok (.aload_n 0, 1) := by decide +kernel
theorem dX5_readBlockHead_90 : decode cX5_readBlockHead 90 = .ok (.getfield 191, 3) := by decide +kernel
theorem dX5_readBlockHead_93 : decode cX5_readBlockHead 93 = .ok (.aload_n 0, 1) := by decide +kernel
theorem dX5_readBlockHead_94 : decode cX5_readBlockHead 94 = .ok (.getfield 41, 3) := by decide +kernel
theorem dX5_readBlockHead_97 : decode cX5_readBlockHead 97 = .ok (.getfield 194, 3) := by decide +kernel
theorem dX5_readBlockHead_100 : decode cX5_readBlockHead 100 = .ok (.if_icmp .le 17, 3) := by decide +kernel
theorem dX5_readBlockHead_103 : decode cX5_readBlockHead 103 = .ok (.aload_n 0, 1) := by decide +kernel
theorem dX5_readBlockHead_104 : decode cX5_readBlockHead 104 = .ok (.getfield 23, 3) := by decide +kernel
theorem dX5_readBlockHead_107 : decode cX5_readBlockHead 107 = .ok (.bipush 6, 2) := by decide +kernel
theorem dX5_readBlockHead_109 : decode cX5_readBlockHead 109 = .ok (.aload_n 0, 1) := by decide +kernel
theorem dX5_readBlockHead_110 : decode cX5_readBlockHead 110 = .ok (.getfield 53, 3) := by decide +kernel
theorem dX5_readBlockHead_113 : decode cX5_readBlockHead 113 = .ok (.invokevirtual 122, 3) := by decide +kernel
theorem dX5_readBlockHead_116 : decode cX5_readBlockHead 116 = .ok (.ireturn, 1) := by decide +kernel
theorem dX5_readBlockHead_117 : decode cX5_readBlockHead 117 = .ok (.aload_n 0, 1) := by decide +kernel
theorem dX5_readBlockHead_118 : decode cX5_readBlockHead 118 = .ok (.dup, 1) := by decide +kernel
theorem dX5_readBlockHead_119 : decode cX5_readBlockHead 119 = .ok (.getfield 53, 3) := by decide +kernel
theorem dX5_readBlockHead_122 : decode cX5_readBlockHead 122 = .ok (.iconst 3, 1) := by decide +kernel
theorem dX5_readBlockHead_123 : decode cX5_readBlockHead 123 = .ok (.iadd, 1) := by decide +kernel
theorem dX5_readBlockHead_124 : decode cX5_readBlockHead 124 = .ok (.putfield 53, 3) := by decide +kernel
theorem dX5_readBlockHead_127 : decode cX5_readBlockHead 127 = .ok (.aload_n 0, 1) := by decide +kernel
theorem dX5_readBlockHead_128 : decode cX5_readBlockHead 128 = .ok (.aload_n 0, 1) := by decide +kernel
theorem dX5_readBlockHead_129 : decode cX5_readBlockHead 129 = .ok (.getfield 79, 3) := by decide +kernel
theorem dX5_readBlockHead_132 : decode cX5_readBlockHead 132 = .ok (.iconst 1, 1) := by decide +kernel
theorem dX5_readBlockHead_133 : decode cX5_readBlockHead 133 = .ok (.if_icmp .ne 7, 3) := by decide +kernel
theorem dX5_readBlockHead_136 : decode cX5_readBlockHead 136 = .ok (.lconst 1, 1) := by decide +kernel
theorem dX5_readBlockHead_137 : decode cX5_readBlockHead 137 = .ok (.goto 8, 3) := by decide +kernel
theorem dX5_readBlockHead_140 : decode cX5_readBlockHead 140 = .ok (.aload_n 0, 1) := by decide +kernel
theorem dX5_readBlockHead_141 : decode cX5_readBlockHead 141 = .ok (.getfield 191, 3) := by decide +kernel
theorem dX5_readBlockHead_144 : decode cX5_readBlockHead 144 = .ok (.i2l, 1) := by decide +kernel
theorem dX5_readBlockHead_145 : decode cX5_readBlockHead 145 = .ok (.invokevirtual 105, 3) := by decide +kernel
theorem dX5_readBlockHead_148 : decode cX5_readBlockHead 148 = .ok (.ifCond .ne 10, 3) := by decide +kernel
theorem dX5_readBlockHead_151 : decode cX5_readBlockHead 151 = .ok (.aload_n 0, 1) := by decide +kernel
theorem dX5_readBlockHead_152 : decode cX5_readBlockHead 152 = .ok (.invokevirtual 109, 3) := by decide +kernel
theorem dX5_readBlockHead_155 : decode cX5_readBlockHead 155 = .ok (.ifCond .eq 7, 3) := by decide +kernel
theorem dX5_readBlockHead_158 : decode cX5_readBlockHead 158 = .ok (.iconst 1, 1) := by decide +kernel
theorem dX5_readBlockHead_159 : decode cX5_readBlockHead 159 = .ok (.goto 4, 3) := by decide +kernel
theorem dX5_readBlockHead_162 : decode cX5_readBlockHead 162 = .ok (.iconst 0, 1) := by decide +kernel
theorem dX5_readBlockHead_163 : decode cX5_readBlockHead 163 = .ok (.ireturn, 1) := by decide +kernel
theorem dX5_readPlain_0 : decode cX5_readPlain 0 = .ok (.aload_n 0, 1) := by decide +kernel
theorem dX5_readPlain_1 : decode cX5_readPlain 1 = .ok (.getfield 79, 3) := by decide +kernel
theorem dX5_readPlain_4 : decode cX5_readPlain 4 = .ok (.ifCond .ne 38, 3) := by decide +kernel
theorem dX5_readPlain_7 : decode cX5_readPlain 7 = .ok (.aload_n 0, 1) := by decide +kernel
theorem dX5_readPlain_8 : decode cX5_readPlain 8 = .ok (.getfield 20, 3) := by decide +kernel
theorem dX5_readPlain_11 : decode cX5_readPlain 11 = .ok (.aload_n 0, 1) := by decide +kernel
theorem dX5_readPlain_12 : decode cX5_readPlain 12 = .ok (.getfield 14, 3) := by decide +kernel
theorem dX5_readPlain_15 : decode cX5_readPlain 15 = .ok (.aload_n 0, 1) := by decide +kernel
theorem dX5_readPlain_16 : decode cX5_readPlain 16 = .ok (.getfield 53, 3) := by decide +kernel
theorem dX5_readPlain_19 : decode cX5_readPlain 19 = .ok (.aload_n 0, 1) := by decide +kernel
theorem dX5_readPlain_20 : decode cX5_readPlain 20 = .ok (.getfield 191, 3) := by decide +kernel
theorem dX5_readPlain_23 : decode cX5_readPlain 23 = .ok (.invokevirtual 197, 3) := by decide +kernel
theorem dX5_readPlain_26 : decode cX5_readPlain 26 = .ok (.aload_n 0, 1) := by decide +kernel
theorem dX5_readPlain_27 : decode cX5_readPlain 27 = .ok (.dup, 1) := by decide +kernel
theorem dX5_readPlain_28 : decode cX5_readPlain 28 = .ok (.getfield 53, 3) := by decide +kernel
theorem dX5_readPlain_31 : decode cX5_readPlain 31 = .ok (.aload_n 0, 1) := by decide +kernel
theorem dX5_readPlain_32 : decode cX5_readPlain 32 = .ok (.getfield 191, 3) := by decide +kernel
theorem dX5_readPlain_35 : decode cX5_readPlain 35 = .ok (.iadd, 1) := by decide +kernel
theorem dX5_readPlain_36 : decode cX5_readPlain 36 = .ok (.putfield 53, 3) := by decide +kernel
theorem dX5_readPlain_39 : decode cX5_readPlain 39 = .ok (.goto 35, 3) := by decide +kernel
theorem dX5_readPlain_42 : decode cX5_readPlain 42 = .ok (.aload_n 0, 1) := by decide +kernel
theorem dX5_readPlain_43 : decode cX5_readPlain 43 = .ok (.getfield 20, 3) := by decide +kernel
theorem dX5_readPlain_46 : decode cX5_readPlain 46 = .ok (.aload_n 0, 1) := by decide +kernel
theorem dX5_readPlain_47 : decode cX5_readPlain 47 = .ok (.getfield 14, 3) := by decide +kernel
theorem dX5_readPlain_50 : decode cX5_readPlain 50 = .ok (.aload_n 0, 1) := by decide +kernel
theorem dX5_readPlain_51 : decode cX5_readPlain 51 = .ok (.getfield 53, 3) := by decide +kernel
theorem dX5_readPlain_54 : decode cX5_readPlain 54 = .ok (.invokevirtual 136, 3) := by decide +kernel
theorem dX5_readPlain_57 : decode cX5_readPlain 57 = .ok (.aload_n 0, 1) := by decide +kernel
theorem dX5_readPlain_58 : decode cX5_readPlain 58 = .ok (.getfield 191, 3) := by decide +kernel
theorem dX5_readPlain_61 : decode cX5_readPlain 61 = .ok (.invokevirtual 201, 3) := by decide +kernel
theorem dX5_readPlain_64 : decode cX5_readPlain 64 = .ok (.aload_n 0, 1) := by decide +kernel
theorem dX5_readPlain_65 : decode cX5_readPlain 65 = .ok (.dup, 1) := by decide +kernel
theorem dX5_readPlain_66 : decode cX5_readPlain 66 = .ok (.getfield 53, 3) := by decide +kernel
theorem dX5_readPlain_69 : decode cX5_readPlain 69 = .ok (.iconst 1, 1) := by decide +kernel
theorem dX5_readPlain_70 : decode cX5_readPlain 70 = .ok (.iadd, 1) := by decide +kernel
theorem dX5_readPlain_71 : decode cX5_readPlain 71 = .ok (.putfield 53, 3) := by decide +kernel
theorem dX5_readPlain_74 : decode cX5_readPlain 74 = .ok (.iconst 1, 1) := by decide +kernel
theorem dX5_readPlain_75 : decode cX5_readPlain 75 = .ok (.ireturn, 1) := by decide +kernel
theorem dX5_readPacked_0 : decode cX5_readPacked 0 = .ok (.aload_n 0, 1) := by decide +kernel
theorem dX5_readPacked_1 : decode cX5_readPacked 1 = .ok (.getfield 53, 3) := by decide +kernel
theorem dX5_readPacked_4 : decode cX5_readPacked 4 = .ok (.aload_n 0, 1) := by decide +kernel
theorem dX5_readPacked_5 : decode cX5_readPacked 5 = .ok (.getfield 191, 3) := by decide +kernel
theorem dX5_readPacked_8 : decode cX5_readPacked 8 = .ok (.iadd, 1) := by decide +kernel
theorem dX5_readPacked_9 : decode cX5_readPacked 9 = .ok (.istore_n 1, 1) := by decide +kernel
theorem dX5_readPacked_10 : decode cX5_readPacked 10 = .ok (.aload_n 0, 1) := by decide +kernel
theorem dX5_readPacked_11 : decode cX5_readPacked 11 = .ok (.getfield 32, 3) := by decide +kernel
theorem dX5_readPacked_14 : decode cX5_readPacked 14 = .ok (.aload_n 0, 1) := by decide +kernel
theorem dX5_readPacked_15 : decode cX5_readPacked 15 = .ok (.getfield 14, 3) := by decide +kernel
theorem dX5_readPacked_18 : decode cX5_readPacked 18 = .ok (.aload_n 0, 1) := by decide +kernel
theorem dX5_readPacked_19 : decode cX5_readPacked 19 = .ok (.getfield 53, 3) := by decide +kernel
theorem dX5_readPacked_22 : decode cX5_readPacked 22 = .ok (.iload_n 1, 1) := by decide +kernel
theorem dX5_readPacked_23 : decode cX5_readPacked 23 = .ok (.aload_n 0, 1) := by decide +kernel
theorem dX5_readPacked_24 : decode cX5_readPacked 24 = .ok (.getfield 41, 3) := by decide +kernel
theorem dX5_readPacked_27 : decode cX5_readPacked 27 = .ok (.getfield 194, 3) := by decide +kernel
theorem dX5_readPacked_30 : decode cX5_readPacked 30 = .ok (.invokevirtual 205, 3) := by decide +kernel
theorem dX5_readPacked_33 : decode cX5_readPacked 33 = .ok (.ifCond .eq 31, 3) := by decide +kernel
theorem dX5_readPacked_36 : decode cX5_readPacked 36 = .ok (.aload_n 0, 1) := by decide +kernel
theorem dX5_readPacked_37 : decode cX5_readPacked 37 = .ok (.getfield 32, 3) := by decide +kernel
theorem dX5_readPacked_40 : decode cX5_readPacked 40 = .ok (.aload_n 0, 1) := by decide +kernel
theorem dX5_readPacked_41 : decode cX5_readPacked 41 = .ok (.getfield 14, 3) := by decide +kernel
theorem dX5_readPacked_44 : decode cX5_readPacked 44 = .ok (.invokevirtual 208, 3) := by decide +kernel
theorem dX5_readPacked_47 : decode cX5_readPacked 47 = .ok (.ifCond .eq 17, 3) := by decide +kernel
theorem dX5_readPacked_50 : decode cX5_readPacked 50 = .ok (.aload_n 0, 1) := by decide +kernel
theorem dX5_readPacked_51 : decode cX5_readPacked 51 = .ok (.getfield 32, 3) := by decide +kernel
theorem dX5_readPacked_54 : decode cX5_readPacked 54 = .ok (.aload_n 0, 1) := by decide +kernel
theorem dX5_readPacked_55 : decode cX5_readPacked 55 = .ok (.getfield 14, 3) := by decide +kernel
theorem dX5_readPacked_58 : decode cX5_readPacked 58 = .ok (.invokevirtual 212, 3) := by decide +kernel
theorem dX5_readPacked_61 : decode cX5_readPacked 61 = .ok (.ifCond .ne 5, 3) := by decide +kernel
theorem dX5_readPacked_64 : decode cX5_readPacked 64 = .ok (.iconst 0, 1) := by decide +kernel
theorem dX5_readPacked_65 : decode cX5_readPacked 65 = .ok (.ireturn, 1) := by decide +kernel
theorem dX5_readPacked_66 : decode cX5_readPacked 66 = .ok (.aload_n 0, 1) := by decide +kernel
theorem dX5_readPacked_67 : decode cX5_readPacked 67 = .ok (.getfield 32, 3) := by decide +kernel
theorem dX5_readPacked_70 : decode cX5_readPacked 70 = .ok (.getfield 215, 3) := by decide +kernel
theorem dX5_readPacked_73 : decode cX5_readPacked 73 = .ok (.istore_n 2, 1) := by decide +kernel
theorem dX5_readPacked_74 : decode cX5_readPacked 74 = .ok (.aload_n 0, 1) := by decide +kernel
theorem dX5_readPacked_75 : decode cX5_readPacked 75 = .ok (.aload_n 0, 1) := by decide +kernel
theorem dX5_readPacked_76 : decode cX5_readPacked 76 = .ok (.getfield 41, 3) := by decide +kernel
theorem dX5_readPacked_79 : decode cX5_readPacked 79 = .ok (.aload_n 0, 1) := by decide +kernel
theorem dX5_readPacked_80 : decode cX5_readPacked 80 = .ok (.getfield 14, 3) := by decide +kernel
theorem dX5_readPacked_83 : decode cX5_readPacked 83 = .ok (.iload_n 2, 1) := by decide +kernel
theorem dX5_readPacked_84 : decode cX5_readPacked 84 = .ok (.iload_n 1, 1) := by decide +kernel
theorem dX5_readPacked_85 : decode cX5_readPacked 85 = .ok (.invokevirtual 218, 3) := by decide +kernel
theorem dX5_readPacked_88 : decode cX5_readPacked 88 = .ok (.putfield 53, 3) := by decide +kernel
theorem dX5_readPacked_91 : decode cX5_readPacked 91 = .ok (.iconst 0, 1) := by decide +kernel
theorem dX5_readPacked_92 : decode cX5_readPacked 92 = .ok (.istore_n 3, 1) := by decide +kernel
theorem dX5_readPacked_93 : decode cX5_readPacked 93 = .ok (.iload_n 3, 1) := by decide +kernel
theorem dX5_readPacked_94 : decode cX5_readPacked 94 = .ok (.iconst 3, 1) := by decide +kernel
theorem dX5_readPacked_95 : decode cX5_readPacked 95 = .ok (.if_icmp .ge 48, 3) := by decide +kernel
theorem dX5_readPacked_98 : decode cX5_readPacked 98 = .ok (.aload_n 0, 1) := by decide +kernel
theorem dX5_readPacked_99 : decode cX5_readPacked 99 = .ok (.getfield 53, 3) := by decide +kernel
theorem dX5_readPacked_102 : decode cX5_readPacked 102 = .ok (.ifCond .lt 41, 3) := by decide +kernel
theorem dX5_readPacked_105 : decode cX5_readPacked 105 = .ok (.aload_n 0, 1) := by decide +kernel
theorem dX5_readPacked_106 : decode cX5_readPacked 106 = .ok (.getfield 41, 3) := by decide +kernel
theorem dX5_readPacked_109 : decode cX5_readPacked 109 = .ok (.invokevirtual 221, 3) := by decide +kernel
theorem dX5_readPacked_112 : decode cX5_readPacked 112 = .ok (.ifCond .ne 31, 3) := by decide +kernel
theorem dX5_readPacked_115 : decode cX5_readPacked 115 = .ok (.aload_n 0, 1) := by decide +kernel
theorem dX5_readPacked_116 : decode cX5_readPacked 116 = .ok (.aload_n 0, 1) := by decide +kernel
theorem dX5_readPacked_117 : decode cX5_readPacked 117 = .ok (.getfield 41, 3) := by decide +kernel
theorem dX5_readPacked_120 : decode cX5_readPacked 120 = .ok (.iload_n 3, 1) := by decide +kernel
theorem dX5_readPacked_121 : decode cX5_readPacked 121 = .ok (.aload_n 0, 1) := by decide +kernel
theorem dX5_readPacked_122 : decode cX5_readPacked 122 = .ok (.getfield 14, 3) := by decide +kernel
theorem dX5_readPacked_125 : decode cX5_readPacked 125 = .ok (.iload_n 2, 1) := by decide +kernel
theorem dX5_readPacked_126 : decode cX5_readPacked 126 = .ok (.aload_n 0, 1) := by decide +kernel
theorem dX5_readPacked_127 : decode cX5_readPacked 127 = .ok (.getfield 53, 3) := by decide +kernel
theorem dX5_readPacked_130 : decode cX5_readPacked 130 = .ok (.iload_n 1, 1) := by decide +kernel
theorem dX5_readPacked_131 : decode cX5_readPacked 131 = .ok (.invokevirtual 224, 3) := by decide +kernel
theorem dX5_readPacked_134 : decode cX5_readPacked 134 = .ok (.putfield 53, 3) := by decide +kernel
theorem dX5_readPacked_137 : decode cX5_readPacked 137 = .ok (.iinc 3 1, 3) := by decide +kernel
theorem dX5_readPacked_140 : decode cX5_readPacked 140 = .ok (.goto (-47), 3) := by decide +kernel
theorem dX5_readPacked_143 : decode cX5_readPacked 143 = .ok (.aload_n 0, 1) := by decide +kernel
theorem dX5_readPacked_144 : decode cX5_readPacked 144 = .ok (.getfield 53, 3) := by decide +kernel
theorem dX5_readPacked_147 : decode cX5_readPacked 147 = .ok (.ifCond .lt 22, 3) := by decide +kernel
theorem dX5_readPacked_150 : decode cX5_readPacked 150 = .ok (.aload_n 0, 1) := by decide +kernel
theorem dX5_readPacked_151 : decode cX5_readPacked 151 = .ok (.getfield 41, 3) := by decide +kernel
theorem dX5_readPacked_154 : decode cX5_readPacked 154 = .ok (.aload_n 0, 1) := by decide +kernel
theorem dX5_readPacked_155 : decode cX5_readPacked 155 = .ok (.getfield 14, 3) := by decide +kernel
theorem dX5_readPacked_158 : decode cX5_readPacked 158 = .ok (.aload_n 0, 1) := by decide +kernel
theorem dX5_readPacked_159 : decode cX5_readPacked 159 = .ok (.getfield 53, 3) := by decide +kernel
theorem dX5_readPacked_162 : decode cX5_readPacked 162 = .ok (.iload_n 1, 1) := by decide +kernel
theorem dX5_readPacked_163 : decode cX5_readPacked 163 = .ok (.invokevirtual 228, 3) := by decide +kernel
theorem dX5_readPacked_166 : decode cX5_readPacked 166 = .ok (.ifCond .ne 5, 3) := by decide +kernel
theorem dX5_readPacked_169 : decode cX5_readPacked 169 = .ok (.iconst 0, 1) := by decide +kernel
theorem dX5_readPacked_170 : decode cX5_readPacked 170 = .ok (.ireturn, 1) := by decide +kernel
theorem dX5_readPacked_171 : decode cX5_readPacked 171 = .ok (.aload_n 0, 1) := by decide +kernel
theorem dX5_readPacked_172 : decode cX5_readPacked 172 = .ok (.iload_n 1, 1) := by decide +kernel
theorem dX5_readPacked_173 : decode cX5_readPacked 173 = .ok (.putfield 53, 3) := by decide +kernel
theorem dX5_readPacked_176 : decode cX5_readPacked 176 = .ok (.iconst 1, 1) := by decide +kernel
theorem dX5_readPacked_177 : decode cX5_readPacked 177 = .ok (.ireturn, 1) := by decide +kernel
theorem dX5_endBlock_0 : decode cX5_endBlock 0 = .ok (.aload_n 0, 1) := by decide +kernel
theorem dX5_endBlock_1 : decode cX5_endBlock 1 = .ok (.getfield 20, 3) := by decide +kernel
theorem dX5_endBlock_4 : decode cX5_endBlock 4 = .ok (.getfield 57, 3) := by decide +kernel
theorem dX5_endBlock_7 : decode cX5_endBlock 7 = .ok (.sipush 8000, 3) := by decide +kernel
theorem dX5_endBlock_10 : decode cX5_endBlock 10 = .ok (.if_icmp .le 17, 3) := by decide +kernel
theorem dX5_endBlock_13 : decode cX5_endBlock 13 = .ok (.aload_n 0, 1) := by decide +kernel
theorem dX5_endBlock_14 : decode cX5_endBlock 14 = .ok (.getfield 23, 3) := by decide +kernel
theorem dX5_endBlock_17 : decode cX5_endBlock 17 = .ok (.bipush 7, 2) := by decide +kernel
theorem dX5_endBlock_19 : decode cX5_endBlock 19 = .ok (.aload_n 0, 1) := by decide +kernel
theorem dX5_endBlock_20 : decode cX5_endBlock 20 = .ok (.getfield 186, 3) := by decide +kernel
theorem dX5_endBlock_23 : decode cX5_endBlock 23 = .ok (.invokevirtual 122, 3) := by decide +kernel
theorem dX5_endBlock_26 : decode cX5_endBlock 26 = .ok (.ireturn, 1) := by decide +kernel
theorem dX5_endBlock_27 : decode cX5_endBlock 27 = .ok (.aload_n 0, 1) := by decide +kernel
theorem dX5_endBlock_28 : decode cX5_endBlock 28 = .ok (.getfield 23, 3) := by decide +kernel
theorem dX5_endBlock_31 : decode cX5_endBlock 31 = .ok (.getfield 132, 3) := by decide +kernel
theorem dX5_endBlock_34 : decode cX5_endBlock 34 = .ok (.iconst 2, 1) := by decide +kernel
theorem dX5_endBlock_35 : decode cX5_endBlock 35 = .ok (.dup2, 1) := by decide +kernel
theorem dX5_endBlock_36 : decode cX5_endBlock 36 = .ok (.iaload, 1) := by decide +kernel
theorem dX5_endBlock_37 : decode cX5_endBlock 37 = .ok (.aload_n 0, 1) := by decide +kernel
theorem dX5_endBlock_38 : decode cX5_endBlock 38 = .ok (.getfield 79, 3) := by decide +kernel
theorem dX5_endBlock_41 : decode cX5_endBlock 41 = .ok (.iconst 2, 1) := by decide +kernel
theorem dX5_endBlock_42 : decode cX5_endBlock 42 = .ok (.if_icmp .ne 7, 3) := by decide +kernel
theorem dX5_endBlock_45 : decode cX5_endBlock 45 = .ok (.iconst 1, 1) := by decide +kernel
theorem dX5_endBlock_46 : decode cX5_endBlock 46 = .ok (.goto 4, 3) := by decide +kernel
theorem dX5_endBlock_49 : decode cX5_endBlock 49 = .ok (.iconst 0, 1) := by decide +kernel
theorem dX5_endBlock_50 : decode cX5_endBlock 50 = .ok (.iadd, 1) := by decide +kernel
theorem dX5_endBlock_51 : decode cX5_endBlock 51 = .ok (.iastore, 1) := by decide +kernel
theorem dX5_endBlock_52 : decode cX5_endBlock 52 = .ok (.aload_n 0, 1) := by decide +kernel
theorem dX5_endBlock_53 : decode cX5_endBlock 53 = .ok (.getfield 23, 3) := by decide +kernel
theorem dX5_endBlock_56 : decode cX5_endBlock 56 = .ok (.getfield 132, 3) := by decide +kernel
theorem dX5_endBlock_59 : decode cX5_endBlock 59 = .ok (.iconst 5, 1) := by decide +kernel
theorem dX5_endBlock_60 : decode cX5_endBlock 60 = .ok (.aload_n 0, 1) := by decide +kernel
theorem dX5_endBlock_61 : decode cX5_endBlock 61 = .ok (.getfield 20, 3) := by decide +kernel
theorem dX5_endBlock_64 : decode cX5_endBlock 64 = .ok (.getfield 57, 3) := by decide +kernel
theorem dX5_endBlock_67 : decode cX5_endBlock 67 = .ok (.iastore, 1) := by decide +kernel
theorem dX5_endBlock_68 : decode cX5_endBlock 68 = .ok (.iconst 1, 1) := by decide +kernel
theorem dX5_endBlock_69 : decode cX5_endBlock 69 = .ok (.ireturn, 1) := by decide +kernel
theorem dX5_readEnd_0 : decode cX5_readEnd 0 = .ok (.aload_n 0, 1) := by decide +kernel
theorem dX5_readEnd_1 : decode cX5_readEnd 1 = .ok (.getfield 172, 3) := by decide +kernel
theorem dX5_readEnd_4 : decode cX5_readEnd 4 = .ok (.ifCond .eq 41, 3) := by decide +kernel
theorem dX5_readEnd_7 : decode cX5_readEnd 7 = .ok (.aload_n 0, 1) := by decide +kernel
theorem dX5_readEnd_8 : decode cX5_readEnd 8 = .ok (.getfield 175, 3) := by decide +kernel
theorem dX5_readEnd_11 : decode cX5_readEnd 11 = .ok (.aload_n 0, 1) := by decide +kernel
theorem dX5_readEnd_12 : decode cX5_readEnd 12 = .ok (.getfield 20, 3) := by decide +kernel
theorem dX5_readEnd_15 : decode cX5_readEnd 15 = .ok (.getfield 57, 3) := by decide +kernel
theorem dX5_readEnd_18 : decode cX5_readEnd 18 = .ok (.aload_n 0, 1) := by decide +kernel
theorem dX5_readEnd_19 : decode cX5_readEnd 19 = .ok (.getfield 41, 3) := by decide +kernel
theorem dX5_readEnd_22 : decode cX5_readEnd 22 = .ok (.getfield 232, 3) := by decide +kernel
theorem dX5_readEnd_25 : decode cX5_readEnd 25 = .ok (.isub, 1) := by decide +kernel
theorem dX5_readEnd_26 : decode cX5_readEnd 26 = .ok (.i2l, 1) := by decide +kernel
theorem dX5_readEnd_27 : decode cX5_readEnd 27 = .ok (.lcmp, 1) := by decide +kernel
theorem dX5_readEnd_28 : decode cX5_readEnd 28 = .ok (.ifCond .eq 17, 3) := by decide +kernel
theorem dX5_readEnd_31 : decode cX5_readEnd 31 = .ok (.aload_n 0, 1) := by decide +kernel
theorem dX5_readEnd_32 : decode cX5_readEnd 32 = .ok (.getfield 23, 3) := by decide +kernel
theorem dX5_readEnd_35 : decode cX5_readEnd 35 = .ok (.bipush 8, 2) := by decide +kernel
theorem dX5_readEnd_37 : decode cX5_readEnd 37 = .ok (.aload_n 0, 1) := by decide +kernel
theorem dX5_readEnd_38 : decode cX5_readEnd 38 = .ok (.getfield 169, 3) := by decide +kernel
theorem dX5_readEnd_41 : decode cX5_readEnd 41 = .ok (.invokevirtual 122, 3) := by decide +kernel
theorem dX5_readEnd_44 : decode cX5_readEnd 44 = .ok (.ireturn, 1) := by decide +kernel
theorem dX5_readEnd_45 : decode cX5_readEnd 45 = .ok (.aload_n 0, 1) := by decide +kernel
theorem dX5_readEnd_46 : decode cX5_readEnd 46 = .ok (.getfield 140, 3) := by decide +kernel
theorem dX5_readEnd_49 : decode cX5_readEnd 49 = .ok (.ifCond .ne 5, 3) := by decide +kernel
theorem dX5_readEnd_52 : decode cX5_readEnd 52 = .ok (.iconst 1, 1) := by decide +kernel
theorem dX5_readEnd_53 : decode cX5_readEnd 53 = .ok (.ireturn, 1) := by decide +kernel
theorem dX5_readEnd_54 : decode cX5_readEnd 54 = .ok (.aload_n 0, 1) := by decide +kernel
theorem dX5_readEnd_55 : decode cX5_readEnd 55 = .ok (.ldc2_w 103, 3) := by decide +kernel
theorem dX5_readEnd_58 : decode cX5_readEnd 58 = .ok (.invokevirtual 105, 3) := by decide +kernel
theorem dX5_readEnd_61 : decode cX5_readEnd 61 = .ok (.ifCond .ne 8, 3) := by decide +kernel
theorem dX5_readEnd_64 : decode cX5_readEnd 64 = .ok (.aload_n 0, 1) := by decide +kernel
theorem dX5_readEnd_65 : decode cX5_readEnd 65 = .ok (.invokevirtual 109, 3) := by decide +kernel
theorem dX5_readEnd_68 : decode cX5_readEnd 68 = .ok (.ireturn, 1) := by decide +kernel
theorem dX5_readEnd_69 : decode cX5_readEnd 69 = .ok (.aload_n 0, 1) := by decide +kernel
theorem dX5_readEnd_70 : decode cX5_readEnd 70 = .ok (.getfield 14, 3) := by decide +kernel
theorem dX5_readEnd_73 : decode cX5_readEnd 73 = .ok (.aload_n 0, 1) := by decide +kernel
theorem dX5_readEnd_74 : decode cX5_readEnd 74 = .ok (.getfield 53, 3) := by decide +kernel
theorem dX5_readEnd_77 : decode cX5_readEnd 77 = .ok (.iconst 4, 1) := by decide +kernel
theorem dX5_readEnd_78 : decode cX5_readEnd 78 = .ok (.invokevirtual 112, 3) := by decide +kernel
theorem dX5_readEnd_81 : decode cX5_readEnd 81 = .ok (.l2i, 1) := by decide +kernel
theorem dX5_readEnd_82 : decode cX5_readEnd 82 = .ok (.aload_n 0, 1) := by decide +kernel
theorem dX5_readEnd_83 : decode cX5_readEnd 83 = .ok (.getfield 20, 3) := by decide +kernel
theorem dX5_readEnd_86 : decode cX5_readEnd 86 = .ok (.aload_n 0, 1) := by decide +kernel
theorem dX5_readEnd_87 : decode cX5_readEnd 87 = .ok (.getfield 41, 3) := by decide +kernel
theorem dX5_readEnd_90 : decode cX5_readEnd 90 = .ok (.getfield 232, 3) := by decide +kernel
theorem dX5_readEnd_93 : decode cX5_readEnd 93 = .ok (.invokevirtual 235, 3) := by decide +kernel
theorem dX5_readEnd_96 : decode cX5_readEnd 96 = .ok (.l2i, 1) := by decide +kernel
theorem dX5_readEnd_97 : decode cX5_readEnd 97 = .ok (.if_icmp .eq 17, 3) := by decide +kernel
theorem dX5_readEnd_100 : decode cX5_readEnd 100 = .ok (.aload_n 0, 1) := by decide +kernel
theorem dX5_readEnd_101 : decode cX5_readEnd 101 = .ok (.getfield 23, 3) := by decide +kernel
theorem dX5_readEnd_104 : decode cX5_readEnd 104 = .ok (.bipush 9, 2) := by decide +kernel
theorem dX5_readEnd_106 : decode cX5_readEnd 106 = .ok (.aload_n 0, 1) := by decide +kernel
theorem dX5_readEnd_107 : decode cX5_readEnd 107 = .ok (.getfield 53, 3) := by decide +kernel
theorem dX5_readEnd_110 : decode cX5_readEnd 110 = .ok (.invokevirtual 122, 3) := by decide +kernel
theorem dX5_readEnd_113 : decode cX5_readEnd 113 = .ok (.ireturn, 1) := by decide +kernel
theorem dX5_readEnd_114 : decode cX5_readEnd 114 = .ok (.aload_n 0, 1) := by decide +kernel
theorem dX5_readEnd_115 : decode cX5_readEnd 115 = .ok (.dup, 1) := by decide +kernel
theorem dX5_readEnd_116 : decode cX5_readEnd 116 = .ok (.getfield 53, 3) := by decide +kernel
theorem dX5_readEnd_119 : decode cX5_readEnd 119 = .ok (.iconst 4, 1) := by decide +kernel
theorem dX5_readEnd_120 : decode cX5_readEnd 120 = .ok (.iadd, 1) := by decide +kernel
theorem dX5_readEnd_121 : decode cX5_readEnd 121 = .ok (.putfield 53, 3) := by decide +kernel
theorem dX5_readEnd_124 : decode cX5_readEnd 124 = .ok (.iconst 1, 1) := by decide +kernel
theorem dX5_readEnd_125 : decode cX5_readEnd 125 = .ok (.ireturn, 1) := by decide +kernel
theorem dX6_init_0 : decode cX6_init 0 = .ok (.aload_n 0, 1) := by decide +kernel
theorem dX6_init_1 : decode cX6_init 1 = .ok (.invokespecial 3, 3) := by decide +kernel
theorem dX6_init_4 : decode cX6_init 4 = .ok (.aload_n 0, 1) := by decide +kernel
theorem dX6_init_5 : decode cX6_init 5 = .ok (.new 9, 3) := by decide +kernel
theorem dX6_init_8 : decode cX6_init 8 = .ok (.dup, 1) := by decide +kernel
theorem dX6_init_9 : decode cX6_init 9 = .ok (.invokespecial 11, 3) := by decide +kernel
theorem dX6_init_12 : decode cX6_init 12 = .ok (.putfield 12, 3) := by decide +kernel
theorem dX6_init_15 : decode cX6_init 15 = .ok (.aload_n 0, 1) := by decide +kernel
theorem dX6_init_16 : decode cX6_init 16 = .ok (.new 18, 3) := by decide +kernel
theorem dX6_init_19 : decode cX6_init 19 = .ok (.dup, 1) := by decide +kernel
theorem dX6_init_20 : decode cX6_init 20 = .ok (.sipush 8000, 3) := by decide +kernel
theorem dX6_init_23 : decode cX6_init 23 = .ok (.invokespecial 20, 3) := by decide +kernel
theorem dX6_init_26 : decode cX6_init 26 = .ok (.putfield 23, 3) := by decide +kernel
theorem dX6_init_29 : decode cX6_init 29 = .ok (.aload_n 0, 1) := by decide +kernel
theorem dX6_init_30 : decode cX6_init 30 = .ok (.new 27, 3) := by decide +kernel
theorem dX6_init_33 : decode cX6_init 33 = .ok (.dup, 1) := by decide +kernel
theorem dX6_init_34 : decode cX6_init 34 = .ok (.invokespecial 29, 3) := by decide +kernel
theorem dX6_init_37 : decode cX6_init 37 = .ok (.putfield 30, 3) := by decide +kernel
theorem dX6_init_40 : decode cX6_init 40 = .ok (.aload_n 0, 1) := by decide +kernel
theorem dX6_init_41 : decode cX6_init 41 = .ok (.iconst 3, 1) := by decide +kernel
theorem dX6_init_42 : decode cX6_init 42 = .ok (.anewarray 34, 3) := by decide +kernel
theorem dX6_init_45 : decode cX6_init 45 = .ok (.putfield 36, 3) := by decide +kernel
theorem dX6_init_48 : decode cX6_init 48 = .ok (.aload_n 0, 1) := by decide +kernel
theorem dX6_init_49 : decode cX6_init 49 = .ok (.iconst 3, 1) := by decide +kernel
theorem dX6_init_50 : decode cX6_init 50 = .ok (.anewarray 34, 3) := by decide +kernel
theorem dX6_init_53 : decode cX6_init 53 = .ok (.putfield 40, 3) := by decide +kernel
theorem dX6_init_56 : decode cX6_init 56 = .ok (.aload_n 0, 1) := by decide +kernel
theorem dX6_init_57 : decode cX6_init 57 = .ok (.iconst 3, 1) := by decide +kernel
theorem dX6_init_58 : decode cX6_init 58 = .ok (.newarray .int, 2) := by decide +kernel
theorem dX6_init_60 : decode cX6_init 60 = .ok (.putfield 43, 3) := by decide +kernel
theorem dX6_init_63 : decode cX6_init 63 = .ok (.aload_n 0, 1) := by decide +kernel
theorem dX6_init_64 : decode cX6_init 64 = .ok (.sipush 512, 3) := by decide +kernel
theorem dX6_init_67 : decode cX6_init 67 = .ok (.newarray .int, 2) := by decide +kernel
theorem dX6_init_69 : decode cX6_init 69 = .ok (.putfield 47, 3) := by decide +kernel
theorem dX6_init_72 : decode cX6_init 72 = .ok (.aload_n 0, 1) := by decide +kernel
theorem dX6_init_73 : decode cX6_init 73 = .ok (.iconst 3, 1) := by decide +kernel
theorem dX6_init_74 : decode cX6_init 74 = .ok (.newarray .int, 2) := by decide +kernel
theorem dX6_init_76 : decode cX6_init 76 = .ok (.putfield 50, 3) := by decide +kernel
theorem dX6_init_79 : decode cX6_init 79 = .ok (.aload_n 0, 1) := by decide +kernel
theorem dX6_init_80 : decode cX6_init 80 = .ok (.iconst 3, 1) := by decide +kernel
theorem dX6_init_81 : decode cX6_init 81 = .ok (.newarray .int, 2) := by decide +kernel
theorem dX6_init_83 : decode cX6_init 83 = .ok (.putfield 53, 3) := by decide +kernel
theorem dX6_init_86 : decode cX6_init 86 = .ok (.aload_n 0, 1) := by decide +kernel
theorem dX6_init_87 : decode cX6_init 87 = .ok (.bipush 64, 2) := by decide +kernel
theorem dX6_init_89 : decode cX6_init 89 = .ok (.newarray .int, 2) := by decide +kernel
theorem dX6_init_91 : decode cX6_init 91 = .ok (.putfield 56, 3) := by decide +kernel
theorem dX6_init_94 : decode cX6_init 94 = .ok (.aload_n 0, 1) := by decide +kernel
theorem dX6_init_95 : decode cX6_init 95 = .ok (.aload_n 0, 1) := by decide +kernel
theorem dX6_init_96 : decode cX6_init 96 = .ok (.getfield 23, 3) := by decide +kernel
theorem dX6_init_99 : decode cX6_init 99 = .ok (.putfield 59, 3) := by decide +kernel
theorem dX6_init_102 : decode cX6_init 102 = .ok (.aload_n 0, 1) := by decide +kernel
theorem dX6_init_103 : decode cX6_init 103 = .ok (.aload_n 0, 1) := by decide +kernel
theorem dX6_init_104 : decode cX6_init 104 = .ok (.getfield 23, 3) := by decide +kernel
theorem dX6_init_107 : decode cX6_init 107 = .ok (.putfield 62, 3) := by decide +kernel
theorem dX6_init_110 : decode cX6_init 110 = .ok (.aload_n 0, 1) := by decide +kernel
theorem dX6_init_111 : decode cX6_init 111 = .ok (.aload_n 1, 1) := by decide +kernel
theorem dX6_init_112 : decode cX6_init 112 = .ok (.putfield 65, 3) := by decide +kernel
theorem dX6_init_115 : decode cX6_init 115 = .ok (.aload_n 0, 1) := by decide +kernel
theorem dX6_init_116 : decode cX6_init 116 = .ok (.aload_n 2, 1) := by decide +kernel
theorem dX6_init_117 : decode cX6_init 117 = .ok (.putfield 69, 3) := by decide +kernel
theorem dX6_init_120 : decode cX6_init 120 = .ok (.iconst 0, 1) := by decide +kernel
theorem dX6_init_121 : decode cX6_init 121 = .ok (.istore_n 3, 1) := by decide +kernel
theorem dX6_init_122 : decode cX6_init 122 = .ok (.iload_n 3, 1) := by decide +kernel
theorem dX6_init_123 : decode cX6_init 123 = .ok (.iconst 3, 1) := by decide +kernel
theorem dX6_init_124 : decode cX6_init 124 = .ok (.if_icmp .ge 34, 3) := by decide +kernel
theorem dX6_init_127 : decode cX6_init 127 = .ok (.aload_n 0, 1) := by decide +kernel
theorem dX6_init_128 : decode cX6_init 128 = .ok (.getfield 36, 3) := by decide +kernel
theorem dX6_init_131 : decode cX6_init 131 = .ok (.iload_n 3, 1) := by decide +kernel
theorem dX6_init_132 : decode cX6_init 132 = .ok (.new 34, 3) := by decide +kernel
theorem dX6_init_135 : decode cX6_init 135 = .ok (.dup, 1) := by decide +kernel
theorem dX6_init_136 : decode cX6_init 136 = .ok (.invokespecial 72, 3) := by decide +kernel
theorem dX6_init_139 : decode cX6_init 139 = .ok (.aastore, 1) := by decide +kernel
theorem dX6_init_140 : decode cX6_init 140 = .ok (.aload_n 0, 1) := by decide +kernel
theorem dX6_init_141 : decode cX6_init 141 = .ok (.getfield 40, 3) := by decide +kernel
theorem dX6_init_144 : decode cX6_init 144 = .ok (.iload_n 3, 1) := by decide +kernel
theorem dX6_init_145 : decode cX6_init 145 = .ok (.aload_n 0, 1) := by decide +kernel
theorem dX6_init_146 : decode cX6_init 146 = .ok (.getfield 36, 3) := by decide +kernel
theorem dX6_init_149 : decode cX6_init 149 = .ok (.iload_n 3, 1) := by decide +kernel
theorem dX6_init_150 : decode cX6_init 150 = .ok (.aaload, 1) := by decide +kernel
theorem dX6_init_151 : decode cX6_init 151 = .ok (.aastore, 1) := by decide +kernel
theorem dX6_init_152 : decode cX6_init 152 = .ok (.iinc 3 1, 3) := by decide +kernel
theorem dX6_init_155 : decode cX6_init 155 = .ok (.goto (-33), 3) := by decide +kernel
theorem dX6_init_158 : decode cX6_init 158 = .ok (.return_, 1) := by decide +kernel
theorem dX6_packRow_0 : decode cX6_packRow 0 = .ok (.aload_n 0, 1) := by decide +kernel
theorem dX6_packRow_1 : decode cX6_packRow 1 = .ok (.aload_n 1, 1) := by decide +kernel
theorem dX6_packRow_2 : decode cX6_packRow 2 = .ok (.putfield 59, 3) := by decide +kernel
theorem dX6_packRow_5 : decode cX6_packRow 5 = .ok (.aload_n 0, 1) := by decide +kernel
theorem dX6_packRow_6 : decode cX6_packRow 6 = .ok (.aload_n 2, 1) := by decide +kernel
theorem dX6_packRow_7 : decode cX6_packRow 7 = .ok (.putfield 62, 3) := by decide +kernel
theorem dX6_packRow_10 : decode cX6_packRow 10 = .ok (.aload_n 0, 1) := by decide +kernel
theorem dX6_packRow_11 : decode cX6_packRow 11 = .ok (.iload 4, 2) := by decide +kernel
theorem dX6_packRow_13 : decode cX6_packRow 13 = .ok (.putfield 73, 3) := by decide +kernel
theorem dX6_packRow_16 : decode cX6_packRow 16 = .ok (.aload_n 0, 1) := by decide +kernel
theorem dX6_packRow_17 : decode cX6_packRow 17 = .ok (.getfield 62, 3) := by decide +kernel
theorem dX6_packRow_20 : decode cX6_packRow 20 = .ok (.iconst 0, 1) := by decide +kernel
theorem dX6_packRow_21 : decode cX6_packRow 21 = .ok (.putfield 77, 3) := by decide +kernel
theorem dX6_packRow_24 : decode cX6_packRow 24 = .ok (.aload_n 0, 1) := by decide +kernel
theorem dX6_packRow_25 : decode cX6_packRow 25 = .ok (.aload_n 3, 1) := by decide +kernel
theorem dX6_packRow_26 : decode cX6_packRow 26 = .ok (.ifnonnull 7, 3) := by decide +kernel
theorem dX6_packRow_29 : decode cX6_packRow 29 = .ok (.iconst 0, 1) := by decide +kernel
theorem dX6_packRow_30 : decode cX6_packRow 30 = .ok (.goto 7, 3) := by decide +kernel
theorem dX6_packRow_33 : decode cX6_packRow 33 = .ok (.aload_n 3, 1) := by decide +kernel
theorem dX6_packRow_34 : decode cX6_packRow 34 = .ok (.getfield 80, 3) := by decide +kernel
theorem dX6_packRow_37 : decode cX6_packRow 37 = .ok (.iload 5, 2) := by decide +kernel
theorem dX6_packRow_39 : decode cX6_packRow 39 = .ok (.invokevirtual 85, 3) := by decide +kernel
theorem dX6_packRow_42 : decode cX6_packRow 42 = .ok (.aload_n 0, 1) := by decide +kernel
theorem dX6_packRow_43 : decode cX6_packRow 43 = .ok (.getfield 50, 3) := by decide +kernel
theorem dX6_packRow_46 : decode cX6_packRow 46 = .ok (.aload_n 3, 1) := by decide +kernel
theorem dX6_packRow_47 : decode cX6_packRow 47 = .ok (.invokestatic 89, 3) := by decide +kernel
theorem dX6_packRow_50 : decode cX6_packRow 50 = .ok (.aload_n 0, 1) := by decide +kernel
theorem dX6_packRow_51 : decode cX6_packRow 51 = .ok (.getfield 12, 3) := by decide +kernel
theorem dX6_packRow_54 : decode cX6_packRow 54 = .ok (.aload_n 0, 1) := by decide +kernel
theorem dX6_packRow_55 : decode cX6_packRow 55 = .ok (.getfield 59, 3) := by decide +kernel
theorem dX6_packRow_58 : decode cX6_packRow 58 = .ok (.aload_n 3, 1) := by decide +kernel
theorem dX6_packRow_59 : decode cX6_packRow 59 = .ok (.ifnonnull 7, 3) := by decide +kernel
theorem dX6_packRow_62 : decode cX6_packRow 62 = .ok (.aconst_null, 1) := by decide +kernel
theorem dX6_packRow_63 : decode cX6_packRow 63 = .ok (.goto 7, 3) := by decide +kernel
theorem dX6_packRow_66 : decode cX6_packRow 66 = .ok (.aload_n 3, 1) := by decide +kernel
theorem dX6_packRow_67 : decode cX6_packRow 67 = .ok (.getfield 93, 3) := by decide +kernel
theorem dX6_packRow_70 : decode cX6_packRow 70 = .ok (.invokevirtual 96, 3) := by decide +kernel
theorem dX6_packRow_73 : decode cX6_packRow 73 = .ok (.iconst 0, 1) := by decide +kernel
theorem dX6_packRow_74 : decode cX6_packRow 74 = .ok (.istore 6, 2) := by decide +kernel
theorem dX6_packRow_76 : decode cX6_packRow 76 = .ok (.iconst 0, 1) := by decide +kernel
theorem dX6_packRow_77 : decode cX6_packRow 77 = .ok (.istore 7, 2) := by decide +kernel
theorem dX6_packRow_79 : decode cX6_packRow 79 = .ok (.iload 7, 2) := by decide +kernel
theorem dX6_packRow_81 : decode cX6_packRow 81 = .ok (.ifCond .eq 23, 3) := by decide +kernel
theorem dX6_packRow_84 : decode cX6_packRow 84 = .ok (.iload 7, 2) := by decide +kernel
theorem dX6_packRow_86 : decode cX6_packRow 86 = .ok (.sipush 8000, 3) := by decide +kernel
theorem dX6_packRow_89 : decode cX6_packRow 89 = .ok (.if_icmp .ge 145, 3) := by decide +kernel
theorem dX6_packRow_92 : decode cX6_packRow 92 = .ok (.iload 6, 2) := by decide +kernel
theorem dX6_packRow_94 : decode cX6_packRow 94 = .ok (.aload_n 0, 1) := by decide +kernel
theorem dX6_packRow_95 : decode cX6_packRow 95 = .ok (.getfield 59, 3) := by decide +kernel
theorem dX6_packRow_98 : decode cX6_packRow 98 = .ok (.getfield 77, 3) := by decide +kernel
theorem dX6_packRow_101 : decode cX6_packRow 101 = .ok (.if_icmp .ge 133, 3) := by decide +kernel
theorem dX6_packRow_104 : decode cX6_packRow 104 = .ok (.iload 6, 2) := by decide +kernel
theorem dX6_packRow_106 : decode cX6_packRow 106 = .ok (.sipush 2048, 3) := by decide +kernel
theorem dX6_packRow_109 : decode cX6_packRow 109 = .ok (.iadd, 1) := by decide +kernel
theorem dX6_packRow_110 : decode cX6_packRow 110 = .ok (.aload_n 0, 1) := by decide +kernel
theorem dX6_packRow_111 : decode cX6_packRow 111 = .ok (.getfield 59, 3) := by decide +kernel
theorem dX6_packRow_114 : decode cX6_packRow 114 = .ok (.getfield 77, 3) := by decide +kernel
theorem dX6_packRow_117 : decode cX6_packRow 117 = .ok (.invokestatic 100, 3) := by decide +kernel
theorem dX6_packRow_120 : decode cX6_packRow 120 = .ok (.istore 8, 2) := by decide +kernel
theorem dX6_packRow_122 : decode cX6_packRow 122 = .ok (.aload_n 0, 1) := by decide +kernel
theorem dX6_packRow_123 : decode cX6_packRow 123 = .ok (.getfield 73, 3) := by decide +kernel
theorem dX6_packRow_126 : decode cX6_packRow 126 = .ok (.ifCond .le 14, 3) := by decide +kernel
theorem dX6_packRow_129 : decode cX6_packRow 129 = .ok (.iload 8, 2) := by decide +kernel
theorem dX6_packRow_131 : decode cX6_packRow 131 = .ok (.iload 6, 2) := by decide +kernel
theorem dX6_packRow_133 : decode cX6_packRow 133 = .ok (.if_icmp .le 7, 3) := by decide +kernel
theorem dX6_packRow_136 : decode cX6_packRow 136 = .ok (.iconst 1, 1) := by decide +kernel
theorem dX6_packRow_137 : decode cX6_packRow 137 = .ok (.goto 4, 3) := by decide +kernel
theorem dX6_packRow_140 : decode cX6_packRow 140 = .ok (.iconst 0, 1) := by decide +kernel
theorem dX6_packRow_141 : decode cX6_packRow 141 = .ok (.istore 9, 2) := by decide +kernel
theorem dX6_packRow_143 : decode cX6_packRow 143 = .ok (.iload 9, 2) := by decide +kernel
theorem dX6_packRow_145 : decode cX6_packRow 145 = .ok (.ifCond .eq 21, 3) := by decide +kernel
theorem dX6_packRow_148 : decode cX6_packRow 148 = .ok (.aload_n 0, 1) := by decide +kernel
theorem dX6_packRow_149 : decode cX6_packRow 149 = .ok (.getfield 59, 3) := by decide +kernel
theorem dX6_packRow_152 : decode cX6_packRow 152 = .ok (.iload 6, 2) := by decide +kernel
theorem dX6_packRow_154 : decode cX6_packRow 154 = .ok (.iload 8, 2) := by decide +kernel
theorem dX6_packRow_156 : decode cX6_packRow 156 = .ok (.invokevirtual 106, 3) := by decide +kernel
theorem dX6_packRow_159 : decode cX6_packRow 159 = .ok (.ifCond .eq 7, 3) := by decide +kernel
theorem dX6_packRow_162 : decode cX6_packRow 162 = .ok (.iconst 1, 1) := by decide +kernel
theorem dX6_packRow_163 : decode cX6_packRow 163 = .ok (.goto 4, 3) := by decide +kernel
theorem dX6_packRow_166 : decode cX6_packRow 166 = .ok (.iconst 0, 1) := by decide +kernel
theorem dX6_packRow_167 : decode cX6_packRow 167 = .ok (.istore 10, 2) := by decide +kernel
theorem dX6_packRow_169 : decode cX6_packRow 169 = .ok (.iload 9, 2) := by decide +kernel
theorem dX6_packRow_171 : decode cX6_packRow 171 = .ok (.ifCond .eq 23, 3) := by decide +kernel
theorem dX6_packRow_174 : decode cX6_packRow 174 = .ok (.iload 10, 2) := by decide +kernel
theorem dX6_packRow_176 : decode cX6_packRow 176 = .ok (.ifCond .ne 18, 3) := by decide +kernel
theorem dX6_packRow_179 : decode cX6_packRow 179 = .ok (.aload_n 0, 1) := by decide +kernel
theorem dX6_packRow_180 : decode cX6_packRow 180 = .ok (.iload 6, 2) := by decide +kernel
theorem dX6_packRow_182 : decode cX6_packRow 182 = .ok (.iload 8, 2) := by decide +kernel
theorem dX6_packRow_184 : decode cX6_packRow 184 = .ok (.invokevirtual 110, 3) := by decide +kernel
theorem dX6_packRow_187 : decode cX6_packRow 187 = .ok (.ifCond .eq 7, 3) := by decide +kernel
theorem dX6_packRow_190 : decode cX6_packRow 190 = .ok (.iconst 1, 1) := by decide +kernel
theorem dX6_packRow_191 : decode cX6_packRow 191 = .ok (.goto 4, 3) := by decide +kernel
theorem dX6_packRow_194 : decode cX6_packRow 194 = .ok (.iconst 0, 1) := by decide +kernel
theorem dX6_packRow_195 : decode cX6_packRow 195 = .ok (.istore 11, 2) := by decide +kernel
theorem dX6_packRow_197 : decode cX6_packRow 197 = .ok (.aload_n 0, 1) := by decide +kernel
theorem dX6_packRow_198 : decode cX6_packRow 198 = .ok (.iload 6, 2) := by decide +kernel
theorem dX6_packRow_200 : decode cX6_packRow 200 = .ok (.iload 8, 2) := by decide +kernel
theorem dX6_packRow_202 : decode cX6_packRow 202 = .ok (.iload 10, 2) := by decide +kernel
theorem dX6_packRow_204 : decode cX6_packRow 204 = .ok (.ifCond .eq 7, 3) := by decide +kernel
theorem dX6_packRow_207 : decode cX6_packRow 207 = .ok (.iconst 1, 1) := by decide +kernel
theorem dX6_packRow_208 : decode cX6_packRow 208 = .ok (.goto 13, 3) := by decide +kernel
theorem dX6_packRow_211 : decode cX6_packRow 211 = .ok (.iload 11, 2) := by decide +kernel
theorem dX6_packRow_213 : decode cX6_packRow 213 = .ok (.ifCond .eq 7, 3) := by decide +kernel
theorem dX6_packRow_216 : decode cX6_packRow 216 = .ok (.iconst 2, 1) := by decide +kernel
theorem dX6_packRow_217 : decode cX6_packRow 217 = .ok (.goto 4, 3) := by decide +kernel
theorem dX6_packRow_220 : decode cX6_packRow 220 = .ok (.iconst 0, 1) := by decide +kernel
theorem dX6_packRow_221 : decode cX6_packRow 221 = .ok (.invokevirtual 113, 3) := by decide +kernel
theorem dX6_packRow_224 : decode cX6_packRow 224 = .ok (.iload 8, 2) := by decide +kernel
theorem dX6_packRow_226 : decode cX6_packRow 226 = .ok (.istore 6, 2) := by decide +kernel
theorem dX6_packRow_228 : decode cX6_packRow 228 = .ok (.iinc 7 1, 3) := by decide +kernel
theorem dX6_packRow_231 : decode cX6_packRow 231 = .ok (.goto (-152), 3) := by decide +kernel
theorem dX6_packRow_234 : decode cX6_packRow 234 = .ok (.iload 5, 2) := by decide +kernel
theorem dX6_packRow_236 : decode cX6_packRow 236 = .ok (.iconst 1, 1) := by decide +kernel
theorem dX6_packRow_237 : decode cX6_packRow 237 = .ok (.iand, 1) := by decide +kernel
theorem dX6_packRow_238 : decode cX6_packRow 238 = .ok (.ifCond .eq 19, 3) := by decide +kernel
theorem dX6_packRow_241 : decode cX6_packRow 241 = .ok (.aload_n 0, 1) := by decide +kernel
theorem dX6_packRow_242 : decode cX6_packRow 242 = .ok (.getfield 62, 3) := by decide +kernel
theorem dX6_packRow_245 : decode cX6_packRow 245 = .ok (.aload_n 0, 1) := by decide +kernel
theorem dX6_packRow_246 : decode cX6_packRow 246 = .ok (.getfield 59, 3) := by decide +kernel
theorem dX6_packRow_249 : decode cX6_packRow 249 = .ok (.iconst 0, 1) := by decide +kernel
theorem dX6_packRow_250 : decode cX6_packRow 250 = .ok (.invokevirtual 117, 3) := by decide +kernel
theorem dX6_packRow_253 : decode cX6_packRow 253 = .ok (.iconst 4, 1) := by decide +kernel
theorem dX6_packRow_254 : decode cX6_packRow 254 = .ok (.invokevirtual 121, 3) := by decide +kernel
theorem dX6_packRow_257 : decode cX6_packRow 257 = .ok (.return_, 1) := by decide +kernel
theorem dX6_writeHead_0 : decode cX6_writeHead 0 = .ok (.iload_n 2, 1) := by decide +kernel
theorem dX6_writeHead_1 : decode cX6_writeHead 1 = .ok (.iconst 2, 1) := by decide +kernel
theorem dX6_writeHead_2 : decode cX6_writeHead 2 = .ok (.iand, 1) := by decide +kernel
theorem dX6_writeHead_3 : decode cX6_writeHead 3 = .ok (.ifCond .eq 7, 3) := by decide +kernel
theorem dX6_writeHead_6 : decode cX6_writeHead 6 = .ok (.iconst 1, 1) := by decide +kernel
theorem dX6_writeHead_7 : decode cX6_writeHead 7 = .ok (.goto 4, 3) := by decide +kernel
theorem dX6_writeHead_10 : decode cX6_writeHead 10 = .ok (.iconst 0, 1) := by decide +kernel
theorem dX6_writeHead_11 : decode cX6_writeHead 11 = .ok (.istore_n 3, 1) := by decide +kernel
theorem dX6_writeHead_12 : decode cX6_writeHead 12 = .ok (.aload_n 0, 1) := by decide +kernel
theorem dX6_writeHead_13 : decode cX6_writeHead 13 = .ok (.getfield 59, 3) := by decide +kernel
theorem dX6_writeHead_16 : decode cX6_writeHead 16 = .ok (.getfield 77, 3) := by decide +kernel
theorem dX6_writeHead_19 : decode cX6_writeHead 19 = .ok (.istore 4, 2) := by decide +kernel
theorem dX6_writeHead_21 : decode cX6_writeHead 21 = .ok (.iload_n 1, 1) := by decide +kernel
theorem dX6_writeHead_22 : decode cX6_writeHead 22 = .ok (.ifCond .ne 7, 3) := by decide +kernel
theorem dX6_writeHead_25 : decode cX6_writeHead 25 = .ok (.iconst 0, 1) := by decide +kernel
theorem dX6_writeHead_26 : decode cX6_writeHead 26 = .ok (.goto 26, 3) := by decide +kernel
theorem dX6_writeHead_29 : decode cX6_writeHead 29 = .ok (.iload_n 1, 1) := by decide +kernel
theorem dX6_writeHead_30 : decode cX6_writeHead 30 = .ok (.bipush 8, 2) := by decide +kernel
theorem dX6_writeHead_32 : decode cX6_writeHead 32 = .ok (.iushr, 1) := by decide +kernel
theorem dX6_writeHead_33 : decode cX6_writeHead 33 = .ok (.ifCond .ne 7, 3) := by decide +kernel
theorem dX6_writeHead_36 : decode cX6_writeHead 36 = .ok (.iconst 1, 1) := by decide +kernel
theorem dX6_writeHead_37 : decode cX6_writeHead 37 = .ok (.goto 15, 3) := by decide +kernel
theorem dX6_writeHead_40 : decode cX6_writeHead 40 = .ok (.iload_n 1, 1) := by decide +kernel
theorem dX6_writeHead_41 : decode cX6_writeHead 41 = .ok (.bipush 16, 2) := by decide +kernel
theorem dX6_writeHead_43 : decode cX6_writeHead 43 = .ok (.iushr, 1) := by decide +kernel
theorem dX6_writeHead_44 : decode cX6_writeHead 44 = .ok (.ifCond .ne 7, 3) := by decide +kernel
theorem dX6_writeHead_47 : decode cX6_writeHead 47 = .ok (.iconst 2, 1) := by decide +kernel
theorem dX6_writeHead_48 : decode cX6_writeHead 48 = .ok (.goto 4, 3) := by decide +kernel
theorem dX6_writeHead_51 : decode cX6_writeHead 51 = .ok (.iconst 3, 1) := by decide +kernel
theorem dX6_writeHead_52 : decode cX6_writeHead 52 = .ok (.istore 5, 2) := by decide +kernel
theorem dX6_writeHead_54 : decode cX6_writeHead 54 = .ok (.iload_n 3, 1) := by decide +kernel
theorem dX6_writeHead_55 : decode cX6_writeHead 55 = .ok (.ifCond .eq 15, 3) := by decide +kernel
theorem dX6_writeHead_58 : decode cX6_writeHead 58 = .ok (.iload 4, 2) := by decide +kernel
theorem dX6_writeHead_60 : decode cX6_writeHead 60 = .ok (.sipush 256, 3) := by decide +kernel
theorem dX6_writeHead_63 : decode cX6_writeHead 63 = .ok (.if_icmp .lt 7, 3) := by decide +kernel
theorem dX6_writeHead_66 : decode cX6_writeHead 66 = .ok (.iconst 1, 1) := by decide +kernel
theorem dX6_writeHead_67 : decode cX6_writeHead 67 = .ok (.goto 4, 3) := by decide +kernel
theorem dX6_writeHead_70 : decode cX6_writeHead 70 = .ok (.iconst 0, 1) := by decide +kernel
theorem dX6_writeHead_71 : decode cX6_writeHead 71 = .ok (.istore 6, 2) := by decide +kernel
theorem dX6_writeHead_73 : decode cX6_writeHead 73 = .ok (.aload_n 0, 1) := by decide +kernel
theorem dX6_writeHead_74 : decode cX6_writeHead 74 = .ok (.getfield 62, 3) := by decide +kernel
theorem dX6_writeHead_77 : decode cX6_writeHead 77 = .ok (.ldc2_w 125, 3) := by decide +kernel
theorem dX6_writeHead_80 : decode cX6_writeHead 80 = .ok (.iconst 4, 1) := by decide +kernel
theorem dX6_writeHead_81 : decode cX6_writeHead 81 = .ok (.invokevirtual 121, 3) := by decide +kernel
theorem dX6_writeHead_84 : decode cX6_writeHead 84 = .ok (.aload_n 0, 1) := by decide +kernel
theorem dX6_writeHead_85 : decode cX6_writeHead 85 = .ok (.getfield 62, 3) := by decide +kernel
theorem dX6_writeHead_88 : decode cX6_writeHead 88 = .ok (.iload 6, 2) := by decide +kernel
theorem dX6_writeHead_90 : decode cX6_writeHead 90 = .ok (.bipush 6, 2) := by decide +kernel
theorem dX6_writeHead_92 : decode cX6_writeHead 92 = .ok (.ishl, 1) := by decide +kernel
theorem dX6_writeHead_93 : decode cX6_writeHead 93 = .ok (.iload_n 3, 1) := by decide +kernel
theorem dX6_writeHead_94 : decode cX6_writeHead 94 = .ok (.ifCond .eq 8, 3) := by decide +kernel
theorem dX6_writeHead_97 : decode cX6_writeHead 97 = .ok (.bipush 32, 2) := by decide +kernel
theorem dX6_writeHead_99 : decode cX6_writeHead 99 = .ok (.goto 4, 3) := by decide +kernel
theorem dX6_writeHead_102 : decode cX6_writeHead 102 = .ok (.iconst 0, 1) := by decide +kernel
theorem dX6_writeHead_103 : decode cX6_writeHead 103 = .ok (.ior, 1) := by decide +kernel
theorem dX6_writeHead_104 : decode cX6_writeHead 104 = .ok (.iload_n 2, 1) := by decide +kernel
theorem dX6_writeHead_105 : decode cX6_writeHead 105 = .ok (.iconst 1, 1) := by decide +kernel
theorem dX6_writeHead_106 : decode cX6_writeHead 106 = .ok (.iand, 1) := by decide +kernel
theorem dX6_writeHead_107 : decode cX6_writeHead 107 = .ok (.iconst 2, 1) := by decide +kernel
theorem dX6_writeHead_108 : decode cX6_writeHead 108 = .ok (.ishl, 1) := by decide +kernel
theorem dX6_writeHead_109 : decode cX6_writeHead 109 = .ok (.ior, 1) := by decide +kernel
theorem dX6_writeHead_110 : decode cX6_writeHead 110 = .ok (.iload 5, 2) := by decide +kernel
theorem dX6_writeHead_112 : decode cX6_writeHead 112 = .ok (.ior, 1) := by decide +kernel
theorem dX6_writeHead_113 : decode cX6_writeHead 113 = .ok (.invokevirtual 127, 3) := by decide +kernel
theorem dX6_writeHead_116 : decode cX6_writeHead 116 = .ok (.iload_n 3, 1) := by decide +kernel
theorem dX6_writeHead_117 : decode cX6_writeHead 117 = .ok (.ifCond .ne 35, 3) := by decide +kernel
theorem dX6_writeHead_120 : decode cX6_writeHead 120 = .ok (.aload_n 0, 1) := by decide +kernel
theorem dX6_writeHead_121 : decode cX6_writeHead 121 = .ok (.getfield 62, 3) := by decide +kernel
theorem dX6_writeHead_124 : decode cX6_writeHead 124 = .ok (.iload 4, 2) := by decide +kernel
theorem dX6_writeHead_126 : decode cX6_writeHead 126 = .ok (.sipush 1024, 3) := by decide +kernel
theorem dX6_writeHead_129 : decode cX6_writeHead 129 = .ok (.if_icmp .gt 7, 3) := by decide +kernel
theorem dX6_writeHead_132 : decode cX6_writeHead 132 = .ok (.iconst 0, 1) := by decide +kernel
theorem dX6_writeHead_133 : decode cX6_writeHead 133 = .ok (.goto 16, 3) := by decide +kernel
theorem dX6_writeHead_136 : decode cX6_writeHead 136 = .ok (.iload 4, 2) := by decide +kernel
theorem dX6_writeHead_138 : decode cX6_writeHead 138 = .ok (.iconst 1, 1) := by decide +kernel
theorem dX6_writeHead_139 : decode cX6_writeHead 139 = .ok (.isub, 1) := by decide +kernel
theorem dX6_writeHead_140 : decode cX6_writeHead 140 = .ok (.i2l, 1) := by decide +kernel
theorem dX6_writeHead_141 : decode cX6_writeHead 141 = .ok (.invokestatic 130, 3) := by decide +kernel
theorem dX6_writeHead_144 : decode cX6_writeHead 144 = .ok (.bipush 9, 2) := by decide +kernel
theorem dX6_writeHead_146 : decode cX6_writeHead 146 = .ok (.isub, 1) := by decide +kernel
theorem dX6_writeHead_147 : decode cX6_writeHead 147 = .ok (.iconst 3, 1) := by decide +kernel
theorem dX6_writeHead_148 : decode cX6_writeHead 148 = .ok (.ishl, 1) := by decide +kernel
theorem dX6_writeHead_149 : decode cX6_writeHead 149 = .ok (.invokevirtual 127, 3) := by decide +kernel
theorem dX6_writeHead_152 : decode cX6_writeHead 152 = .ok (.aload_n 0, 1) := by decide +kernel
theorem dX6_writeHead_153 : decode cX6_writeHead 153 = .ok (.getfield 62, 3) := by decide +kernel
theorem dX6_writeHead_156 : decode cX6_writeHead 156 = .ok (.iload_n 1, 1) := by decide +kernel
theorem dX6_writeHead_157 : decode cX6_writeHead 157 = .ok (.i2l, 1) := by decide +kernel
theorem dX6_writeHead_158 : decode cX6_writeHead 158 = .ok (.iload 5, 2) := by decide +kernel
theorem dX6_writeHead_160 : decode cX6_writeHead 160 = .ok (.iconst 3, 1) := by decide +kernel
theorem dX6_writeHead_161 : decode cX6_writeHead 161 = .ok (.if_icmp .ne 7, 3) := by decide +kernel
theorem dX6_writeHead_164 : decode cX6_writeHead 164 = .ok (.iconst 4, 1) := by decide +kernel
theorem dX6_writeHead_165 : decode cX6_writeHead 165 = .ok (.goto 5, 3) := by decide +kernel
theorem dX6_writeHead_168 : decode cX6_writeHead 168 = .ok (.iload 5, 2) := by decide +kernel
theorem dX6_writeHead_170 : decode cX6_writeHead 170 = .ok (.invokevirtual 121, 3) := by decide +kernel
theorem dX6_writeHead_173 : decode cX6_writeHead 173 = .ok (.iload_n 3, 1) := by decide +kernel
theorem dX6_writeHead_174 : decode cX6_writeHead 174 = .ok (.ifCond .eq 32, 3) := by decide +kernel
theorem dX6_writeHead_177 : decode cX6_writeHead 177 = .ok (.aload_n 0, 1) := by decide +kernel
theorem dX6_writeHead_178 : decode cX6_writeHead 178 = .ok (.getfield 62, 3) := by decide +kernel
theorem dX6_writeHead_181 : decode cX6_writeHead 181 = .ok (.iload 6, 2) := by decide +kernel
theorem dX6_writeHead_183 : decode cX6_writeHead 183 = .ok (.ifCond .ne 9, 3) := by decide +kernel
theorem dX6_writeHead_186 : decode cX6_writeHead 186 = .ok (.iload 4, 2) := by decide +kernel
theorem dX6_writeHead_188 : decode cX6_writeHead 188 = .ok (.i2l, 1) := by decide +kernel
theorem dX6_writeHead_189 : decode cX6_writeHead 189 = .ok (.goto 10, 3) := by decide +kernel
theorem dX6_writeHead_192 : decode cX6_writeHead 192 = .ok (.iload 4, 2) := by decide +kernel
theorem dX6_writeHead_194 : decode cX6_writeHead 194 = .ok (.sipush 256, 3) := by decide +kernel
theorem dX6_writeHead_197 : decode cX6_writeHead 197 = .ok (.isub, 1) := by decide +kernel
theorem dX6_writeHead_198 : decode cX6_writeHead 198 = .ok (.i2l, 1) := by decide +kernel
theorem dX6_writeHead_199 : decode cX6_writeHead 199 = .ok (.iload 6, 2) := by decide +kernel
theorem dX6_writeHead_201 : decode cX6_writeHead 201 = .ok (.iconst 1, 1) := by decide +kernel
theorem dX6_writeHead_202 : decode cX6_writeHead 202 = .ok (.iadd, 1) := by decide +kernel
theorem dX6_writeHead_203 : decode cX6_writeHead 203 = .ok (.invokevirtual 121, 3) := by decide +kernel
theorem dX6_writeHead_206 : decode cX6_writeHead 206 = .ok (.return_, 1) := by decide +kernel
theorem dX6_writeBlock_0 : decode cX6_writeBlock 0 = .ok (.iload_n 2, 1) := by decide +kernel
theorem dX6_writeBlock_1 : decode cX6_writeBlock 1 = .ok (.iload_n 1, 1) := by decide +kernel
theorem dX6_writeBlock_2 : decode cX6_writeBlock 2 = .ok (.isub, 1) := by decide +kernel
theorem dX6_writeBlock_3 : decode cX6_writeBlock 3 = .ok (.istore 4, 2) := by decide +kernel
theorem dX6_writeBlock_5 : decode cX6_writeBlock 5 = .ok (.iload_n 2, 1) := by decide +kernel
theorem dX6_writeBlock_6 : decode cX6_writeBlock 6 = .ok (.aload_n 0, 1) := by decide +kernel
theorem dX6_writeBlock_7 : decode cX6_writeBlock 7 = .ok (.getfield 59, 3) := by decide +kernel
theorem dX6_writeBlock_10 : decode cX6_writeBlock 10 = .ok (.getfield 77, 3) := by decide +kernel
theorem dX6_writeBlock_13 : decode cX6_writeBlock 13 = .ok (.if_icmp .ne 7, 3) := by decide +kernel
theorem dX6_writeBlock_16 : decode cX6_writeBlock 16 = .ok (.iconst 1, 1) := by decide +kernel
theorem dX6_writeBlock_17 : decode cX6_writeBlock 17 = .ok (.goto 4, 3) := by decide +kernel
theorem dX6_writeBlock_20 : decode cX6_writeBlock 20 = .ok (.iconst 0, 1) := by decide +kernel
theorem dX6_writeBlock_21 : decode cX6_writeBlock 21 = .ok (.istore 5, 2) := by decide +kernel
theorem dX6_writeBlock_23 : decode cX6_writeBlock 23 = .ok (.aload_n 0, 1) := by decide +kernel
theorem dX6_writeBlock_24 : decode cX6_writeBlock 24 = .ok (.getfield 62, 3) := by decide +kernel
theorem dX6_writeBlock_27 : decode cX6_writeBlock 27 = .ok (.iload 5, 2) := by decide +kernel
theorem dX6_writeBlock_29 : decode cX6_writeBlock 29 = .ok (.iload_n 3, 1) := by decide +kernel
theorem dX6_writeBlock_30 : decode cX6_writeBlock 30 = .ok (.iconst 1, 1) := by decide +kernel
theorem dX6_writeBlock_31 : decode cX6_writeBlock 31 = .ok (.ishl, 1) := by decide +kernel
theorem dX6_writeBlock_32 : decode cX6_writeBlock 32 = .ok (.ior, 1) := by decide +kernel
theorem dX6_writeBlock_33 : decode cX6_writeBlock 33 = .ok (.iload_n 3, 1) := by decide +kernel
theorem dX6_writeBlock_34 : decode cX6_writeBlock 34 = .ok (.iconst 2, 1) := by decide +kernel
theorem dX6_writeBlock_35 : decode cX6_writeBlock 35 = .ok (.if_icmp .ne 13, 3) := by decide +kernel
theorem dX6_writeBlock_38 : decode cX6_writeBlock 38 = .ok (.aload_n 0, 1) := by decide +kernel
theorem dX6_writeBlock_39 : decode cX6_writeBlock 39 = .ok (.getfield 23, 3) := by decide +kernel
theorem dX6_writeBlock_42 : decode cX6_writeBlock 42 = .ok (.getfield 77, 3) := by decide +kernel
theorem dX6_writeBlock_45 : decode cX6_writeBlock 45 = .ok (.goto 5, 3) := by decide +kernel
theorem dX6_writeBlock_48 : decode cX6_writeBlock 48 = .ok (.iload 4, 2) := by decide +kernel
theorem dX6_writeBlock_50 : decode cX6_writeBlock 50 = .ok (.iconst 3, 1) := by decide +kernel
theorem dX6_writeBlock_51 : decode cX6_writeBlock 51 = .ok (.ishl, 1) := by decide +kernel
theorem dX6_writeBlock_52 : decode cX6_writeBlock 52 = .ok (.ior, 1) := by decide +kernel
theorem dX6_writeBlock_53 : decode cX6_writeBlock 53 = .ok (.i2l, 1) := by decide +kernel
theorem dX6_writeBlock_54 : decode cX6_writeBlock 54 = .ok (.iconst 3, 1) := by decide +kernel
theorem dX6_writeBlock_55 : decode cX6_writeBlock 55 = .ok (.invokevirtual 121, 3) := by decide +kernel
theorem dX6_writeBlock_58 : decode cX6_writeBlock 58 = .ok (.iload_n 3, 1) := by decide +kernel
theorem dX6_writeBlock_59 : decode cX6_writeBlock 59 = .ok (.iconst 2, 1) := by decide +kernel
theorem dX6_writeBlock_60 : decode cX6_writeBlock 60 = .ok (.if_icmp .ne 25, 3) := by decide +kernel
theorem dX6_writeBlock_63 : decode cX6_writeBlock 63 = .ok (.aload_n 0, 1) := by decide +kernel
theorem dX6_writeBlock_64 : decode cX6_writeBlock 64 = .ok (.getfield 62, 3) := by decide +kernel
theorem dX6_writeBlock_67 : decode cX6_writeBlock 67 = .ok (.aload_n 0, 1) := by decide +kernel
theorem dX6_writeBlock_68 : decode cX6_writeBlock 68 = .ok (.getfield 23, 3) := by decide +kernel
theorem dX6_writeBlock_71 : decode cX6_writeBlock 71 = .ok (.iconst 0, 1) := by decide +kernel
theorem dX6_writeBlock_72 : decode cX6_writeBlock 72 = .ok (.aload_n 0, 1) := by decide +kernel
theorem dX6_writeBlock_73 : decode cX6_writeBlock 73 = .ok (.getfield 23, 3) := by decide +kernel
theorem dX6_writeBlock_76 : decode cX6_writeBlock 76 = .ok (.getfield 77, 3) := by decide +kernel
theorem dX6_writeBlock_79 : decode cX6_writeBlock 79 = .ok (.invokevirtual 134, 3) := by decide +kernel
theorem dX6_writeBlock_82 : decode cX6_writeBlock 82 = .ok (.goto 26, 3) := by decide +kernel
theorem dX6_writeBlock_85 : decode cX6_writeBlock 85 = .ok (.aload_n 0, 1) := by decide +kernel
theorem dX6_writeBlock_86 : decode cX6_writeBlock 86 = .ok (.getfield 62, 3) := by decide +kernel
theorem dX6_writeBlock_89 : decode cX6_writeBlock 89 = .ok (.aload_n 0, 1) := by decide +kernel
theorem dX6_writeBlock_90 : decode cX6_writeBlock 90 = .ok (.getfield 59, 3) := by decide +kernel
theorem dX6_writeBlock_93 : decode cX6_writeBlock 93 = .ok (.iload_n 1, 1) := by decide +kernel
theorem dX6_writeBlock_94 : decode cX6_writeBlock 94 = .ok (.iload_n 3, 1) := by decide +kernel
theorem dX6_writeBlock_95 : decode cX6_writeBlock 95 = .ok (.iconst 1, 1) := by decide +kernel
theorem dX6_writeBlock_96 : decode cX6_writeBlock 96 = .ok (.if_icmp .ne 7, 3) := by decide +kernel
theorem dX6_writeBlock_99 : decode cX6_writeBlock 99 = .ok (.iconst 1, 1) := by decide +kernel
theorem dX6_writeBlock_100 : decode cX6_writeBlock 100 = .ok (.goto 5, 3) := by decide +kernel
theorem dX6_writeBlock_103 : decode cX6_writeBlock 103 = .ok (.iload 4, 2) := by decide +kernel
theorem dX6_writeBlock_105 : decode cX6_writeBlock 105 = .ok (.invokevirtual 134, 3) := by decide +kernel
theorem dX6_writeBlock_108 : decode cX6_writeBlock 108 = .ok (.return_, 1) := by decide +kernel
theorem dX6_writeBody_0 : decode cX6_writeBody 0 = .ok (.aload_n 0, 1) := by decide +kernel
theorem dX6_writeBody_1 : decode cX6_writeBody 1 = .ok (.getfield 23, 3) := by decide +kernel
theorem dX6_writeBody_4 : decode cX6_writeBody 4 = .ok (.iconst 0, 1) := by decide +kernel
theorem dX6_writeBody_5 : decode cX6_writeBody 5 = .ok (.putfield 77, 3) := by decide +kernel
theorem dX6_writeBody_8 : decode cX6_writeBody 8 = .ok (.aload_n 0, 1) := by decide +kernel
theorem dX6_writeBody_9 : decode cX6_writeBody 9 = .ok (.getfield 12, 3) := by decide +kernel
theorem dX6_writeBody_12 : decode cX6_writeBody 12 = .ok (.iload_n 1, 1) := by decide +kernel
theorem dX6_writeBody_13 : decode cX6_writeBody 13 = .ok (.iload_n 2, 1) := by decide +kernel
theorem dX6_writeBody_14 : decode cX6_writeBody 14 = .ok (.invokevirtual 138, 3) := by decide +kernel
theorem dX6_writeBody_17 : decode cX6_writeBody 17 = .ok (.aload_n 0, 1) := by decide +kernel
theorem dX6_writeBody_18 : decode cX6_writeBody 18 = .ok (.getfield 50, 3) := by decide +kernel
theorem dX6_writeBody_21 : decode cX6_writeBody 21 = .ok (.iconst 0, 1) := by decide +kernel
theorem dX6_writeBody_22 : decode cX6_writeBody 22 = .ok (.aload_n 0, 1) := by decide +kernel
theorem dX6_writeBody_23 : decode cX6_writeBody 23 = .ok (.getfield 53, 3) := by decide +kernel
theorem dX6_writeBody_26 : decode cX6_writeBody 26 = .ok (.iconst 0, 1) := by decide +kernel
theorem dX6_writeBody_27 : decode cX6_writeBody 27 = .ok (.iconst 3, 1) := by decide +kernel
theorem dX6_writeBody_28 : decode cX6_writeBody 28 = .ok (.invokestatic 141, 3) := by decide +kernel
theorem dX6_writeBody_31 : decode cX6_writeBody 31 = .ok (.iconst 0, 1) := by decide +kernel
theorem dX6_writeBody_32 : decode cX6_writeBody 32 = .ok (.istore_n 3, 1) := by decide +kernel
theorem dX6_writeBody_33 : decode cX6_writeBody 33 = .ok (.iload_n 3, 1) := by decide +kernel
theorem dX6_writeBody_34 : decode cX6_writeBody 34 = .ok (.aload_n 0, 1) := by decide +kernel
theorem dX6_writeBody_35 : decode cX6_writeBody 35 = .ok (.getfield 12, 3) := by decide +kernel
theorem dX6_writeBody_38 : decode cX6_writeBody 38 = .ok (.getfield 147, 3) := by decide +kernel
theorem dX6_writeBody_41 : decode cX6_writeBody 41 = .ok (.if_icmp .ge 72, 3) := by decide +kernel
theorem dX6_writeBody_44 : decode cX6_writeBody 44 = .ok (.aload_n 0, 1) := by decide +kernel
theorem dX6_writeBody_45 : decode cX6_writeBody 45 = .ok (.getfield 47, 3) := by decide +kernel
theorem dX6_writeBody_48 : decode cX6_writeBody 48 = .ok (.iload_n 3, 1) := by decide +kernel
theorem dX6_writeBody_49 : decode cX6_writeBody 49 = .ok (.aload_n 0, 1) := by decide +kernel
theorem dX6_writeBody_50 : decode cX6_writeBody 50 = .ok (.aload_n 0, 1) := by decide +kernel
theorem dX6_writeBody_51 : decode cX6_writeBody 51 = .ok (.getfield 12, 3) := by decide +kernel
theorem dX6_writeBody_54 : decode cX6_writeBody 54 = .ok (.getfield 150, 3) := by decide +kernel
theorem dX6_writeBody_57 : decode cX6_writeBody 57 = .ok (.iload_n 3, 1) := by decide +kernel
theorem dX6_writeBody_58 : decode cX6_writeBody 58 = .ok (.iaload, 1) := by decide +kernel
theorem dX6_writeBody_59 : decode cX6_writeBody 59 = .ok (.aload_n 0, 1) := by decide +kernel
theorem dX6_writeBody_60 : decode cX6_writeBody 60 = .ok (.getfield 12, 3) := by decide +kernel
theorem dX6_writeBody_63 : decode cX6_writeBody 63 = .ok (.getfield 153, 3) := by decide +kernel
theorem dX6_writeBody_66 : decode cX6_writeBody 66 = .ok (.iload_n 3, 1) := by decide +kernel
theorem dX6_writeBody_67 : decode cX6_writeBody 67 = .ok (.iaload, 1) := by decide +kernel
theorem dX6_writeBody_68 : decode cX6_writeBody 68 = .ok (.invokevirtual 156, 3) := by decide +kernel
theorem dX6_writeBody_71 : decode cX6_writeBody 71 = .ok (.iastore, 1) := by decide +kernel
theorem dX6_writeBody_72 : decode cX6_writeBody 72 = .ok (.aload_n 0, 1) := by decide +kernel
theorem dX6_writeBody_73 : decode cX6_writeBody 73 = .ok (.getfield 53, 3) := by decide +kernel
theorem dX6_writeBody_76 : decode cX6_writeBody 76 = .ok (.aload_n 0, 1) := by decide +kernel
theorem dX6_writeBody_77 : decode cX6_writeBody 77 = .ok (.getfield 47, 3) := by decide +kernel
theorem dX6_writeBody_80 : decode cX6_writeBody 80 = .ok (.iload_n 3, 1) := by decide +kernel
theorem dX6_writeBody_81 : decode cX6_writeBody 81 = .ok (.iaload, 1) := by decide +kernel
theorem dX6_writeBody_82 : decode cX6_writeBody 82 = .ok (.i2l, 1) := by decide +kernel
theorem dX6_writeBody_83 : decode cX6_writeBody 83 = .ok (.aload_n 0, 1) := by decide +kernel
theorem dX6_writeBody_84 : decode cX6_writeBody 84 = .ok (.getfield 12, 3) := by decide +kernel
theorem dX6_writeBody_87 : decode cX6_writeBody 87 = .ok (.getfield 153, 3) := by decide +kernel
theorem dX6_writeBody_90 : decode cX6_writeBody 90 = .ok (.iload_n 3, 1) := by decide +kernel
theorem dX6_writeBody_91 : decode cX6_writeBody 91 = .ok (.iaload, 1) := by decide +kernel
theorem dX6_writeBody_92 : decode cX6_writeBody 92 = .ok (.invokestatic 159, 3) := by decide +kernel
theorem dX6_writeBody_95 : decode cX6_writeBody 95 = .ok (.aload_n 0, 1) := by decide +kernel
theorem dX6_writeBody_96 : decode cX6_writeBody 96 = .ok (.getfield 12, 3) := by decide +kernel
theorem dX6_writeBody_99 : decode cX6_writeBody 99 = .ok (.getfield 150, 3) := by decide +kernel
theorem dX6_writeBody_102 : decode cX6_writeBody 102 = .ok (.iload_n 3, 1) := by decide +kernel
theorem dX6_writeBody_103 : decode cX6_writeBody 103 = .ok (.iaload, 1) := by decide +kernel
theorem dX6_writeBody_104 : decode cX6_writeBody 104 = .ok (.invokestatic 163, 3) := by decide +kernel
theorem dX6_writeBody_107 : decode cX6_writeBody 107 = .ok (.iinc 3 1, 3) := by decide +kernel
theorem dX6_writeBody_110 : decode cX6_writeBody 110 = .ok (.goto (-77), 3) := by decide +kernel
theorem dX6_writeBody_113 : decode cX6_writeBody 113 = .ok (.aload_n 0, 1) := by decide +kernel
theorem dX6_writeBody_114 : decode cX6_writeBody 114 = .ok (.invokevirtual 167, 3) := by decide +kernel
theorem dX6_writeBody_117 : decode cX6_writeBody 117 = .ok (.aload_n 0, 1) := by decide +kernel
theorem dX6_writeBody_118 : decode cX6_writeBody 118 = .ok (.invokevirtual 170, 3) := by decide +kernel
theorem dX6_writeBody_121 : decode cX6_writeBody 121 = .ok (.aload_n 0, 1) := by decide +kernel
theorem dX6_writeBody_122 : decode cX6_writeBody 122 = .ok (.getfield 23, 3) := by decide +kernel
theorem dX6_writeBody_125 : decode cX6_writeBody 125 = .ok (.getfield 77, 3) := by decide +kernel
theorem dX6_writeBody_128 : decode cX6_writeBody 128 = .ok (.iload_n 2, 1) := by decide +kernel
theorem dX6_writeBody_129 : decode cX6_writeBody 129 = .ok (.iload_n 1, 1) := by decide +kernel
theorem dX6_writeBody_130 : decode cX6_writeBody 130 = .ok (.isub, 1) := by decide +kernel
theorem dX6_writeBody_131 : decode cX6_writeBody 131 = .ok (.if_icmp .lt 5, 3) := by decide +kernel
theorem dX6_writeBody_134 : decode cX6_writeBody 134 = .ok (.iconst 0, 1) := by decide +kernel
theorem dX6_writeBody_135 : decode cX6_writeBody 135 = .ok (.ireturn, 1) := by decide +kernel
theorem dX6_writeBody_136 : decode cX6_writeBody 136 = .ok (.aload_n 0, 1) := by decide +kernel
theorem dX6_writeBody_137 : decode cX6_writeBody 137 = .ok (.getfield 53, 3) := by decide +kernel
theorem dX6_writeBody_140 : decode cX6_writeBody 140 = .ok (.iconst 0, 1) := by decide +kernel
theorem dX6_writeBody_141 : decode cX6_writeBody 141 = .ok (.aload_n 0, 1) := by decide +kernel
theorem dX6_writeBody_142 : decode cX6_writeBody 142 = .ok (.getfield 50, 3) := by decide +kernel
theorem dX6_writeBody_145 : decode cX6_writeBody 145 = .ok (.iconst 0, 1) := by decide +kernel
theorem dX6_writeBody_146 : decode cX6_writeBody 146 = .ok (.iconst 3, 1) := by decide +kernel
theorem dX6_writeBody_147 : decode cX6_writeBody 147 = .ok (.invokestatic 141, 3) := by decide +kernel
theorem dX6_writeBody_150 : decode cX6_writeBody 150 = .ok (.iconst 1, 1) := by decide +kernel
theorem dX6_writeBody_151 : decode cX6_writeBody 151 = .ok (.ireturn, 1) := by decide +kernel
theorem dX6_valueOf_0 : decode cX6_valueOf 0 = .ok (.iconst 1, 1) := by decide +kernel
theorem dX6_valueOf_1 : decode cX6_valueOf 1 = .ok (.istore_n 3, 1) := by decide +kernel
theorem dX6_valueOf_2 : decode cX6_valueOf 2 = .ok (.iload_n 3, 1) := by decide +kernel
theorem dX6_valueOf_3 : decode cX6_valueOf 3 = .ok (.iconst 3, 1) := by decide +kernel
theorem dX6_valueOf_4 : decode cX6_valueOf 4 = .ok (.if_icmp .gt 27, 3) := by decide +kernel
theorem dX6_valueOf_7 : decode cX6_valueOf 7 = .ok (.aload_n 0, 1) := by decide +kernel
theorem dX6_valueOf_8 : decode cX6_valueOf 8 = .ok (.getfield 53, 3) := by decide +kernel
theorem dX6_valueOf_11 : decode cX6_valueOf 11 = .ok (.iload_n 3, 1) := by decide +kernel
theorem dX6_valueOf_12 : decode cX6_valueOf 12 = .ok (.i2l, 1) := by decide +kernel
theorem dX6_valueOf_13 : decode cX6_valueOf 13 = .ok (.iload_n 2, 1) := by decide +kernel
theorem dX6_valueOf_14 : decode cX6_valueOf 14 = .ok (.invokestatic 173, 3) := by decide +kernel
theorem dX6_valueOf_17 : decode cX6_valueOf 17 = .ok (.iload_n 1, 1) := by decide +kernel
theorem dX6_valueOf_18 : decode cX6_valueOf 18 = .ok (.i2l, 1) := by decide +kernel
theorem dX6_valueOf_19 : decode cX6_valueOf 19 = .ok (.lcmp, 1) := by decide +kernel
theorem dX6_valueOf_20 : decode cX6_valueOf 20 = .ok (.ifCond .ne 5, 3) := by decide +kernel
theorem dX6_valueOf_23 : decode cX6_valueOf 23 = .ok (.iload_n 3, 1) := by decide +kernel
theorem dX6_valueOf_24 : decode cX6_valueOf 24 = .ok (.ireturn, 1) := by decide +kernel
theorem dX6_valueOf_25 : decode cX6_valueOf 25 = .ok (.iinc 3 1, 3) := by decide +kernel
theorem dX6_valueOf_28 : decode cX6_valueOf 28 = .ok (.goto (-26), 3) := by decide +kernel
theorem dX6_valueOf_31 : decode cX6_valueOf 31 = .ok (.iload_n 1, 1) := by decide +kernel
theorem dX6_valueOf_32 : decode cX6_valueOf 32 = .ok (.iconst 3, 1) := by decide +kernel
theorem dX6_valueOf_33 : decode cX6_valueOf 33 = .ok (.iadd, 1) := by decide +kernel
theorem dX6_valueOf_34 : decode cX6_valueOf 34 = .ok (.ireturn, 1) := by decide +kernel
theorem dX6_writeLetters_0 : decode cX6_writeLetters 0 = .ok (.aload_n 0, 1) := by decide +kernel
theorem dX6_writeLetters_1 : decode cX6_writeLetters 1 = .ok (.getfield 12, 3) := by decide +kernel
theorem dX6_writeLetters_4 : decode cX6_writeLetters 4 = .ok (.getfield 177, 3) := by decide +kernel
theorem dX6_writeLetters_7 : decode cX6_writeLetters 7 = .ok (.astore_n 1, 1) := by decide +kernel
theorem dX6_writeLetters_8 : decode cX6_writeLetters 8 = .ok (.aload_n 1, 1) := by decide +kernel
theorem dX6_writeLetters_9 : decode cX6_writeLetters 9 = .ok (.getfield 77, 3) := by decide +kernel
theorem dX6_writeLetters_12 : decode cX6_writeLetters 12 = .ok (.istore_n 2, 1) := by decide +kernel
theorem dX6_writeLetters_13 : decode cX6_writeLetters 13 = .ok (.iload_n 2, 1) := by decide +kernel
theorem dX6_writeLetters_14 : decode cX6_writeLetters 14 = .ok (.iconst 1, 1) := by decide +kernel
theorem dX6_writeLetters_15 : decode cX6_writeLetters 15 = .ok (.if_icmp .le 16, 3) := by decide +kernel
theorem dX6_writeLetters_18 : decode cX6_writeLetters 18 = .ok (.aload_n 1, 1) := by decide +kernel
theorem dX6_writeLetters_19 : decode cX6_writeLetters 19 = .ok (.iconst 0, 1) := by decide +kernel
theorem dX6_writeLetters_20 : decode cX6_writeLetters 20 = .ok (.iload_n 2, 1) := by decide +kernel
theorem dX6_writeLetters_21 : decode cX6_writeLetters 21 = .ok (.invokevirtual 106, 3) := by decide +kernel
theorem dX6_writeLetters_24 : decode cX6_writeLetters 24 = .ok (.ifCond .eq 7, 3) := by decide +kernel
theorem dX6_writeLetters_27 : decode cX6_writeLetters 27 = .ok (.iconst 1, 1) := by decide +kernel
theorem dX6_writeLetters_28 : decode cX6_writeLetters 28 = .ok (.goto 4, 3) := by decide +kernel
theorem dX6_writeLetters_31 : decode cX6_writeLetters 31 = .ok (.iconst 0, 1) := by decide +kernel
theorem dX6_writeLetters_32 : decode cX6_writeLetters 32 = .ok (.istore_n 3, 1) := by decide +kernel
theorem dX6_writeLetters_33 : decode cX6_writeLetters 33 = .ok (.iload_n 3, 1) := by decide +kernel
theorem dX6_writeLetters_34 : decode cX6_writeLetters 34 = .ok (.ifCond .ne 35, 3) := by decide +kernel
theorem dX6_writeLetters_37 : decode cX6_writeLetters 37 = .ok (.aload_n 0, 1) := by decide +kernel
theorem dX6_writeLetters_38 : decode cX6_writeLetters 38 = .ok (.getfield 73, 3) := by decide +kernel
theorem dX6_writeLetters_41 : decode cX6_writeLetters 41 = .ok (.iconst 2, 1) := by decide +kernel
theorem dX6_writeLetters_42 : decode cX6_writeLetters 42 = .ok (.if_icmp .ne 27, 3) := by decide +kernel
theorem dX6_writeLetters_45 : decode cX6_writeLetters 45 = .ok (.iload_n 2, 1) := by decide +kernel
theorem dX6_writeLetters_46 : decode cX6_writeLetters 46 = .ok (.bipush 32, 2) := by decide +kernel
theorem dX6_writeLetters_48 : decode cX6_writeLetters 48 = .ok (.if_icmp .lt 21, 3) := by decide +kernel
theorem dX6_writeLetters_51 : decode cX6_writeLetters 51 = .ok (.aload_n 0, 1) := by decide +kernel
theorem dX6_writeLetters_52 : decode cX6_writeLetters 52 = .ok (.aload_n 1, 1) := by decide +kernel
theorem dX6_writeLetters_53 : decode cX6_writeLetters 53 = .ok (.invokevirtual 180, 3) := by decide +kernel
theorem dX6_writeLetters_56 : decode cX6_writeLetters 56 = .ok (.ifCond .eq 13, 3) := by decide +kernel
theorem dX6_writeLetters_59 : decode cX6_writeLetters 59 = .ok (.aload_n 0, 1) := by decide +kernel
theorem dX6_writeLetters_60 : decode cX6_writeLetters 60 = .ok (.aload_n 1, 1) := by decide +kernel
theorem dX6_writeLetters_61 : decode cX6_writeLetters 61 = .ok (.iload_n 2, 1) := by decide +kernel
theorem dX6_writeLetters_62 : decode cX6_writeLetters 62 = .ok (.invokevirtual 184, 3) := by decide +kernel
theorem dX6_writeLetters_65 : decode cX6_writeLetters 65 = .ok (.ifCond .eq 4, 3) := by decide +kernel
theorem dX6_writeLetters_68 : decode cX6_writeLetters 68 = .ok (.return_, 1) := by decide +kernel
theorem dX6_writeLetters_69 : decode cX6_writeLetters 69 = .ok (.iload_n 3, 1) := by decide +kernel
theorem dX6_writeLetters_70 : decode cX6_writeLetters 70 = .ok (.ifCond .eq 7, 3) := by decide +kernel
theorem dX6_writeLetters_73 : decode cX6_writeLetters 73 = .ok (.iconst 1, 1) := by decide +kernel
theorem dX6_writeLetters_74 : decode cX6_writeLetters 74 = .ok (.goto 4, 3) := by decide +kernel
theorem dX6_writeLetters_77 : decode cX6_writeLetters 77 = .ok (.iconst 0, 1) := by decide +kernel
theorem dX6_writeLetters_78 : decode cX6_writeLetters 78 = .ok (.istore 4, 2) := by decide +kernel
theorem dX6_writeLetters_80 : decode cX6_writeLetters 80 = .ok (.iload_n 2, 1) := by decide +kernel
theorem dX6_writeLetters_81 : decode cX6_writeLetters 81 = .ok (.bipush 32, 2) := by decide +kernel
theorem dX6_writeLetters_83 : decode cX6_writeLetters 83 = .ok (.if_icmp .ge 19, 3) := by decide +kernel
theorem dX6_writeLetters_86 : decode cX6_writeLetters 86 = .ok (.aload_n 0, 1) := by decide +kernel
theorem dX6_writeLetters_87 : decode cX6_writeLetters 87 = .ok (.getfield 23, 3) := by decide +kernel
theorem dX6_writeLetters_90 : decode cX6_writeLetters 90 = .ok (.iload 4, 2) := by decide +kernel
theorem dX6_writeLetters_92 : decode cX6_writeLetters 92 = .ok (.iload_n 2, 1) := by decide +kernel
theorem dX6_writeLetters_93 : decode cX6_writeLetters 93 = .ok (.iconst 3, 1) := by decide +kernel
theorem dX6_writeLetters_94 : decode cX6_writeLetters 94 = .ok (.ishl, 1) := by decide +kernel
theorem dX6_writeLetters_95 : decode cX6_writeLetters 95 = .ok (.ior, 1) := by decide +kernel
theorem dX6_writeLetters_96 : decode cX6_writeLetters 96 = .ok (.invokevirtual 127, 3) := by decide +kernel
theorem dX6_writeLetters_99 : decode cX6_writeLetters 99 = .ok (.goto 20, 3) := by decide +kernel
theorem dX6_writeLetters_102 : decode cX6_writeLetters 102 = .ok (.aload_n 0, 1) := by decide +kernel
theorem dX6_writeLetters_103 : decode cX6_writeLetters 103 = .ok (.getfield 23, 3) := by decide +kernel
theorem dX6_writeLetters_106 : decode cX6_writeLetters 106 = .ok (.iload 4, 2) := by decide +kernel
theorem dX6_writeLetters_108 : decode cX6_writeLetters 108 = .ok (.iconst 4, 1) := by decide +kernel
theorem dX6_writeLetters_109 : decode cX6_writeLetters 109 = .ok (.ior, 1) := by decide +kernel
theorem dX6_writeLetters_110 : decode cX6_writeLetters 110 = .ok (.iload_n 2, 1) := by decide +kernel
theorem dX6_writeLetters_111 : decode cX6_writeLetters 111 = .ok (.iconst 4, 1) := by decide +kernel
theorem dX6_writeLetters_112 : decode cX6_writeLetters 112 = .ok (.ishl, 1) := by decide +kernel
theorem dX6_writeLetters_113 : decode cX6_writeLetters 113 = .ok (.ior, 1) := by decide +kernel
theorem dX6_writeLetters_114 : decode cX6_writeLetters 114 = .ok (.i2l, 1) := by decide +kernel
theorem dX6_writeLetters_115 : decode cX6_writeLetters 115 = .ok (.iconst 2, 1) := by decide +kernel
theorem dX6_writeLetters_116 : decode cX6_writeLetters 116 = .ok (.invokevirtual 121, 3) := by decide +kernel
theorem dX6_writeLetters_119 : decode cX6_writeLetters 119 = .ok (.aload_n 0, 1) := by decide +kernel
theorem dX6_writeLetters_120 : decode cX6_writeLetters 120 = .ok (.getfield 23, 3) := by decide +kernel
theorem dX6_writeLetters_123 : decode cX6_writeLetters 123 = .ok (.aload_n 1, 1) := by decide +kernel
theorem dX6_writeLetters_124 : decode cX6_writeLetters 124 = .ok (.iconst 0, 1) := by decide +kernel
theorem dX6_writeLetters_125 : decode cX6_writeLetters 125 = .ok (.iload_n 3, 1) := by decide +kernel
theorem dX6_writeLetters_126 : decode cX6_writeLetters 126 = .ok (.ifCond .eq 7, 3) := by decide +kernel
theorem dX6_writeLetters_129 : decode cX6_writeLetters 129 = .ok (.iconst 1, 1) := by decide +kernel
theorem dX6_writeLetters_130 : decode cX6_writeLetters 130 = .ok (.goto 4, 3) := by decide +kernel
theorem dX6_writeLetters_133 : decode cX6_writeLetters 133 = .ok (.iload_n 2, 1) := by decide +kernel
theorem dX6_writeLetters_134 : decode cX6_writeLetters 134 = .ok (.invokevirtual 134, 3) := by decide +kernel
theorem dX6_writeLetters_137 : decode cX6_writeLetters 137 = .ok (.return_, 1) := by decide +kernel
theorem dX6_allLow_0 : decode cX6_allLow 0 = .ok (.iconst 0, 1) := by decide +kernel
theorem dX6_allLow_1 : decode cX6_allLow 1 = .ok (.istore_n 2, 1) := by decide +kernel
theorem dX6_allLow_2 : decode cX6_allLow 2 = .ok (.iload_n 2, 1) := by decide +kernel
theorem dX6_allLow_3 : decode cX6_allLow 3 = .ok (.aload_n 1, 1) := by decide +kernel
theorem dX6_allLow_4 : decode cX6_allLow 4 = .ok (.getfield 77, 3) := by decide +kernel
theorem dX6_allLow_7 : decode cX6_allLow 7 = .ok (.if_icmp .ge 21, 3) := by decide +kernel
theorem dX6_allLow_10 : decode cX6_allLow 10 = .ok (.aload_n 1, 1) := by decide +kernel
theorem dX6_allLow_11 : decode cX6_allLow 11 = .ok (.iload_n 2, 1) := by decide +kernel
theorem dX6_allLow_12 : decode cX6_allLow 12 = .ok (.invokevirtual 188, 3) := by decide +kernel
theorem dX6_allLow_15 : decode cX6_allLow 15 = .ok (.bipush 127, 2) := by decide +kernel
theorem dX6_allLow_17 : decode cX6_allLow 17 = .ok (.if_icmp .le 5, 3) := by decide +kernel
theorem dX6_allLow_20 : decode cX6_allLow 20 = .ok (.iconst 0, 1) := by decide +kernel
theorem dX6_allLow_21 : decode cX6_allLow 21 = .ok (.ireturn, 1) := by decide +kernel
theorem dX6_allLow_22 : decode cX6_allLow 22 = .ok (.iinc 2 1, 3) := by decide +kernel
theorem dX6_allLow_25 : decode cX6_allLow 25 = .ok (.goto (-23), 3) := by decide +kernel
theorem dX6_allLow_28 : decode cX6_allLow 28 = .ok (.iconst 1, 1) := by decide +kernel
theorem dX6_allLow_29 : decode cX6_allLow 29 = .ok (.ireturn, 1) := by decide +kernel
theorem dX6_writeCoded_0 : decode cX6_writeCoded 0 = .ok (.aload_n 0, 1) := by decide +kernel
theorem dX6_writeCoded_1 : decode cX6_writeCoded 1 = .ok (.getfield 65, 3) := by decide +kernel
theorem dX6_writeCoded_4 : decode cX6_writeCoded 4 = .ok (.aload_n 1, 1) := by decide +kernel
theorem dX6_writeCoded_5 : decode cX6_writeCoded 5 = .ok (.invokevirtual 192, 3) := by decide +kernel
theorem dX6_writeCoded_8 : decode cX6_writeCoded 8 = .ok (.aload_n 0, 1) := by decide +kernel
theorem dX6_writeCoded_9 : decode cX6_writeCoded 9 = .ok (.getfield 30, 3) := by decide +kernel
theorem dX6_writeCoded_12 : decode cX6_writeCoded 12 = .ok (.aload_n 0, 1) := by decide +kernel
theorem dX6_writeCoded_13 : decode cX6_writeCoded 13 = .ok (.getfield 65, 3) := by decide +kernel
theorem dX6_writeCoded_16 : decode cX6_writeCoded 16 = .ok (.invokevirtual 198, 3) := by decide +kernel
theorem dX6_writeCoded_19 : decode cX6_writeCoded 19 = .ok (.iload_n 2, 1) := by decide +kernel
theorem dX6_writeCoded_20 : decode cX6_writeCoded 20 = .ok (.sipush 256, 3) := by decide +kernel
theorem dX6_writeCoded_23 : decode cX6_writeCoded 23 = .ok (.if_icmp .ge 7, 3) := by decide +kernel
theorem dX6_writeCoded_26 : decode cX6_writeCoded 26 = .ok (.iconst 1, 1) := by decide +kernel
theorem dX6_writeCoded_27 : decode cX6_writeCoded 27 = .ok (.goto 4, 3) := by decide +kernel
theorem dX6_writeCoded_30 : decode cX6_writeCoded 30 = .ok (.iconst 0, 1) := by decide +kernel
theorem dX6_writeCoded_31 : decode cX6_writeCoded 31 = .ok (.istore_n 3, 1) := by decide +kernel
theorem dX6_writeCoded_32 : decode cX6_writeCoded 32 = .ok (.iload_n 3, 1) := by decide +kernel
theorem dX6_writeCoded_33 : decode cX6_writeCoded 33 = .ok (.ifCond .eq 7, 3) := by decide +kernel
theorem dX6_writeCoded_36 : decode cX6_writeCoded 36 = .ok (.iload_n 2, 1) := by decide +kernel
theorem dX6_writeCoded_37 : decode cX6_writeCoded 37 = .ok (.goto 8, 3) := by decide +kernel
theorem dX6_writeCoded_40 : decode cX6_writeCoded 40 = .ok (.iload_n 2, 1) := by decide +kernel
theorem dX6_writeCoded_41 : decode cX6_writeCoded 41 = .ok (.iconst 3, 1) := by decide +kernel
theorem dX6_writeCoded_42 : decode cX6_writeCoded 42 = .ok (.iadd, 1) := by decide +kernel
theorem dX6_writeCoded_43 : decode cX6_writeCoded 43 = .ok (.iconst 4, 1) := by decide +kernel
theorem dX6_writeCoded_44 : decode cX6_writeCoded 44 = .ok (.idiv, 1) := by decide +kernel
theorem dX6_writeCoded_45 : decode cX6_writeCoded 45 = .ok (.istore 4, 2) := by decide +kernel
theorem dX6_writeCoded_47 : decode cX6_writeCoded 47 = .ok (.iconst 1, 1) := by decide +kernel
theorem dX6_writeCoded_48 : decode cX6_writeCoded 48 = .ok (.aload_n 0, 1) := by decide +kernel
theorem dX6_writeCoded_49 : decode cX6_writeCoded 49 = .ok (.getfield 65, 3) := by decide +kernel
theorem dX6_writeCoded_52 : decode cX6_writeCoded 52 = .ok (.getfield 202, 3) := by decide +kernel
theorem dX6_writeCoded_55 : decode cX6_writeCoded 55 = .ok (.iconst 2, 1) := by decide +kernel
theorem dX6_writeCoded_56 : decode cX6_writeCoded 56 = .ok (.idiv, 1) := by decide +kernel
theorem dX6_writeCoded_57 : decode cX6_writeCoded 57 = .ok (.iadd, 1) := by decide +kernel
theorem dX6_writeCoded_58 : decode cX6_writeCoded 58 = .ok (.iload_n 3, 1) := by decide +kernel
theorem dX6_writeCoded_59 : decode cX6_writeCoded 59 = .ok (.ifCond .eq 7, 3) := by decide +kernel
theorem dX6_writeCoded_62 : decode cX6_writeCoded 62 = .ok (.iconst 0, 1) := by decide +kernel
theorem dX6_writeCoded_63 : decode cX6_writeCoded 63 = .ok (.goto 5, 3) := by decide +kernel
theorem dX6_writeCoded_66 : decode cX6_writeCoded 66 = .ok (.bipush 6, 2) := by decide +kernel
theorem dX6_writeCoded_68 : decode cX6_writeCoded 68 = .ok (.iadd, 1) := by decide +kernel
theorem dX6_writeCoded_69 : decode cX6_writeCoded 69 = .ok (.istore 5, 2) := by decide +kernel
theorem dX6_writeCoded_71 : decode cX6_writeCoded 71 = .ok (.iconst 0, 1) := by decide +kernel
theorem dX6_writeCoded_72 : decode cX6_writeCoded 72 = .ok (.istore 6, 2) := by decide +kernel
theorem dX6_writeCoded_74 : decode cX6_writeCoded 74 = .ok (.iload 6, 2) := by decide +kernel
theorem dX6_writeCoded_76 : decode cX6_writeCoded 76 = .ok (.iload_n 2, 1) := by decide +kernel
theorem dX6_writeCoded_77 : decode cX6_writeCoded 77 = .ok (.if_icmp .ge 37, 3) := by decide +kernel
theorem dX6_writeCoded_80 : decode cX6_writeCoded 80 = .ok (.iload 5, 2) := by decide +kernel
theorem dX6_writeCoded_82 : decode cX6_writeCoded 82 = .ok (.aload_n 0, 1) := by decide +kernel
theorem dX6_writeCoded_83 : decode cX6_writeCoded 83 = .ok (.getfield 30, 3) := by decide +kernel
theorem dX6_writeCoded_86 : decode cX6_writeCoded 86 = .ok (.aload_n 1, 1) := by decide +kernel
theorem dX6_writeCoded_87 : decode cX6_writeCoded 87 = .ok (.iload 6, 2) := by decide +kernel
theorem dX6_writeCoded_89 : decode cX6_writeCoded 89 = .ok (.iload 6, 2) := by decide +kernel
theorem dX6_writeCoded_91 : decode cX6_writeCoded 91 = .ok (.iload 4, 2) := by decide +kernel
theorem dX6_writeCoded_93 : decode cX6_writeCoded 93 = .ok (.iadd, 1) := by decide +kernel
theorem dX6_writeCoded_94 : decode cX6_writeCoded 94 = .ok (.iload_n 2, 1) := by decide +kernel
theorem dX6_writeCoded_95 : decode cX6_writeCoded 95 = .ok (.invokestatic 100, 3) := by decide +kernel
theorem dX6_writeCoded_98 : decode cX6_writeCoded 98 = .ok (.invokevirtual 203, 3) := by decide +kernel
theorem dX6_writeCoded_101 : decode cX6_writeCoded 101 = .ok (.iadd, 1) := by decide +kernel
theorem dX6_writeCoded_102 : decode cX6_writeCoded 102 = .ok (.istore 5, 2) := by decide +kernel
theorem dX6_writeCoded_104 : decode cX6_writeCoded 104 = .ok (.iload 6, 2) := by decide +kernel
theorem dX6_writeCoded_106 : decode cX6_writeCoded 106 = .ok (.iload 4, 2) := by decide +kernel
theorem dX6_writeCoded_108 : decode cX6_writeCoded 108 = .ok (.iadd, 1) := by decide +kernel
theorem dX6_writeCoded_109 : decode cX6_writeCoded 109 = .ok (.istore 6, 2) := by decide +kernel
theorem dX6_writeCoded_111 : decode cX6_writeCoded 111 = .ok (.goto (-37), 3) := by decide +kernel
theorem dX6_writeCoded_114 : decode cX6_writeCoded 114 = .ok (.iload 5, 2) := by decide +kernel
theorem dX6_writeCoded_116 : decode cX6_writeCoded 116 = .ok (.iload_n 2, 1) := by decide +kernel
theorem dX6_writeCoded_117 : decode cX6_writeCoded 117 = .ok (.if_icmp .lt 5, 3) := by decide +kernel
theorem dX6_writeCoded_120 : decode cX6_writeCoded 120 = .ok (.iconst 0, 1) := by decide +kernel
theorem dX6_writeCoded_121 : decode cX6_writeCoded 121 = .ok (.ireturn, 1) := by decide +kernel
theorem dX6_writeCoded_122 : decode cX6_writeCoded 122 = .ok (.iload_n 3, 1) := by decide +kernel
theorem dX6_writeCoded_123 : decode cX6_writeCoded 123 = .ok (.ifCond .eq 7, 3) := by decide +kernel
theorem dX6_writeCoded_126 : decode cX6_writeCoded 126 = .ok (.iconst 0, 1) := by decide +kernel
theorem dX6_writeCoded_127 : decode cX6_writeCoded 127 = .ok (.goto 15, 3) := by decide +kernel
theorem dX6_writeCoded_130 : decode cX6_writeCoded 130 = .ok (.iload_n 2, 1) := by decide +kernel
theorem dX6_writeCoded_131 : decode cX6_writeCoded 131 = .ok (.sipush 1024, 3) := by decide +kernel
theorem dX6_writeCoded_134 : decode cX6_writeCoded 134 = .ok (.if_icmp .ge 7, 3) := by decide +kernel
theorem dX6_writeCoded_137 : decode cX6_writeCoded 137 = .ok (.iconst 1, 1) := by decide +kernel
theorem dX6_writeCoded_138 : decode cX6_writeCoded 138 = .ok (.goto 4, 3) := by decide +kernel
theorem dX6_writeCoded_141 : decode cX6_writeCoded 141 = .ok (.iconst 2, 1) := by decide +kernel
theorem dX6_writeCoded_142 : decode cX6_writeCoded 142 = .ok (.istore 6, 2) := by decide +kernel
theorem dX6_writeCoded_144 : decode cX6_writeCoded 144 = .ok (.iload 6, 2) := by decide +kernel
theorem dX6_writeCoded_146 : decode cX6_writeCoded 146 = .ok (.iconst 2, 1) := by decide +kernel
theorem dX6_writeCoded_147 : decode cX6_writeCoded 147 = .ok (.if_icmp .ne 8, 3) := by decide +kernel
theorem dX6_writeCoded_150 : decode cX6_writeCoded 150 = .ok (.bipush 14, 2) := by decide +kernel
theorem dX6_writeCoded_152 : decode cX6_writeCoded 152 = .ok (.goto 5, 3) := by decide +kernel
theorem dX6_writeCoded_155 : decode cX6_writeCoded 155 = .ok (.bipush 10, 2) := by decide +kernel
theorem dX6_writeCoded_157 : decode cX6_writeCoded 157 = .ok (.istore 7, 2) := by decide +kernel
theorem dX6_writeCoded_159 : decode cX6_writeCoded 159 = .ok (.aload_n 0, 1) := by decide +kernel
theorem dX6_writeCoded_160 : decode cX6_writeCoded 160 = .ok (.getfield 23, 3) := by decide +kernel
theorem dX6_writeCoded_163 : decode cX6_writeCoded 163 = .ok (.iconst 2, 1) := by decide +kernel
theorem dX6_writeCoded_164 : decode cX6_writeCoded 164 = .ok (.iload 6, 2) := by decide +kernel
theorem dX6_writeCoded_166 : decode cX6_writeCoded 166 = .ok (.iconst 2, 1) := by decide +kernel
theorem dX6_writeCoded_167 : decode cX6_writeCoded 167 = .ok (.ishl, 1) := by decide +kernel
theorem dX6_writeCoded_168 : decode cX6_writeCoded 168 = .ok (.ior, 1) := by decide +kernel
theorem dX6_writeCoded_169 : decode cX6_writeCoded 169 = .ok (.iload_n 2, 1) := by decide +kernel
theorem dX6_writeCoded_170 : decode cX6_writeCoded 170 = .ok (.iconst 4, 1) := by decide +kernel
theorem dX6_writeCoded_171 : decode cX6_writeCoded 171 = .ok (.ishl, 1) := by decide +kernel
theorem dX6_writeCoded_172 : decode cX6_writeCoded 172 = .ok (.ior, 1) := by decide +kernel
theorem dX6_writeCoded_173 : decode cX6_writeCoded 173 = .ok (.i2l, 1) := by decide +kernel
theorem dX6_writeCoded_174 : decode cX6_writeCoded 174 = .ok (.iload 5, 2) := by decide +kernel
theorem dX6_writeCoded_176 : decode cX6_writeCoded 176 = .ok (.i2l, 1) := by decide +kernel
theorem dX6_writeCoded_177 : decode cX6_writeCoded 177 = .ok (.iconst 4, 1) := by decide +kernel
theorem dX6_writeCoded_178 : decode cX6_writeCoded 178 = .ok (.iload 7, 2) := by decide +kernel
theorem dX6_writeCoded_180 : decode cX6_writeCoded 180 = .ok (.iadd, 1) := by decide +kernel
theorem dX6_writeCoded_181 : decode cX6_writeCoded 181 = .ok (.lshl, 1) := by decide +kernel
theorem dX6_writeCoded_182 : decode cX6_writeCoded 182 = .ok (.lor, 1) := by decide +kernel
theorem dX6_writeCoded_183 : decode cX6_writeCoded 183 = .ok (.iload 6, 2) := by decide +kernel
theorem dX6_writeCoded_185 : decode cX6_writeCoded 185 = .ok (.iconst 2, 1) := by decide +kernel
theorem dX6_writeCoded_186 : decode cX6_writeCoded 186 = .ok (.if_icmp .ne 7, 3) := by decide +kernel
theorem dX6_writeCoded_189 : decode cX6_writeCoded 189 = .ok (.iconst 4, 1) := by decide +kernel
theorem dX6_writeCoded_190 : decode cX6_writeCoded 190 = .ok (.goto 4, 3) := by decide +kernel
theorem dX6_writeCoded_193 : decode cX6_writeCoded 193 = .ok (.iconst 3, 1) := by decide +kernel
theorem dX6_writeCoded_194 : decode cX6_writeCoded 194 = .ok (.invokevirtual 121, 3) := by decide +kernel
theorem dX6_writeCoded_197 : decode cX6_writeCoded 197 = .ok (.aload_n 0, 1) := by decide +kernel
theorem dX6_writeCoded_198 : decode cX6_writeCoded 198 = .ok (.invokevirtual 207, 3) := by decide +kernel
theorem dX6_writeCoded_201 : decode cX6_writeCoded 201 = .ok (.iconst 0, 1) := by decide +kernel
theorem dX6_writeCoded_202 : decode cX6_writeCoded 202 = .ok (.istore 8, 2) := by decide +kernel
theorem dX6_writeCoded_204 : decode cX6_writeCoded 204 = .ok (.iload_n 3, 1) := by decide +kernel
theorem dX6_writeCoded_205 : decode cX6_writeCoded 205 = .ok (.ifCond .ne 46, 3) := by decide +kernel
theorem dX6_writeCoded_208 : decode cX6_writeCoded 208 = .ok (.iload 8, 2) := by decide +kernel
theorem dX6_writeCoded_210 : decode cX6_writeCoded 210 = .ok (.iconst 3, 1) := by decide +kernel
theorem dX6_writeCoded_211 : decode cX6_writeCoded 211 = .ok (.iload 4, 2) := by decide +kernel
theorem dX6_writeCoded_213 : decode cX6_writeCoded 213 = .ok (.imul, 1) := by decide +kernel
theorem dX6_writeCoded_214 : decode cX6_writeCoded 214 = .ok (.if_icmp .ge 37, 3) := by decide +kernel
theorem dX6_writeCoded_217 : decode cX6_writeCoded 217 = .ok (.aload_n 0, 1) := by decide +kernel
theorem dX6_writeCoded_218 : decode cX6_writeCoded 218 = .ok (.getfield 23, 3) := by decide +kernel
theorem dX6_writeCoded_221 : decode cX6_writeCoded 221 = .ok (.aload_n 0, 1) := by decide +kernel
theorem dX6_writeCoded_222 : decode cX6_writeCoded 222 = .ok (.getfield 30, 3) := by decide +kernel
theorem dX6_writeCoded_225 : decode cX6_writeCoded 225 = .ok (.aload_n 1, 1) := by decide +kernel
theorem dX6_writeCoded_226 : decode cX6_writeCoded 226 = .ok (.iload 8, 2) := by decide +kernel
theorem dX6_writeCoded_228 : decode cX6_writeCoded 228 = .ok (.iload 8, 2) := by decide +kernel
theorem dX6_writeCoded_230 : decode cX6_writeCoded 230 = .ok (.iload 4, 2) := by decide +kernel
theorem dX6_writeCoded_232 : decode cX6_writeCoded 232 = .ok (.iadd, 1) := by decide +kernel
theorem dX6_writeCoded_233 : decode cX6_writeCoded 233 = .ok (.invokevirtual 203, 3) := by decide +kernel
theorem dX6_writeCoded_236 : decode cX6_writeCoded 236 = .ok (.i2l, 1) := by decide +kernel
theorem dX6_writeCoded_237 : decode cX6_writeCoded 237 = .ok (.iconst 2, 1) := by decide +kernel
theorem dX6_writeCoded_238 : decode cX6_writeCoded 238 = .ok (.invokevirtual 121, 3) := by decide +kernel
theorem dX6_writeCoded_241 : decode cX6_writeCoded 241 = .ok (.iload 8, 2) := by decide +kernel
theorem dX6_writeCoded_243 : decode cX6_writeCoded 243 = .ok (.iload 4, 2) := by decide +kernel
theorem dX6_writeCoded_245 : decode cX6_writeCoded 245 = .ok (.iadd, 1) := by decide +kernel
theorem dX6_writeCoded_246 : decode cX6_writeCoded 246 = .ok (.istore 8, 2) := by decide +kernel
theorem dX6_writeCoded_248 : decode cX6_writeCoded 248 = .ok (.goto (-44), 3) := by decide +kernel
theorem dX6_writeCoded_251 : decode cX6_writeCoded 251 = .ok (.iconst 0, 1) := by decide +kernel
theorem dX6_writeCoded_252 : decode cX6_writeCoded 252 = .ok (.istore 8, 2) := by decide +kernel
theorem dX6_writeCoded_254 : decode cX6_writeCoded 254 = .ok (.iload 8, 2) := by decide +kernel
theorem dX6_writeCoded_256 : decode cX6_writeCoded 256 = .ok (.iload_n 2, 1) := by decide +kernel
theorem dX6_writeCoded_257 : decode cX6_writeCoded 257 = .ok (.if_icmp .ge 29, 3) := by decide +kernel
theorem dX6_writeCoded_260 : decode cX6_writeCoded 260 = .ok (.aload_n 0, 1) := by decide +kernel
theorem dX6_writeCoded_261 : decode cX6_writeCoded 261 = .ok (.aload_n 1, 1) := by decide +kernel
theorem dX6_writeCoded_262 : decode cX6_writeCoded 262 = .ok (.iload 8, 2) := by decide +kernel
theorem dX6_writeCoded_264 : decode cX6_writeCoded 264 = .ok (.iload 8, 2) := by decide +kernel
theorem dX6_writeCoded_266 : decode cX6_writeCoded 266 = .ok (.iload 4, 2) := by decide +kernel
theorem dX6_writeCoded_268 : decode cX6_writeCoded 268 = .ok (.iadd, 1) := by decide +kernel
theorem dX6_writeCoded_269 : decode cX6_writeCoded 269 = .ok (.iload_n 2, 1) := by decide +kernel
theorem dX6_writeCoded_270 : decode cX6_writeCoded 270 = .ok (.invokestatic 100, 3) := by decide +kernel
theorem dX6_writeCoded_273 : decode cX6_writeCoded 273 = .ok (.invokevirtual 210, 3) := by decide +kernel
theorem dX6_writeCoded_276 : decode cX6_writeCoded 276 = .ok (.iload 8, 2) := by decide +kernel
theorem dX6_writeCoded_278 : decode cX6_writeCoded 278 = .ok (.iload 4, 2) := by decide +kernel
theorem dX6_writeCoded_280 : decode cX6_writeCoded 280 = .ok (.iadd, 1) := by decide +kernel
theorem dX6_writeCoded_281 : decode cX6_writeCoded 281 = .ok (.istore 8, 2) := by decide +kernel
theorem dX6_writeCoded_283 : decode cX6_writeCoded 283 = .ok (.goto (-29), 3) := by decide +kernel
theorem dX6_writeCoded_286 : decode cX6_writeCoded 286 = .ok (.iconst 1, 1) := by decide +kernel
theorem dX6_writeCoded_287 : decode cX6_writeCoded 287 = .ok (.ireturn, 1) := by decide +kernel
theorem dX6_writeWeights_0 : decode cX6_writeWeights 0 = .ok (.aload_n 0, 1) := by decide +kernel
theorem dX6_writeWeights_1 : decode cX6_writeWeights 1 = .ok (.getfield 65, 3) := by decide +kernel
theorem dX6_writeWeights_4 : decode cX6_writeWeights 4 = .ok (.getfield 202, 3) := by decide +kernel
theorem dX6_writeWeights_7 : decode cX6_writeWeights 7 = .ok (.iconst 1, 1) := by decide +kernel
theorem dX6_writeWeights_8 : decode cX6_writeWeights 8 = .ok (.isub, 1) := by decide +kernel
theorem dX6_writeWeights_9 : decode cX6_writeWeights 9 = .ok (.istore_n 1, 1) := by decide +kernel
theorem dX6_writeWeights_10 : decode cX6_writeWeights 10 = .ok (.aload_n 0, 1) := by decide +kernel
theorem dX6_writeWeights_11 : decode cX6_writeWeights 11 = .ok (.getfield 23, 3) := by decide +kernel
theorem dX6_writeWeights_14 : decode cX6_writeWeights 14 = .ok (.bipush 127, 2) := by decide +kernel
theorem dX6_writeWeights_16 : decode cX6_writeWeights 16 = .ok (.iload_n 1, 1) := by decide +kernel
theorem dX6_writeWeights_17 : decode cX6_writeWeights 17 = .ok (.iadd, 1) := by decide +kernel
theorem dX6_writeWeights_18 : decode cX6_writeWeights 18 = .ok (.invokevirtual 127, 3) := by decide +kernel
theorem dX6_writeWeights_21 : decode cX6_writeWeights 21 = .ok (.iconst 0, 1) := by decide +kernel
theorem dX6_writeWeights_22 : decode cX6_writeWeights 22 = .ok (.istore_n 2, 1) := by decide +kernel
theorem dX6_writeWeights_23 : decode cX6_writeWeights 23 = .ok (.iload_n 2, 1) := by decide +kernel
theorem dX6_writeWeights_24 : decode cX6_writeWeights 24 = .ok (.iload_n 1, 1) := by decide +kernel
theorem dX6_writeWeights_25 : decode cX6_writeWeights 25 = .ok (.if_icmp .ge 56, 3) := by decide +kernel
theorem dX6_writeWeights_28 : decode cX6_writeWeights 28 = .ok (.aload_n 0, 1) := by decide +kernel
theorem dX6_writeWeights_29 : decode cX6_writeWeights 29 = .ok (.getfield 65, 3) := by decide +kernel
theorem dX6_writeWeights_32 : decode cX6_writeWeights 32 = .ok (.getfield 213, 3) := by decide +kernel
theorem dX6_writeWeights_35 : decode cX6_writeWeights 35 = .ok (.iload_n 2, 1) := by decide +kernel
theorem dX6_writeWeights_36 : decode cX6_writeWeights 36 = .ok (.iaload, 1) := by decide +kernel
theorem dX6_writeWeights_37 : decode cX6_writeWeights 37 = .ok (.istore_n 3, 1) := by decide +kernel
theorem dX6_writeWeights_38 : decode cX6_writeWeights 38 = .ok (.iload_n 2, 1) := by decide +kernel
theorem dX6_writeWeights_39 : decode cX6_writeWeights 39 = .ok (.iconst 1, 1) := by decide +kernel
theorem dX6_writeWeights_40 : decode cX6_writeWeights 40 = .ok (.iadd, 1) := by decide +kernel
theorem dX6_writeWeights_41 : decode cX6_writeWeights 41 = .ok (.iload_n 1, 1) := by decide +kernel
theorem dX6_writeWeights_42 : decode cX6_writeWeights 42 = .ok (.if_icmp .ge 17, 3) := by decide +kernel
theorem dX6_writeWeights_45 : decode cX6_writeWeights 45 = .ok (.aload_n 0, 1) := by decide +kernel
theorem dX6_writeWeights_46 : decode cX6_writeWeights 46 = .ok (.getfield 65, 3) := by decide +kernel
theorem dX6_writeWeights_49 : decode cX6_writeWeights 49 = .ok (.getfield 213, 3) := by decide +kernel
theorem dX6_writeWeights_52 : decode cX6_writeWeights 52 = .ok (.iload_n 2, 1) := by decide +kernel
theorem dX6_writeWeights_53 : decode cX6_writeWeights 53 = .ok (.iconst 1, 1) := by decide +kernel
theorem dX6_writeWeights_54 : decode cX6_writeWeights 54 = .ok (.iadd, 1) := by decide +kernel
theorem dX6_writeWeights_55 : decode cX6_writeWeights 55 = .ok (.iaload, 1) := by decide +kernel
theorem dX6_writeWeights_56 : decode cX6_writeWeights 56 = .ok (.goto 4, 3) := by decide +kernel
theorem dX6_writeWeights_59 : decode cX6_writeWeights 59 = .ok (.iconst 0, 1) := by decide +kernel
theorem dX6_writeWeights_60 : decode cX6_writeWeights 60 = .ok (.istore 4, 2) := by decide +kernel
theorem dX6_writeWeights_62 : decode cX6_writeWeights 62 = .ok (.aload_n 0, 1) := by decide +kernel
theorem dX6_writeWeights_63 : decode cX6_writeWeights 63 = .ok (.getfield 23, 3) := by decide +kernel
theorem dX6_writeWeights_66 : decode cX6_writeWeights 66 = .ok (.iload_n 3, 1) := by decide +kernel
theorem dX6_writeWeights_67 : decode cX6_writeWeights 67 = .ok (.iconst 4, 1) := by decide +kernel
theorem dX6_writeWeights_68 : decode cX6_writeWeights 68 = .ok (.ishl, 1) := by decide +kernel
theorem dX6_writeWeights_69 : decode cX6_writeWeights 69 = .ok (.iload 4, 2) := by decide +kernel
theorem dX6_writeWeights_71 : decode cX6_writeWeights 71 = .ok (.ior, 1) := by decide +kernel
theorem dX6_writeWeights_72 : decode cX6_writeWeights 72 = .ok (.invokevirtual 127, 3) := by decide +kernel
theorem dX6_writeWeights_75 : decode cX6_writeWeights 75 = .ok (.iinc 2 2, 3) := by decide +kernel
theorem dX6_writeWeights_78 : decode cX6_writeWeights 78 = .ok (.goto (-55), 3) := by decide +kernel
theorem dX6_writeWeights_81 : decode cX6_writeWeights 81 = .ok (.return_, 1) := by decide +kernel
theorem dX6_writeStream_0 : decode cX6_writeStream 0 = .ok (.iload_n 3, 1) := by decide +kernel
theorem dX6_writeStream_1 : decode cX6_writeStream 1 = .ok (.iconst 1, 1) := by decide +kernel
theorem dX6_writeStream_2 : decode cX6_writeStream 2 = .ok (.isub, 1) := by decide +kernel
theorem dX6_writeStream_3 : decode cX6_writeStream 3 = .ok (.istore 4, 2) := by decide +kernel
theorem dX6_writeStream_5 : decode cX6_writeStream 5 = .ok (.iload 4, 2) := by decide +kernel
theorem dX6_writeStream_7 : decode cX6_writeStream 7 = .ok (.iload_n 2, 1) := by decide +kernel
theorem dX6_writeStream_8 : decode cX6_writeStream 8 = .ok (.if_icmp .lt 45, 3) := by decide +kernel
theorem dX6_writeStream_11 : decode cX6_writeStream 11 = .ok (.aload_n 1, 1) := by decide +kernel
theorem dX6_writeStream_12 : decode cX6_writeStream 12 = .ok (.iload 4, 2) := by decide +kernel
theorem dX6_writeStream_14 : decode cX6_writeStream 14 = .ok (.invokevirtual 188, 3) := by decide +kernel
theorem dX6_writeStream_17 : decode cX6_writeStream 17 = .ok (.istore 5, 2) := by decide +kernel
theorem dX6_writeStream_19 : decode cX6_writeStream 19 = .ok (.aload_n 0, 1) := by decide +kernel
theorem dX6_writeStream_20 : decode cX6_writeStream 20 = .ok (.getfield 23, 3) := by decide +kernel
theorem dX6_writeStream_23 : decode cX6_writeStream 23 = .ok (.aload_n 0, 1) := by decide +kernel
theorem dX6_writeStream_24 : decode cX6_writeStream 24 = .ok (.getfield 30, 3) := by decide +kernel
theorem dX6_writeStream_27 : decode cX6_writeStream 27 = .ok (.getfield 215, 3) := by decide +kernel
theorem dX6_writeStream_30 : decode cX6_writeStream 30 = .ok (.iload 5, 2) := by decide +kernel
theorem dX6_writeStream_32 : decode cX6_writeStream 32 = .ok (.iaload, 1) := by decide +kernel
theorem dX6_writeStream_33 : decode cX6_writeStream 33 = .ok (.i2l, 1) := by decide +kernel
theorem dX6_writeStream_34 : decode cX6_writeStream 34 = .ok (.aload_n 0, 1) := by decide +kernel
theorem dX6_writeStream_35 : decode cX6_writeStream 35 = .ok (.getfield 30, 3) := by decide +kernel
theorem dX6_writeStream_38 : decode cX6_writeStream 38 = .ok (.getfield 218, 3) := by decide +kernel
theorem dX6_writeStream_41 : decode cX6_writeStream 41 = .ok (.iload 5, 2) := by decide +kernel
theorem dX6_writeStream_43 : decode cX6_writeStream 43 = .ok (.iaload, 1) := by decide +kernel
theorem dX6_writeStream_44 : decode cX6_writeStream 44 = .ok (.invokevirtual 221, 3) := by decide +kernel
theorem dX6_writeStream_47 : decode cX6_writeStream 47 = .ok (.iinc 4 (-1), 3) := by decide +kernel
theorem dX6_writeStream_50 : decode cX6_writeStream 50 = .ok (.goto (-45), 3) := by decide +kernel
theorem dX6_writeStream_53 : decode cX6_writeStream 53 = .ok (.aload_n 0, 1) := by decide +kernel
theorem dX6_writeStream_54 : decode cX6_writeStream 54 = .ok (.getfield 23, 3) := by decide +kernel
theorem dX6_writeStream_57 : decode cX6_writeStream 57 = .ok (.lconst 1, 1) := by decide +kernel
theorem dX6_writeStream_58 : decode cX6_writeStream 58 = .ok (.iconst 1, 1) := by decide +kernel
theorem dX6_writeStream_59 : decode cX6_writeStream 59 = .ok (.invokevirtual 221, 3) := by decide +kernel
theorem dX6_writeStream_62 : decode cX6_writeStream 62 = .ok (.aload_n 0, 1) := by decide +kernel
theorem dX6_writeStream_63 : decode cX6_writeStream 63 = .ok (.getfield 23, 3) := by decide +kernel
theorem dX6_writeStream_66 : decode cX6_writeStream 66 = .ok (.invokevirtual 224, 3) := by decide +kernel
theorem dX6_writeStream_69 : decode cX6_writeStream 69 = .ok (.return_, 1) := by decide +kernel
theorem dX6_writeSequences_0 : decode cX6_writeSequences 0 = .ok (.aload_n 0, 1) := by decide +kernel
theorem dX6_writeSequences_1 : decode cX6_writeSequences 1 = .ok (.getfield 12, 3) := by decide +kernel
theorem dX6_writeSequences_4 : decode cX6_writeSequences 4 = .ok (.getfield 147, 3) := by decide +kernel
theorem dX6_writeSequences_7 : decode cX6_writeSequences 7 = .ok (.istore_n 1, 1) := by decide +kernel
theorem dX6_writeSequences_8 : decode cX6_writeSequences 8 = .ok (.iload_n 1, 1) := by decide +kernel
theorem dX6_writeSequences_9 : decode cX6_writeSequences 9 = .ok (.sipush 128, 3) := by decide +kernel
theorem dX6_writeSequences_12 : decode cX6_writeSequences 12 = .ok (.if_icmp .ge 14, 3) := by decide +kernel
theorem dX6_writeSequences_15 : decode cX6_writeSequences 15 = .ok (.aload_n 0, 1) := by decide +kernel
theorem dX6_writeSequences_16 : decode cX6_writeSequences 16 = .ok (.getfield 23, 3) := by decide +kernel
theorem dX6_writeSequences_19 : decode cX6_writeSequences 19 = .ok (.iload_n 1, 1) := by decide +kernel
theorem dX6_writeSequences_20 : decode cX6_writeSequences 20 = .ok (.invokevirtual 127, 3) := by decide +kernel
theorem dX6_writeSequences_23 : decode cX6_writeSequences 23 = .ok (.goto 26, 3) := by decide +kernel
theorem dX6_writeSequences_26 : decode cX6_writeSequences 26 = .ok (.aload_n 0, 1) := by decide +kernel
theorem dX6_writeSequences_27 : decode cX6_writeSequences 27 = .ok (.getfield 23, 3) := by decide +kernel
theorem dX6_writeSequences_30 : decode cX6_writeSequences 30 = .ok (.sipush 128, 3) := by decide +kernel
theorem dX6_writeSequences_33 : decode cX6_writeSequences 33 = .ok (.iload_n 1, 1) := by decide +kernel
theorem dX6_writeSequences_34 : decode cX6_writeSequences 34 = .ok (.bipush 8, 2) := by decide +kernel
theorem dX6_writeSequences_36 : decode cX6_writeSequences 36 = .ok (.ishr, 1) := by decide +kernel
theorem dX6_writeSequences_37 : decode cX6_writeSequences 37 = .ok (.iadd, 1) := by decide +kernel
theorem dX6_writeSequences_38 : decode cX6_writeSequences 38 = .ok (.invokevirtual 127, 3) := by decide +kernel
theorem dX6_writeSequences_41 : decode cX6_writeSequences 41 = .ok (.aload_n 0, 1) := by decide +kernel
theorem dX6_writeSequences_42 : decode cX6_writeSequences 42 = .ok (.getfield 23, 3) := by decide +kernel
theorem dX6_writeSequences_45 : decode cX6_writeSequences 45 = .ok (.iload_n 1, 1) := by decide +kernel
theorem dX6_writeSequences_46 : decode cX6_writeSequences 46 = .ok (.invokevirtual 127, 3) := by decide +kernel
theorem dX6_writeSequences_49 : decode cX6_writeSequences 49 = .ok (.iload_n 1, 1) := by decide +kernel
theorem dX6_writeSequences_50 : decode cX6_writeSequences 50 = .ok (.ifCond .ne 4, 3) := by decide +kernel
theorem dX6_writeSequences_53 : decode cX6_writeSequences 53 = .ok (.return_, 1) := by decide +kernel
theorem dX6_writeSequences_54 : decode cX6_writeSequences 54 = .ok (.aload_n 0, 1) := by decide +kernel
theorem dX6_writeSequences_55 : decode cX6_writeSequences 55 = .ok (.getfield 23, 3) := by decide +kernel
theorem dX6_writeSequences_58 : decode cX6_writeSequences 58 = .ok (.getfield 77, 3) := by decide +kernel
theorem dX6_writeSequences_61 : decode cX6_writeSequences 61 = .ok (.istore_n 2, 1) := by decide +kernel
theorem dX6_writeSequences_62 : decode cX6_writeSequences 62 = .ok (.iconst 0, 1) := by decide +kernel
theorem dX6_writeSequences_63 : decode cX6_writeSequences 63 = .ok (.istore_n 3, 1) := by decide +kernel
theorem dX6_writeSequences_64 : decode cX6_writeSequences 64 = .ok (.aload_n 0, 1) := by decide +kernel
theorem dX6_writeSequences_65 : decode cX6_writeSequences 65 = .ok (.getfield 23, 3) := by decide +kernel
theorem dX6_writeSequences_68 : decode cX6_writeSequences 68 = .ok (.iconst 0, 1) := by decide +kernel
theorem dX6_writeSequences_69 : decode cX6_writeSequences 69 = .ok (.invokevirtual 127, 3) := by decide +kernel
theorem dX6_writeSequences_72 : decode cX6_writeSequences 72 = .ok (.iconst 0, 1) := by decide +kernel
theorem dX6_writeSequences_73 : decode cX6_writeSequences 73 = .ok (.istore 4, 2) := by decide +kernel
theorem dX6_writeSequences_75 : decode cX6_writeSequences 75 = .ok (.iload 4, 2) := by decide +kernel
theorem dX6_writeSequences_77 : decode cX6_writeSequences 77 = .ok (.iconst 3, 1) := by decide +kernel
theorem dX6_writeSequences_78 : decode cX6_writeSequences 78 = .ok (.if_icmp .ge 27, 3) := by decide +kernel
theorem dX6_writeSequences_81 : decode cX6_writeSequences 81 = .ok (.iload_n 3, 1) := by decide +kernel
theorem dX6_writeSequences_82 : decode cX6_writeSequences 82 = .ok (.aload_n 0, 1) := by decide +kernel
theorem dX6_writeSequences_83 : decode cX6_writeSequences 83 = .ok (.iload 4, 2) := by decide +kernel
theorem dX6_writeSequences_85 : decode cX6_writeSequences 85 = .ok (.iload_n 1, 1) := by decide +kernel
theorem dX6_writeSequences_86 : decode cX6_writeSequences 86 = .ok (.invokevirtual 227, 3) := by decide +kernel
theorem dX6_writeSequences_89 : decode cX6_writeSequences 89 = .ok (.bipush 6, 2) := by decide +kernel
theorem dX6_writeSequences_91 : decode cX6_writeSequences 91 = .ok (.iconst 2, 1) := by decide +kernel
theorem dX6_writeSequences_92 : decode cX6_writeSequences 92 = .ok (.iload 4, 2) := by decide +kernel
theorem dX6_writeSequences_94 : decode cX6_writeSequences 94 = .ok (.imul, 1) := by decide +kernel
theorem dX6_writeSequences_95 : decode cX6_writeSequences 95 = .ok (.isub, 1) := by decide +kernel
theorem dX6_writeSequences_96 : decode cX6_writeSequences 96 = .ok (.ishl, 1) := by decide +kernel
theorem dX6_writeSequences_97 : decode cX6_writeSequences 97 = .ok (.ior, 1) := by decide +kernel
theorem dX6_writeSequences_98 : decode cX6_writeSequences 98 = .ok (.istore_n 3, 1) := by decide +kernel
theorem dX6_writeSequences_99 : decode cX6_writeSequences 99 = .ok (.iinc 4 1, 3) := by decide +kernel
theorem dX6_writeSequences_102 : decode cX6_writeSequences 102 = .ok (.goto (-27), 3) := by decide +kernel
theorem dX6_writeSequences_105 : decode cX6_writeSequences 105 = .ok (.aload_n 0, 1) := by decide +kernel
theorem dX6_writeSequences_106 : decode cX6_writeSequences 106 = .ok (.getfield 23, 3) := by decide +kernel
theorem dX6_writeSequences_109 : decode cX6_writeSequences 109 = .ok (.iload_n 2, 1) := by decide +kernel
theorem dX6_writeSequences_110 : decode cX6_writeSequences 110 = .ok (.iload_n 3, 1) := by decide +kernel
theorem dX6_writeSequences_111 : decode cX6_writeSequences 111 = .ok (.invokevirtual 230, 3) := by decide +kernel
theorem dX6_writeSequences_114 : decode cX6_writeSequences 114 = .ok (.aload_n 0, 1) := by decide +kernel
theorem dX6_writeSequences_115 : decode cX6_writeSequences 115 = .ok (.iload_n 1, 1) := by decide +kernel
theorem dX6_writeSequences_116 : decode cX6_writeSequences 116 = .ok (.invokevirtual 233, 3) := by decide +kernel
theorem dX6_writeSequences_119 : decode cX6_writeSequences 119 = .ok (.return_, 1) := by decide +kernel
theorem dX6_writeTable_0 : decode cX6_writeTable 0 = .ok (.aload_n 0, 1) := by decide +kernel
theorem dX6_writeTable_1 : decode cX6_writeTable 1 = .ok (.getfield 73, 3) := by decide +kernel
theorem dX6_writeTable_4 : decode cX6_writeTable 4 = .ok (.iconst 2, 1) := by decide +kernel
theorem dX6_writeTable_5 : decode cX6_writeTable 5 = .ok (.if_icmp .lt 9, 3) := by decide +kernel
theorem dX6_writeTable_8 : decode cX6_writeTable 8 = .ok (.iload_n 2, 1) := by decide +kernel
theorem dX6_writeTable_9 : decode cX6_writeTable 9 = .ok (.bipush 8, 2) := by decide +kernel
theorem dX6_writeTable_11 : decode cX6_writeTable 11 = .ok (.if_icmp .ge 17, 3) := by decide +kernel
theorem dX6_writeTable_14 : decode cX6_writeTable 14 = .ok (.aload_n 0, 1) := by decide +kernel
theorem dX6_writeTable_15 : decode cX6_writeTable 15 = .ok (.getfield 40, 3) := by decide +kernel
theorem dX6_writeTable_18 : decode cX6_writeTable 18 = .ok (.iload_n 1, 1) := by decide +kernel
theorem dX6_writeTable_19 : decode cX6_writeTable 19 = .ok (.aload_n 0, 1) := by decide +kernel
theorem dX6_writeTable_20 : decode cX6_writeTable 20 = .ok (.getfield 69, 3) := by decide +kernel
theorem dX6_writeTable_23 : decode cX6_writeTable 23 = .ok (.iload_n 1, 1) := by decide +kernel
theorem dX6_writeTable_24 : decode cX6_writeTable 24 = .ok (.aaload, 1) := by decide +kernel
theorem dX6_writeTable_25 : decode cX6_writeTable 25 = .ok (.aastore, 1) := by decide +kernel
theorem dX6_writeTable_26 : decode cX6_writeTable 26 = .ok (.iconst 0, 1) := by decide +kernel
theorem dX6_writeTable_27 : decode cX6_writeTable 27 = .ok (.ireturn, 1) := by decide +kernel
theorem dX6_writeTable_28 : decode cX6_writeTable 28 = .ok (.aload_n 0, 1) := by decide +kernel
theorem dX6_writeTable_29 : decode cX6_writeTable 29 = .ok (.getfield 40, 3) := by decide +kernel
theorem dX6_writeTable_32 : decode cX6_writeTable 32 = .ok (.iload_n 1, 1) := by decide +kernel
theorem dX6_writeTable_33 : decode cX6_writeTable 33 = .ok (.aload_n 0, 1) := by decide +kernel
theorem dX6_writeTable_34 : decode cX6_writeTable 34 = .ok (.getfield 36, 3) := by decide +kernel
theorem dX6_writeTable_37 : decode cX6_writeTable 37 = .ok (.iload_n 1, 1) := by decide +kernel
theorem dX6_writeTable_38 : decode cX6_writeTable 38 = .ok (.aaload, 1) := by decide +kernel
theorem dX6_writeTable_39 : decode cX6_writeTable 39 = .ok (.aastore, 1) := by decide +kernel
theorem dX6_writeTable_40 : decode cX6_writeTable 40 = .ok (.aload_n 0, 1) := by decide +kernel
theorem dX6_writeTable_41 : decode cX6_writeTable 41 = .ok (.getfield 56, 3) := by decide +kernel
theorem dX6_writeTable_44 : decode cX6_writeTable 44 = .ok (.iconst 0, 1) := by decide +kernel
theorem dX6_writeTable_45 : decode cX6_writeTable 45 = .ok (.invokestatic 236, 3) := by decide +kernel
theorem dX6_writeTable_48 : decode cX6_writeTable 48 = .ok (.iconst 0, 1) := by decide +kernel
theorem dX6_writeTable_49 : decode cX6_writeTable 49 = .ok (.istore_n 3, 1) := by decide +kernel
theorem dX6_writeTable_50 : decode cX6_writeTable 50 = .ok (.iconst 0, 1) := by decide +kernel
theorem dX6_writeTable_51 : decode cX6_writeTable 51 = .ok (.istore 4, 2) := by decide +kernel
theorem dX6_writeTable_53 : decode cX6_writeTable 53 = .ok (.iload 4, 2) := by decide +kernel
theorem dX6_writeTable_55 : decode cX6_writeTable 55 = .ok (.iload_n 2, 1) := by decide +kernel
theorem dX6_writeTable_56 : decode cX6_writeTable 56 = .ok (.if_icmp .ge 36, 3) := by decide +kernel
theorem dX6_writeTable_59 : decode cX6_writeTable 59 = .ok (.aload_n 0, 1) := by decide +kernel
theorem dX6_writeTable_60 : decode cX6_writeTable 60 = .ok (.iload_n 1, 1) := by decide +kernel
theorem dX6_writeTable_61 : decode cX6_writeTable 61 = .ok (.iload 4, 2) := by decide +kernel
theorem dX6_writeTable_63 : decode cX6_writeTable 63 = .ok (.invokevirtual 242, 3) := by decide +kernel
theorem dX6_writeTable_66 : decode cX6_writeTable 66 = .ok (.istore 5, 2) := by decide +kernel
theorem dX6_writeTable_68 : decode cX6_writeTable 68 = .ok (.aload_n 0, 1) := by decide +kernel
theorem dX6_writeTable_69 : decode cX6_writeTable 69 = .ok (.getfield 56, 3) := by decide +kernel
theorem dX6_writeTable_72 : decode cX6_writeTable 72 = .ok (.iload 5, 2) := by decide +kernel
theorem dX6_writeTable_74 : decode cX6_writeTable 74 = .ok (.dup2, 1) := by decide +kernel
theorem dX6_writeTable_75 : decode cX6_writeTable 75 = .ok (.iaload, 1) := by decide +kernel
theorem dX6_writeTable_76 : decode cX6_writeTable 76 = .ok (.iconst 1, 1) := by decide +kernel
theorem dX6_writeTable_77 : decode cX6_writeTable 77 = .ok (.iadd, 1) := by decide +kernel
theorem dX6_writeTable_78 : decode cX6_writeTable 78 = .ok (.iastore, 1) := by decide +kernel
theorem dX6_writeTable_79 : decode cX6_writeTable 79 = .ok (.iload_n 3, 1) := by decide +kernel
theorem dX6_writeTable_80 : decode cX6_writeTable 80 = .ok (.iload 5, 2) := by decide +kernel
theorem dX6_writeTable_82 : decode cX6_writeTable 82 = .ok (.invokestatic 245, 3) := by decide +kernel
theorem dX6_writeTable_85 : decode cX6_writeTable 85 = .ok (.istore_n 3, 1) := by decide +kernel
theorem dX6_writeTable_86 : decode cX6_writeTable 86 = .ok (.iinc 4 1, 3) := by decide +kernel
theorem dX6_writeTable_89 : decode cX6_writeTable 89 = .ok (.goto (-36), 3) := by decide +kernel
theorem dX6_writeTable_92 : decode cX6_writeTable 92 = .ok (.aload_n 0, 1) := by decide +kernel
theorem dX6_writeTable_93 : decode cX6_writeTable 93 = .ok (.getfield 56, 3) := by decide +kernel
theorem dX6_writeTable_96 : decode cX6_writeTable 96 = .ok (.iload_n 3, 1) := by decide +kernel
theorem dX6_writeTable_97 : decode cX6_writeTable 97 = .ok (.iaload, 1) := by decide +kernel
theorem dX6_writeTable_98 : decode cX6_writeTable 98 = .ok (.iload_n 2, 1) := by decide +kernel
theorem dX6_writeTable_99 : decode cX6_writeTable 99 = .ok (.if_icmp .ne 23, 3) := by decide +kernel
theorem dX6_writeTable_102 : decode cX6_writeTable 102 = .ok (.aload_n 0, 1) := by decide +kernel
theorem dX6_writeTable_103 : decode cX6_writeTable 103 = .ok (.getfield 36, 3) := by decide +kernel
theorem dX6_writeTable_106 : decode cX6_writeTable 106 = .ok (.iload_n 1, 1) := by decide +kernel
theorem dX6_writeTable_107 : decode cX6_writeTable 107 = .ok (.aaload, 1) := by decide +kernel
theorem dX6_writeTable_108 : decode cX6_writeTable 108 = .ok (.iload_n 3, 1) := by decide +kernel
theorem dX6_writeTable_109 : decode cX6_writeTable 109 = .ok (.invokevirtual 248, 3) := by decide +kernel
theorem dX6_writeTable_112 : decode cX6_writeTable 112 = .ok (.aload_n 0, 1) := by decide +kernel
theorem dX6_writeTable_113 : decode cX6_writeTable 113 = .ok (.getfield 23, 3) := by decide +kernel
theorem dX6_writeTable_116 : decode cX6_writeTable 116 = .ok (.iload_n 3, 1) := by decide +kernel
theorem dX6_writeTable_117 : decode cX6_writeTable 117 = .ok (.invokevirtual 127, 3) := by decide +kernel
theorem dX6_writeTable_120 : decode cX6_writeTable 120 = .ok (.iconst 1, 1) := by decide +kernel
theorem dX6_writeTable_121 : decode cX6_writeTable 121 = .ok (.ireturn, 1) := by decide +kernel
theorem dX6_writeTable_122 : decode cX6_writeTable 122 = .ok (.aload_n 0, 1) := by decide +kernel
theorem dX6_writeTable_123 : decode cX6_writeTable 123 = .ok (.getfield 36, 3) := by decide +kernel
theorem dX6_writeTable_126 : decode cX6_writeTable 126 = .ok (.iload_n 1, 1) := by decide +kernel
theorem dX6_writeTable_127 : decode cX6_writeTable 127 = .ok (.aaload, 1) := by decide +kernel
theorem dX6_writeTable_128 : decode cX6_writeTable 128 = .ok (.aload_n 0, 1) := by decide +kernel
theorem dX6_writeTable_129 : decode cX6_writeTable 129 = .ok (.getfield 56, 3) := by decide +kernel
theorem dX6_writeTable_132 : decode cX6_writeTable 132 = .ok (.iload_n 3, 1) := by decide +kernel
theorem dX6_writeTable_133 : decode cX6_writeTable 133 = .ok (.iload_n 2, 1) := by decide +kernel
theorem dX6_writeTable_134 : decode cX6_writeTable 134 = .ok (.invokevirtual 251, 3) := by decide +kernel
theorem dX6_writeTable_137 : decode cX6_writeTable 137 = .ok (.aload_n 0, 1) := by decide +kernel
theorem dX6_writeTable_138 : decode cX6_writeTable 138 = .ok (.getfield 36, 3) := by decide +kernel
theorem dX6_writeTable_141 : decode cX6_writeTable 141 = .ok (.iload_n 1, 1) := by decide +kernel
theorem dX6_writeTable_142 : decode cX6_writeTable 142 = .ok (.aaload, 1) := by decide +kernel
theorem dX6_writeTable_143 : decode cX6_writeTable 143 = .ok (.aload_n 0, 1) := by decide +kernel
theorem dX6_writeTable_144 : decode cX6_writeTable 144 = .ok (.getfield 23, 3) := by decide +kernel
theorem dX6_writeTable_147 : decode cX6_writeTable 147 = .ok (.invokevirtual 254, 3) := by decide +kernel
theorem dX6_writeTable_150 : decode cX6_writeTable 150 = .ok (.iconst 2, 1) := by decide +kernel
theorem dX6_writeTable_151 : decode cX6_writeTable 151 = .ok (.ireturn, 1) := by decide +kernel
theorem dX6_writeStates_0 : decode cX6_writeStates 0 = .ok (.iload_n 1, 1) := by decide +kernel
theorem dX6_writeStates_1 : decode cX6_writeStates 1 = .ok (.iconst 1, 1) := by decide +kernel
theorem dX6_writeStates_2 : decode cX6_writeStates 2 = .ok (.isub, 1) := by decide +kernel
theorem dX6_writeStates_3 : decode cX6_writeStates 3 = .ok (.istore_n 2, 1) := by decide +kernel
theorem dX6_writeStates_4 : decode cX6_writeStates 4 = .ok (.iload_n 2, 1) := by decide +kernel
theorem dX6_writeStates_5 : decode cX6_writeStates 5 = .ok (.ifCond .lt 121, 3) := by decide +kernel
theorem dX6_writeStates_8 : decode cX6_writeStates 8 = .ok (.iload_n 2, 1) := by decide +kernel
theorem dX6_writeStates_9 : decode cX6_writeStates 9 = .ok (.iload_n 1, 1) := by decide +kernel
theorem dX6_writeStates_10 : decode cX6_writeStates 10 = .ok (.iconst 1, 1) := by decide +kernel
theorem dX6_writeStates_11 : decode cX6_writeStates 11 = .ok (.isub, 1) := by decide +kernel
theorem dX6_writeStates_12 : decode cX6_writeStates 12 = .ok (.if_icmp .ne 40, 3) := by decide +kernel
theorem dX6_writeStates_15 : decode cX6_writeStates 15 = .ok (.iconst 0, 1) := by decide +kernel
theorem dX6_writeStates_16 : decode cX6_writeStates 16 = .ok (.istore_n 3, 1) := by decide +kernel
theorem dX6_writeStates_17 : decode cX6_writeStates 17 = .ok (.iload_n 3, 1) := by decide +kernel
theorem dX6_writeStates_18 : decode cX6_writeStates 18 = .ok (.iconst 3, 1) := by decide +kernel
theorem dX6_writeStates_19 : decode cX6_writeStates 19 = .ok (.if_icmp .ge 30, 3) := by decide +kernel
theorem dX6_writeStates_22 : decode cX6_writeStates 22 = .ok (.aload_n 0, 1) := by decide +kernel
theorem dX6_writeStates_23 : decode cX6_writeStates 23 = .ok (.getfield 43, 3) := by decide +kernel
theorem dX6_writeStates_26 : decode cX6_writeStates 26 = .ok (.iload_n 3, 1) := by decide +kernel
theorem dX6_writeStates_27 : decode cX6_writeStates 27 = .ok (.aload_n 0, 1) := by decide +kernel
theorem dX6_writeStates_28 : decode cX6_writeStates 28 = .ok (.getfield 40, 3) := by decide +kernel
theorem dX6_writeStates_31 : decode cX6_writeStates 31 = .ok (.iload_n 3, 1) := by decide +kernel
theorem dX6_writeStates_32 : decode cX6_writeStates 32 = .ok (.aaload, 1) := by decide +kernel
theorem dX6_writeStates_33 : decode cX6_writeStates 33 = .ok (.aload_n 0, 1) := by decide +kernel
theorem dX6_writeStates_34 : decode cX6_writeStates 34 = .ok (.iload_n 3, 1) := by decide +kernel
theorem dX6_writeStates_35 : decode cX6_writeStates 35 = .ok (.iload_n 2, 1) := by decide +kernel
theorem dX6_writeStates_36 : decode cX6_writeStates 36 = .ok (.invokevirtual 242, 3) := by decide +kernel
theorem dX6_writeStates_39 : decode cX6_writeStates 39 = .ok (.invokevirtual 257, 3) := by decide +kernel
theorem dX6_writeStates_42 : decode cX6_writeStates 42 = .ok (.iastore, 1) := by decide +kernel
theorem dX6_writeStates_43 : decode cX6_writeStates 43 = .ok (.iinc 3 1, 3) := by decide +kernel
