theorem dX13_sized_287 : decode cX13_sized 287 = .ok (.iload 8, 2) := by decide +kernel
theorem dX13_sized_289 : decode cX13_sized 289 = .ok (.invokevirtual 263, 3) := by decide +kernel
theorem dX13_sized_292 : decode cX13_sized 292 = .ok (.pop, 1) := by decide +kernel
theorem dX13_sized_293 : decode cX13_sized 293 = .ok (.aload_n 0, 1) := by decide +kernel
theorem dX13_sized_294 : decode cX13_sized 294 = .ok (.getfield 158, 3) := by decide +kernel
theorem dX13_sized_297 : decode cX13_sized 297 = .ok (.ifCond .ne 82, 3) := by decide +kernel
theorem dX13_sized_300 : decode cX13_sized 300 = .ok (.iload_n 3, 1) := by decide +kernel
theorem dX13_sized_301 : decode cX13_sized 301 = .ok (.iconst 4, 1) := by decide +kernel
theorem dX13_sized_302 : decode cX13_sized 302 = .ok (.iand, 1) := by decide +kernel
theorem dX13_sized_303 : decode cX13_sized 303 = .ok (.ifCond .le 76, 3) := by decide +kernel
theorem dX13_sized_306 : decode cX13_sized 306 = .ok (.aload_n 0, 1) := by decide +kernel
theorem dX13_sized_307 : decode cX13_sized 307 = .ok (.iconst 4, 1) := by decide +kernel
theorem dX13_sized_308 : decode cX13_sized 308 = .ok (.invokevirtual 296, 3) := by decide +kernel
theorem dX13_sized_311 : decode cX13_sized 311 = .ok (.ifCond .eq 68, 3) := by decide +kernel
theorem dX13_sized_314 : decode cX13_sized 314 = .ok (.aload_n 0, 1) := by decide +kernel
theorem dX13_sized_315 : decode cX13_sized 315 = .ok (.getfield 71, 3) := by decide +kernel
theorem dX13_sized_318 : decode cX13_sized 318 = .ok (.aload_n 0, 1) := by decide +kernel
theorem dX13_sized_319 : decode cX13_sized 319 = .ok (.getfield 334, 3) := by decide +kernel
theorem dX13_sized_322 : decode cX13_sized 322 = .ok (.aload_n 0, 1) := by decide +kernel
theorem dX13_sized_323 : decode cX13_sized 323 = .ok (.getfield 286, 3) := by decide +kernel
theorem dX13_sized_326 : decode cX13_sized 326 = .ok (.aload_n 0, 1) := by decide +kernel
theorem dX13_sized_327 : decode cX13_sized 327 = .ok (.getfield 334, 3) := by decide +kernel
theorem dX13_sized_330 : decode cX13_sized 330 = .ok (.isub, 1) := by decide +kernel
theorem dX13_sized_331 : decode cX13_sized 331 = .ok (.invokestatic 187, 3) := by decide +kernel
theorem dX13_sized_334 : decode cX13_sized 334 = .ok (.ldc2_w 337, 3) := by decide +kernel
theorem dX13_sized_337 : decode cX13_sized 337 = .ok (.land, 1) := by decide +kernel
theorem dX13_sized_338 : decode cX13_sized 338 = .ok (.lstore 12, 2) := by decide +kernel
theorem dX13_sized_340 : decode cX13_sized 340 = .ok (.aload_n 0, 1) := by decide +kernel
theorem dX13_sized_341 : decode cX13_sized 341 = .ok (.getfield 7, 3) := by decide +kernel
theorem dX13_sized_344 : decode cX13_sized 344 = .ok (.aload_n 0, 1) := by decide +kernel
theorem dX13_sized_345 : decode cX13_sized 345 = .ok (.getfield 283, 3) := by decide +kernel
theorem dX13_sized_348 : decode cX13_sized 348 = .ok (.iconst 4, 1) := by decide +kernel
theorem dX13_sized_349 : decode cX13_sized 349 = .ok (.invokestatic 175, 3) := by decide +kernel
theorem dX13_sized_352 : decode cX13_sized 352 = .ok (.lload 12, 2) := by decide +kernel
theorem dX13_sized_354 : decode cX13_sized 354 = .ok (.lcmp, 1) := by decide +kernel
theorem dX13_sized_355 : decode cX13_sized 355 = .ok (.ifCond .eq 14, 3) := by decide +kernel
theorem dX13_sized_358 : decode cX13_sized 358 = .ok (.aload_n 0, 1) := by decide +kernel
theorem dX13_sized_359 : decode cX13_sized 359 = .ok (.bipush 9, 2) := by decide +kernel
theorem dX13_sized_361 : decode cX13_sized 361 = .ok (.aload_n 0, 1) := by decide +kernel
theorem dX13_sized_362 : decode cX13_sized 362 = .ok (.getfield 283, 3) := by decide +kernel
theorem dX13_sized_365 : decode cX13_sized 365 = .ok (.invokevirtual 263, 3) := by decide +kernel
theorem dX13_sized_368 : decode cX13_sized 368 = .ok (.pop, 1) := by decide +kernel
theorem dX13_sized_369 : decode cX13_sized 369 = .ok (.aload_n 0, 1) := by decide +kernel
theorem dX13_sized_370 : decode cX13_sized 370 = .ok (.dup, 1) := by decide +kernel
theorem dX13_sized_371 : decode cX13_sized 371 = .ok (.getfield 283, 3) := by decide +kernel
theorem dX13_sized_374 : decode cX13_sized 374 = .ok (.iconst 4, 1) := by decide +kernel
theorem dX13_sized_375 : decode cX13_sized 375 = .ok (.iadd, 1) := by decide +kernel
theorem dX13_sized_376 : decode cX13_sized 376 = .ok (.putfield 283, 3) := by decide +kernel
theorem dX13_sized_379 : decode cX13_sized 379 = .ok (.return_, 1) := by decide +kernel
theorem dX13_begin_0 : decode cX13_begin 0 = .ok (.aload_n 0, 1) := by decide +kernel
theorem dX13_begin_1 : decode cX13_begin 1 = .ok (.aload_n 0, 1) := by decide +kernel
theorem dX13_begin_2 : decode cX13_begin 2 = .ok (.getfield 286, 3) := by decide +kernel
theorem dX13_begin_5 : decode cX13_begin 5 = .ok (.putfield 334, 3) := by decide +kernel
theorem dX13_begin_8 : decode cX13_begin 8 = .ok (.aload_n 0, 1) := by decide +kernel
theorem dX13_begin_9 : decode cX13_begin 9 = .ok (.aload_n 0, 1) := by decide +kernel
theorem dX13_begin_10 : decode cX13_begin 10 = .ok (.getfield 245, 3) := by decide +kernel
theorem dX13_begin_13 : decode cX13_begin 13 = .ok (.ifCond .eq 15, 3) := by decide +kernel
theorem dX13_begin_16 : decode cX13_begin 16 = .ok (.aload_n 0, 1) := by decide +kernel
theorem dX13_begin_17 : decode cX13_begin 17 = .ok (.getfield 251, 3) := by decide +kernel
theorem dX13_begin_20 : decode cX13_begin 20 = .ok (.iload_n 1, 1) := by decide +kernel
theorem dX13_begin_21 : decode cX13_begin 21 = .ok (.if_icmp .ne 7, 3) := by decide +kernel
theorem dX13_begin_24 : decode cX13_begin 24 = .ok (.iconst 1, 1) := by decide +kernel
theorem dX13_begin_25 : decode cX13_begin 25 = .ok (.goto 4, 3) := by decide +kernel
theorem dX13_begin_28 : decode cX13_begin 28 = .ok (.iconst 0, 1) := by decide +kernel
theorem dX13_begin_29 : decode cX13_begin 29 = .ok (.putfield 339, 3) := by decide +kernel
theorem dX13_begin_32 : decode cX13_begin 32 = .ok (.aload_n 0, 1) := by decide +kernel
theorem dX13_begin_33 : decode cX13_begin 33 = .ok (.getfield 339, 3) := by decide +kernel
theorem dX13_begin_36 : decode cX13_begin 36 = .ok (.ifCond .eq 14, 3) := by decide +kernel
theorem dX13_begin_39 : decode cX13_begin 39 = .ok (.aload_n 0, 1) := by decide +kernel
theorem dX13_begin_40 : decode cX13_begin 40 = .ok (.getfield 248, 3) := by decide +kernel
theorem dX13_begin_43 : decode cX13_begin 43 = .ok (.ifCond .eq 7, 3) := by decide +kernel
theorem dX13_begin_46 : decode cX13_begin 46 = .ok (.iconst 1, 1) := by decide +kernel
theorem dX13_begin_47 : decode cX13_begin 47 = .ok (.goto 4, 3) := by decide +kernel
theorem dX13_begin_50 : decode cX13_begin 50 = .ok (.iconst 0, 1) := by decide +kernel
theorem dX13_begin_51 : decode cX13_begin 51 = .ok (.istore_n 2, 1) := by decide +kernel
theorem dX13_begin_52 : decode cX13_begin 52 = .ok (.iconst 0, 1) := by decide +kernel
theorem dX13_begin_53 : decode cX13_begin 53 = .ok (.istore_n 3, 1) := by decide +kernel
theorem dX13_begin_54 : decode cX13_begin 54 = .ok (.iload_n 3, 1) := by decide +kernel
theorem dX13_begin_55 : decode cX13_begin 55 = .ok (.iconst 3, 1) := by decide +kernel
theorem dX13_begin_56 : decode cX13_begin 56 = .ok (.if_icmp .ge 66, 3) := by decide +kernel
theorem dX13_begin_59 : decode cX13_begin 59 = .ok (.aload_n 0, 1) := by decide +kernel
theorem dX13_begin_60 : decode cX13_begin 60 = .ok (.getfield 40, 3) := by decide +kernel
theorem dX13_begin_63 : decode cX13_begin 63 = .ok (.iload_n 3, 1) := by decide +kernel
theorem dX13_begin_64 : decode cX13_begin 64 = .ok (.iconst 0, 1) := by decide +kernel
theorem dX13_begin_65 : decode cX13_begin 65 = .ok (.bastore, 1) := by decide +kernel
theorem dX13_begin_66 : decode cX13_begin 66 = .ok (.aload_n 0, 1) := by decide +kernel
theorem dX13_begin_67 : decode cX13_begin 67 = .ok (.getfield 85, 3) := by decide +kernel
theorem dX13_begin_70 : decode cX13_begin 70 = .ok (.iload_n 3, 1) := by decide +kernel
theorem dX13_begin_71 : decode cX13_begin 71 = .ok (.iload_n 2, 1) := by decide +kernel
theorem dX13_begin_72 : decode cX13_begin 72 = .ok (.ifCond .eq 17, 3) := by decide +kernel
theorem dX13_begin_75 : decode cX13_begin 75 = .ok (.aload_n 0, 1) := by decide +kernel
theorem dX13_begin_76 : decode cX13_begin 76 = .ok (.getfield 65, 3) := by decide +kernel
theorem dX13_begin_79 : decode cX13_begin 79 = .ok (.iload_n 3, 1) := by decide +kernel
theorem dX13_begin_80 : decode cX13_begin 80 = .ok (.iaload, 1) := by decide +kernel
theorem dX13_begin_81 : decode cX13_begin 81 = .ok (.i2l, 1) := by decide +kernel
theorem dX13_begin_82 : decode cX13_begin 82 = .ok (.ldc2_w 337, 3) := by decide +kernel
theorem dX13_begin_85 : decode cX13_begin 85 = .ok (.land, 1) := by decide +kernel
theorem dX13_begin_86 : decode cX13_begin 86 = .ok (.goto 17, 3) := by decide +kernel
theorem dX13_begin_89 : decode cX13_begin 89 = .ok (.iload_n 3, 1) := by decide +kernel
theorem dX13_begin_90 : decode cX13_begin 90 = .ok (.ifCond .ne 7, 3) := by decide +kernel
theorem dX13_begin_93 : decode cX13_begin 93 = .ok (.lconst 1, 1) := by decide +kernel
theorem dX13_begin_94 : decode cX13_begin 94 = .ok (.goto 9, 3) := by decide +kernel
theorem dX13_begin_97 : decode cX13_begin 97 = .ok (.ldc2_w 342, 3) := by decide +kernel
theorem dX13_begin_100 : decode cX13_begin 100 = .ok (.iload_n 3, 1) := by decide +kernel
theorem dX13_begin_101 : decode cX13_begin 101 = .ok (.i2l, 1) := by decide +kernel
theorem dX13_begin_102 : decode cX13_begin 102 = .ok (.lmul, 1) := by decide +kernel
theorem dX13_begin_103 : decode cX13_begin 103 = .ok (.lastore, 1) := by decide +kernel
theorem dX13_begin_104 : decode cX13_begin 104 = .ok (.iload_n 2, 1) := by decide +kernel
theorem dX13_begin_105 : decode cX13_begin 105 = .ok (.ifCond .eq 11, 3) := by decide +kernel
theorem dX13_begin_108 : decode cX13_begin 108 = .ok (.aload_n 0, 1) := by decide +kernel
theorem dX13_begin_109 : decode cX13_begin 109 = .ok (.iconst 3, 1) := by decide +kernel
theorem dX13_begin_110 : decode cX13_begin 110 = .ok (.iload_n 3, 1) := by decide +kernel
theorem dX13_begin_111 : decode cX13_begin 111 = .ok (.iadd, 1) := by decide +kernel
theorem dX13_begin_112 : decode cX13_begin 112 = .ok (.iload_n 3, 1) := by decide +kernel
theorem dX13_begin_113 : decode cX13_begin 113 = .ok (.invokevirtual 266, 3) := by decide +kernel
theorem dX13_begin_116 : decode cX13_begin 116 = .ok (.iinc 3 1, 3) := by decide +kernel
theorem dX13_begin_119 : decode cX13_begin 119 = .ok (.goto (-65), 3) := by decide +kernel
theorem dX13_begin_122 : decode cX13_begin 122 = .ok (.aload_n 0, 1) := by decide +kernel
theorem dX13_begin_123 : decode cX13_begin 123 = .ok (.getfield 50, 3) := by decide +kernel
theorem dX13_begin_126 : decode cX13_begin 126 = .ok (.iconst 0, 1) := by decide +kernel
theorem dX13_begin_127 : decode cX13_begin 127 = .ok (.iconst 0, 1) := by decide +kernel
theorem dX13_begin_128 : decode cX13_begin 128 = .ok (.bastore, 1) := by decide +kernel
theorem dX13_begin_129 : decode cX13_begin 129 = .ok (.iload_n 2, 1) := by decide +kernel
theorem dX13_begin_130 : decode cX13_begin 130 = .ok (.ifCond .eq 9, 3) := by decide +kernel
theorem dX13_begin_133 : decode cX13_begin 133 = .ok (.aload_n 0, 1) := by decide +kernel
theorem dX13_begin_134 : decode cX13_begin 134 = .ok (.iconst 1, 1) := by decide +kernel
theorem dX13_begin_135 : decode cX13_begin 135 = .ok (.iconst 0, 1) := by decide +kernel
theorem dX13_begin_136 : decode cX13_begin 136 = .ok (.invokevirtual 270, 3) := by decide +kernel
theorem dX13_begin_139 : decode cX13_begin 139 = .ok (.return_, 1) := by decide +kernel
theorem dX13_blockAt_0 : decode cX13_blockAt 0 = .ok (.aload_n 0, 1) := by decide +kernel
theorem dX13_blockAt_1 : decode cX13_blockAt 1 = .ok (.getfield 283, 3) := by decide +kernel
theorem dX13_blockAt_4 : decode cX13_blockAt 4 = .ok (.istore_n 1, 1) := by decide +kernel
theorem dX13_blockAt_5 : decode cX13_blockAt 5 = .ok (.aload_n 0, 1) := by decide +kernel
theorem dX13_blockAt_6 : decode cX13_blockAt 6 = .ok (.iconst 3, 1) := by decide +kernel
theorem dX13_blockAt_7 : decode cX13_blockAt 7 = .ok (.invokevirtual 296, 3) := by decide +kernel
theorem dX13_blockAt_10 : decode cX13_blockAt 10 = .ok (.ifCond .ne 5, 3) := by decide +kernel
theorem dX13_blockAt_13 : decode cX13_blockAt 13 = .ok (.iconst 1, 1) := by decide +kernel
theorem dX13_blockAt_14 : decode cX13_blockAt 14 = .ok (.ireturn, 1) := by decide +kernel
theorem dX13_blockAt_15 : decode cX13_blockAt 15 = .ok (.aload_n 0, 1) := by decide +kernel
theorem dX13_blockAt_16 : decode cX13_blockAt 16 = .ok (.getfield 7, 3) := by decide +kernel
theorem dX13_blockAt_19 : decode cX13_blockAt 19 = .ok (.aload_n 0, 1) := by decide +kernel
theorem dX13_blockAt_20 : decode cX13_blockAt 20 = .ok (.getfield 283, 3) := by decide +kernel
theorem dX13_blockAt_23 : decode cX13_blockAt 23 = .ok (.iconst 3, 1) := by decide +kernel
theorem dX13_blockAt_24 : decode cX13_blockAt 24 = .ok (.invokestatic 175, 3) := by decide +kernel
theorem dX13_blockAt_27 : decode cX13_blockAt 27 = .ok (.l2i, 1) := by decide +kernel
theorem dX13_blockAt_28 : decode cX13_blockAt 28 = .ok (.istore_n 2, 1) := by decide +kernel
theorem dX13_blockAt_29 : decode cX13_blockAt 29 = .ok (.aload_n 0, 1) := by decide +kernel
theorem dX13_blockAt_30 : decode cX13_blockAt 30 = .ok (.getfield 89, 3) := by decide +kernel
theorem dX13_blockAt_33 : decode cX13_blockAt 33 = .ok (.iconst 1, 1) := by decide +kernel
theorem dX13_blockAt_34 : decode cX13_blockAt 34 = .ok (.dup2, 1) := by decide +kernel
theorem dX13_blockAt_35 : decode cX13_blockAt 35 = .ok (.iaload, 1) := by decide +kernel
theorem dX13_blockAt_36 : decode cX13_blockAt 36 = .ok (.iconst 1, 1) := by decide +kernel
theorem dX13_blockAt_37 : decode cX13_blockAt 37 = .ok (.iadd, 1) := by decide +kernel
theorem dX13_blockAt_38 : decode cX13_blockAt 38 = .ok (.iastore, 1) := by decide +kernel
theorem dX13_blockAt_39 : decode cX13_blockAt 39 = .ok (.iload_n 2, 1) := by decide +kernel
theorem dX13_blockAt_40 : decode cX13_blockAt 40 = .ok (.iconst 1, 1) := by decide +kernel
theorem dX13_blockAt_41 : decode cX13_blockAt 41 = .ok (.ishr, 1) := by decide +kernel
theorem dX13_blockAt_42 : decode cX13_blockAt 42 = .ok (.iconst 3, 1) := by decide +kernel
theorem dX13_blockAt_43 : decode cX13_blockAt 43 = .ok (.iand, 1) := by decide +kernel
theorem dX13_blockAt_44 : decode cX13_blockAt 44 = .ok (.istore_n 3, 1) := by decide +kernel
theorem dX13_blockAt_45 : decode cX13_blockAt 45 = .ok (.iload_n 2, 1) := by decide +kernel
theorem dX13_blockAt_46 : decode cX13_blockAt 46 = .ok (.iconst 3, 1) := by decide +kernel
theorem dX13_blockAt_47 : decode cX13_blockAt 47 = .ok (.ishr, 1) := by decide +kernel
theorem dX13_blockAt_48 : decode cX13_blockAt 48 = .ok (.istore 4, 2) := by decide +kernel
theorem dX13_blockAt_50 : decode cX13_blockAt 50 = .ok (.iload_n 3, 1) := by decide +kernel
theorem dX13_blockAt_51 : decode cX13_blockAt 51 = .ok (.iconst 3, 1) := by decide +kernel
theorem dX13_blockAt_52 : decode cX13_blockAt 52 = .ok (.if_icmp .eq 12, 3) := by decide +kernel
theorem dX13_blockAt_55 : decode cX13_blockAt 55 = .ok (.iload 4, 2) := by decide +kernel
theorem dX13_blockAt_57 : decode cX13_blockAt 57 = .ok (.aload_n 0, 1) := by decide +kernel
theorem dX13_blockAt_58 : decode cX13_blockAt 58 = .ok (.getfield 324, 3) := by decide +kernel
theorem dX13_blockAt_61 : decode cX13_blockAt 61 = .ok (.if_icmp .le 13, 3) := by decide +kernel
theorem dX13_blockAt_64 : decode cX13_blockAt 64 = .ok (.aload_n 0, 1) := by decide +kernel
theorem dX13_blockAt_65 : decode cX13_blockAt 65 = .ok (.bipush 6, 2) := by decide +kernel
theorem dX13_blockAt_67 : decode cX13_blockAt 67 = .ok (.iload_n 1, 1) := by decide +kernel
theorem dX13_blockAt_68 : decode cX13_blockAt 68 = .ok (.invokevirtual 263, 3) := by decide +kernel
theorem dX13_blockAt_71 : decode cX13_blockAt 71 = .ok (.pop, 1) := by decide +kernel
theorem dX13_blockAt_72 : decode cX13_blockAt 72 = .ok (.iconst 1, 1) := by decide +kernel
theorem dX13_blockAt_73 : decode cX13_blockAt 73 = .ok (.ireturn, 1) := by decide +kernel
theorem dX13_blockAt_74 : decode cX13_blockAt 74 = .ok (.aload_n 0, 1) := by decide +kernel
theorem dX13_blockAt_75 : decode cX13_blockAt 75 = .ok (.dup, 1) := by decide +kernel
theorem dX13_blockAt_76 : decode cX13_blockAt 76 = .ok (.getfield 283, 3) := by decide +kernel
theorem dX13_blockAt_79 : decode cX13_blockAt 79 = .ok (.iconst 3, 1) := by decide +kernel
theorem dX13_blockAt_80 : decode cX13_blockAt 80 = .ok (.iadd, 1) := by decide +kernel
theorem dX13_blockAt_81 : decode cX13_blockAt 81 = .ok (.putfield 283, 3) := by decide +kernel
theorem dX13_blockAt_84 : decode cX13_blockAt 84 = .ok (.aload_n 0, 1) := by decide +kernel
theorem dX13_blockAt_85 : decode cX13_blockAt 85 = .ok (.iload_n 3, 1) := by decide +kernel
theorem dX13_blockAt_86 : decode cX13_blockAt 86 = .ok (.iconst 1, 1) := by decide +kernel
theorem dX13_blockAt_87 : decode cX13_blockAt 87 = .ok (.if_icmp .ne 7, 3) := by decide +kernel
theorem dX13_blockAt_90 : decode cX13_blockAt 90 = .ok (.iconst 1, 1) := by decide +kernel
theorem dX13_blockAt_91 : decode cX13_blockAt 91 = .ok (.goto 5, 3) := by decide +kernel
theorem dX13_blockAt_94 : decode cX13_blockAt 94 = .ok (.iload 4, 2) := by decide +kernel
theorem dX13_blockAt_96 : decode cX13_blockAt 96 = .ok (.invokevirtual 296, 3) := by decide +kernel
theorem dX13_blockAt_99 : decode cX13_blockAt 99 = .ok (.ifCond .ne 5, 3) := by decide +kernel
theorem dX13_blockAt_102 : decode cX13_blockAt 102 = .ok (.iconst 1, 1) := by decide +kernel
theorem dX13_blockAt_103 : decode cX13_blockAt 103 = .ok (.ireturn, 1) := by decide +kernel
theorem dX13_blockAt_104 : decode cX13_blockAt 104 = .ok (.iload_n 3, 1) := by decide +kernel
theorem dX13_blockAt_105 : decode cX13_blockAt 105 = .ok (.iconst 2, 1) := by decide +kernel
theorem dX13_blockAt_106 : decode cX13_blockAt 106 = .ok (.if_icmp .ne 32, 3) := by decide +kernel
theorem dX13_blockAt_109 : decode cX13_blockAt 109 = .ok (.aload_n 0, 1) := by decide +kernel
theorem dX13_blockAt_110 : decode cX13_blockAt 110 = .ok (.iconst 0, 1) := by decide +kernel
theorem dX13_blockAt_111 : decode cX13_blockAt 111 = .ok (.putfield 344, 3) := by decide +kernel
theorem dX13_blockAt_114 : decode cX13_blockAt 114 = .ok (.aload_n 0, 1) := by decide +kernel
theorem dX13_blockAt_115 : decode cX13_blockAt 115 = .ok (.aload_n 0, 1) := by decide +kernel
theorem dX13_blockAt_116 : decode cX13_blockAt 116 = .ok (.getfield 283, 3) := by decide +kernel
theorem dX13_blockAt_119 : decode cX13_blockAt 119 = .ok (.aload_n 0, 1) := by decide +kernel
theorem dX13_blockAt_120 : decode cX13_blockAt 120 = .ok (.getfield 283, 3) := by decide +kernel
theorem dX13_blockAt_123 : decode cX13_blockAt 123 = .ok (.iload 4, 2) := by decide +kernel
theorem dX13_blockAt_125 : decode cX13_blockAt 125 = .ok (.iadd, 1) := by decide +kernel
theorem dX13_blockAt_126 : decode cX13_blockAt 126 = .ok (.invokevirtual 347, 3) := by decide +kernel
theorem dX13_blockAt_129 : decode cX13_blockAt 129 = .ok (.aload_n 0, 1) := by decide +kernel
theorem dX13_blockAt_130 : decode cX13_blockAt 130 = .ok (.getfield 158, 3) := by decide +kernel
theorem dX13_blockAt_133 : decode cX13_blockAt 133 = .ok (.ifCond .le 58, 3) := by decide +kernel
theorem dX13_blockAt_136 : decode cX13_blockAt 136 = .ok (.iconst 1, 1) := by decide +kernel
theorem dX13_blockAt_137 : decode cX13_blockAt 137 = .ok (.ireturn, 1) := by decide +kernel
theorem dX13_blockAt_138 : decode cX13_blockAt 138 = .ok (.aload_n 0, 1) := by decide +kernel
theorem dX13_blockAt_139 : decode cX13_blockAt 139 = .ok (.iload 4, 2) := by decide +kernel
theorem dX13_blockAt_141 : decode cX13_blockAt 141 = .ok (.putfield 344, 3) := by decide +kernel
theorem dX13_blockAt_144 : decode cX13_blockAt 144 = .ok (.iconst 0, 1) := by decide +kernel
theorem dX13_blockAt_145 : decode cX13_blockAt 145 = .ok (.istore 5, 2) := by decide +kernel
theorem dX13_blockAt_147 : decode cX13_blockAt 147 = .ok (.iload 5, 2) := by decide +kernel
theorem dX13_blockAt_149 : decode cX13_blockAt 149 = .ok (.iload 4, 2) := by decide +kernel
theorem dX13_blockAt_151 : decode cX13_blockAt 151 = .ok (.if_icmp .ge 40, 3) := by decide +kernel
theorem dX13_blockAt_154 : decode cX13_blockAt 154 = .ok (.aload_n 0, 1) := by decide +kernel
theorem dX13_blockAt_155 : decode cX13_blockAt 155 = .ok (.getfield 75, 3) := by decide +kernel
theorem dX13_blockAt_158 : decode cX13_blockAt 158 = .ok (.iload 5, 2) := by decide +kernel
theorem dX13_blockAt_160 : decode cX13_blockAt 160 = .ok (.aload_n 0, 1) := by decide +kernel
theorem dX13_blockAt_161 : decode cX13_blockAt 161 = .ok (.getfield 7, 3) := by decide +kernel
theorem dX13_blockAt_164 : decode cX13_blockAt 164 = .ok (.iload_n 3, 1) := by decide +kernel
theorem dX13_blockAt_165 : decode cX13_blockAt 165 = .ok (.iconst 1, 1) := by decide +kernel
theorem dX13_blockAt_166 : decode cX13_blockAt 166 = .ok (.if_icmp .ne 10, 3) := by decide +kernel
theorem dX13_blockAt_169 : decode cX13_blockAt 169 = .ok (.aload_n 0, 1) := by decide +kernel
theorem dX13_blockAt_170 : decode cX13_blockAt 170 = .ok (.getfield 283, 3) := by decide +kernel
theorem dX13_blockAt_173 : decode cX13_blockAt 173 = .ok (.goto 10, 3) := by decide +kernel
theorem dX13_blockAt_176 : decode cX13_blockAt 176 = .ok (.aload_n 0, 1) := by decide +kernel
theorem dX13_blockAt_177 : decode cX13_blockAt 177 = .ok (.getfield 283, 3) := by decide +kernel
theorem dX13_blockAt_180 : decode cX13_blockAt 180 = .ok (.iload 5, 2) := by decide +kernel
theorem dX13_blockAt_182 : decode cX13_blockAt 182 = .ok (.iadd, 1) := by decide +kernel
theorem dX13_blockAt_183 : decode cX13_blockAt 183 = .ok (.baload, 1) := by decide +kernel
theorem dX13_blockAt_184 : decode cX13_blockAt 184 = .ok (.bastore, 1) := by decide +kernel
theorem dX13_blockAt_185 : decode cX13_blockAt 185 = .ok (.iinc 5 1, 3) := by decide +kernel
theorem dX13_blockAt_188 : decode cX13_blockAt 188 = .ok (.goto (-41), 3) := by decide +kernel
theorem dX13_blockAt_191 : decode cX13_blockAt 191 = .ok (.aload_n 0, 1) := by decide +kernel
theorem dX13_blockAt_192 : decode cX13_blockAt 192 = .ok (.getfield 286, 3) := by decide +kernel
theorem dX13_blockAt_195 : decode cX13_blockAt 195 = .ok (.aload_n 0, 1) := by decide +kernel
theorem dX13_blockAt_196 : decode cX13_blockAt 196 = .ok (.getfield 344, 3) := by decide +kernel
theorem dX13_blockAt_199 : decode cX13_blockAt 199 = .ok (.iadd, 1) := by decide +kernel
theorem dX13_blockAt_200 : decode cX13_blockAt 200 = .ok (.sipush 8000, 3) := by decide +kernel
theorem dX13_blockAt_203 : decode cX13_blockAt 203 = .ok (.if_icmp .le 13, 3) := by decide +kernel
theorem dX13_blockAt_206 : decode cX13_blockAt 206 = .ok (.aload_n 0, 1) := by decide +kernel
theorem dX13_blockAt_207 : decode cX13_blockAt 207 = .ok (.bipush 7, 2) := by decide +kernel
theorem dX13_blockAt_209 : decode cX13_blockAt 209 = .ok (.iload_n 1, 1) := by decide +kernel
theorem dX13_blockAt_210 : decode cX13_blockAt 210 = .ok (.invokevirtual 263, 3) := by decide +kernel
theorem dX13_blockAt_213 : decode cX13_blockAt 213 = .ok (.pop, 1) := by decide +kernel
theorem dX13_blockAt_214 : decode cX13_blockAt 214 = .ok (.iconst 1, 1) := by decide +kernel
theorem dX13_blockAt_215 : decode cX13_blockAt 215 = .ok (.ireturn, 1) := by decide +kernel
theorem dX13_blockAt_216 : decode cX13_blockAt 216 = .ok (.iconst 0, 1) := by decide +kernel
theorem dX13_blockAt_217 : decode cX13_blockAt 217 = .ok (.istore 5, 2) := by decide +kernel
theorem dX13_blockAt_219 : decode cX13_blockAt 219 = .ok (.iload 5, 2) := by decide +kernel
theorem dX13_blockAt_221 : decode cX13_blockAt 221 = .ok (.aload_n 0, 1) := by decide +kernel
theorem dX13_blockAt_222 : decode cX13_blockAt 222 = .ok (.getfield 344, 3) := by decide +kernel
theorem dX13_blockAt_225 : decode cX13_blockAt 225 = .ok (.if_icmp .ge 35, 3) := by decide +kernel
theorem dX13_blockAt_228 : decode cX13_blockAt 228 = .ok (.aload_n 0, 1) := by decide +kernel
theorem dX13_blockAt_229 : decode cX13_blockAt 229 = .ok (.getfield 71, 3) := by decide +kernel
theorem dX13_blockAt_232 : decode cX13_blockAt 232 = .ok (.aload_n 0, 1) := by decide +kernel
theorem dX13_blockAt_233 : decode cX13_blockAt 233 = .ok (.getfield 286, 3) := by decide +kernel
theorem dX13_blockAt_236 : decode cX13_blockAt 236 = .ok (.aload_n 0, 1) := by decide +kernel
theorem dX13_blockAt_237 : decode cX13_blockAt 237 = .ok (.getfield 75, 3) := by decide +kernel
theorem dX13_blockAt_240 : decode cX13_blockAt 240 = .ok (.iload 5, 2) := by decide +kernel
theorem dX13_blockAt_242 : decode cX13_blockAt 242 = .ok (.baload, 1) := by decide +kernel
theorem dX13_blockAt_243 : decode cX13_blockAt 243 = .ok (.bastore, 1) := by decide +kernel
theorem dX13_blockAt_244 : decode cX13_blockAt 244 = .ok (.aload_n 0, 1) := by decide +kernel
theorem dX13_blockAt_245 : decode cX13_blockAt 245 = .ok (.dup, 1) := by decide +kernel
theorem dX13_blockAt_246 : decode cX13_blockAt 246 = .ok (.getfield 286, 3) := by decide +kernel
theorem dX13_blockAt_249 : decode cX13_blockAt 249 = .ok (.iconst 1, 1) := by decide +kernel
theorem dX13_blockAt_250 : decode cX13_blockAt 250 = .ok (.iadd, 1) := by decide +kernel
theorem dX13_blockAt_251 : decode cX13_blockAt 251 = .ok (.putfield 286, 3) := by decide +kernel
theorem dX13_blockAt_254 : decode cX13_blockAt 254 = .ok (.iinc 5 1, 3) := by decide +kernel
theorem dX13_blockAt_257 : decode cX13_blockAt 257 = .ok (.goto (-38), 3) := by decide +kernel
theorem dX13_blockAt_260 : decode cX13_blockAt 260 = .ok (.aload_n 0, 1) := by decide +kernel
theorem dX13_blockAt_261 : decode cX13_blockAt 261 = .ok (.getfield 89, 3) := by decide +kernel
theorem dX13_blockAt_264 : decode cX13_blockAt 264 = .ok (.iconst 2, 1) := by decide +kernel
theorem dX13_blockAt_265 : decode cX13_blockAt 265 = .ok (.dup2, 1) := by decide +kernel
theorem dX13_blockAt_266 : decode cX13_blockAt 266 = .ok (.iaload, 1) := by decide +kernel
theorem dX13_blockAt_267 : decode cX13_blockAt 267 = .ok (.iload_n 3, 1) := by decide +kernel
theorem dX13_blockAt_268 : decode cX13_blockAt 268 = .ok (.iconst 2, 1) := by decide +kernel
theorem dX13_blockAt_269 : decode cX13_blockAt 269 = .ok (.if_icmp .ne 7, 3) := by decide +kernel
theorem dX13_blockAt_272 : decode cX13_blockAt 272 = .ok (.iconst 1, 1) := by decide +kernel
theorem dX13_blockAt_273 : decode cX13_blockAt 273 = .ok (.goto 4, 3) := by decide +kernel
theorem dX13_blockAt_276 : decode cX13_blockAt 276 = .ok (.iconst 0, 1) := by decide +kernel
theorem dX13_blockAt_277 : decode cX13_blockAt 277 = .ok (.iadd, 1) := by decide +kernel
theorem dX13_blockAt_278 : decode cX13_blockAt 278 = .ok (.iastore, 1) := by decide +kernel
theorem dX13_blockAt_279 : decode cX13_blockAt 279 = .ok (.aload_n 0, 1) := by decide +kernel
theorem dX13_blockAt_280 : decode cX13_blockAt 280 = .ok (.getfield 89, 3) := by decide +kernel
theorem dX13_blockAt_283 : decode cX13_blockAt 283 = .ok (.iconst 5, 1) := by decide +kernel
theorem dX13_blockAt_284 : decode cX13_blockAt 284 = .ok (.dup2, 1) := by decide +kernel
theorem dX13_blockAt_285 : decode cX13_blockAt 285 = .ok (.iaload, 1) := by decide +kernel
theorem dX13_blockAt_286 : decode cX13_blockAt 286 = .ok (.aload_n 0, 1) := by decide +kernel
theorem dX13_blockAt_287 : decode cX13_blockAt 287 = .ok (.getfield 344, 3) := by decide +kernel
theorem dX13_blockAt_290 : decode cX13_blockAt 290 = .ok (.iadd, 1) := by decide +kernel
theorem dX13_blockAt_291 : decode cX13_blockAt 291 = .ok (.iastore, 1) := by decide +kernel
theorem dX13_blockAt_292 : decode cX13_blockAt 292 = .ok (.aload_n 0, 1) := by decide +kernel
theorem dX13_blockAt_293 : decode cX13_blockAt 293 = .ok (.dup, 1) := by decide +kernel
theorem dX13_blockAt_294 : decode cX13_blockAt 294 = .ok (.getfield 283, 3) := by decide +kernel
theorem dX13_blockAt_297 : decode cX13_blockAt 297 = .ok (.iload_n 3, 1) := by decide +kernel
theorem dX13_blockAt_298 : decode cX13_blockAt 298 = .ok (.iconst 1, 1) := by decide +kernel
theorem dX13_blockAt_299 : decode cX13_blockAt 299 = .ok (.if_icmp .ne 7, 3) := by decide +kernel
theorem dX13_blockAt_302 : decode cX13_blockAt 302 = .ok (.iconst 1, 1) := by decide +kernel
theorem dX13_blockAt_303 : decode cX13_blockAt 303 = .ok (.goto 5, 3) := by decide +kernel
theorem dX13_blockAt_306 : decode cX13_blockAt 306 = .ok (.iload 4, 2) := by decide +kernel
theorem dX13_blockAt_308 : decode cX13_blockAt 308 = .ok (.iadd, 1) := by decide +kernel
theorem dX13_blockAt_309 : decode cX13_blockAt 309 = .ok (.putfield 283, 3) := by decide +kernel
theorem dX13_blockAt_312 : decode cX13_blockAt 312 = .ok (.iload_n 2, 1) := by decide +kernel
theorem dX13_blockAt_313 : decode cX13_blockAt 313 = .ok (.iconst 1, 1) := by decide +kernel
theorem dX13_blockAt_314 : decode cX13_blockAt 314 = .ok (.iand, 1) := by decide +kernel
theorem dX13_blockAt_315 : decode cX13_blockAt 315 = .ok (.iconst 1, 1) := by decide +kernel
theorem dX13_blockAt_316 : decode cX13_blockAt 316 = .ok (.if_icmp .ne 7, 3) := by decide +kernel
theorem dX13_blockAt_319 : decode cX13_blockAt 319 = .ok (.iconst 1, 1) := by decide +kernel
theorem dX13_blockAt_320 : decode cX13_blockAt 320 = .ok (.goto 4, 3) := by decide +kernel
theorem dX13_blockAt_323 : decode cX13_blockAt 323 = .ok (.iconst 0, 1) := by decide +kernel
theorem dX13_blockAt_324 : decode cX13_blockAt 324 = .ok (.ireturn, 1) := by decide +kernel
theorem dX13_packed_0 : decode cX13_packed 0 = .ok (.aload_n 0, 1) := by decide +kernel
theorem dX13_packed_1 : decode cX13_packed 1 = .ok (.iload_n 1, 1) := by decide +kernel
theorem dX13_packed_2 : decode cX13_packed 2 = .ok (.iload_n 2, 1) := by decide +kernel
theorem dX13_packed_3 : decode cX13_packed 3 = .ok (.invokevirtual 350, 3) := by decide +kernel
theorem dX13_packed_6 : decode cX13_packed 6 = .ok (.istore_n 3, 1) := by decide +kernel
theorem dX13_packed_7 : decode cX13_packed 7 = .ok (.aload_n 0, 1) := by decide +kernel
theorem dX13_packed_8 : decode cX13_packed 8 = .ok (.getfield 158, 3) := by decide +kernel
theorem dX13_packed_11 : decode cX13_packed 11 = .ok (.ifCond .ne 22, 3) := by decide +kernel
theorem dX13_packed_14 : decode cX13_packed 14 = .ok (.aload_n 0, 1) := by decide +kernel
theorem dX13_packed_15 : decode cX13_packed 15 = .ok (.getfield 89, 3) := by decide +kernel
theorem dX13_packed_18 : decode cX13_packed 18 = .ok (.iconst 3, 1) := by decide +kernel
theorem dX13_packed_19 : decode cX13_packed 19 = .ok (.dup2, 1) := by decide +kernel
theorem dX13_packed_20 : decode cX13_packed 20 = .ok (.iaload, 1) := by decide +kernel
theorem dX13_packed_21 : decode cX13_packed 21 = .ok (.aload_n 0, 1) := by decide +kernel
theorem dX13_packed_22 : decode cX13_packed 22 = .ok (.getfield 353, 3) := by decide +kernel
theorem dX13_packed_25 : decode cX13_packed 25 = .ok (.iadd, 1) := by decide +kernel
theorem dX13_packed_26 : decode cX13_packed 26 = .ok (.iastore, 1) := by decide +kernel
theorem dX13_packed_27 : decode cX13_packed 27 = .ok (.aload_n 0, 1) := by decide +kernel
theorem dX13_packed_28 : decode cX13_packed 28 = .ok (.iload_n 3, 1) := by decide +kernel
theorem dX13_packed_29 : decode cX13_packed 29 = .ok (.iload_n 2, 1) := by decide +kernel
theorem dX13_packed_30 : decode cX13_packed 30 = .ok (.invokevirtual 356, 3) := by decide +kernel
theorem dX13_packed_33 : decode cX13_packed 33 = .ok (.return_, 1) := by decide +kernel
theorem dX13_lettersFrom_0 : decode cX13_lettersFrom 0 = .ok (.iload_n 2, 1) := by decide +kernel
theorem dX13_lettersFrom_1 : decode cX13_lettersFrom 1 = .ok (.iload_n 1, 1) := by decide +kernel
theorem dX13_lettersFrom_2 : decode cX13_lettersFrom 2 = .ok (.if_icmp .gt 13, 3) := by decide +kernel
theorem dX13_lettersFrom_5 : decode cX13_lettersFrom 5 = .ok (.aload_n 0, 1) := by decide +kernel
theorem dX13_lettersFrom_6 : decode cX13_lettersFrom 6 = .ok (.bipush 10, 2) := by decide +kernel
theorem dX13_lettersFrom_8 : decode cX13_lettersFrom 8 = .ok (.iload_n 1, 1) := by decide +kernel
theorem dX13_lettersFrom_9 : decode cX13_lettersFrom 9 = .ok (.invokevirtual 263, 3) := by decide +kernel
theorem dX13_lettersFrom_12 : decode cX13_lettersFrom 12 = .ok (.pop, 1) := by decide +kernel
theorem dX13_lettersFrom_13 : decode cX13_lettersFrom 13 = .ok (.iload_n 1, 1) := by decide +kernel
theorem dX13_lettersFrom_14 : decode cX13_lettersFrom 14 = .ok (.ireturn, 1) := by decide +kernel
theorem dX13_lettersFrom_15 : decode cX13_lettersFrom 15 = .ok (.aload_n 0, 1) := by decide +kernel
theorem dX13_lettersFrom_16 : decode cX13_lettersFrom 16 = .ok (.getfield 7, 3) := by decide +kernel
theorem dX13_lettersFrom_19 : decode cX13_lettersFrom 19 = .ok (.iload_n 1, 1) := by decide +kernel
theorem dX13_lettersFrom_20 : decode cX13_lettersFrom 20 = .ok (.baload, 1) := by decide +kernel
theorem dX13_lettersFrom_21 : decode cX13_lettersFrom 21 = .ok (.iconst 3, 1) := by decide +kernel
theorem dX13_lettersFrom_22 : decode cX13_lettersFrom 22 = .ok (.iand, 1) := by decide +kernel
theorem dX13_lettersFrom_23 : decode cX13_lettersFrom 23 = .ok (.istore_n 3, 1) := by decide +kernel
theorem dX13_lettersFrom_24 : decode cX13_lettersFrom 24 = .ok (.aload_n 0, 1) := by decide +kernel
theorem dX13_lettersFrom_25 : decode cX13_lettersFrom 25 = .ok (.getfield 7, 3) := by decide +kernel
theorem dX13_lettersFrom_28 : decode cX13_lettersFrom 28 = .ok (.iload_n 1, 1) := by decide +kernel
theorem dX13_lettersFrom_29 : decode cX13_lettersFrom 29 = .ok (.baload, 1) := by decide +kernel
theorem dX13_lettersFrom_30 : decode cX13_lettersFrom 30 = .ok (.iconst 2, 1) := by decide +kernel
theorem dX13_lettersFrom_31 : decode cX13_lettersFrom 31 = .ok (.ishr, 1) := by decide +kernel
theorem dX13_lettersFrom_32 : decode cX13_lettersFrom 32 = .ok (.iconst 3, 1) := by decide +kernel
theorem dX13_lettersFrom_33 : decode cX13_lettersFrom 33 = .ok (.iand, 1) := by decide +kernel
theorem dX13_lettersFrom_34 : decode cX13_lettersFrom 34 = .ok (.istore 4, 2) := by decide +kernel
theorem dX13_lettersFrom_36 : decode cX13_lettersFrom 36 = .ok (.iload_n 3, 1) := by decide +kernel
theorem dX13_lettersFrom_37 : decode cX13_lettersFrom 37 = .ok (.iconst 2, 1) := by decide +kernel
theorem dX13_lettersFrom_38 : decode cX13_lettersFrom 38 = .ok (.if_icmp .ge 27, 3) := by decide +kernel
theorem dX13_lettersFrom_41 : decode cX13_lettersFrom 41 = .ok (.iload 4, 2) := by decide +kernel
theorem dX13_lettersFrom_43 : decode cX13_lettersFrom 43 = .ok (.iconst 1, 1) := by decide +kernel
theorem dX13_lettersFrom_44 : decode cX13_lettersFrom 44 = .ok (.if_icmp .ne 7, 3) := by decide +kernel
theorem dX13_lettersFrom_47 : decode cX13_lettersFrom 47 = .ok (.iconst 2, 1) := by decide +kernel
theorem dX13_lettersFrom_48 : decode cX13_lettersFrom 48 = .ok (.goto 31, 3) := by decide +kernel
theorem dX13_lettersFrom_51 : decode cX13_lettersFrom 51 = .ok (.iload 4, 2) := by decide +kernel
theorem dX13_lettersFrom_53 : decode cX13_lettersFrom 53 = .ok (.iconst 3, 1) := by decide +kernel
theorem dX13_lettersFrom_54 : decode cX13_lettersFrom 54 = .ok (.if_icmp .ne 7, 3) := by decide +kernel
theorem dX13_lettersFrom_57 : decode cX13_lettersFrom 57 = .ok (.iconst 3, 1) := by decide +kernel
theorem dX13_lettersFrom_58 : decode cX13_lettersFrom 58 = .ok (.goto 21, 3) := by decide +kernel
theorem dX13_lettersFrom_61 : decode cX13_lettersFrom 61 = .ok (.iconst 1, 1) := by decide +kernel
theorem dX13_lettersFrom_62 : decode cX13_lettersFrom 62 = .ok (.goto 17, 3) := by decide +kernel
theorem dX13_lettersFrom_65 : decode cX13_lettersFrom 65 = .ok (.iload 4, 2) := by decide +kernel
theorem dX13_lettersFrom_67 : decode cX13_lettersFrom 67 = .ok (.iconst 2, 1) := by decide +kernel
theorem dX13_lettersFrom_68 : decode cX13_lettersFrom 68 = .ok (.if_icmp .ge 7, 3) := by decide +kernel
theorem dX13_lettersFrom_71 : decode cX13_lettersFrom 71 = .ok (.iconst 3, 1) := by decide +kernel
theorem dX13_lettersFrom_72 : decode cX13_lettersFrom 72 = .ok (.goto 7, 3) := by decide +kernel
theorem dX13_lettersFrom_75 : decode cX13_lettersFrom 75 = .ok (.iload 4, 2) := by decide +kernel
theorem dX13_lettersFrom_77 : decode cX13_lettersFrom 77 = .ok (.iconst 2, 1) := by decide +kernel
theorem dX13_lettersFrom_78 : decode cX13_lettersFrom 78 = .ok (.iadd, 1) := by decide +kernel
theorem dX13_lettersFrom_79 : decode cX13_lettersFrom 79 = .ok (.istore 5, 2) := by decide +kernel
theorem dX13_lettersFrom_81 : decode cX13_lettersFrom 81 = .ok (.iload_n 2, 1) := by decide +kernel
theorem dX13_lettersFrom_82 : decode cX13_lettersFrom 82 = .ok (.iload_n 1, 1) := by decide +kernel
theorem dX13_lettersFrom_83 : decode cX13_lettersFrom 83 = .ok (.isub, 1) := by decide +kernel
theorem dX13_lettersFrom_84 : decode cX13_lettersFrom 84 = .ok (.iload 5, 2) := by decide +kernel
theorem dX13_lettersFrom_86 : decode cX13_lettersFrom 86 = .ok (.if_icmp .ge 13, 3) := by decide +kernel
theorem dX13_lettersFrom_89 : decode cX13_lettersFrom 89 = .ok (.aload_n 0, 1) := by decide +kernel
theorem dX13_lettersFrom_90 : decode cX13_lettersFrom 90 = .ok (.bipush 10, 2) := by decide +kernel
theorem dX13_lettersFrom_92 : decode cX13_lettersFrom 92 = .ok (.iload_n 1, 1) := by decide +kernel
theorem dX13_lettersFrom_93 : decode cX13_lettersFrom 93 = .ok (.invokevirtual 263, 3) := by decide +kernel
theorem dX13_lettersFrom_96 : decode cX13_lettersFrom 96 = .ok (.pop, 1) := by decide +kernel
theorem dX13_lettersFrom_97 : decode cX13_lettersFrom 97 = .ok (.iload_n 1, 1) := by decide +kernel
theorem dX13_lettersFrom_98 : decode cX13_lettersFrom 98 = .ok (.ireturn, 1) := by decide +kernel
theorem dX13_lettersFrom_99 : decode cX13_lettersFrom 99 = .ok (.aload_n 0, 1) := by decide +kernel
theorem dX13_lettersFrom_100 : decode cX13_lettersFrom 100 = .ok (.getfield 7, 3) := by decide +kernel
theorem dX13_lettersFrom_103 : decode cX13_lettersFrom 103 = .ok (.iload_n 1, 1) := by decide +kernel
theorem dX13_lettersFrom_104 : decode cX13_lettersFrom 104 = .ok (.iload 5, 2) := by decide +kernel
theorem dX13_lettersFrom_106 : decode cX13_lettersFrom 106 = .ok (.invokestatic 175, 3) := by decide +kernel
theorem dX13_lettersFrom_109 : decode cX13_lettersFrom 109 = .ok (.lstore 6, 2) := by decide +kernel
theorem dX13_lettersFrom_111 : decode cX13_lettersFrom 111 = .ok (.iload_n 1, 1) := by decide +kernel
theorem dX13_lettersFrom_112 : decode cX13_lettersFrom 112 = .ok (.iload 5, 2) := by decide +kernel
theorem dX13_lettersFrom_114 : decode cX13_lettersFrom 114 = .ok (.iadd, 1) := by decide +kernel
theorem dX13_lettersFrom_115 : decode cX13_lettersFrom 115 = .ok (.istore 8, 2) := by decide +kernel
theorem dX13_lettersFrom_117 : decode cX13_lettersFrom 117 = .ok (.iload_n 3, 1) := by decide +kernel
theorem dX13_lettersFrom_118 : decode cX13_lettersFrom 118 = .ok (.iconst 2, 1) := by decide +kernel
theorem dX13_lettersFrom_119 : decode cX13_lettersFrom 119 = .ok (.if_icmp .ge 116, 3) := by decide +kernel
theorem dX13_lettersFrom_122 : decode cX13_lettersFrom 122 = .ok (.aload_n 0, 1) := by decide +kernel
theorem dX13_lettersFrom_123 : decode cX13_lettersFrom 123 = .ok (.lload 6, 2) := by decide +kernel
theorem dX13_lettersFrom_125 : decode cX13_lettersFrom 125 = .ok (.iload 5, 2) := by decide +kernel
theorem dX13_lettersFrom_127 : decode cX13_lettersFrom 127 = .ok (.iconst 1, 1) := by decide +kernel
theorem dX13_lettersFrom_128 : decode cX13_lettersFrom 128 = .ok (.if_icmp .ne 7, 3) := by decide +kernel
theorem dX13_lettersFrom_131 : decode cX13_lettersFrom 131 = .ok (.iconst 3, 1) := by decide +kernel
theorem dX13_lettersFrom_132 : decode cX13_lettersFrom 132 = .ok (.goto 4, 3) := by decide +kernel
theorem dX13_lettersFrom_135 : decode cX13_lettersFrom 135 = .ok (.iconst 4, 1) := by decide +kernel
theorem dX13_lettersFrom_136 : decode cX13_lettersFrom 136 = .ok (.lshr, 1) := by decide +kernel
theorem dX13_lettersFrom_137 : decode cX13_lettersFrom 137 = .ok (.l2i, 1) := by decide +kernel
theorem dX13_lettersFrom_138 : decode cX13_lettersFrom 138 = .ok (.putfield 353, 3) := by decide +kernel
theorem dX13_lettersFrom_141 : decode cX13_lettersFrom 141 = .ok (.iload_n 3, 1) := by decide +kernel
theorem dX13_lettersFrom_142 : decode cX13_lettersFrom 142 = .ok (.ifCond .ne 10, 3) := by decide +kernel
theorem dX13_lettersFrom_145 : decode cX13_lettersFrom 145 = .ok (.aload_n 0, 1) := by decide +kernel
theorem dX13_lettersFrom_146 : decode cX13_lettersFrom 146 = .ok (.getfield 353, 3) := by decide +kernel
theorem dX13_lettersFrom_149 : decode cX13_lettersFrom 149 = .ok (.goto 4, 3) := by decide +kernel
theorem dX13_lettersFrom_152 : decode cX13_lettersFrom 152 = .ok (.iconst 1, 1) := by decide +kernel
theorem dX13_lettersFrom_153 : decode cX13_lettersFrom 153 = .ok (.istore 9, 2) := by decide +kernel
theorem dX13_lettersFrom_155 : decode cX13_lettersFrom 155 = .ok (.aload_n 0, 1) := by decide +kernel
theorem dX13_lettersFrom_156 : decode cX13_lettersFrom 156 = .ok (.getfield 353, 3) := by decide +kernel
theorem dX13_lettersFrom_159 : decode cX13_lettersFrom 159 = .ok (.aload_n 0, 1) := by decide +kernel
theorem dX13_lettersFrom_160 : decode cX13_lettersFrom 160 = .ok (.getfield 324, 3) := by decide +kernel
theorem dX13_lettersFrom_163 : decode cX13_lettersFrom 163 = .ok (.if_icmp .gt 12, 3) := by decide +kernel
theorem dX13_lettersFrom_166 : decode cX13_lettersFrom 166 = .ok (.iload_n 2, 1) := by decide +kernel
theorem dX13_lettersFrom_167 : decode cX13_lettersFrom 167 = .ok (.iload 8, 2) := by decide +kernel
theorem dX13_lettersFrom_169 : decode cX13_lettersFrom 169 = .ok (.isub, 1) := by decide +kernel
theorem dX13_lettersFrom_170 : decode cX13_lettersFrom 170 = .ok (.iload 9, 2) := by decide +kernel
theorem dX13_lettersFrom_172 : decode cX13_lettersFrom 172 = .ok (.if_icmp .ge 13, 3) := by decide +kernel
theorem dX13_lettersFrom_175 : decode cX13_lettersFrom 175 = .ok (.aload_n 0, 1) := by decide +kernel
theorem dX13_lettersFrom_176 : decode cX13_lettersFrom 176 = .ok (.bipush 10, 2) := by decide +kernel
theorem dX13_lettersFrom_178 : decode cX13_lettersFrom 178 = .ok (.iload_n 1, 1) := by decide +kernel
theorem dX13_lettersFrom_179 : decode cX13_lettersFrom 179 = .ok (.invokevirtual 263, 3) := by decide +kernel
theorem dX13_lettersFrom_182 : decode cX13_lettersFrom 182 = .ok (.pop, 1) := by decide +kernel
theorem dX13_lettersFrom_183 : decode cX13_lettersFrom 183 = .ok (.iload_n 1, 1) := by decide +kernel
theorem dX13_lettersFrom_184 : decode cX13_lettersFrom 184 = .ok (.ireturn, 1) := by decide +kernel
theorem dX13_lettersFrom_185 : decode cX13_lettersFrom 185 = .ok (.iconst 0, 1) := by decide +kernel
theorem dX13_lettersFrom_186 : decode cX13_lettersFrom 186 = .ok (.istore 10, 2) := by decide +kernel
theorem dX13_lettersFrom_188 : decode cX13_lettersFrom 188 = .ok (.iload 10, 2) := by decide +kernel
theorem dX13_lettersFrom_190 : decode cX13_lettersFrom 190 = .ok (.aload_n 0, 1) := by decide +kernel
theorem dX13_lettersFrom_191 : decode cX13_lettersFrom 191 = .ok (.getfield 353, 3) := by decide +kernel
theorem dX13_lettersFrom_194 : decode cX13_lettersFrom 194 = .ok (.if_icmp .ge 35, 3) := by decide +kernel
theorem dX13_lettersFrom_197 : decode cX13_lettersFrom 197 = .ok (.aload_n 0, 1) := by decide +kernel
theorem dX13_lettersFrom_198 : decode cX13_lettersFrom 198 = .ok (.getfield 79, 3) := by decide +kernel
theorem dX13_lettersFrom_201 : decode cX13_lettersFrom 201 = .ok (.iload 10, 2) := by decide +kernel
theorem dX13_lettersFrom_203 : decode cX13_lettersFrom 203 = .ok (.aload_n 0, 1) := by decide +kernel
theorem dX13_lettersFrom_204 : decode cX13_lettersFrom 204 = .ok (.getfield 7, 3) := by decide +kernel
theorem dX13_lettersFrom_207 : decode cX13_lettersFrom 207 = .ok (.iload_n 3, 1) := by decide +kernel
theorem dX13_lettersFrom_208 : decode cX13_lettersFrom 208 = .ok (.ifCond .ne 11, 3) := by decide +kernel
theorem dX13_lettersFrom_211 : decode cX13_lettersFrom 211 = .ok (.iload 8, 2) := by decide +kernel
theorem dX13_lettersFrom_213 : decode cX13_lettersFrom 213 = .ok (.iload 10, 2) := by decide +kernel
theorem dX13_lettersFrom_215 : decode cX13_lettersFrom 215 = .ok (.iadd, 1) := by decide +kernel
theorem dX13_lettersFrom_216 : decode cX13_lettersFrom 216 = .ok (.goto 5, 3) := by decide +kernel
theorem dX13_lettersFrom_219 : decode cX13_lettersFrom 219 = .ok (.iload 8, 2) := by decide +kernel
theorem dX13_lettersFrom_221 : decode cX13_lettersFrom 221 = .ok (.baload, 1) := by decide +kernel
theorem dX13_lettersFrom_222 : decode cX13_lettersFrom 222 = .ok (.bastore, 1) := by decide +kernel
theorem dX13_lettersFrom_223 : decode cX13_lettersFrom 223 = .ok (.iinc 10 1, 3) := by decide +kernel
theorem dX13_lettersFrom_226 : decode cX13_lettersFrom 226 = .ok (.goto (-38), 3) := by decide +kernel
theorem dX13_lettersFrom_229 : decode cX13_lettersFrom 229 = .ok (.iload 8, 2) := by decide +kernel
theorem dX13_lettersFrom_231 : decode cX13_lettersFrom 231 = .ok (.iload 9, 2) := by decide +kernel
theorem dX13_lettersFrom_233 : decode cX13_lettersFrom 233 = .ok (.iadd, 1) := by decide +kernel
theorem dX13_lettersFrom_234 : decode cX13_lettersFrom 234 = .ok (.ireturn, 1) := by decide +kernel
theorem dX13_lettersFrom_235 : decode cX13_lettersFrom 235 = .ok (.iload 4, 2) := by decide +kernel
theorem dX13_lettersFrom_237 : decode cX13_lettersFrom 237 = .ok (.iconst 2, 1) := by decide +kernel
theorem dX13_lettersFrom_238 : decode cX13_lettersFrom 238 = .ok (.if_icmp .ge 8, 3) := by decide +kernel
theorem dX13_lettersFrom_241 : decode cX13_lettersFrom 241 = .ok (.bipush 10, 2) := by decide +kernel
theorem dX13_lettersFrom_243 : decode cX13_lettersFrom 243 = .ok (.goto 16, 3) := by decide +kernel
theorem dX13_lettersFrom_246 : decode cX13_lettersFrom 246 = .ok (.iload 4, 2) := by decide +kernel
theorem dX13_lettersFrom_248 : decode cX13_lettersFrom 248 = .ok (.iconst 2, 1) := by decide +kernel
theorem dX13_lettersFrom_249 : decode cX13_lettersFrom 249 = .ok (.if_icmp .ne 8, 3) := by decide +kernel
theorem dX13_lettersFrom_252 : decode cX13_lettersFrom 252 = .ok (.bipush 14, 2) := by decide +kernel
theorem dX13_lettersFrom_254 : decode cX13_lettersFrom 254 = .ok (.goto 5, 3) := by decide +kernel
theorem dX13_lettersFrom_257 : decode cX13_lettersFrom 257 = .ok (.bipush 18, 2) := by decide +kernel
theorem dX13_lettersFrom_259 : decode cX13_lettersFrom 259 = .ok (.istore 9, 2) := by decide +kernel
theorem dX13_lettersFrom_261 : decode cX13_lettersFrom 261 = .ok (.aload_n 0, 1) := by decide +kernel
theorem dX13_lettersFrom_262 : decode cX13_lettersFrom 262 = .ok (.lload 6, 2) := by decide +kernel
theorem dX13_lettersFrom_264 : decode cX13_lettersFrom 264 = .ok (.iconst 4, 1) := by decide +kernel
theorem dX13_lettersFrom_265 : decode cX13_lettersFrom 265 = .ok (.lshr, 1) := by decide +kernel
theorem dX13_lettersFrom_266 : decode cX13_lettersFrom 266 = .ok (.lconst 1, 1) := by decide +kernel
theorem dX13_lettersFrom_267 : decode cX13_lettersFrom 267 = .ok (.iload 9, 2) := by decide +kernel
theorem dX13_lettersFrom_269 : decode cX13_lettersFrom 269 = .ok (.lshl, 1) := by decide +kernel
theorem dX13_lettersFrom_270 : decode cX13_lettersFrom 270 = .ok (.lconst 1, 1) := by decide +kernel
theorem dX13_lettersFrom_271 : decode cX13_lettersFrom 271 = .ok (.lsub, 1) := by decide +kernel
theorem dX13_lettersFrom_272 : decode cX13_lettersFrom 272 = .ok (.land, 1) := by decide +kernel
theorem dX13_lettersFrom_273 : decode cX13_lettersFrom 273 = .ok (.l2i, 1) := by decide +kernel
theorem dX13_lettersFrom_274 : decode cX13_lettersFrom 274 = .ok (.putfield 353, 3) := by decide +kernel
theorem dX13_lettersFrom_277 : decode cX13_lettersFrom 277 = .ok (.lload 6, 2) := by decide +kernel
theorem dX13_lettersFrom_279 : decode cX13_lettersFrom 279 = .ok (.iconst 4, 1) := by decide +kernel
theorem dX13_lettersFrom_280 : decode cX13_lettersFrom 280 = .ok (.iload 9, 2) := by decide +kernel
theorem dX13_lettersFrom_282 : decode cX13_lettersFrom 282 = .ok (.iadd, 1) := by decide +kernel
theorem dX13_lettersFrom_283 : decode cX13_lettersFrom 283 = .ok (.lshr, 1) := by decide +kernel
theorem dX13_lettersFrom_284 : decode cX13_lettersFrom 284 = .ok (.lconst 1, 1) := by decide +kernel
theorem dX13_lettersFrom_285 : decode cX13_lettersFrom 285 = .ok (.iload 9, 2) := by decide +kernel
theorem dX13_lettersFrom_287 : decode cX13_lettersFrom 287 = .ok (.lshl, 1) := by decide +kernel
theorem dX13_lettersFrom_288 : decode cX13_lettersFrom 288 = .ok (.lconst 1, 1) := by decide +kernel
theorem dX13_lettersFrom_289 : decode cX13_lettersFrom 289 = .ok (.lsub, 1) := by decide +kernel
theorem dX13_lettersFrom_290 : decode cX13_lettersFrom 290 = .ok (.land, 1) := by decide +kernel
theorem dX13_lettersFrom_291 : decode cX13_lettersFrom 291 = .ok (.l2i, 1) := by decide +kernel
theorem dX13_lettersFrom_292 : decode cX13_lettersFrom 292 = .ok (.istore 10, 2) := by decide +kernel
theorem dX13_lettersFrom_294 : decode cX13_lettersFrom 294 = .ok (.aload_n 0, 1) := by decide +kernel
theorem dX13_lettersFrom_295 : decode cX13_lettersFrom 295 = .ok (.getfield 353, 3) := by decide +kernel
theorem dX13_lettersFrom_298 : decode cX13_lettersFrom 298 = .ok (.aload_n 0, 1) := by decide +kernel
theorem dX13_lettersFrom_299 : decode cX13_lettersFrom 299 = .ok (.getfield 324, 3) := by decide +kernel
theorem dX13_lettersFrom_302 : decode cX13_lettersFrom 302 = .ok (.if_icmp .gt 12, 3) := by decide +kernel
theorem dX13_lettersFrom_305 : decode cX13_lettersFrom 305 = .ok (.iload_n 2, 1) := by decide +kernel
theorem dX13_lettersFrom_306 : decode cX13_lettersFrom 306 = .ok (.iload 8, 2) := by decide +kernel
theorem dX13_lettersFrom_308 : decode cX13_lettersFrom 308 = .ok (.isub, 1) := by decide +kernel
theorem dX13_lettersFrom_309 : decode cX13_lettersFrom 309 = .ok (.iload 10, 2) := by decide +kernel
theorem dX13_lettersFrom_311 : decode cX13_lettersFrom 311 = .ok (.if_icmp .ge 13, 3) := by decide +kernel
theorem dX13_lettersFrom_314 : decode cX13_lettersFrom 314 = .ok (.aload_n 0, 1) := by decide +kernel
theorem dX13_lettersFrom_315 : decode cX13_lettersFrom 315 = .ok (.bipush 10, 2) := by decide +kernel
theorem dX13_lettersFrom_317 : decode cX13_lettersFrom 317 = .ok (.iload_n 1, 1) := by decide +kernel
theorem dX13_lettersFrom_318 : decode cX13_lettersFrom 318 = .ok (.invokevirtual 263, 3) := by decide +kernel
theorem dX13_lettersFrom_321 : decode cX13_lettersFrom 321 = .ok (.pop, 1) := by decide +kernel
theorem dX13_lettersFrom_322 : decode cX13_lettersFrom 322 = .ok (.iload_n 1, 1) := by decide +kernel
theorem dX13_lettersFrom_323 : decode cX13_lettersFrom 323 = .ok (.ireturn, 1) := by decide +kernel
theorem dX13_lettersFrom_324 : decode cX13_lettersFrom 324 = .ok (.iload_n 3, 1) := by decide +kernel
theorem dX13_lettersFrom_325 : decode cX13_lettersFrom 325 = .ok (.iconst 3, 1) := by decide +kernel
theorem dX13_lettersFrom_326 : decode cX13_lettersFrom 326 = .ok (.if_icmp .ne 22, 3) := by decide +kernel
theorem dX13_lettersFrom_329 : decode cX13_lettersFrom 329 = .ok (.aload_n 0, 1) := by decide +kernel
theorem dX13_lettersFrom_330 : decode cX13_lettersFrom 330 = .ok (.getfield 50, 3) := by decide +kernel
theorem dX13_lettersFrom_333 : decode cX13_lettersFrom 333 = .ok (.iconst 0, 1) := by decide +kernel
theorem dX13_lettersFrom_334 : decode cX13_lettersFrom 334 = .ok (.baload, 1) := by decide +kernel
theorem dX13_lettersFrom_335 : decode cX13_lettersFrom 335 = .ok (.ifCond .ne 13, 3) := by decide +kernel
theorem dX13_lettersFrom_338 : decode cX13_lettersFrom 338 = .ok (.aload_n 0, 1) := by decide +kernel
theorem dX13_lettersFrom_339 : decode cX13_lettersFrom 339 = .ok (.bipush 12, 2) := by decide +kernel
theorem dX13_lettersFrom_341 : decode cX13_lettersFrom 341 = .ok (.iload_n 1, 1) := by decide +kernel
theorem dX13_lettersFrom_342 : decode cX13_lettersFrom 342 = .ok (.invokevirtual 263, 3) := by decide +kernel
theorem dX13_lettersFrom_345 : decode cX13_lettersFrom 345 = .ok (.pop, 1) := by decide +kernel
theorem dX13_lettersFrom_346 : decode cX13_lettersFrom 346 = .ok (.iload_n 1, 1) := by decide +kernel
theorem dX13_lettersFrom_347 : decode cX13_lettersFrom 347 = .ok (.ireturn, 1) := by decide +kernel
theorem dX13_lettersFrom_348 : decode cX13_lettersFrom 348 = .ok (.iload 8, 2) := by decide +kernel
theorem dX13_lettersFrom_350 : decode cX13_lettersFrom 350 = .ok (.istore 11, 2) := by decide +kernel
theorem dX13_lettersFrom_352 : decode cX13_lettersFrom 352 = .ok (.iload_n 3, 1) := by decide +kernel
theorem dX13_lettersFrom_353 : decode cX13_lettersFrom 353 = .ok (.iconst 2, 1) := by decide +kernel
theorem dX13_lettersFrom_354 : decode cX13_lettersFrom 354 = .ok (.if_icmp .ne 33, 3) := by decide +kernel
theorem dX13_lettersFrom_357 : decode cX13_lettersFrom 357 = .ok (.aload_n 0, 1) := by decide +kernel
theorem dX13_lettersFrom_358 : decode cX13_lettersFrom 358 = .ok (.iconst 0, 1) := by decide +kernel
theorem dX13_lettersFrom_359 : decode cX13_lettersFrom 359 = .ok (.iload 8, 2) := by decide +kernel
theorem dX13_lettersFrom_361 : decode cX13_lettersFrom 361 = .ok (.iload 8, 2) := by decide +kernel
theorem dX13_lettersFrom_363 : decode cX13_lettersFrom 363 = .ok (.iload 10, 2) := by decide +kernel
theorem dX13_lettersFrom_365 : decode cX13_lettersFrom 365 = .ok (.iadd, 1) := by decide +kernel
theorem dX13_lettersFrom_366 : decode cX13_lettersFrom 366 = .ok (.invokevirtual 276, 3) := by decide +kernel
theorem dX13_lettersFrom_369 : decode cX13_lettersFrom 369 = .ok (.istore 11, 2) := by decide +kernel
theorem dX13_lettersFrom_371 : decode cX13_lettersFrom 371 = .ok (.iload 11, 2) := by decide +kernel
theorem dX13_lettersFrom_373 : decode cX13_lettersFrom 373 = .ok (.ifCond .ge 14, 3) := by decide +kernel
theorem dX13_lettersFrom_376 : decode cX13_lettersFrom 376 = .ok (.aload_n 0, 1) := by decide +kernel
theorem dX13_lettersFrom_377 : decode cX13_lettersFrom 377 = .ok (.bipush 11, 2) := by decide +kernel
theorem dX13_lettersFrom_379 : decode cX13_lettersFrom 379 = .ok (.iload 8, 2) := by decide +kernel
theorem dX13_lettersFrom_381 : decode cX13_lettersFrom 381 = .ok (.invokevirtual 263, 3) := by decide +kernel
theorem dX13_lettersFrom_384 : decode cX13_lettersFrom 384 = .ok (.pop, 1) := by decide +kernel
theorem dX13_lettersFrom_385 : decode cX13_lettersFrom 385 = .ok (.iload_n 1, 1) := by decide +kernel
theorem dX13_lettersFrom_386 : decode cX13_lettersFrom 386 = .ok (.ireturn, 1) := by decide +kernel
theorem dX13_lettersFrom_387 : decode cX13_lettersFrom 387 = .ok (.aload_n 0, 1) := by decide +kernel
theorem dX13_lettersFrom_388 : decode cX13_lettersFrom 388 = .ok (.iload 11, 2) := by decide +kernel
theorem dX13_lettersFrom_390 : decode cX13_lettersFrom 390 = .ok (.iload 8, 2) := by decide +kernel
theorem dX13_lettersFrom_392 : decode cX13_lettersFrom 392 = .ok (.iload 10, 2) := by decide +kernel
theorem dX13_lettersFrom_394 : decode cX13_lettersFrom 394 = .ok (.iadd, 1) := by decide +kernel
theorem dX13_lettersFrom_395 : decode cX13_lettersFrom 395 = .ok (.iload 4, 2) := by decide +kernel
theorem dX13_lettersFrom_397 : decode cX13_lettersFrom 397 = .ok (.ifCond .le 7, 3) := by decide +kernel
theorem dX13_lettersFrom_400 : decode cX13_lettersFrom 400 = .ok (.iconst 1, 1) := by decide +kernel
theorem dX13_lettersFrom_401 : decode cX13_lettersFrom 401 = .ok (.goto 4, 3) := by decide +kernel
theorem dX13_lettersFrom_404 : decode cX13_lettersFrom 404 = .ok (.iconst 0, 1) := by decide +kernel
theorem dX13_lettersFrom_405 : decode cX13_lettersFrom 405 = .ok (.invokevirtual 359, 3) := by decide +kernel
theorem dX13_lettersFrom_408 : decode cX13_lettersFrom 408 = .ok (.ifCond .ne 12, 3) := by decide +kernel
theorem dX13_lettersFrom_411 : decode cX13_lettersFrom 411 = .ok (.aload_n 0, 1) := by decide +kernel
theorem dX13_lettersFrom_412 : decode cX13_lettersFrom 412 = .ok (.bipush 13, 2) := by decide +kernel
theorem dX13_lettersFrom_414 : decode cX13_lettersFrom 414 = .ok (.iload 11, 2) := by decide +kernel
theorem dX13_lettersFrom_416 : decode cX13_lettersFrom 416 = .ok (.invokevirtual 263, 3) := by decide +kernel
theorem dX13_lettersFrom_419 : decode cX13_lettersFrom 419 = .ok (.pop, 1) := by decide +kernel
theorem dX13_lettersFrom_420 : decode cX13_lettersFrom 420 = .ok (.iload 8, 2) := by decide +kernel
theorem dX13_lettersFrom_422 : decode cX13_lettersFrom 422 = .ok (.iload 10, 2) := by decide +kernel
theorem dX13_lettersFrom_424 : decode cX13_lettersFrom 424 = .ok (.iadd, 1) := by decide +kernel
theorem dX13_lettersFrom_425 : decode cX13_lettersFrom 425 = .ok (.ireturn, 1) := by decide +kernel
theorem dX13_streams_0 : decode cX13_streams 0 = .ok (.iload_n 3, 1) := by decide +kernel
theorem dX13_streams_1 : decode cX13_streams 1 = .ok (.ifCond .ne 15, 3) := by decide +kernel
theorem dX13_streams_4 : decode cX13_streams 4 = .ok (.aload_n 0, 1) := by decide +kernel
theorem dX13_streams_5 : decode cX13_streams 5 = .ok (.iload_n 1, 1) := by decide +kernel
theorem dX13_streams_6 : decode cX13_streams 6 = .ok (.iload_n 2, 1) := by decide +kernel
theorem dX13_streams_7 : decode cX13_streams 7 = .ok (.iconst 0, 1) := by decide +kernel
theorem dX13_streams_8 : decode cX13_streams 8 = .ok (.aload_n 0, 1) := by decide +kernel
theorem dX13_streams_9 : decode cX13_streams 9 = .ok (.getfield 353, 3) := by decide +kernel
theorem dX13_streams_12 : decode cX13_streams 12 = .ok (.invokevirtual 363, 3) := by decide +kernel
theorem dX13_streams_15 : decode cX13_streams 15 = .ok (.ireturn, 1) := by decide +kernel
theorem dX13_streams_16 : decode cX13_streams 16 = .ok (.iload_n 2, 1) := by decide +kernel
theorem dX13_streams_17 : decode cX13_streams 17 = .ok (.iload_n 1, 1) := by decide +kernel
theorem dX13_streams_18 : decode cX13_streams 18 = .ok (.isub, 1) := by decide +kernel
theorem dX13_streams_19 : decode cX13_streams 19 = .ok (.bipush 6, 2) := by decide +kernel
theorem dX13_streams_21 : decode cX13_streams 21 = .ok (.if_icmp .ge 5, 3) := by decide +kernel
theorem dX13_streams_24 : decode cX13_streams 24 = .ok (.iconst 0, 1) := by decide +kernel
theorem dX13_streams_25 : decode cX13_streams 25 = .ok (.ireturn, 1) := by decide +kernel
theorem dX13_streams_26 : decode cX13_streams 26 = .ok (.aload_n 0, 1) := by decide +kernel
theorem dX13_streams_27 : decode cX13_streams 27 = .ok (.getfield 353, 3) := by decide +kernel
theorem dX13_streams_30 : decode cX13_streams 30 = .ok (.iconst 3, 1) := by decide +kernel
theorem dX13_streams_31 : decode cX13_streams 31 = .ok (.iadd, 1) := by decide +kernel
theorem dX13_streams_32 : decode cX13_streams 32 = .ok (.iconst 4, 1) := by decide +kernel
theorem dX13_streams_33 : decode cX13_streams 33 = .ok (.idiv, 1) := by decide +kernel
theorem dX13_streams_34 : decode cX13_streams 34 = .ok (.istore 4, 2) := by decide +kernel
theorem dX13_streams_36 : decode cX13_streams 36 = .ok (.iload_n 1, 1) := by decide +kernel
theorem dX13_streams_37 : decode cX13_streams 37 = .ok (.bipush 6, 2) := by decide +kernel
theorem dX13_streams_39 : decode cX13_streams 39 = .ok (.iadd, 1) := by decide +kernel
theorem dX13_streams_40 : decode cX13_streams 40 = .ok (.istore 5, 2) := by decide +kernel
theorem dX13_streams_42 : decode cX13_streams 42 = .ok (.aload_n 0, 1) := by decide +kernel
theorem dX13_streams_43 : decode cX13_streams 43 = .ok (.getfield 7, 3) := by decide +kernel
theorem dX13_streams_46 : decode cX13_streams 46 = .ok (.iload_n 1, 1) := by decide +kernel
theorem dX13_streams_47 : decode cX13_streams 47 = .ok (.iconst 2, 1) := by decide +kernel
theorem dX13_streams_48 : decode cX13_streams 48 = .ok (.invokestatic 175, 3) := by decide +kernel
theorem dX13_streams_51 : decode cX13_streams 51 = .ok (.aload_n 0, 1) := by decide +kernel
theorem dX13_streams_52 : decode cX13_streams 52 = .ok (.getfield 7, 3) := by decide +kernel
theorem dX13_streams_55 : decode cX13_streams 55 = .ok (.iload_n 1, 1) := by decide +kernel
theorem dX13_streams_56 : decode cX13_streams 56 = .ok (.iconst 2, 1) := by decide +kernel
theorem dX13_streams_57 : decode cX13_streams 57 = .ok (.iadd, 1) := by decide +kernel
theorem dX13_streams_58 : decode cX13_streams 58 = .ok (.iconst 2, 1) := by decide +kernel
theorem dX13_streams_59 : decode cX13_streams 59 = .ok (.invokestatic 175, 3) := by decide +kernel
theorem dX13_streams_62 : decode cX13_streams 62 = .ok (.ladd, 1) := by decide +kernel
theorem dX13_streams_63 : decode cX13_streams 63 = .ok (.aload_n 0, 1) := by decide +kernel
theorem dX13_streams_64 : decode cX13_streams 64 = .ok (.getfield 7, 3) := by decide +kernel
theorem dX13_streams_67 : decode cX13_streams 67 = .ok (.iload_n 1, 1) := by decide +kernel
theorem dX13_streams_68 : decode cX13_streams 68 = .ok (.iconst 4, 1) := by decide +kernel
theorem dX13_streams_69 : decode cX13_streams 69 = .ok (.iadd, 1) := by decide +kernel
theorem dX13_streams_70 : decode cX13_streams 70 = .ok (.iconst 2, 1) := by decide +kernel
theorem dX13_streams_71 : decode cX13_streams 71 = .ok (.invokestatic 175, 3) := by decide +kernel
theorem dX13_streams_74 : decode cX13_streams 74 = .ok (.ladd, 1) := by decide +kernel
theorem dX13_streams_75 : decode cX13_streams 75 = .ok (.l2i, 1) := by decide +kernel
theorem dX13_streams_76 : decode cX13_streams 76 = .ok (.istore 6, 2) := by decide +kernel
theorem dX13_streams_78 : decode cX13_streams 78 = .ok (.iload 6, 2) := by decide +kernel
theorem dX13_streams_80 : decode cX13_streams 80 = .ok (.iload_n 2, 1) := by decide +kernel
theorem dX13_streams_81 : decode cX13_streams 81 = .ok (.iload 5, 2) := by decide +kernel
theorem dX13_streams_83 : decode cX13_streams 83 = .ok (.isub, 1) := by decide +kernel
theorem dX13_streams_84 : decode cX13_streams 84 = .ok (.if_icmp .gt 15, 3) := by decide +kernel
theorem dX13_streams_87 : decode cX13_streams 87 = .ok (.aload_n 0, 1) := by decide +kernel
theorem dX13_streams_88 : decode cX13_streams 88 = .ok (.getfield 353, 3) := by decide +kernel
theorem dX13_streams_91 : decode cX13_streams 91 = .ok (.iconst 3, 1) := by decide +kernel
theorem dX13_streams_92 : decode cX13_streams 92 = .ok (.iload 4, 2) := by decide +kernel
theorem dX13_streams_94 : decode cX13_streams 94 = .ok (.imul, 1) := by decide +kernel
theorem dX13_streams_95 : decode cX13_streams 95 = .ok (.isub, 1) := by decide +kernel
theorem dX13_streams_96 : decode cX13_streams 96 = .ok (.ifCond .ge 5, 3) := by decide +kernel
theorem dX13_streams_99 : decode cX13_streams 99 = .ok (.iconst 0, 1) := by decide +kernel
theorem dX13_streams_100 : decode cX13_streams 100 = .ok (.ireturn, 1) := by decide +kernel
theorem dX13_streams_101 : decode cX13_streams 101 = .ok (.iconst 0, 1) := by decide +kernel
theorem dX13_streams_102 : decode cX13_streams 102 = .ok (.istore 7, 2) := by decide +kernel
theorem dX13_streams_104 : decode cX13_streams 104 = .ok (.iload 7, 2) := by decide +kernel
theorem dX13_streams_106 : decode cX13_streams 106 = .ok (.iconst 4, 1) := by decide +kernel
theorem dX13_streams_107 : decode cX13_streams 107 = .ok (.if_icmp .ge 87, 3) := by decide +kernel
theorem dX13_streams_110 : decode cX13_streams 110 = .ok (.iload 7, 2) := by decide +kernel
theorem dX13_streams_112 : decode cX13_streams 112 = .ok (.iconst 3, 1) := by decide +kernel
theorem dX13_streams_113 : decode cX13_streams 113 = .ok (.if_icmp .ge 21, 3) := by decide +kernel
theorem dX13_streams_116 : decode cX13_streams 116 = .ok (.aload_n 0, 1) := by decide +kernel
theorem dX13_streams_117 : decode cX13_streams 117 = .ok (.getfield 7, 3) := by decide +kernel
theorem dX13_streams_120 : decode cX13_streams 120 = .ok (.iload_n 1, 1) := by decide +kernel
theorem dX13_streams_121 : decode cX13_streams 121 = .ok (.iconst 2, 1) := by decide +kernel
theorem dX13_streams_122 : decode cX13_streams 122 = .ok (.iload 7, 2) := by decide +kernel
theorem dX13_streams_124 : decode cX13_streams 124 = .ok (.imul, 1) := by decide +kernel
theorem dX13_streams_125 : decode cX13_streams 125 = .ok (.iadd, 1) := by decide +kernel
theorem dX13_streams_126 : decode cX13_streams 126 = .ok (.iconst 2, 1) := by decide +kernel
theorem dX13_streams_127 : decode cX13_streams 127 = .ok (.invokestatic 175, 3) := by decide +kernel
theorem dX13_streams_130 : decode cX13_streams 130 = .ok (.l2i, 1) := by decide +kernel
theorem dX13_streams_131 : decode cX13_streams 131 = .ok (.goto 7, 3) := by decide +kernel
theorem dX13_streams_134 : decode cX13_streams 134 = .ok (.iload_n 2, 1) := by decide +kernel
theorem dX13_streams_135 : decode cX13_streams 135 = .ok (.iload 5, 2) := by decide +kernel
theorem dX13_streams_137 : decode cX13_streams 137 = .ok (.isub, 1) := by decide +kernel
theorem dX13_streams_138 : decode cX13_streams 138 = .ok (.istore 8, 2) := by decide +kernel
theorem dX13_streams_140 : decode cX13_streams 140 = .ok (.aload_n 0, 1) := by decide +kernel
theorem dX13_streams_141 : decode cX13_streams 141 = .ok (.iload 5, 2) := by decide +kernel
theorem dX13_streams_143 : decode cX13_streams 143 = .ok (.iload 5, 2) := by decide +kernel
theorem dX13_streams_145 : decode cX13_streams 145 = .ok (.iload 8, 2) := by decide +kernel
theorem dX13_streams_147 : decode cX13_streams 147 = .ok (.iadd, 1) := by decide +kernel
theorem dX13_streams_148 : decode cX13_streams 148 = .ok (.iload 7, 2) := by decide +kernel
theorem dX13_streams_150 : decode cX13_streams 150 = .ok (.iload 4, 2) := by decide +kernel
theorem dX13_streams_152 : decode cX13_streams 152 = .ok (.imul, 1) := by decide +kernel
theorem dX13_streams_153 : decode cX13_streams 153 = .ok (.iload 7, 2) := by decide +kernel
theorem dX13_streams_155 : decode cX13_streams 155 = .ok (.iconst 3, 1) := by decide +kernel
theorem dX13_streams_156 : decode cX13_streams 156 = .ok (.if_icmp .ge 8, 3) := by decide +kernel
theorem dX13_streams_159 : decode cX13_streams 159 = .ok (.iload 4, 2) := by decide +kernel
theorem dX13_streams_161 : decode cX13_streams 161 = .ok (.goto 12, 3) := by decide +kernel
theorem dX13_streams_164 : decode cX13_streams 164 = .ok (.aload_n 0, 1) := by decide +kernel
theorem dX13_streams_165 : decode cX13_streams 165 = .ok (.getfield 353, 3) := by decide +kernel
theorem dX13_streams_168 : decode cX13_streams 168 = .ok (.iconst 3, 1) := by decide +kernel
theorem dX13_streams_169 : decode cX13_streams 169 = .ok (.iload 4, 2) := by decide +kernel
theorem dX13_streams_171 : decode cX13_streams 171 = .ok (.imul, 1) := by decide +kernel
theorem dX13_streams_172 : decode cX13_streams 172 = .ok (.isub, 1) := by decide +kernel
theorem dX13_streams_173 : decode cX13_streams 173 = .ok (.invokevirtual 363, 3) := by decide +kernel
theorem dX13_streams_176 : decode cX13_streams 176 = .ok (.ifCond .ne 5, 3) := by decide +kernel
theorem dX13_streams_179 : decode cX13_streams 179 = .ok (.iconst 0, 1) := by decide +kernel
theorem dX13_streams_180 : decode cX13_streams 180 = .ok (.ireturn, 1) := by decide +kernel
theorem dX13_streams_181 : decode cX13_streams 181 = .ok (.iload 5, 2) := by decide +kernel
theorem dX13_streams_183 : decode cX13_streams 183 = .ok (.iload 8, 2) := by decide +kernel
theorem dX13_streams_185 : decode cX13_streams 185 = .ok (.iadd, 1) := by decide +kernel
theorem dX13_streams_186 : decode cX13_streams 186 = .ok (.istore 5, 2) := by decide +kernel
theorem dX13_streams_188 : decode cX13_streams 188 = .ok (.iinc 7 1, 3) := by decide +kernel
theorem dX13_streams_191 : decode cX13_streams 191 = .ok (.goto (-87), 3) := by decide +kernel
theorem dX13_streams_194 : decode cX13_streams 194 = .ok (.iconst 1, 1) := by decide +kernel
theorem dX13_streams_195 : decode cX13_streams 195 = .ok (.ireturn, 1) := by decide +kernel
theorem dX13_stream_0 : decode cX13_stream 0 = .ok (.aload_n 0, 1) := by decide +kernel
theorem dX13_stream_1 : decode cX13_stream 1 = .ok (.iload_n 1, 1) := by decide +kernel
theorem dX13_stream_2 : decode cX13_stream 2 = .ok (.iload_n 2, 1) := by decide +kernel
theorem dX13_stream_3 : decode cX13_stream 3 = .ok (.invokevirtual 230, 3) := by decide +kernel
theorem dX13_stream_6 : decode cX13_stream 6 = .ok (.ifCond .ne 5, 3) := by decide +kernel
theorem dX13_stream_9 : decode cX13_stream 9 = .ok (.iconst 0, 1) := by decide +kernel
theorem dX13_stream_10 : decode cX13_stream 10 = .ok (.ireturn, 1) := by decide +kernel
theorem dX13_stream_11 : decode cX13_stream 11 = .ok (.aload_n 0, 1) := by decide +kernel
theorem dX13_stream_12 : decode cX13_stream 12 = .ok (.getfield 53, 3) := by decide +kernel
theorem dX13_stream_15 : decode cX13_stream 15 = .ok (.iconst 0, 1) := by decide +kernel
theorem dX13_stream_16 : decode cX13_stream 16 = .ok (.iaload, 1) := by decide +kernel
theorem dX13_stream_17 : decode cX13_stream 17 = .ok (.istore 5, 2) := by decide +kernel
theorem dX13_stream_19 : decode cX13_stream 19 = .ok (.iconst 0, 1) := by decide +kernel
theorem dX13_stream_20 : decode cX13_stream 20 = .ok (.istore 6, 2) := by decide +kernel
theorem dX13_stream_22 : decode cX13_stream 22 = .ok (.iload 6, 2) := by decide +kernel
theorem dX13_stream_24 : decode cX13_stream 24 = .ok (.iload 4, 2) := by decide +kernel
theorem dX13_stream_26 : decode cX13_stream 26 = .ok (.if_icmp .ge 98, 3) := by decide +kernel
theorem dX13_stream_29 : decode cX13_stream 29 = .ok (.aload_n 0, 1) := by decide +kernel
theorem dX13_stream_30 : decode cX13_stream 30 = .ok (.getfield 203, 3) := by decide +kernel
theorem dX13_stream_33 : decode cX13_stream 33 = .ok (.iload 5, 2) := by decide +kernel
theorem dX13_stream_35 : decode cX13_stream 35 = .ok (.if_icmp .ge 10, 3) := by decide +kernel
theorem dX13_stream_38 : decode cX13_stream 38 = .ok (.aload_n 0, 1) := by decide +kernel
theorem dX13_stream_39 : decode cX13_stream 39 = .ok (.getfield 203, 3) := by decide +kernel
theorem dX13_stream_42 : decode cX13_stream 42 = .ok (.goto 5, 3) := by decide +kernel
theorem dX13_stream_45 : decode cX13_stream 45 = .ok (.iload 5, 2) := by decide +kernel
theorem dX13_stream_47 : decode cX13_stream 47 = .ok (.istore 7, 2) := by decide +kernel
theorem dX13_stream_49 : decode cX13_stream 49 = .ok (.aload_n 0, 1) := by decide +kernel
theorem dX13_stream_50 : decode cX13_stream 50 = .ok (.getfield 203, 3) := by decide +kernel
theorem dX13_stream_53 : decode cX13_stream 53 = .ok (.istore 8, 2) := by decide +kernel
theorem dX13_stream_55 : decode cX13_stream 55 = .ok (.aload_n 0, 1) := by decide +kernel
theorem dX13_stream_56 : decode cX13_stream 56 = .ok (.iload 7, 2) := by decide +kernel
theorem dX13_stream_58 : decode cX13_stream 58 = .ok (.invokevirtual 234, 3) := by decide +kernel
theorem dX13_stream_61 : decode cX13_stream 61 = .ok (.l2i, 1) := by decide +kernel
theorem dX13_stream_62 : decode cX13_stream 62 = .ok (.iload 5, 2) := by decide +kernel
theorem dX13_stream_64 : decode cX13_stream 64 = .ok (.iload 7, 2) := by decide +kernel
theorem dX13_stream_66 : decode cX13_stream 66 = .ok (.isub, 1) := by decide +kernel
theorem dX13_stream_67 : decode cX13_stream 67 = .ok (.ishl, 1) := by decide +kernel
theorem dX13_stream_68 : decode cX13_stream 68 = .ok (.istore 9, 2) := by decide +kernel
theorem dX13_stream_70 : decode cX13_stream 70 = .ok (.aload_n 0, 1) := by decide +kernel
theorem dX13_stream_71 : decode cX13_stream 71 = .ok (.getfield 56, 3) := by decide +kernel
theorem dX13_stream_74 : decode cX13_stream 74 = .ok (.iload 9, 2) := by decide +kernel
theorem dX13_stream_76 : decode cX13_stream 76 = .ok (.saload, 1) := by decide +kernel
theorem dX13_stream_77 : decode cX13_stream 77 = .ok (.istore 10, 2) := by decide +kernel
theorem dX13_stream_79 : decode cX13_stream 79 = .ok (.aload_n 0, 1) := by decide +kernel
theorem dX13_stream_80 : decode cX13_stream 80 = .ok (.getfield 47, 3) := by decide +kernel
theorem dX13_stream_83 : decode cX13_stream 83 = .ok (.iload 10, 2) := by decide +kernel
theorem dX13_stream_85 : decode cX13_stream 85 = .ok (.iaload, 1) := by decide +kernel
theorem dX13_stream_86 : decode cX13_stream 86 = .ok (.istore 11, 2) := by decide +kernel
theorem dX13_stream_88 : decode cX13_stream 88 = .ok (.iload 11, 2) := by decide +kernel
theorem dX13_stream_90 : decode cX13_stream 90 = .ok (.iload 7, 2) := by decide +kernel
theorem dX13_stream_92 : decode cX13_stream 92 = .ok (.if_icmp .le 5, 3) := by decide +kernel
theorem dX13_stream_95 : decode cX13_stream 95 = .ok (.iconst 0, 1) := by decide +kernel
theorem dX13_stream_96 : decode cX13_stream 96 = .ok (.ireturn, 1) := by decide +kernel
theorem dX13_stream_97 : decode cX13_stream 97 = .ok (.aload_n 0, 1) := by decide +kernel
theorem dX13_stream_98 : decode cX13_stream 98 = .ok (.iload 8, 2) := by decide +kernel
theorem dX13_stream_100 : decode cX13_stream 100 = .ok (.iload 11, 2) := by decide +kernel
theorem dX13_stream_102 : decode cX13_stream 102 = .ok (.isub, 1) := by decide +kernel
theorem dX13_stream_103 : decode cX13_stream 103 = .ok (.putfield 203, 3) := by decide +kernel
theorem dX13_stream_106 : decode cX13_stream 106 = .ok (.aload_n 0, 1) := by decide +kernel
theorem dX13_stream_107 : decode cX13_stream 107 = .ok (.getfield 79, 3) := by decide +kernel
theorem dX13_stream_110 : decode cX13_stream 110 = .ok (.iload_n 3, 1) := by decide +kernel
theorem dX13_stream_111 : decode cX13_stream 111 = .ok (.iload 6, 2) := by decide +kernel
theorem dX13_stream_113 : decode cX13_stream 113 = .ok (.iadd, 1) := by decide +kernel
theorem dX13_stream_114 : decode cX13_stream 114 = .ok (.iload 10, 2) := by decide +kernel
theorem dX13_stream_116 : decode cX13_stream 116 = .ok (.i2b, 1) := by decide +kernel
theorem dX13_stream_117 : decode cX13_stream 117 = .ok (.bastore, 1) := by decide +kernel
theorem dX13_stream_118 : decode cX13_stream 118 = .ok (.iinc 6 1, 3) := by decide +kernel
theorem dX13_stream_121 : decode cX13_stream 121 = .ok (.goto (-99), 3) := by decide +kernel
theorem dX13_stream_124 : decode cX13_stream 124 = .ok (.aload_n 0, 1) := by decide +kernel
theorem dX13_stream_125 : decode cX13_stream 125 = .ok (.getfield 203, 3) := by decide +kernel
theorem dX13_stream_128 : decode cX13_stream 128 = .ok (.ifCond .ne 7, 3) := by decide +kernel
theorem dX13_stream_131 : decode cX13_stream 131 = .ok (.iconst 1, 1) := by decide +kernel
theorem dX13_stream_132 : decode cX13_stream 132 = .ok (.goto 4, 3) := by decide +kernel
theorem dX13_stream_135 : decode cX13_stream 135 = .ok (.iconst 0, 1) := by decide +kernel
theorem dX13_stream_136 : decode cX13_stream 136 = .ok (.ireturn, 1) := by decide +kernel
theorem dX13_copyBase_0 : decode cX13_copyBase 0 = .ok (.iload_n 0, 1) := by decide +kernel
theorem dX13_copyBase_1 : decode cX13_copyBase 1 = .ok (.bipush 32, 2) := by decide +kernel
theorem dX13_copyBase_3 : decode cX13_copyBase 3 = .ok (.if_icmp .ge 7, 3) := by decide +kernel
theorem dX13_copyBase_6 : decode cX13_copyBase 6 = .ok (.iconst 3, 1) := by decide +kernel
theorem dX13_copyBase_7 : decode cX13_copyBase 7 = .ok (.iload_n 0, 1) := by decide +kernel
theorem dX13_copyBase_8 : decode cX13_copyBase 8 = .ok (.iadd, 1) := by decide +kernel
theorem dX13_copyBase_9 : decode cX13_copyBase 9 = .ok (.ireturn, 1) := by decide +kernel
theorem dX13_copyBase_10 : decode cX13_copyBase 10 = .ok (.iload_n 0, 1) := by decide +kernel
theorem dX13_copyBase_11 : decode cX13_copyBase 11 = .ok (.bipush 36, 2) := by decide +kernel
theorem dX13_copyBase_13 : decode cX13_copyBase 13 = .ok (.if_icmp .ge 13, 3) := by decide +kernel
theorem dX13_copyBase_16 : decode cX13_copyBase 16 = .ok (.bipush 35, 2) := by decide +kernel
theorem dX13_copyBase_18 : decode cX13_copyBase 18 = .ok (.iconst 2, 1) := by decide +kernel
theorem dX13_copyBase_19 : decode cX13_copyBase 19 = .ok (.iload_n 0, 1) := by decide +kernel
theorem dX13_copyBase_20 : decode cX13_copyBase 20 = .ok (.bipush 32, 2) := by decide +kernel
theorem dX13_copyBase_22 : decode cX13_copyBase 22 = .ok (.isub, 1) := by decide +kernel
theorem dX13_copyBase_23 : decode cX13_copyBase 23 = .ok (.imul, 1) := by decide +kernel
theorem dX13_copyBase_24 : decode cX13_copyBase 24 = .ok (.iadd, 1) := by decide +kernel
theorem dX13_copyBase_25 : decode cX13_copyBase 25 = .ok (.ireturn, 1) := by decide +kernel
theorem dX13_copyBase_26 : decode cX13_copyBase 26 = .ok (.iload_n 0, 1) := by decide +kernel
theorem dX13_copyBase_27 : decode cX13_copyBase 27 = .ok (.bipush 44, 2) := by decide +kernel
theorem dX13_copyBase_29 : decode cX13_copyBase 29 = .ok (.if_icmp .ge 84, 3) := by decide +kernel
theorem dX13_copyBase_32 : decode cX13_copyBase 32 = .ok (.iload_n 0, 1) := by decide +kernel
theorem dX13_copyBase_33 : decode cX13_copyBase 33 = .ok (.bipush 36, 2) := by decide +kernel
theorem dX13_copyBase_35 : decode cX13_copyBase 35 = .ok (.if_icmp .ne 8, 3) := by decide +kernel
theorem dX13_copyBase_38 : decode cX13_copyBase 38 = .ok (.bipush 43, 2) := by decide +kernel
theorem dX13_copyBase_40 : decode cX13_copyBase 40 = .ok (.goto 72, 3) := by decide +kernel
theorem dX13_copyBase_43 : decode cX13_copyBase 43 = .ok (.iload_n 0, 1) := by decide +kernel
theorem dX13_copyBase_44 : decode cX13_copyBase 44 = .ok (.bipush 37, 2) := by decide +kernel
theorem dX13_copyBase_46 : decode cX13_copyBase 46 = .ok (.if_icmp .ne 8, 3) := by decide +kernel
theorem dX13_copyBase_49 : decode cX13_copyBase 49 = .ok (.bipush 47, 2) := by decide +kernel
theorem dX13_copyBase_51 : decode cX13_copyBase 51 = .ok (.goto 61, 3) := by decide +kernel
theorem dX13_copyBase_54 : decode cX13_copyBase 54 = .ok (.iload_n 0, 1) := by decide +kernel
theorem dX13_copyBase_55 : decode cX13_copyBase 55 = .ok (.bipush 38, 2) := by decide +kernel
theorem dX13_copyBase_57 : decode cX13_copyBase 57 = .ok (.if_icmp .ne 8, 3) := by decide +kernel
theorem dX13_copyBase_60 : decode cX13_copyBase 60 = .ok (.bipush 51, 2) := by decide +kernel
theorem dX13_copyBase_62 : decode cX13_copyBase 62 = .ok (.goto 50, 3) := by decide +kernel
theorem dX13_copyBase_65 : decode cX13_copyBase 65 = .ok (.iload_n 0, 1) := by decide +kernel
theorem dX13_copyBase_66 : decode cX13_copyBase 66 = .ok (.bipush 39, 2) := by decide +kernel
theorem dX13_copyBase_68 : decode cX13_copyBase 68 = .ok (.if_icmp .ne 8, 3) := by decide +kernel
theorem dX13_copyBase_71 : decode cX13_copyBase 71 = .ok (.bipush 59, 2) := by decide +kernel
theorem dX13_copyBase_73 : decode cX13_copyBase 73 = .ok (.goto 39, 3) := by decide +kernel
theorem dX13_copyBase_76 : decode cX13_copyBase 76 = .ok (.iload_n 0, 1) := by decide +kernel
theorem dX13_copyBase_77 : decode cX13_copyBase 77 = .ok (.bipush 40, 2) := by decide +kernel
theorem dX13_copyBase_79 : decode cX13_copyBase 79 = .ok (.if_icmp .ne 8, 3) := by decide +kernel
theorem dX13_copyBase_82 : decode cX13_copyBase 82 = .ok (.bipush 67, 2) := by decide +kernel
theorem dX13_copyBase_84 : decode cX13_copyBase 84 = .ok (.goto 28, 3) := by decide +kernel
theorem dX13_copyBase_87 : decode cX13_copyBase 87 = .ok (.iload_n 0, 1) := by decide +kernel
theorem dX13_copyBase_88 : decode cX13_copyBase 88 = .ok (.bipush 41, 2) := by decide +kernel
theorem dX13_copyBase_90 : decode cX13_copyBase 90 = .ok (.if_icmp .ne 8, 3) := by decide +kernel
theorem dX13_copyBase_93 : decode cX13_copyBase 93 = .ok (.bipush 83, 2) := by decide +kernel
theorem dX13_copyBase_95 : decode cX13_copyBase 95 = .ok (.goto 17, 3) := by decide +kernel
theorem dX13_copyBase_98 : decode cX13_copyBase 98 = .ok (.iload_n 0, 1) := by decide +kernel
theorem dX13_copyBase_99 : decode cX13_copyBase 99 = .ok (.bipush 42, 2) := by decide +kernel
theorem dX13_copyBase_101 : decode cX13_copyBase 101 = .ok (.if_icmp .ne 8, 3) := by decide +kernel
theorem dX13_copyBase_104 : decode cX13_copyBase 104 = .ok (.bipush 99, 2) := by decide +kernel
theorem dX13_copyBase_106 : decode cX13_copyBase 106 = .ok (.goto 6, 3) := by decide +kernel
theorem dX13_copyBase_109 : decode cX13_copyBase 109 = .ok (.sipush 131, 3) := by decide +kernel
theorem dX13_copyBase_112 : decode cX13_copyBase 112 = .ok (.ireturn, 1) := by decide +kernel
theorem dX13_copyBase_113 : decode cX13_copyBase 113 = .ok (.sipush 256, 3) := by decide +kernel
theorem dX13_copyBase_116 : decode cX13_copyBase 116 = .ok (.iload_n 0, 1) := by decide +kernel
theorem dX13_copyBase_117 : decode cX13_copyBase 117 = .ok (.bipush 44, 2) := by decide +kernel
theorem dX13_copyBase_119 : decode cX13_copyBase 119 = .ok (.isub, 1) := by decide +kernel
theorem dX13_copyBase_120 : decode cX13_copyBase 120 = .ok (.ishl, 1) := by decide +kernel
theorem dX13_copyBase_121 : decode cX13_copyBase 121 = .ok (.iconst 3, 1) := by decide +kernel
theorem dX13_copyBase_122 : decode cX13_copyBase 122 = .ok (.iadd, 1) := by decide +kernel
theorem dX13_copyBase_123 : decode cX13_copyBase 123 = .ok (.ireturn, 1) := by decide +kernel
theorem dX13_copyBits_0 : decode cX13_copyBits 0 = .ok (.iload_n 0, 1) := by decide +kernel
theorem dX13_copyBits_1 : decode cX13_copyBits 1 = .ok (.bipush 32, 2) := by decide +kernel
theorem dX13_copyBits_3 : decode cX13_copyBits 3 = .ok (.if_icmp .ge 7, 3) := by decide +kernel
theorem dX13_copyBits_6 : decode cX13_copyBits 6 = .ok (.iconst 0, 1) := by decide +kernel
theorem dX13_copyBits_7 : decode cX13_copyBits 7 = .ok (.goto 57, 3) := by decide +kernel
theorem dX13_copyBits_10 : decode cX13_copyBits 10 = .ok (.iload_n 0, 1) := by decide +kernel
theorem dX13_copyBits_11 : decode cX13_copyBits 11 = .ok (.bipush 36, 2) := by decide +kernel
theorem dX13_copyBits_13 : decode cX13_copyBits 13 = .ok (.if_icmp .ge 7, 3) := by decide +kernel
theorem dX13_copyBits_16 : decode cX13_copyBits 16 = .ok (.iconst 1, 1) := by decide +kernel
theorem dX13_copyBits_17 : decode cX13_copyBits 17 = .ok (.goto 47, 3) := by decide +kernel
theorem dX13_copyBits_20 : decode cX13_copyBits 20 = .ok (.iload_n 0, 1) := by decide +kernel
theorem dX13_copyBits_21 : decode cX13_copyBits 21 = .ok (.bipush 38, 2) := by decide +kernel
theorem dX13_copyBits_23 : decode cX13_copyBits 23 = .ok (.if_icmp .ge 7, 3) := by decide +kernel
theorem dX13_copyBits_26 : decode cX13_copyBits 26 = .ok (.iconst 2, 1) := by decide +kernel
theorem dX13_copyBits_27 : decode cX13_copyBits 27 = .ok (.goto 37, 3) := by decide +kernel
theorem dX13_copyBits_30 : decode cX13_copyBits 30 = .ok (.iload_n 0, 1) := by decide +kernel
theorem dX13_copyBits_31 : decode cX13_copyBits 31 = .ok (.bipush 40, 2) := by decide +kernel
theorem dX13_copyBits_33 : decode cX13_copyBits 33 = .ok (.if_icmp .ge 7, 3) := by decide +kernel
theorem dX13_copyBits_36 : decode cX13_copyBits 36 = .ok (.iconst 3, 1) := by decide +kernel
theorem dX13_copyBits_37 : decode cX13_copyBits 37 = .ok (.goto 27, 3) := by decide +kernel
theorem dX13_copyBits_40 : decode cX13_copyBits 40 = .ok (.iload_n 0, 1) := by decide +kernel
theorem dX13_copyBits_41 : decode cX13_copyBits 41 = .ok (.bipush 42, 2) := by decide +kernel
theorem dX13_copyBits_43 : decode cX13_copyBits 43 = .ok (.if_icmp .ge 7, 3) := by decide +kernel
theorem dX13_copyBits_46 : decode cX13_copyBits 46 = .ok (.iconst 4, 1) := by decide +kernel
theorem dX13_copyBits_47 : decode cX13_copyBits 47 = .ok (.goto 17, 3) := by decide +kernel
theorem dX13_copyBits_50 : decode cX13_copyBits 50 = .ok (.iload_n 0, 1) := by decide +kernel
theorem dX13_copyBits_51 : decode cX13_copyBits 51 = .ok (.bipush 42, 2) := by decide +kernel
theorem dX13_copyBits_53 : decode cX13_copyBits 53 = .ok (.if_icmp .ne 7, 3) := by decide +kernel
theorem dX13_copyBits_56 : decode cX13_copyBits 56 = .ok (.iconst 5, 1) := by decide +kernel
theorem dX13_copyBits_57 : decode cX13_copyBits 57 = .ok (.goto 7, 3) := by decide +kernel
theorem dX13_copyBits_60 : decode cX13_copyBits 60 = .ok (.iload_n 0, 1) := by decide +kernel
theorem dX13_copyBits_61 : decode cX13_copyBits 61 = .ok (.bipush 36, 2) := by decide +kernel
theorem dX13_copyBits_63 : decode cX13_copyBits 63 = .ok (.isub, 1) := by decide +kernel
theorem dX13_copyBits_64 : decode cX13_copyBits 64 = .ok (.ireturn, 1) := by decide +kernel
theorem dX13_letterBase_0 : decode cX13_letterBase 0 = .ok (.iload_n 0, 1) := by decide +kernel
theorem dX13_letterBase_1 : decode cX13_letterBase 1 = .ok (.bipush 16, 2) := by decide +kernel
theorem dX13_letterBase_3 : decode cX13_letterBase 3 = .ok (.if_icmp .ge 5, 3) := by decide +kernel
theorem dX13_letterBase_6 : decode cX13_letterBase 6 = .ok (.iload_n 0, 1) := by decide +kernel
theorem dX13_letterBase_7 : decode cX13_letterBase 7 = .ok (.ireturn, 1) := by decide +kernel
theorem dX13_letterBase_8 : decode cX13_letterBase 8 = .ok (.iload_n 0, 1) := by decide +kernel
theorem dX13_letterBase_9 : decode cX13_letterBase 9 = .ok (.bipush 20, 2) := by decide +kernel
theorem dX13_letterBase_11 : decode cX13_letterBase 11 = .ok (.if_icmp .ge 13, 3) := by decide +kernel
theorem dX13_letterBase_14 : decode cX13_letterBase 14 = .ok (.bipush 16, 2) := by decide +kernel
theorem dX13_letterBase_16 : decode cX13_letterBase 16 = .ok (.iconst 2, 1) := by decide +kernel
theorem dX13_letterBase_17 : decode cX13_letterBase 17 = .ok (.iload_n 0, 1) := by decide +kernel
theorem dX13_letterBase_18 : decode cX13_letterBase 18 = .ok (.bipush 16, 2) := by decide +kernel
theorem dX13_letterBase_20 : decode cX13_letterBase 20 = .ok (.isub, 1) := by decide +kernel
theorem dX13_letterBase_21 : decode cX13_letterBase 21 = .ok (.imul, 1) := by decide +kernel
theorem dX13_letterBase_22 : decode cX13_letterBase 22 = .ok (.iadd, 1) := by decide +kernel
theorem dX13_letterBase_23 : decode cX13_letterBase 23 = .ok (.ireturn, 1) := by decide +kernel
theorem dX13_letterBase_24 : decode cX13_letterBase 24 = .ok (.iload_n 0, 1) := by decide +kernel
theorem dX13_letterBase_25 : decode cX13_letterBase 25 = .ok (.bipush 20, 2) := by decide +kernel
theorem dX13_letterBase_27 : decode cX13_letterBase 27 = .ok (.if_icmp .ne 8, 3) := by decide +kernel
theorem dX13_letterBase_30 : decode cX13_letterBase 30 = .ok (.bipush 24, 2) := by decide +kernel
theorem dX13_letterBase_32 : decode cX13_letterBase 32 = .ok (.goto 54, 3) := by decide +kernel
theorem dX13_letterBase_35 : decode cX13_letterBase 35 = .ok (.iload_n 0, 1) := by decide +kernel
theorem dX13_letterBase_36 : decode cX13_letterBase 36 = .ok (.bipush 21, 2) := by decide +kernel
theorem dX13_letterBase_38 : decode cX13_letterBase 38 = .ok (.if_icmp .ne 8, 3) := by decide +kernel
theorem dX13_letterBase_41 : decode cX13_letterBase 41 = .ok (.bipush 28, 2) := by decide +kernel
theorem dX13_letterBase_43 : decode cX13_letterBase 43 = .ok (.goto 43, 3) := by decide +kernel
theorem dX13_letterBase_46 : decode cX13_letterBase 46 = .ok (.iload_n 0, 1) := by decide +kernel
theorem dX13_letterBase_47 : decode cX13_letterBase 47 = .ok (.bipush 22, 2) := by decide +kernel
theorem dX13_letterBase_49 : decode cX13_letterBase 49 = .ok (.if_icmp .ne 8, 3) := by decide +kernel
theorem dX13_letterBase_52 : decode cX13_letterBase 52 = .ok (.bipush 32, 2) := by decide +kernel
theorem dX13_letterBase_54 : decode cX13_letterBase 54 = .ok (.goto 32, 3) := by decide +kernel
theorem dX13_letterBase_57 : decode cX13_letterBase 57 = .ok (.iload_n 0, 1) := by decide +kernel
theorem dX13_letterBase_58 : decode cX13_letterBase 58 = .ok (.bipush 23, 2) := by decide +kernel
theorem dX13_letterBase_60 : decode cX13_letterBase 60 = .ok (.if_icmp .ne 8, 3) := by decide +kernel
theorem dX13_letterBase_63 : decode cX13_letterBase 63 = .ok (.bipush 40, 2) := by decide +kernel
theorem dX13_letterBase_65 : decode cX13_letterBase 65 = .ok (.goto 21, 3) := by decide +kernel
theorem dX13_letterBase_68 : decode cX13_letterBase 68 = .ok (.iload_n 0, 1) := by decide +kernel
theorem dX13_letterBase_69 : decode cX13_letterBase 69 = .ok (.bipush 24, 2) := by decide +kernel
theorem dX13_letterBase_71 : decode cX13_letterBase 71 = .ok (.if_icmp .ne 8, 3) := by decide +kernel
theorem dX13_letterBase_74 : decode cX13_letterBase 74 = .ok (.bipush 48, 2) := by decide +kernel
theorem dX13_letterBase_76 : decode cX13_letterBase 76 = .ok (.goto 10, 3) := by decide +kernel
theorem dX13_letterBase_79 : decode cX13_letterBase 79 = .ok (.bipush 64, 2) := by decide +kernel
theorem dX13_letterBase_81 : decode cX13_letterBase 81 = .ok (.iload_n 0, 1) := by decide +kernel
theorem dX13_letterBase_82 : decode cX13_letterBase 82 = .ok (.bipush 25, 2) := by decide +kernel
theorem dX13_letterBase_84 : decode cX13_letterBase 84 = .ok (.isub, 1) := by decide +kernel
theorem dX13_letterBase_85 : decode cX13_letterBase 85 = .ok (.ishl, 1) := by decide +kernel
theorem dX13_letterBase_86 : decode cX13_letterBase 86 = .ok (.ireturn, 1) := by decide +kernel
theorem dX13_letterBits_0 : decode cX13_letterBits 0 = .ok (.iload_n 0, 1) := by decide +kernel
theorem dX13_letterBits_1 : decode cX13_letterBits 1 = .ok (.bipush 16, 2) := by decide +kernel
theorem dX13_letterBits_3 : decode cX13_letterBits 3 = .ok (.if_icmp .ge 7, 3) := by decide +kernel
theorem dX13_letterBits_6 : decode cX13_letterBits 6 = .ok (.iconst 0, 1) := by decide +kernel
theorem dX13_letterBits_7 : decode cX13_letterBits 7 = .ok (.goto 47, 3) := by decide +kernel
theorem dX13_letterBits_10 : decode cX13_letterBits 10 = .ok (.iload_n 0, 1) := by decide +kernel
theorem dX13_letterBits_11 : decode cX13_letterBits 11 = .ok (.bipush 20, 2) := by decide +kernel
theorem dX13_letterBits_13 : decode cX13_letterBits 13 = .ok (.if_icmp .ge 7, 3) := by decide +kernel
theorem dX13_letterBits_16 : decode cX13_letterBits 16 = .ok (.iconst 1, 1) := by decide +kernel
theorem dX13_letterBits_17 : decode cX13_letterBits 17 = .ok (.goto 37, 3) := by decide +kernel
theorem dX13_letterBits_20 : decode cX13_letterBits 20 = .ok (.iload_n 0, 1) := by decide +kernel
theorem dX13_letterBits_21 : decode cX13_letterBits 21 = .ok (.bipush 22, 2) := by decide +kernel
theorem dX13_letterBits_23 : decode cX13_letterBits 23 = .ok (.if_icmp .ge 7, 3) := by decide +kernel
theorem dX13_letterBits_26 : decode cX13_letterBits 26 = .ok (.iconst 2, 1) := by decide +kernel
theorem dX13_letterBits_27 : decode cX13_letterBits 27 = .ok (.goto 27, 3) := by decide +kernel
theorem dX13_letterBits_30 : decode cX13_letterBits 30 = .ok (.iload_n 0, 1) := by decide +kernel
theorem dX13_letterBits_31 : decode cX13_letterBits 31 = .ok (.bipush 24, 2) := by decide +kernel
theorem dX13_letterBits_33 : decode cX13_letterBits 33 = .ok (.if_icmp .ge 7, 3) := by decide +kernel
theorem dX13_letterBits_36 : decode cX13_letterBits 36 = .ok (.iconst 3, 1) := by decide +kernel
theorem dX13_letterBits_37 : decode cX13_letterBits 37 = .ok (.goto 17, 3) := by decide +kernel
theorem dX13_letterBits_40 : decode cX13_letterBits 40 = .ok (.iload_n 0, 1) := by decide +kernel
theorem dX13_letterBits_41 : decode cX13_letterBits 41 = .ok (.bipush 24, 2) := by decide +kernel
theorem dX13_letterBits_43 : decode cX13_letterBits 43 = .ok (.if_icmp .ne 7, 3) := by decide +kernel
theorem dX13_letterBits_46 : decode cX13_letterBits 46 = .ok (.iconst 4, 1) := by decide +kernel
theorem dX13_letterBits_47 : decode cX13_letterBits 47 = .ok (.goto 7, 3) := by decide +kernel
theorem dX13_letterBits_50 : decode cX13_letterBits 50 = .ok (.iload_n 0, 1) := by decide +kernel
theorem dX13_letterBits_51 : decode cX13_letterBits 51 = .ok (.bipush 19, 2) := by decide +kernel
theorem dX13_letterBits_53 : decode cX13_letterBits 53 = .ok (.isub, 1) := by decide +kernel
theorem dX13_letterBits_54 : decode cX13_letterBits 54 = .ok (.ireturn, 1) := by decide +kernel
theorem dX13_toldTable_0 : decode cX13_toldTable 0 = .ok (.iload_n 2, 1) := by decide +kernel
theorem dX13_toldTable_1 : decode cX13_toldTable 1 = .ok (.ifCond .ne 12, 3) := by decide +kernel
theorem dX13_toldTable_4 : decode cX13_toldTable 4 = .ok (.aload_n 0, 1) := by decide +kernel
theorem dX13_toldTable_5 : decode cX13_toldTable 5 = .ok (.iload_n 1, 1) := by decide +kernel
theorem dX13_toldTable_6 : decode cX13_toldTable 6 = .ok (.iload_n 1, 1) := by decide +kernel
theorem dX13_toldTable_7 : decode cX13_toldTable 7 = .ok (.invokevirtual 367, 3) := by decide +kernel
theorem dX13_toldTable_10 : decode cX13_toldTable 10 = .ok (.goto 156, 3) := by decide +kernel
theorem dX13_toldTable_13 : decode cX13_toldTable 13 = .ok (.iload_n 2, 1) := by decide +kernel
theorem dX13_toldTable_14 : decode cX13_toldTable 14 = .ok (.iconst 3, 1) := by decide +kernel
theorem dX13_toldTable_15 : decode cX13_toldTable 15 = .ok (.if_icmp .ne 28, 3) := by decide +kernel
theorem dX13_toldTable_18 : decode cX13_toldTable 18 = .ok (.aload_n 0, 1) := by decide +kernel
theorem dX13_toldTable_19 : decode cX13_toldTable 19 = .ok (.getfield 40, 3) := by decide +kernel
theorem dX13_toldTable_22 : decode cX13_toldTable 22 = .ok (.iload_n 1, 1) := by decide +kernel
theorem dX13_toldTable_23 : decode cX13_toldTable 23 = .ok (.baload, 1) := by decide +kernel
theorem dX13_toldTable_24 : decode cX13_toldTable 24 = .ok (.ifCond .ne 13, 3) := by decide +kernel
theorem dX13_toldTable_27 : decode cX13_toldTable 27 = .ok (.aload_n 0, 1) := by decide +kernel
theorem dX13_toldTable_28 : decode cX13_toldTable 28 = .ok (.bipush 16, 2) := by decide +kernel
theorem dX13_toldTable_30 : decode cX13_toldTable 30 = .ok (.iload_n 3, 1) := by decide +kernel
theorem dX13_toldTable_31 : decode cX13_toldTable 31 = .ok (.invokevirtual 263, 3) := by decide +kernel
theorem dX13_toldTable_34 : decode cX13_toldTable 34 = .ok (.ifCond .eq 7, 3) := by decide +kernel
theorem dX13_toldTable_37 : decode cX13_toldTable 37 = .ok (.iconst 1, 1) := by decide +kernel
theorem dX13_toldTable_38 : decode cX13_toldTable 38 = .ok (.goto 4, 3) := by decide +kernel
theorem dX13_toldTable_41 : decode cX13_toldTable 41 = .ok (.iconst 0, 1) := by decide +kernel
theorem dX13_toldTable_42 : decode cX13_toldTable 42 = .ok (.ireturn, 1) := by decide +kernel
theorem dX13_toldTable_43 : decode cX13_toldTable 43 = .ok (.iload_n 2, 1) := by decide +kernel
theorem dX13_toldTable_44 : decode cX13_toldTable 44 = .ok (.iconst 1, 1) := by decide +kernel
theorem dX13_toldTable_45 : decode cX13_toldTable 45 = .ok (.if_icmp .ne 74, 3) := by decide +kernel
theorem dX13_toldTable_48 : decode cX13_toldTable 48 = .ok (.aload_n 0, 1) := by decide +kernel
theorem dX13_toldTable_49 : decode cX13_toldTable 49 = .ok (.getfield 370, 3) := by decide +kernel
theorem dX13_toldTable_52 : decode cX13_toldTable 52 = .ok (.iload 4, 2) := by decide +kernel
theorem dX13_toldTable_54 : decode cX13_toldTable 54 = .ok (.if_icmp .ge 23, 3) := by decide +kernel
theorem dX13_toldTable_57 : decode cX13_toldTable 57 = .ok (.aload_n 0, 1) := by decide +kernel
theorem dX13_toldTable_58 : decode cX13_toldTable 58 = .ok (.getfield 7, 3) := by decide +kernel
theorem dX13_toldTable_61 : decode cX13_toldTable 61 = .ok (.aload_n 0, 1) := by decide +kernel
theorem dX13_toldTable_62 : decode cX13_toldTable 62 = .ok (.getfield 370, 3) := by decide +kernel
theorem dX13_toldTable_65 : decode cX13_toldTable 65 = .ok (.baload, 1) := by decide +kernel
theorem dX13_toldTable_66 : decode cX13_toldTable 66 = .ok (.sipush 255, 3) := by decide +kernel
theorem dX13_toldTable_69 : decode cX13_toldTable 69 = .ok (.iand, 1) := by decide +kernel
theorem dX13_toldTable_70 : decode cX13_toldTable 70 = .ok (.iload_n 1, 1) := by decide +kernel
theorem dX13_toldTable_71 : decode cX13_toldTable 71 = .ok (.invokestatic 219, 3) := by decide +kernel
theorem dX13_toldTable_74 : decode cX13_toldTable 74 = .ok (.if_icmp .le 14, 3) := by decide +kernel
theorem dX13_toldTable_77 : decode cX13_toldTable 77 = .ok (.aload_n 0, 1) := by decide +kernel
theorem dX13_toldTable_78 : decode cX13_toldTable 78 = .ok (.bipush 15, 2) := by decide +kernel
theorem dX13_toldTable_80 : decode cX13_toldTable 80 = .ok (.aload_n 0, 1) := by decide +kernel
theorem dX13_toldTable_81 : decode cX13_toldTable 81 = .ok (.getfield 370, 3) := by decide +kernel
theorem dX13_toldTable_84 : decode cX13_toldTable 84 = .ok (.invokevirtual 263, 3) := by decide +kernel
theorem dX13_toldTable_87 : decode cX13_toldTable 87 = .ok (.ireturn, 1) := by decide +kernel
theorem dX13_toldTable_88 : decode cX13_toldTable 88 = .ok (.aload_n 0, 1) := by decide +kernel
theorem dX13_toldTable_89 : decode cX13_toldTable 89 = .ok (.iload_n 1, 1) := by decide +kernel
theorem dX13_toldTable_90 : decode cX13_toldTable 90 = .ok (.aload_n 0, 1) := by decide +kernel
theorem dX13_toldTable_91 : decode cX13_toldTable 91 = .ok (.getfield 7, 3) := by decide +kernel
theorem dX13_toldTable_94 : decode cX13_toldTable 94 = .ok (.aload_n 0, 1) := by decide +kernel
theorem dX13_toldTable_95 : decode cX13_toldTable 95 = .ok (.getfield 370, 3) := by decide +kernel
theorem dX13_toldTable_98 : decode cX13_toldTable 98 = .ok (.baload, 1) := by decide +kernel
theorem dX13_toldTable_99 : decode cX13_toldTable 99 = .ok (.sipush 255, 3) := by decide +kernel
theorem dX13_toldTable_102 : decode cX13_toldTable 102 = .ok (.iand, 1) := by decide +kernel
theorem dX13_toldTable_103 : decode cX13_toldTable 103 = .ok (.invokevirtual 373, 3) := by decide +kernel
theorem dX13_toldTable_106 : decode cX13_toldTable 106 = .ok (.aload_n 0, 1) := by decide +kernel
theorem dX13_toldTable_107 : decode cX13_toldTable 107 = .ok (.dup, 1) := by decide +kernel
theorem dX13_toldTable_108 : decode cX13_toldTable 108 = .ok (.getfield 370, 3) := by decide +kernel
theorem dX13_toldTable_111 : decode cX13_toldTable 111 = .ok (.iconst 1, 1) := by decide +kernel
theorem dX13_toldTable_112 : decode cX13_toldTable 112 = .ok (.iadd, 1) := by decide +kernel
theorem dX13_toldTable_113 : decode cX13_toldTable 113 = .ok (.putfield 370, 3) := by decide +kernel
theorem dX13_toldTable_116 : decode cX13_toldTable 116 = .ok (.goto 50, 3) := by decide +kernel
theorem dX13_toldTable_119 : decode cX13_toldTable 119 = .ok (.aload_n 0, 1) := by decide +kernel
theorem dX13_toldTable_120 : decode cX13_toldTable 120 = .ok (.aload_n 0, 1) := by decide +kernel
theorem dX13_toldTable_121 : decode cX13_toldTable 121 = .ok (.getfield 370, 3) := by decide +kernel
theorem dX13_toldTable_124 : decode cX13_toldTable 124 = .ok (.iload 4, 2) := by decide +kernel
theorem dX13_toldTable_126 : decode cX13_toldTable 126 = .ok (.iload_n 1, 1) := by decide +kernel
theorem dX13_toldTable_127 : decode cX13_toldTable 127 = .ok (.invokestatic 219, 3) := by decide +kernel
theorem dX13_toldTable_130 : decode cX13_toldTable 130 = .ok (.iload_n 1, 1) := by decide +kernel
theorem dX13_toldTable_131 : decode cX13_toldTable 131 = .ok (.invokestatic 280, 3) := by decide +kernel
theorem dX13_toldTable_134 : decode cX13_toldTable 134 = .ok (.invokevirtual 226, 3) := by decide +kernel
theorem dX13_toldTable_137 : decode cX13_toldTable 137 = .ok (.istore 5, 2) := by decide +kernel
theorem dX13_toldTable_139 : decode cX13_toldTable 139 = .ok (.iload 5, 2) := by decide +kernel
theorem dX13_toldTable_141 : decode cX13_toldTable 141 = .ok (.ifCond .ge 14, 3) := by decide +kernel
theorem dX13_toldTable_144 : decode cX13_toldTable 144 = .ok (.aload_n 0, 1) := by decide +kernel
theorem dX13_toldTable_145 : decode cX13_toldTable 145 = .ok (.bipush 15, 2) := by decide +kernel
theorem dX13_toldTable_147 : decode cX13_toldTable 147 = .ok (.aload_n 0, 1) := by decide +kernel
theorem dX13_toldTable_148 : decode cX13_toldTable 148 = .ok (.getfield 370, 3) := by decide +kernel
theorem dX13_toldTable_151 : decode cX13_toldTable 151 = .ok (.invokevirtual 263, 3) := by decide +kernel
theorem dX13_toldTable_154 : decode cX13_toldTable 154 = .ok (.ireturn, 1) := by decide +kernel
theorem dX13_toldTable_155 : decode cX13_toldTable 155 = .ok (.aload_n 0, 1) := by decide +kernel
theorem dX13_toldTable_156 : decode cX13_toldTable 156 = .ok (.iload_n 1, 1) := by decide +kernel
theorem dX13_toldTable_157 : decode cX13_toldTable 157 = .ok (.invokevirtual 222, 3) := by decide +kernel
theorem dX13_toldTable_160 : decode cX13_toldTable 160 = .ok (.aload_n 0, 1) := by decide +kernel
theorem dX13_toldTable_161 : decode cX13_toldTable 161 = .ok (.iload 5, 2) := by decide +kernel
theorem dX13_toldTable_163 : decode cX13_toldTable 163 = .ok (.putfield 370, 3) := by decide +kernel
theorem dX13_toldTable_166 : decode cX13_toldTable 166 = .ok (.iconst 1, 1) := by decide +kernel
theorem dX13_toldTable_167 : decode cX13_toldTable 167 = .ok (.ireturn, 1) := by decide +kernel
theorem dX13_sections_0 : decode cX13_sections 0 = .ok (.aload_n 0, 1) := by decide +kernel
theorem dX13_sections_1 : decode cX13_sections 1 = .ok (.iconst 0, 1) := by decide +kernel
theorem dX13_sections_2 : decode cX13_sections 2 = .ok (.putfield 376, 3) := by decide +kernel
theorem dX13_sections_5 : decode cX13_sections 5 = .ok (.iload_n 1, 1) := by decide +kernel
theorem dX13_sections_6 : decode cX13_sections 6 = .ok (.iload_n 2, 1) := by decide +kernel
theorem dX13_sections_7 : decode cX13_sections 7 = .ok (.if_icmp .lt 12, 3) := by decide +kernel
theorem dX13_sections_10 : decode cX13_sections 10 = .ok (.aload_n 0, 1) := by decide +kernel
theorem dX13_sections_11 : decode cX13_sections 11 = .ok (.bipush 14, 2) := by decide +kernel
theorem dX13_sections_13 : decode cX13_sections 13 = .ok (.iload_n 1, 1) := by decide +kernel
theorem dX13_sections_14 : decode cX13_sections 14 = .ok (.invokevirtual 263, 3) := by decide +kernel
theorem dX13_sections_17 : decode cX13_sections 17 = .ok (.pop, 1) := by decide +kernel
theorem dX13_sections_18 : decode cX13_sections 18 = .ok (.return_, 1) := by decide +kernel
theorem dX13_sections_19 : decode cX13_sections 19 = .ok (.aload_n 0, 1) := by decide +kernel
theorem dX13_sections_20 : decode cX13_sections 20 = .ok (.getfield 7, 3) := by decide +kernel
theorem dX13_sections_23 : decode cX13_sections 23 = .ok (.iload_n 1, 1) := by decide +kernel
theorem dX13_sections_24 : decode cX13_sections 24 = .ok (.baload, 1) := by decide +kernel
theorem dX13_sections_25 : decode cX13_sections 25 = .ok (.sipush 255, 3) := by decide +kernel
theorem dX13_sections_28 : decode cX13_sections 28 = .ok (.iand, 1) := by decide +kernel
theorem dX13_sections_29 : decode cX13_sections 29 = .ok (.istore_n 3, 1) := by decide +kernel
theorem dX13_sections_30 : decode cX13_sections 30 = .ok (.iload_n 3, 1) := by decide +kernel
theorem dX13_sections_31 : decode cX13_sections 31 = .ok (.sipush 128, 3) := by decide +kernel
theorem dX13_sections_34 : decode cX13_sections 34 = .ok (.if_icmp .ge 7, 3) := by decide +kernel
theorem dX13_sections_37 : decode cX13_sections 37 = .ok (.iconst 1, 1) := by decide +kernel
theorem dX13_sections_38 : decode cX13_sections 38 = .ok (.goto 15, 3) := by decide +kernel
theorem dX13_sections_41 : decode cX13_sections 41 = .ok (.iload_n 3, 1) := by decide +kernel
theorem dX13_sections_42 : decode cX13_sections 42 = .ok (.sipush 255, 3) := by decide +kernel
theorem dX13_sections_45 : decode cX13_sections 45 = .ok (.if_icmp .ge 7, 3) := by decide +kernel
theorem dX13_sections_48 : decode cX13_sections 48 = .ok (.iconst 2, 1) := by decide +kernel
theorem dX13_sections_49 : decode cX13_sections 49 = .ok (.goto 4, 3) := by decide +kernel
theorem dX13_sections_52 : decode cX13_sections 52 = .ok (.iconst 3, 1) := by decide +kernel
theorem dX13_sections_53 : decode cX13_sections 53 = .ok (.istore 4, 2) := by decide +kernel
theorem dX13_sections_55 : decode cX13_sections 55 = .ok (.iload_n 2, 1) := by decide +kernel
theorem dX13_sections_56 : decode cX13_sections 56 = .ok (.iload_n 1, 1) := by decide +kernel
theorem dX13_sections_57 : decode cX13_sections 57 = .ok (.isub, 1) := by decide +kernel
theorem dX13_sections_58 : decode cX13_sections 58 = .ok (.iload 4, 2) := by decide +kernel
theorem dX13_sections_60 : decode cX13_sections 60 = .ok (.if_icmp .ge 12, 3) := by decide +kernel
theorem dX13_sections_63 : decode cX13_sections 63 = .ok (.aload_n 0, 1) := by decide +kernel
theorem dX13_sections_64 : decode cX13_sections 64 = .ok (.bipush 14, 2) := by decide +kernel
theorem dX13_sections_66 : decode cX13_sections 66 = .ok (.iload_n 1, 1) := by decide +kernel
theorem dX13_sections_67 : decode cX13_sections 67 = .ok (.invokevirtual 263, 3) := by decide +kernel
theorem dX13_sections_70 : decode cX13_sections 70 = .ok (.pop, 1) := by decide +kernel
theorem dX13_sections_71 : decode cX13_sections 71 = .ok (.return_, 1) := by decide +kernel
theorem dX13_sections_72 : decode cX13_sections 72 = .ok (.iload_n 3, 1) := by decide +kernel
theorem dX13_sections_73 : decode cX13_sections 73 = .ok (.sipush 128, 3) := by decide +kernel
theorem dX13_sections_76 : decode cX13_sections 76 = .ok (.if_icmp .ge 7, 3) := by decide +kernel
theorem dX13_sections_79 : decode cX13_sections 79 = .ok (.iload_n 3, 1) := by decide +kernel
theorem dX13_sections_80 : decode cX13_sections 80 = .ok (.goto 51, 3) := by decide +kernel
theorem dX13_sections_83 : decode cX13_sections 83 = .ok (.iload_n 3, 1) := by decide +kernel
theorem dX13_sections_84 : decode cX13_sections 84 = .ok (.sipush 255, 3) := by decide +kernel
theorem dX13_sections_87 : decode cX13_sections 87 = .ok (.if_icmp .ge 28, 3) := by decide +kernel
theorem dX13_sections_90 : decode cX13_sections 90 = .ok (.sipush 256, 3) := by decide +kernel
theorem dX13_sections_93 : decode cX13_sections 93 = .ok (.iload_n 3, 1) := by decide +kernel
theorem dX13_sections_94 : decode cX13_sections 94 = .ok (.sipush 128, 3) := by decide +kernel
theorem dX13_sections_97 : decode cX13_sections 97 = .ok (.isub, 1) := by decide +kernel
theorem dX13_sections_98 : decode cX13_sections 98 = .ok (.imul, 1) := by decide +kernel
theorem dX13_sections_99 : decode cX13_sections 99 = .ok (.aload_n 0, 1) := by decide +kernel
theorem dX13_sections_100 : decode cX13_sections 100 = .ok (.getfield 7, 3) := by decide +kernel
theorem dX13_sections_103 : decode cX13_sections 103 = .ok (.iload_n 1, 1) := by decide +kernel
theorem dX13_sections_104 : decode cX13_sections 104 = .ok (.iconst 1, 1) := by decide +kernel
theorem dX13_sections_105 : decode cX13_sections 105 = .ok (.iadd, 1) := by decide +kernel
theorem dX13_sections_106 : decode cX13_sections 106 = .ok (.baload, 1) := by decide +kernel
theorem dX13_sections_107 : decode cX13_sections 107 = .ok (.sipush 255, 3) := by decide +kernel
theorem dX13_sections_110 : decode cX13_sections 110 = .ok (.iand, 1) := by decide +kernel
theorem dX13_sections_111 : decode cX13_sections 111 = .ok (.iadd, 1) := by decide +kernel
theorem dX13_sections_112 : decode cX13_sections 112 = .ok (.goto 19, 3) := by decide +kernel
theorem dX13_sections_115 : decode cX13_sections 115 = .ok (.aload_n 0, 1) := by decide +kernel
theorem dX13_sections_116 : decode cX13_sections 116 = .ok (.getfield 7, 3) := by decide +kernel
theorem dX13_sections_119 : decode cX13_sections 119 = .ok (.iload_n 1, 1) := by decide +kernel
theorem dX13_sections_120 : decode cX13_sections 120 = .ok (.iconst 1, 1) := by decide +kernel
theorem dX13_sections_121 : decode cX13_sections 121 = .ok (.iadd, 1) := by decide +kernel
theorem dX13_sections_122 : decode cX13_sections 122 = .ok (.iconst 2, 1) := by decide +kernel
theorem dX13_sections_123 : decode cX13_sections 123 = .ok (.invokestatic 175, 3) := by decide +kernel
theorem dX13_sections_126 : decode cX13_sections 126 = .ok (.l2i, 1) := by decide +kernel
theorem dX13_sections_127 : decode cX13_sections 127 = .ok (.sipush 32512, 3) := by decide +kernel
theorem dX13_sections_130 : decode cX13_sections 130 = .ok (.iadd, 1) := by decide +kernel
theorem dX13_sections_131 : decode cX13_sections 131 = .ok (.istore 5, 2) := by decide +kernel
theorem dX13_sections_133 : decode cX13_sections 133 = .ok (.iload 5, 2) := by decide +kernel
theorem dX13_sections_135 : decode cX13_sections 135 = .ok (.ifCond .ne 20, 3) := by decide +kernel
theorem dX13_sections_138 : decode cX13_sections 138 = .ok (.iload_n 1, 1) := by decide +kernel
theorem dX13_sections_139 : decode cX13_sections 139 = .ok (.iload 4, 2) := by decide +kernel
theorem dX13_sections_141 : decode cX13_sections 141 = .ok (.iadd, 1) := by decide +kernel
theorem dX13_sections_142 : decode cX13_sections 142 = .ok (.iload_n 2, 1) := by decide +kernel
theorem dX13_sections_143 : decode cX13_sections 143 = .ok (.if_icmp .eq 125, 3) := by decide +kernel
theorem dX13_sections_146 : decode cX13_sections 146 = .ok (.aload_n 0, 1) := by decide +kernel
theorem dX13_sections_147 : decode cX13_sections 147 = .ok (.bipush 14, 2) := by decide +kernel
theorem dX13_sections_149 : decode cX13_sections 149 = .ok (.iload_n 1, 1) := by decide +kernel
theorem dX13_sections_150 : decode cX13_sections 150 = .ok (.invokevirtual 263, 3) := by decide +kernel
theorem dX13_sections_153 : decode cX13_sections 153 = .ok (.pop, 1) := by decide +kernel
theorem dX13_sections_154 : decode cX13_sections 154 = .ok (.return_, 1) := by decide +kernel
theorem dX13_sections_155 : decode cX13_sections 155 = .ok (.iload_n 2, 1) := by decide +kernel
theorem dX13_sections_156 : decode cX13_sections 156 = .ok (.iload_n 1, 1) := by decide +kernel
theorem dX13_sections_157 : decode cX13_sections 157 = .ok (.isub, 1) := by decide +kernel
theorem dX13_sections_158 : decode cX13_sections 158 = .ok (.iload 4, 2) := by decide +kernel
theorem dX13_sections_160 : decode cX13_sections 160 = .ok (.if_icmp .le 17, 3) := by decide +kernel
theorem dX13_sections_163 : decode cX13_sections 163 = .ok (.aload_n 0, 1) := by decide +kernel
theorem dX13_sections_164 : decode cX13_sections 164 = .ok (.getfield 7, 3) := by decide +kernel
theorem dX13_sections_167 : decode cX13_sections 167 = .ok (.iload_n 1, 1) := by decide +kernel
theorem dX13_sections_168 : decode cX13_sections 168 = .ok (.iload 4, 2) := by decide +kernel
theorem dX13_sections_170 : decode cX13_sections 170 = .ok (.iadd, 1) := by decide +kernel
theorem dX13_sections_171 : decode cX13_sections 171 = .ok (.baload, 1) := by decide +kernel
theorem dX13_sections_172 : decode cX13_sections 172 = .ok (.iconst 3, 1) := by decide +kernel
theorem dX13_sections_173 : decode cX13_sections 173 = .ok (.iand, 1) := by decide +kernel
theorem dX13_sections_174 : decode cX13_sections 174 = .ok (.ifCond .le 12, 3) := by decide +kernel
theorem dX13_sections_177 : decode cX13_sections 177 = .ok (.aload_n 0, 1) := by decide +kernel
theorem dX13_sections_178 : decode cX13_sections 178 = .ok (.bipush 14, 2) := by decide +kernel
theorem dX13_sections_180 : decode cX13_sections 180 = .ok (.iload_n 1, 1) := by decide +kernel
theorem dX13_sections_181 : decode cX13_sections 181 = .ok (.invokevirtual 263, 3) := by decide +kernel
theorem dX13_sections_184 : decode cX13_sections 184 = .ok (.pop, 1) := by decide +kernel
theorem dX13_sections_185 : decode cX13_sections 185 = .ok (.return_, 1) := by decide +kernel
theorem dX13_sections_186 : decode cX13_sections 186 = .ok (.aload_n 0, 1) := by decide +kernel
theorem dX13_sections_187 : decode cX13_sections 187 = .ok (.getfield 7, 3) := by decide +kernel
theorem dX13_sections_190 : decode cX13_sections 190 = .ok (.iload_n 1, 1) := by decide +kernel
theorem dX13_sections_191 : decode cX13_sections 191 = .ok (.iload 4, 2) := by decide +kernel
theorem dX13_sections_193 : decode cX13_sections 193 = .ok (.iadd, 1) := by decide +kernel
theorem dX13_sections_194 : decode cX13_sections 194 = .ok (.baload, 1) := by decide +kernel
theorem dX13_sections_195 : decode cX13_sections 195 = .ok (.istore 6, 2) := by decide +kernel
theorem dX13_sections_197 : decode cX13_sections 197 = .ok (.aload_n 0, 1) := by decide +kernel
theorem dX13_sections_198 : decode cX13_sections 198 = .ok (.iload_n 1, 1) := by decide +kernel
theorem dX13_sections_199 : decode cX13_sections 199 = .ok (.iload 4, 2) := by decide +kernel
theorem dX13_sections_201 : decode cX13_sections 201 = .ok (.iadd, 1) := by decide +kernel
theorem dX13_sections_202 : decode cX13_sections 202 = .ok (.iconst 1, 1) := by decide +kernel
theorem dX13_sections_203 : decode cX13_sections 203 = .ok (.iadd, 1) := by decide +kernel
theorem dX13_sections_204 : decode cX13_sections 204 = .ok (.putfield 370, 3) := by decide +kernel
theorem dX13_sections_207 : decode cX13_sections 207 = .ok (.aload_n 0, 1) := by decide +kernel
theorem dX13_sections_208 : decode cX13_sections 208 = .ok (.iconst 0, 1) := by decide +kernel
theorem dX13_sections_209 : decode cX13_sections 209 = .ok (.iload 6, 2) := by decide +kernel
theorem dX13_sections_211 : decode cX13_sections 211 = .ok (.bipush 6, 2) := by decide +kernel
theorem dX13_sections_213 : decode cX13_sections 213 = .ok (.ishr, 1) := by decide +kernel
theorem dX13_sections_214 : decode cX13_sections 214 = .ok (.iconst 3, 1) := by decide +kernel
theorem dX13_sections_215 : decode cX13_sections 215 = .ok (.iand, 1) := by decide +kernel
theorem dX13_sections_216 : decode cX13_sections 216 = .ok (.iload_n 1, 1) := by decide +kernel
theorem dX13_sections_217 : decode cX13_sections 217 = .ok (.iload_n 2, 1) := by decide +kernel
theorem dX13_sections_218 : decode cX13_sections 218 = .ok (.invokevirtual 379, 3) := by decide +kernel
theorem dX13_sections_221 : decode cX13_sections 221 = .ok (.ifCond .eq 35, 3) := by decide +kernel
theorem dX13_sections_224 : decode cX13_sections 224 = .ok (.aload_n 0, 1) := by decide +kernel
theorem dX13_sections_225 : decode cX13_sections 225 = .ok (.iconst 1, 1) := by decide +kernel
theorem dX13_sections_226 : decode cX13_sections 226 = .ok (.iload 6, 2) := by decide +kernel
theorem dX13_sections_228 : decode cX13_sections 228 = .ok (.iconst 4, 1) := by decide +kernel
theorem dX13_sections_229 : decode cX13_sections 229 = .ok (.ishr, 1) := by decide +kernel
theorem dX13_sections_230 : decode cX13_sections 230 = .ok (.iconst 3, 1) := by decide +kernel
theorem dX13_sections_231 : decode cX13_sections 231 = .ok (.iand, 1) := by decide +kernel
theorem dX13_sections_232 : decode cX13_sections 232 = .ok (.iload_n 1, 1) := by decide +kernel
theorem dX13_sections_233 : decode cX13_sections 233 = .ok (.iload_n 2, 1) := by decide +kernel
theorem dX13_sections_234 : decode cX13_sections 234 = .ok (.invokevirtual 379, 3) := by decide +kernel
theorem dX13_sections_237 : decode cX13_sections 237 = .ok (.ifCond .eq 19, 3) := by decide +kernel
theorem dX13_sections_240 : decode cX13_sections 240 = .ok (.aload_n 0, 1) := by decide +kernel
theorem dX13_sections_241 : decode cX13_sections 241 = .ok (.iconst 2, 1) := by decide +kernel
theorem dX13_sections_242 : decode cX13_sections 242 = .ok (.iload 6, 2) := by decide +kernel
theorem dX13_sections_244 : decode cX13_sections 244 = .ok (.iconst 2, 1) := by decide +kernel
theorem dX13_sections_245 : decode cX13_sections 245 = .ok (.ishr, 1) := by decide +kernel
theorem dX13_sections_246 : decode cX13_sections 246 = .ok (.iconst 3, 1) := by decide +kernel
theorem dX13_sections_247 : decode cX13_sections 247 = .ok (.iand, 1) := by decide +kernel
theorem dX13_sections_248 : decode cX13_sections 248 = .ok (.iload_n 1, 1) := by decide +kernel
theorem dX13_sections_249 : decode cX13_sections 249 = .ok (.iload_n 2, 1) := by decide +kernel
theorem dX13_sections_250 : decode cX13_sections 250 = .ok (.invokevirtual 379, 3) := by decide +kernel
theorem dX13_sections_253 : decode cX13_sections 253 = .ok (.ifCond .ne 4, 3) := by decide +kernel
theorem dX13_sections_256 : decode cX13_sections 256 = .ok (.return_, 1) := by decide +kernel
theorem dX13_sections_257 : decode cX13_sections 257 = .ok (.aload_n 0, 1) := by decide +kernel
theorem dX13_sections_258 : decode cX13_sections 258 = .ok (.iload 5, 2) := by decide +kernel
theorem dX13_sections_260 : decode cX13_sections 260 = .ok (.aload_n 0, 1) := by decide +kernel
theorem dX13_sections_261 : decode cX13_sections 261 = .ok (.getfield 370, 3) := by decide +kernel
theorem dX13_sections_264 : decode cX13_sections 264 = .ok (.iload_n 2, 1) := by decide +kernel
theorem dX13_sections_265 : decode cX13_sections 265 = .ok (.invokevirtual 382, 3) := by decide +kernel
theorem dX13_sections_268 : decode cX13_sections 268 = .ok (.aload_n 0, 1) := by decide +kernel
theorem dX13_sections_269 : decode cX13_sections 269 = .ok (.getfield 158, 3) := by decide +kernel
theorem dX13_sections_272 : decode cX13_sections 272 = .ok (.ifCond .le 4, 3) := by decide +kernel
theorem dX13_sections_275 : decode cX13_sections 275 = .ok (.return_, 1) := by decide +kernel
theorem dX13_sections_276 : decode cX13_sections 276 = .ok (.aload_n 0, 1) := by decide +kernel
theorem dX13_sections_277 : decode cX13_sections 277 = .ok (.getfield 344, 3) := by decide +kernel
theorem dX13_sections_280 : decode cX13_sections 280 = .ok (.aload_n 0, 1) := by decide +kernel
theorem dX13_sections_281 : decode cX13_sections 281 = .ok (.getfield 353, 3) := by decide +kernel
theorem dX13_sections_284 : decode cX13_sections 284 = .ok (.iadd, 1) := by decide +kernel
theorem dX13_sections_285 : decode cX13_sections 285 = .ok (.aload_n 0, 1) := by decide +kernel
theorem dX13_sections_286 : decode cX13_sections 286 = .ok (.getfield 376, 3) := by decide +kernel
theorem dX13_sections_289 : decode cX13_sections 289 = .ok (.isub, 1) := by decide +kernel
theorem dX13_sections_290 : decode cX13_sections 290 = .ok (.aload_n 0, 1) := by decide +kernel
theorem dX13_sections_291 : decode cX13_sections 291 = .ok (.getfield 324, 3) := by decide +kernel
theorem dX13_sections_294 : decode cX13_sections 294 = .ok (.if_icmp .le 15, 3) := by decide +kernel
theorem dX13_sections_297 : decode cX13_sections 297 = .ok (.aload_n 0, 1) := by decide +kernel
theorem dX13_sections_298 : decode cX13_sections 298 = .ok (.bipush 20, 2) := by decide +kernel
theorem dX13_sections_300 : decode cX13_sections 300 = .ok (.aload_n 0, 1) := by decide +kernel
theorem dX13_sections_301 : decode cX13_sections 301 = .ok (.getfield 370, 3) := by decide +kernel
theorem dX13_sections_304 : decode cX13_sections 304 = .ok (.invokevirtual 263, 3) := by decide +kernel
theorem dX13_sections_307 : decode cX13_sections 307 = .ok (.pop, 1) := by decide +kernel
theorem dX13_sections_308 : decode cX13_sections 308 = .ok (.return_, 1) := by decide +kernel
theorem dX13_sections_309 : decode cX13_sections 309 = .ok (.aload_n 0, 1) := by decide +kernel
theorem dX13_sections_310 : decode cX13_sections 310 = .ok (.getfield 376, 3) := by decide +kernel
theorem dX13_sections_313 : decode cX13_sections 313 = .ok (.aload_n 0, 1) := by decide +kernel
theorem dX13_sections_314 : decode cX13_sections 314 = .ok (.getfield 353, 3) := by decide +kernel
theorem dX13_sections_317 : decode cX13_sections 317 = .ok (.if_icmp .ge 44, 3) := by decide +kernel
theorem dX13_sections_320 : decode cX13_sections 320 = .ok (.aload_n 0, 1) := by decide +kernel
theorem dX13_sections_321 : decode cX13_sections 321 = .ok (.getfield 75, 3) := by decide +kernel
theorem dX13_sections_324 : decode cX13_sections 324 = .ok (.aload_n 0, 1) := by decide +kernel
theorem dX13_sections_325 : decode cX13_sections 325 = .ok (.getfield 344, 3) := by decide +kernel
theorem dX13_sections_328 : decode cX13_sections 328 = .ok (.aload_n 0, 1) := by decide +kernel
theorem dX13_sections_329 : decode cX13_sections 329 = .ok (.getfield 79, 3) := by decide +kernel
theorem dX13_sections_332 : decode cX13_sections 332 = .ok (.aload_n 0, 1) := by decide +kernel
theorem dX13_sections_333 : decode cX13_sections 333 = .ok (.getfield 376, 3) := by decide +kernel
theorem dX13_sections_336 : decode cX13_sections 336 = .ok (.baload, 1) := by decide +kernel
theorem dX13_sections_337 : decode cX13_sections 337 = .ok (.bastore, 1) := by decide +kernel
theorem dX13_sections_338 : decode cX13_sections 338 = .ok (.aload_n 0, 1) := by decide +kernel
theorem dX13_sections_339 : decode cX13_sections 339 = .ok (.dup, 1) := by decide +kernel
theorem dX13_sections_340 : decode cX13_sections 340 = .ok (.getfield 344, 3) := by decide +kernel
theorem dX13_sections_343 : decode cX13_sections 343 = .ok (.iconst 1, 1) := by decide +kernel
theorem dX13_sections_344 : decode cX13_sections 344 = .ok (.iadd, 1) := by decide +kernel
theorem dX13_sections_345 : decode cX13_sections 345 = .ok (.putfield 344, 3) := by decide +kernel
theorem dX13_sections_348 : decode cX13_sections 348 = .ok (.aload_n 0, 1) := by decide +kernel
theorem dX13_sections_349 : decode cX13_sections 349 = .ok (.dup, 1) := by decide +kernel
theorem dX13_sections_350 : decode cX13_sections 350 = .ok (.getfield 376, 3) := by decide +kernel
theorem dX13_sections_353 : decode cX13_sections 353 = .ok (.iconst 1, 1) := by decide +kernel
theorem dX13_sections_354 : decode cX13_sections 354 = .ok (.iadd, 1) := by decide +kernel
theorem dX13_sections_355 : decode cX13_sections 355 = .ok (.putfield 376, 3) := by decide +kernel
theorem dX13_sections_358 : decode cX13_sections 358 = .ok (.goto (-49), 3) := by decide +kernel
theorem dX13_sections_361 : decode cX13_sections 361 = .ok (.return_, 1) := by decide +kernel
theorem dX13_all_0 : decode cX13_all 0 = .ok (.aload_n 0, 1) := by decide +kernel
theorem dX13_all_1 : decode cX13_all 1 = .ok (.iload_n 2, 1) := by decide +kernel
theorem dX13_all_2 : decode cX13_all 2 = .ok (.iload_n 3, 1) := by decide +kernel
theorem dX13_all_3 : decode cX13_all 3 = .ok (.invokevirtual 230, 3) := by decide +kernel
theorem dX13_all_6 : decode cX13_all 6 = .ok (.ifCond .ne 12, 3) := by decide +kernel
theorem dX13_all_9 : decode cX13_all 9 = .ok (.aload_n 0, 1) := by decide +kernel
theorem dX13_all_10 : decode cX13_all 10 = .ok (.bipush 17, 2) := by decide +kernel
theorem dX13_all_12 : decode cX13_all 12 = .ok (.iload_n 2, 1) := by decide +kernel
theorem dX13_all_13 : decode cX13_all 13 = .ok (.invokevirtual 263, 3) := by decide +kernel
theorem dX13_all_16 : decode cX13_all 16 = .ok (.pop, 1) := by decide +kernel
theorem dX13_all_17 : decode cX13_all 17 = .ok (.return_, 1) := by decide +kernel
theorem dX13_all_18 : decode cX13_all 18 = .ok (.aload_n 0, 1) := by decide +kernel
theorem dX13_all_19 : decode cX13_all 19 = .ok (.aload_n 0, 1) := by decide +kernel
theorem dX13_all_20 : decode cX13_all 20 = .ok (.getfield 37, 3) := by decide +kernel
theorem dX13_all_23 : decode cX13_all 23 = .ok (.iconst 0, 1) := by decide +kernel
theorem dX13_all_24 : decode cX13_all 24 = .ok (.iaload, 1) := by decide +kernel
theorem dX13_all_25 : decode cX13_all 25 = .ok (.invokevirtual 234, 3) := by decide +kernel
theorem dX13_all_28 : decode cX13_all 28 = .ok (.l2i, 1) := by decide +kernel
theorem dX13_all_29 : decode cX13_all 29 = .ok (.istore 4, 2) := by decide +kernel
theorem dX13_all_31 : decode cX13_all 31 = .ok (.aload_n 0, 1) := by decide +kernel
theorem dX13_all_32 : decode cX13_all 32 = .ok (.aload_n 0, 1) := by decide +kernel
theorem dX13_all_33 : decode cX13_all 33 = .ok (.getfield 37, 3) := by decide +kernel
theorem dX13_all_36 : decode cX13_all 36 = .ok (.iconst 1, 1) := by decide +kernel
theorem dX13_all_37 : decode cX13_all 37 = .ok (.iaload, 1) := by decide +kernel
theorem dX13_all_38 : decode cX13_all 38 = .ok (.invokevirtual 234, 3) := by decide +kernel
theorem dX13_all_41 : decode cX13_all 41 = .ok (.l2i, 1) := by decide +kernel
theorem dX13_all_42 : decode cX13_all 42 = .ok (.istore 5, 2) := by decide +kernel
theorem dX13_all_44 : decode cX13_all 44 = .ok (.aload_n 0, 1) := by decide +kernel
theorem dX13_all_45 : decode cX13_all 45 = .ok (.aload_n 0, 1) := by decide +kernel
theorem dX13_all_46 : decode cX13_all 46 = .ok (.getfield 37, 3) := by decide +kernel
theorem dX13_all_49 : decode cX13_all 49 = .ok (.iconst 2, 1) := by decide +kernel
theorem dX13_all_50 : decode cX13_all 50 = .ok (.iaload, 1) := by decide +kernel
theorem dX13_all_51 : decode cX13_all 51 = .ok (.invokevirtual 234, 3) := by decide +kernel
theorem dX13_all_54 : decode cX13_all 54 = .ok (.l2i, 1) := by decide +kernel
theorem dX13_all_55 : decode cX13_all 55 = .ok (.istore 6, 2) := by decide +kernel
theorem dX13_all_57 : decode cX13_all 57 = .ok (.aload_n 0, 1) := by decide +kernel
theorem dX13_all_58 : decode cX13_all 58 = .ok (.getfield 196, 3) := by decide +kernel
theorem dX13_all_61 : decode cX13_all 61 = .ok (.ifCond .eq 12, 3) := by decide +kernel
theorem dX13_all_64 : decode cX13_all 64 = .ok (.aload_n 0, 1) := by decide +kernel
theorem dX13_all_65 : decode cX13_all 65 = .ok (.bipush 17, 2) := by decide +kernel
theorem dX13_all_67 : decode cX13_all 67 = .ok (.iload_n 2, 1) := by decide +kernel
theorem dX13_all_68 : decode cX13_all 68 = .ok (.invokevirtual 263, 3) := by decide +kernel
theorem dX13_all_71 : decode cX13_all 71 = .ok (.pop, 1) := by decide +kernel
theorem dX13_all_72 : decode cX13_all 72 = .ok (.return_, 1) := by decide +kernel
theorem dX13_all_73 : decode cX13_all 73 = .ok (.iconst 0, 1) := by decide +kernel
theorem dX13_all_74 : decode cX13_all 74 = .ok (.istore 7, 2) := by decide +kernel
theorem dX13_all_76 : decode cX13_all 76 = .ok (.iload 7, 2) := by decide +kernel
theorem dX13_all_78 : decode cX13_all 78 = .ok (.iload_n 1, 1) := by decide +kernel
theorem dX13_all_79 : decode cX13_all 79 = .ok (.if_icmp .ge 226, 3) := by decide +kernel
theorem dX13_all_82 : decode cX13_all 82 = .ok (.aload_n 0, 1) := by decide +kernel
theorem dX13_all_83 : decode cX13_all 83 = .ok (.getfield 158, 3) := by decide +kernel
theorem dX13_all_86 : decode cX13_all 86 = .ok (.ifCond .ne 219, 3) := by decide +kernel
theorem dX13_all_89 : decode cX13_all 89 = .ok (.aload_n 0, 1) := by decide +kernel
theorem dX13_all_90 : decode cX13_all 90 = .ok (.getfield 27, 3) := by decide +kernel
theorem dX13_all_93 : decode cX13_all 93 = .ok (.sipush 512, 3) := by decide +kernel
theorem dX13_all_96 : decode cX13_all 96 = .ok (.iload 5, 2) := by decide +kernel
theorem dX13_all_98 : decode cX13_all 98 = .ok (.iadd, 1) := by decide +kernel
theorem dX13_all_99 : decode cX13_all 99 = .ok (.saload, 1) := by decide +kernel
theorem dX13_all_100 : decode cX13_all 100 = .ok (.istore 8, 2) := by decide +kernel
theorem dX13_all_102 : decode cX13_all 102 = .ok (.aload_n 0, 1) := by decide +kernel
theorem dX13_all_103 : decode cX13_all 103 = .ok (.getfield 27, 3) := by decide +kernel
theorem dX13_all_106 : decode cX13_all 106 = .ok (.sipush 1024, 3) := by decide +kernel
theorem dX13_all_109 : decode cX13_all 109 = .ok (.iload 6, 2) := by decide +kernel
theorem dX13_all_111 : decode cX13_all 111 = .ok (.iadd, 1) := by decide +kernel
theorem dX13_all_112 : decode cX13_all 112 = .ok (.saload, 1) := by decide +kernel
theorem dX13_all_113 : decode cX13_all 113 = .ok (.istore 9, 2) := by decide +kernel
theorem dX13_all_115 : decode cX13_all 115 = .ok (.aload_n 0, 1) := by decide +kernel
theorem dX13_all_116 : decode cX13_all 116 = .ok (.getfield 27, 3) := by decide +kernel
theorem dX13_all_119 : decode cX13_all 119 = .ok (.iload 4, 2) := by decide +kernel
theorem dX13_all_121 : decode cX13_all 121 = .ok (.saload, 1) := by decide +kernel
theorem dX13_all_122 : decode cX13_all 122 = .ok (.istore 10, 2) := by decide +kernel
theorem dX13_all_124 : decode cX13_all 124 = .ok (.lconst 1, 1) := by decide +kernel
theorem dX13_all_125 : decode cX13_all 125 = .ok (.iload 8, 2) := by decide +kernel
theorem dX13_all_127 : decode cX13_all 127 = .ok (.lshl, 1) := by decide +kernel
theorem dX13_all_128 : decode cX13_all 128 = .ok (.aload_n 0, 1) := by decide +kernel
theorem dX13_all_129 : decode cX13_all 129 = .ok (.iload 8, 2) := by decide +kernel
theorem dX13_all_131 : decode cX13_all 131 = .ok (.invokevirtual 234, 3) := by decide +kernel
theorem dX13_all_134 : decode cX13_all 134 = .ok (.ladd, 1) := by decide +kernel
theorem dX13_all_135 : decode cX13_all 135 = .ok (.lstore 11, 2) := by decide +kernel
theorem dX13_all_137 : decode cX13_all 137 = .ok (.iload 9, 2) := by decide +kernel
theorem dX13_all_139 : decode cX13_all 139 = .ok (.invokestatic 386, 3) := by decide +kernel
theorem dX13_all_142 : decode cX13_all 142 = .ok (.aload_n 0, 1) := by decide +kernel
theorem dX13_all_143 : decode cX13_all 143 = .ok (.iload 9, 2) := by decide +kernel
theorem dX13_all_145 : decode cX13_all 145 = .ok (.invokestatic 389, 3) := by decide +kernel
theorem dX13_all_148 : decode cX13_all 148 = .ok (.invokevirtual 234, 3) := by decide +kernel
theorem dX13_all_151 : decode cX13_all 151 = .ok (.l2i, 1) := by decide +kernel
theorem dX13_all_152 : decode cX13_all 152 = .ok (.iadd, 1) := by decide +kernel
theorem dX13_all_153 : decode cX13_all 153 = .ok (.istore 13, 2) := by decide +kernel
theorem dX13_all_155 : decode cX13_all 155 = .ok (.iload 10, 2) := by decide +kernel
theorem dX13_all_157 : decode cX13_all 157 = .ok (.invokestatic 392, 3) := by decide +kernel
theorem dX13_all_160 : decode cX13_all 160 = .ok (.aload_n 0, 1) := by decide +kernel
theorem dX13_all_161 : decode cX13_all 161 = .ok (.iload 10, 2) := by decide +kernel
theorem dX13_all_163 : decode cX13_all 163 = .ok (.invokestatic 395, 3) := by decide +kernel
theorem dX13_all_166 : decode cX13_all 166 = .ok (.invokevirtual 234, 3) := by decide +kernel
theorem dX13_all_169 : decode cX13_all 169 = .ok (.l2i, 1) := by decide +kernel
theorem dX13_all_170 : decode cX13_all 170 = .ok (.iadd, 1) := by decide +kernel
theorem dX13_all_171 : decode cX13_all 171 = .ok (.istore 14, 2) := by decide +kernel
theorem dX13_all_173 : decode cX13_all 173 = .ok (.aload_n 0, 1) := by decide +kernel
theorem dX13_all_174 : decode cX13_all 174 = .ok (.getfield 196, 3) := by decide +kernel
theorem dX13_all_177 : decode cX13_all 177 = .ok (.ifCond .ne 93, 3) := by decide +kernel
theorem dX13_all_180 : decode cX13_all 180 = .ok (.iload 7, 2) := by decide +kernel
theorem dX13_all_182 : decode cX13_all 182 = .ok (.iload_n 1, 1) := by decide +kernel
theorem dX13_all_183 : decode cX13_all 183 = .ok (.iconst 1, 1) := by decide +kernel
theorem dX13_all_184 : decode cX13_all 184 = .ok (.isub, 1) := by decide +kernel
theorem dX13_all_185 : decode cX13_all 185 = .ok (.if_icmp .ge 85, 3) := by decide +kernel
theorem dX13_all_188 : decode cX13_all 188 = .ok (.aload_n 0, 1) := by decide +kernel
theorem dX13_all_189 : decode cX13_all 189 = .ok (.getfield 34, 3) := by decide +kernel
theorem dX13_all_192 : decode cX13_all 192 = .ok (.iload 4, 2) := by decide +kernel
theorem dX13_all_194 : decode cX13_all 194 = .ok (.iaload, 1) := by decide +kernel
theorem dX13_all_195 : decode cX13_all 195 = .ok (.aload_n 0, 1) := by decide +kernel
theorem dX13_all_196 : decode cX13_all 196 = .ok (.aload_n 0, 1) := by decide +kernel
theorem dX13_all_197 : decode cX13_all 197 = .ok (.getfield 31, 3) := by decide +kernel
theorem dX13_all_200 : decode cX13_all 200 = .ok (.iload 4, 2) := by decide +kernel
theorem dX13_all_202 : decode cX13_all 202 = .ok (.baload, 1) := by decide +kernel
theorem dX13_all_203 : decode cX13_all 203 = .ok (.invokevirtual 234, 3) := by decide +kernel
theorem dX13_all_206 : decode cX13_all 206 = .ok (.l2i, 1) := by decide +kernel
theorem dX13_all_207 : decode cX13_all 207 = .ok (.iadd, 1) := by decide +kernel
theorem dX13_all_208 : decode cX13_all 208 = .ok (.istore 4, 2) := by decide +kernel
theorem dX13_all_210 : decode cX13_all 210 = .ok (.aload_n 0, 1) := by decide +kernel
theorem dX13_all_211 : decode cX13_all 211 = .ok (.getfield 34, 3) := by decide +kernel
theorem dX13_all_214 : decode cX13_all 214 = .ok (.sipush 1024, 3) := by decide +kernel
theorem dX13_all_217 : decode cX13_all 217 = .ok (.iload 6, 2) := by decide +kernel
theorem dX13_all_219 : decode cX13_all 219 = .ok (.iadd, 1) := by decide +kernel
theorem dX13_all_220 : decode cX13_all 220 = .ok (.iaload, 1) := by decide +kernel
theorem dX13_all_221 : decode cX13_all 221 = .ok (.aload_n 0, 1) := by decide +kernel
theorem dX13_all_222 : decode cX13_all 222 = .ok (.aload_n 0, 1) := by decide +kernel
theorem dX13_all_223 : decode cX13_all 223 = .ok (.getfield 31, 3) := by decide +kernel
theorem dX13_all_226 : decode cX13_all 226 = .ok (.sipush 1024, 3) := by decide +kernel
theorem dX13_all_229 : decode cX13_all 229 = .ok (.iload 6, 2) := by decide +kernel
theorem dX13_all_231 : decode cX13_all 231 = .ok (.iadd, 1) := by decide +kernel
theorem dX13_all_232 : decode cX13_all 232 = .ok (.baload, 1) := by decide +kernel
theorem dX13_all_233 : decode cX13_all 233 = .ok (.invokevirtual 234, 3) := by decide +kernel
theorem dX13_all_236 : decode cX13_all 236 = .ok (.l2i, 1) := by decide +kernel
theorem dX13_all_237 : decode cX13_all 237 = .ok (.iadd, 1) := by decide +kernel
theorem dX13_all_238 : decode cX13_all 238 = .ok (.istore 6, 2) := by decide +kernel
theorem dX13_all_240 : decode cX13_all 240 = .ok (.aload_n 0, 1) := by decide +kernel
theorem dX13_all_241 : decode cX13_all 241 = .ok (.getfield 34, 3) := by decide +kernel
theorem dX13_all_244 : decode cX13_all 244 = .ok (.sipush 512, 3) := by decide +kernel
theorem dX13_all_247 : decode cX13_all 247 = .ok (.iload 5, 2) := by decide +kernel
theorem dX13_all_249 : decode cX13_all 249 = .ok (.iadd, 1) := by decide +kernel
theorem dX13_all_250 : decode cX13_all 250 = .ok (.iaload, 1) := by decide +kernel
theorem dX13_all_251 : decode cX13_all 251 = .ok (.aload_n 0, 1) := by decide +kernel
theorem dX13_all_252 : decode cX13_all 252 = .ok (.aload_n 0, 1) := by decide +kernel
theorem dX13_all_253 : decode cX13_all 253 = .ok (.getfield 31, 3) := by decide +kernel
theorem dX13_all_256 : decode cX13_all 256 = .ok (.sipush 512, 3) := by decide +kernel
theorem dX13_all_259 : decode cX13_all 259 = .ok (.iload 5, 2) := by decide +kernel
theorem dX13_all_261 : decode cX13_all 261 = .ok (.iadd, 1) := by decide +kernel
theorem dX13_all_262 : decode cX13_all 262 = .ok (.baload, 1) := by decide +kernel
theorem dX13_all_263 : decode cX13_all 263 = .ok (.invokevirtual 234, 3) := by decide +kernel
theorem dX13_all_266 : decode cX13_all 266 = .ok (.l2i, 1) := by decide +kernel
theorem dX13_all_267 : decode cX13_all 267 = .ok (.iadd, 1) := by decide +kernel
theorem dX13_all_268 : decode cX13_all 268 = .ok (.istore 5, 2) := by decide +kernel
theorem dX13_all_270 : decode cX13_all 270 = .ok (.aload_n 0, 1) := by decide +kernel
theorem dX13_all_271 : decode cX13_all 271 = .ok (.getfield 196, 3) := by decide +kernel
theorem dX13_all_274 : decode cX13_all 274 = .ok (.ifCond .eq 14, 3) := by decide +kernel
theorem dX13_all_277 : decode cX13_all 277 = .ok (.aload_n 0, 1) := by decide +kernel
theorem dX13_all_278 : decode cX13_all 278 = .ok (.bipush 17, 2) := by decide +kernel
theorem dX13_all_280 : decode cX13_all 280 = .ok (.iload_n 2, 1) := by decide +kernel
theorem dX13_all_281 : decode cX13_all 281 = .ok (.invokevirtual 263, 3) := by decide +kernel
theorem dX13_all_284 : decode cX13_all 284 = .ok (.pop, 1) := by decide +kernel
theorem dX13_all_285 : decode cX13_all 285 = .ok (.goto 14, 3) := by decide +kernel
theorem dX13_all_288 : decode cX13_all 288 = .ok (.aload_n 0, 1) := by decide +kernel
theorem dX13_all_289 : decode cX13_all 289 = .ok (.iload 14, 2) := by decide +kernel
theorem dX13_all_291 : decode cX13_all 291 = .ok (.iload 13, 2) := by decide +kernel
theorem dX13_all_293 : decode cX13_all 293 = .ok (.lload 11, 2) := by decide +kernel
theorem dX13_all_295 : decode cX13_all 295 = .ok (.iload_n 2, 1) := by decide +kernel
theorem dX13_all_296 : decode cX13_all 296 = .ok (.invokevirtual 398, 3) := by decide +kernel
theorem dX13_all_299 : decode cX13_all 299 = .ok (.iinc 7 1, 3) := by decide +kernel
theorem dX13_all_302 : decode cX13_all 302 = .ok (.goto (-226), 3) := by decide +kernel
theorem dX13_all_305 : decode cX13_all 305 = .ok (.aload_n 0, 1) := by decide +kernel
theorem dX13_all_306 : decode cX13_all 306 = .ok (.getfield 158, 3) := by decide +kernel
theorem dX13_all_309 : decode cX13_all 309 = .ok (.ifCond .ne 18, 3) := by decide +kernel
theorem dX13_all_312 : decode cX13_all 312 = .ok (.aload_n 0, 1) := by decide +kernel
theorem dX13_all_313 : decode cX13_all 313 = .ok (.getfield 203, 3) := by decide +kernel
theorem dX13_all_316 : decode cX13_all 316 = .ok (.ifCond .le 11, 3) := by decide +kernel
theorem dX13_all_319 : decode cX13_all 319 = .ok (.aload_n 0, 1) := by decide +kernel
theorem dX13_all_320 : decode cX13_all 320 = .ok (.bipush 17, 2) := by decide +kernel
theorem dX13_all_322 : decode cX13_all 322 = .ok (.iload_n 2, 1) := by decide +kernel
theorem dX13_all_323 : decode cX13_all 323 = .ok (.invokevirtual 263, 3) := by decide +kernel
theorem dX13_all_326 : decode cX13_all 326 = .ok (.pop, 1) := by decide +kernel
theorem dX13_all_327 : decode cX13_all 327 = .ok (.return_, 1) := by decide +kernel
theorem dX13_meant_0 : decode cX13_meant 0 = .ok (.lload_n 0, 1) := by decide +kernel
theorem dX13_meant_1 : decode cX13_meant 1 = .ok (.ldc2_w 402, 3) := by decide +kernel
theorem dX13_meant_4 : decode cX13_meant 4 = .ok (.lcmp, 1) := by decide +kernel
theorem dX13_meant_5 : decode cX13_meant 5 = .ok (.ifCond .le 7, 3) := by decide +kernel
theorem dX13_meant_8 : decode cX13_meant 8 = .ok (.iconst 4, 1) := by decide +kernel
theorem dX13_meant_9 : decode cX13_meant 9 = .ok (.goto 15, 3) := by decide +kernel
theorem dX13_meant_12 : decode cX13_meant 12 = .ok (.lload_n 0, 1) := by decide +kernel
theorem dX13_meant_13 : decode cX13_meant 13 = .ok (.l2i, 1) := by decide +kernel
theorem dX13_meant_14 : decode cX13_meant 14 = .ok (.iload_n 2, 1) := by decide +kernel
theorem dX13_meant_15 : decode cX13_meant 15 = .ok (.ifCond .le 7, 3) := by decide +kernel
theorem dX13_meant_18 : decode cX13_meant 18 = .ok (.iconst 1, 1) := by decide +kernel
theorem dX13_meant_19 : decode cX13_meant 19 = .ok (.goto 4, 3) := by decide +kernel
theorem dX13_meant_22 : decode cX13_meant 22 = .ok (.iconst 0, 1) := by decide +kernel
theorem dX13_meant_23 : decode cX13_meant 23 = .ok (.isub, 1) := by decide +kernel
theorem dX13_meant_24 : decode cX13_meant 24 = .ok (.ireturn, 1) := by decide +kernel
theorem dX13_offsetOf_0 : decode cX13_offsetOf 0 = .ok (.lload_n 2, 1) := by decide +kernel
theorem dX13_offsetOf_1 : decode cX13_offsetOf 1 = .ok (.iload 4, 2) := by decide +kernel
theorem dX13_offsetOf_3 : decode cX13_offsetOf 3 = .ok (.invokestatic 404, 3) := by decide +kernel
theorem dX13_offsetOf_6 : decode cX13_offsetOf 6 = .ok (.istore 5, 2) := by decide +kernel
theorem dX13_offsetOf_8 : decode cX13_offsetOf 8 = .ok (.iload 5, 2) := by decide +kernel
theorem dX13_offsetOf_10 : decode cX13_offsetOf 10 = .ok (.iconst 4, 1) := by decide +kernel
theorem dX13_offsetOf_11 : decode cX13_offsetOf 11 = .ok (.if_icmp .ne 11, 3) := by decide +kernel
theorem dX13_offsetOf_14 : decode cX13_offsetOf 14 = .ok (.lload_n 2, 1) := by decide +kernel
theorem dX13_offsetOf_15 : decode cX13_offsetOf 15 = .ok (.ldc2_w 402, 3) := by decide +kernel
theorem dX13_offsetOf_18 : decode cX13_offsetOf 18 = .ok (.lsub, 1) := by decide +kernel
theorem dX13_offsetOf_19 : decode cX13_offsetOf 19 = .ok (.goto 21, 3) := by decide +kernel
theorem dX13_offsetOf_22 : decode cX13_offsetOf 22 = .ok (.iload 5, 2) := by decide +kernel
theorem dX13_offsetOf_24 : decode cX13_offsetOf 24 = .ok (.iconst 3, 1) := by decide +kernel
theorem dX13_offsetOf_25 : decode cX13_offsetOf 25 = .ok (.if_icmp .ne 11, 3) := by decide +kernel
theorem dX13_offsetOf_28 : decode cX13_offsetOf 28 = .ok (.aload_n 1, 1) := by decide +kernel
theorem dX13_offsetOf_29 : decode cX13_offsetOf 29 = .ok (.iconst 0, 1) := by decide +kernel
theorem dX13_offsetOf_30 : decode cX13_offsetOf 30 = .ok (.laload, 1) := by decide +kernel
theorem dX13_offsetOf_31 : decode cX13_offsetOf 31 = .ok (.lconst 1, 1) := by decide +kernel
theorem dX13_offsetOf_32 : decode cX13_offsetOf 32 = .ok (.lsub, 1) := by decide +kernel
theorem dX13_offsetOf_33 : decode cX13_offsetOf 33 = .ok (.goto 7, 3) := by decide +kernel
theorem dX13_offsetOf_36 : decode cX13_offsetOf 36 = .ok (.aload_n 1, 1) := by decide +kernel
theorem dX13_offsetOf_37 : decode cX13_offsetOf 37 = .ok (.iload 5, 2) := by decide +kernel
theorem dX13_offsetOf_39 : decode cX13_offsetOf 39 = .ok (.laload, 1) := by decide +kernel
theorem dX13_offsetOf_40 : decode cX13_offsetOf 40 = .ok (.lstore 6, 2) := by decide +kernel
theorem dX13_offsetOf_42 : decode cX13_offsetOf 42 = .ok (.iload 5, 2) := by decide +kernel
theorem dX13_offsetOf_44 : decode cX13_offsetOf 44 = .ok (.iconst 1, 1) := by decide +kernel
theorem dX13_offsetOf_45 : decode cX13_offsetOf 45 = .ok (.if_icmp .le 9, 3) := by decide +kernel
theorem dX13_offsetOf_48 : decode cX13_offsetOf 48 = .ok (.aload_n 1, 1) := by decide +kernel
theorem dX13_offsetOf_49 : decode cX13_offsetOf 49 = .ok (.iconst 2, 1) := by decide +kernel
theorem dX13_offsetOf_50 : decode cX13_offsetOf 50 = .ok (.aload_n 1, 1) := by decide +kernel
theorem dX13_offsetOf_51 : decode cX13_offsetOf 51 = .ok (.iconst 1, 1) := by decide +kernel
theorem dX13_offsetOf_52 : decode cX13_offsetOf 52 = .ok (.laload, 1) := by decide +kernel
theorem dX13_offsetOf_53 : decode cX13_offsetOf 53 = .ok (.lastore, 1) := by decide +kernel
theorem dX13_offsetOf_54 : decode cX13_offsetOf 54 = .ok (.iload 5, 2) := by decide +kernel
theorem dX13_offsetOf_56 : decode cX13_offsetOf 56 = .ok (.ifCond .le 9, 3) := by decide +kernel
theorem dX13_offsetOf_59 : decode cX13_offsetOf 59 = .ok (.aload_n 1, 1) := by decide +kernel
theorem dX13_offsetOf_60 : decode cX13_offsetOf 60 = .ok (.iconst 1, 1) := by decide +kernel
theorem dX13_offsetOf_61 : decode cX13_offsetOf 61 = .ok (.aload_n 1, 1) := by decide +kernel
theorem dX13_offsetOf_62 : decode cX13_offsetOf 62 = .ok (.iconst 0, 1) := by decide +kernel
theorem dX13_offsetOf_63 : decode cX13_offsetOf 63 = .ok (.laload, 1) := by decide +kernel
theorem dX13_offsetOf_64 : decode cX13_offsetOf 64 = .ok (.lastore, 1) := by decide +kernel
theorem dX13_offsetOf_65 : decode cX13_offsetOf 65 = .ok (.aload_n 1, 1) := by decide +kernel
theorem dX13_offsetOf_66 : decode cX13_offsetOf 66 = .ok (.iconst 0, 1) := by decide +kernel
theorem dX13_offsetOf_67 : decode cX13_offsetOf 67 = .ok (.lload 6, 2) := by decide +kernel
theorem dX13_offsetOf_69 : decode cX13_offsetOf 69 = .ok (.lastore, 1) := by decide +kernel
theorem dX13_offsetOf_70 : decode cX13_offsetOf 70 = .ok (.lload 6, 2) := by decide +kernel
theorem dX13_offsetOf_72 : decode cX13_offsetOf 72 = .ok (.lreturn, 1) := by decide +kernel
theorem dX13_sequence_0 : decode cX13_sequence 0 = .ok (.iload_n 1, 1) := by decide +kernel
theorem dX13_sequence_1 : decode cX13_sequence 1 = .ok (.aload_n 0, 1) := by decide +kernel
theorem dX13_sequence_2 : decode cX13_sequence 2 = .ok (.getfield 353, 3) := by decide +kernel
theorem dX13_sequence_5 : decode cX13_sequence 5 = .ok (.aload_n 0, 1) := by decide +kernel
theorem dX13_sequence_6 : decode cX13_sequence 6 = .ok (.getfield 376, 3) := by decide +kernel
theorem dX13_sequence_9 : decode cX13_sequence 9 = .ok (.isub, 1) := by decide +kernel
theorem dX13_sequence_10 : decode cX13_sequence 10 = .ok (.if_icmp .le 13, 3) := by decide +kernel
theorem dX13_sequence_13 : decode cX13_sequence 13 = .ok (.aload_n 0, 1) := by decide +kernel
theorem dX13_sequence_14 : decode cX13_sequence 14 = .ok (.bipush 19, 2) := by decide +kernel
theorem dX13_sequence_16 : decode cX13_sequence 16 = .ok (.iload 5, 2) := by decide +kernel
theorem dX13_sequence_18 : decode cX13_sequence 18 = .ok (.invokevirtual 263, 3) := by decide +kernel
theorem dX13_sequence_21 : decode cX13_sequence 21 = .ok (.pop, 1) := by decide +kernel
theorem dX13_sequence_22 : decode cX13_sequence 22 = .ok (.return_, 1) := by decide +kernel
theorem dX13_sequence_23 : decode cX13_sequence 23 = .ok (.lload_n 3, 1) := by decide +kernel
theorem dX13_sequence_24 : decode cX13_sequence 24 = .ok (.iload_n 1, 1) := by decide +kernel
theorem dX13_sequence_25 : decode cX13_sequence 25 = .ok (.invokestatic 404, 3) := by decide +kernel
theorem dX13_sequence_28 : decode cX13_sequence 28 = .ok (.istore 6, 2) := by decide +kernel
theorem dX13_sequence_30 : decode cX13_sequence 30 = .ok (.iload 6, 2) := by decide +kernel
theorem dX13_sequence_32 : decode cX13_sequence 32 = .ok (.iconst 4, 1) := by decide +kernel
theorem dX13_sequence_33 : decode cX13_sequence 33 = .ok (.if_icmp .ne 11, 3) := by decide +kernel
theorem dX13_sequence_36 : decode cX13_sequence 36 = .ok (.lload_n 3, 1) := by decide +kernel
theorem dX13_sequence_37 : decode cX13_sequence 37 = .ok (.ldc2_w 402, 3) := by decide +kernel
theorem dX13_sequence_40 : decode cX13_sequence 40 = .ok (.lsub, 1) := by decide +kernel
theorem dX13_sequence_41 : decode cX13_sequence 41 = .ok (.goto 27, 3) := by decide +kernel
theorem dX13_sequence_44 : decode cX13_sequence 44 = .ok (.iload 6, 2) := by decide +kernel
theorem dX13_sequence_46 : decode cX13_sequence 46 = .ok (.iconst 3, 1) := by decide +kernel
theorem dX13_sequence_47 : decode cX13_sequence 47 = .ok (.if_icmp .ne 14, 3) := by decide +kernel
theorem dX13_sequence_50 : decode cX13_sequence 50 = .ok (.aload_n 0, 1) := by decide +kernel
theorem dX13_sequence_51 : decode cX13_sequence 51 = .ok (.getfield 85, 3) := by decide +kernel
theorem dX13_sequence_54 : decode cX13_sequence 54 = .ok (.iconst 0, 1) := by decide +kernel
theorem dX13_sequence_55 : decode cX13_sequence 55 = .ok (.laload, 1) := by decide +kernel
theorem dX13_sequence_56 : decode cX13_sequence 56 = .ok (.lconst 1, 1) := by decide +kernel
theorem dX13_sequence_57 : decode cX13_sequence 57 = .ok (.lsub, 1) := by decide +kernel
theorem dX13_sequence_58 : decode cX13_sequence 58 = .ok (.goto 10, 3) := by decide +kernel
theorem dX13_sequence_61 : decode cX13_sequence 61 = .ok (.aload_n 0, 1) := by decide +kernel
theorem dX13_sequence_62 : decode cX13_sequence 62 = .ok (.getfield 85, 3) := by decide +kernel
theorem dX13_sequence_65 : decode cX13_sequence 65 = .ok (.iload 6, 2) := by decide +kernel
theorem dX13_sequence_67 : decode cX13_sequence 67 = .ok (.laload, 1) := by decide +kernel
theorem dX13_sequence_68 : decode cX13_sequence 68 = .ok (.lstore 7, 2) := by decide +kernel
theorem dX13_sequence_70 : decode cX13_sequence 70 = .ok (.aload_n 0, 1) := by decide +kernel
theorem dX13_sequence_71 : decode cX13_sequence 71 = .ok (.getfield 286, 3) := by decide +kernel
theorem dX13_sequence_74 : decode cX13_sequence 74 = .ok (.aload_n 0, 1) := by decide +kernel
theorem dX13_sequence_75 : decode cX13_sequence 75 = .ok (.getfield 334, 3) := by decide +kernel
theorem dX13_sequence_78 : decode cX13_sequence 78 = .ok (.isub, 1) := by decide +kernel
theorem dX13_sequence_79 : decode cX13_sequence 79 = .ok (.aload_n 0, 1) := by decide +kernel
theorem dX13_sequence_80 : decode cX13_sequence 80 = .ok (.getfield 344, 3) := by decide +kernel
theorem dX13_sequence_83 : decode cX13_sequence 83 = .ok (.iadd, 1) := by decide +kernel
theorem dX13_sequence_84 : decode cX13_sequence 84 = .ok (.iload_n 1, 1) := by decide +kernel
theorem dX13_sequence_85 : decode cX13_sequence 85 = .ok (.iadd, 1) := by decide +kernel
theorem dX13_sequence_86 : decode cX13_sequence 86 = .ok (.i2l, 1) := by decide +kernel
theorem dX13_sequence_87 : decode cX13_sequence 87 = .ok (.lstore 9, 2) := by decide +kernel
theorem dX13_sequence_89 : decode cX13_sequence 89 = .ok (.aload_n 0, 1) := by decide +kernel
theorem dX13_sequence_90 : decode cX13_sequence 90 = .ok (.getfield 339, 3) := by decide +kernel
theorem dX13_sequence_93 : decode cX13_sequence 93 = .ok (.ifCond .eq 11, 3) := by decide +kernel
theorem dX13_sequence_96 : decode cX13_sequence 96 = .ok (.aload_n 0, 1) := by decide +kernel
theorem dX13_sequence_97 : decode cX13_sequence 97 = .ok (.getfield 273, 3) := by decide +kernel
theorem dX13_sequence_100 : decode cX13_sequence 100 = .ok (.i2l, 1) := by decide +kernel
theorem dX13_sequence_101 : decode cX13_sequence 101 = .ok (.goto 4, 3) := by decide +kernel
theorem dX13_sequence_104 : decode cX13_sequence 104 = .ok (.lconst 0, 1) := by decide +kernel
theorem dX13_sequence_105 : decode cX13_sequence 105 = .ok (.lstore 11, 2) := by decide +kernel
theorem dX13_sequence_107 : decode cX13_sequence 107 = .ok (.lload 7, 2) := by decide +kernel
theorem dX13_sequence_109 : decode cX13_sequence 109 = .ok (.lload 9, 2) := by decide +kernel
theorem dX13_sequence_111 : decode cX13_sequence 111 = .ok (.lcmp, 1) := by decide +kernel
theorem dX13_sequence_112 : decode cX13_sequence 112 = .ok (.ifCond .le 7, 3) := by decide +kernel
theorem dX13_sequence_115 : decode cX13_sequence 115 = .ok (.iconst 1, 1) := by decide +kernel
theorem dX13_sequence_116 : decode cX13_sequence 116 = .ok (.goto 4, 3) := by decide +kernel
theorem dX13_sequence_119 : decode cX13_sequence 119 = .ok (.iconst 0, 1) := by decide +kernel
theorem dX13_sequence_120 : decode cX13_sequence 120 = .ok (.istore 13, 2) := by decide +kernel
theorem dX13_sequence_122 : decode cX13_sequence 122 = .ok (.lload 7, 2) := by decide +kernel
theorem dX13_sequence_124 : decode cX13_sequence 124 = .ok (.lconst 0, 1) := by decide +kernel
theorem dX13_sequence_125 : decode cX13_sequence 125 = .ok (.lcmp, 1) := by decide +kernel
theorem dX13_sequence_126 : decode cX13_sequence 126 = .ok (.ifCond .eq 44, 3) := by decide +kernel
theorem dX13_sequence_129 : decode cX13_sequence 129 = .ok (.lload 7, 2) := by decide +kernel
theorem dX13_sequence_131 : decode cX13_sequence 131 = .ok (.lload 9, 2) := by decide +kernel
theorem dX13_sequence_133 : decode cX13_sequence 133 = .ok (.lload 11, 2) := by decide +kernel
theorem dX13_sequence_135 : decode cX13_sequence 135 = .ok (.ladd, 1) := by decide +kernel
theorem dX13_sequence_136 : decode cX13_sequence 136 = .ok (.lcmp, 1) := by decide +kernel
theorem dX13_sequence_137 : decode cX13_sequence 137 = .ok (.ifCond .gt 33, 3) := by decide +kernel
theorem dX13_sequence_140 : decode cX13_sequence 140 = .ok (.iload 13, 2) := by decide +kernel
theorem dX13_sequence_142 : decode cX13_sequence 142 = .ok (.ifCond .ne 13, 3) := by decide +kernel
theorem dX13_sequence_145 : decode cX13_sequence 145 = .ok (.lload 7, 2) := by decide +kernel
theorem dX13_sequence_147 : decode cX13_sequence 147 = .ok (.aload_n 0, 1) := by decide +kernel
theorem dX13_sequence_148 : decode cX13_sequence 148 = .ok (.getfield 311, 3) := by decide +kernel
theorem dX13_sequence_151 : decode cX13_sequence 151 = .ok (.lcmp, 1) := by decide +kernel
theorem dX13_sequence_152 : decode cX13_sequence 152 = .ok (.ifCond .gt 18, 3) := by decide +kernel
theorem dX13_sequence_155 : decode cX13_sequence 155 = .ok (.iload 13, 2) := by decide +kernel
theorem dX13_sequence_157 : decode cX13_sequence 157 = .ok (.ifCond .eq 23, 3) := by decide +kernel
theorem dX13_sequence_160 : decode cX13_sequence 160 = .ok (.lload 9, 2) := by decide +kernel
theorem dX13_sequence_162 : decode cX13_sequence 162 = .ok (.aload_n 0, 1) := by decide +kernel
theorem dX13_sequence_163 : decode cX13_sequence 163 = .ok (.getfield 311, 3) := by decide +kernel
theorem dX13_sequence_166 : decode cX13_sequence 166 = .ok (.lcmp, 1) := by decide +kernel
theorem dX13_sequence_167 : decode cX13_sequence 167 = .ok (.ifCond .le 13, 3) := by decide +kernel
theorem dX13_sequence_170 : decode cX13_sequence 170 = .ok (.aload_n 0, 1) := by decide +kernel
