theorem dX0_init_0 : decode cX0_init 0 = .ok (.aload_n 0, 1) := by decide +kernel
theorem dX0_init_1 : decode cX0_init 1 = .ok (.invokespecial 1, 3) := by decide +kernel
theorem dX0_init_4 : decode cX0_init 4 = .ok (.aload_n 0, 1) := by decide +kernel
theorem dX0_init_5 : decode cX0_init 5 = .ok (.iconst 0, 1) := by decide +kernel
theorem dX0_init_6 : decode cX0_init 6 = .ok (.newarray .byte, 2) := by decide +kernel
theorem dX0_init_8 : decode cX0_init 8 = .ok (.putfield 7, 3) := by decide +kernel
theorem dX0_init_11 : decode cX0_init 11 = .ok (.return_, 1) := by decide +kernel
theorem dX0_begin_0 : decode cX0_begin 0 = .ok (.aload_n 0, 1) := by decide +kernel
theorem dX0_begin_1 : decode cX0_begin 1 = .ok (.aload_n 1, 1) := by decide +kernel
theorem dX0_begin_2 : decode cX0_begin 2 = .ok (.getfield 13, 3) := by decide +kernel
theorem dX0_begin_5 : decode cX0_begin 5 = .ok (.putfield 7, 3) := by decide +kernel
theorem dX0_begin_8 : decode cX0_begin 8 = .ok (.aload_n 0, 1) := by decide +kernel
theorem dX0_begin_9 : decode cX0_begin 9 = .ok (.iload_n 2, 1) := by decide +kernel
theorem dX0_begin_10 : decode cX0_begin 10 = .ok (.putfield 16, 3) := by decide +kernel
theorem dX0_begin_13 : decode cX0_begin 13 = .ok (.aload_n 0, 1) := by decide +kernel
theorem dX0_begin_14 : decode cX0_begin 14 = .ok (.iconst 0, 1) := by decide +kernel
theorem dX0_begin_15 : decode cX0_begin 15 = .ok (.putfield 20, 3) := by decide +kernel
theorem dX0_begin_18 : decode cX0_begin 18 = .ok (.aload_n 0, 1) := by decide +kernel
theorem dX0_begin_19 : decode cX0_begin 19 = .ok (.iconst 0, 1) := by decide +kernel
theorem dX0_begin_20 : decode cX0_begin 20 = .ok (.putfield 23, 3) := by decide +kernel
theorem dX0_begin_23 : decode cX0_begin 23 = .ok (.iload_n 2, 1) := by decide +kernel
theorem dX0_begin_24 : decode cX0_begin 24 = .ok (.iload_n 3, 1) := by decide +kernel
theorem dX0_begin_25 : decode cX0_begin 25 = .ok (.if_icmp .ge 13, 3) := by decide +kernel
theorem dX0_begin_28 : decode cX0_begin 28 = .ok (.aload_n 1, 1) := by decide +kernel
theorem dX0_begin_29 : decode cX0_begin 29 = .ok (.iload_n 3, 1) := by decide +kernel
theorem dX0_begin_30 : decode cX0_begin 30 = .ok (.iconst 1, 1) := by decide +kernel
theorem dX0_begin_31 : decode cX0_begin 31 = .ok (.isub, 1) := by decide +kernel
theorem dX0_begin_32 : decode cX0_begin 32 = .ok (.invokevirtual 27, 3) := by decide +kernel
theorem dX0_begin_35 : decode cX0_begin 35 = .ok (.ifCond .ne 5, 3) := by decide +kernel
theorem dX0_begin_38 : decode cX0_begin 38 = .ok (.iconst 0, 1) := by decide +kernel
theorem dX0_begin_39 : decode cX0_begin 39 = .ok (.ireturn, 1) := by decide +kernel
theorem dX0_begin_40 : decode cX0_begin 40 = .ok (.aload_n 0, 1) := by decide +kernel
theorem dX0_begin_41 : decode cX0_begin 41 = .ok (.bipush 8, 2) := by decide +kernel
theorem dX0_begin_43 : decode cX0_begin 43 = .ok (.iload_n 3, 1) := by decide +kernel
theorem dX0_begin_44 : decode cX0_begin 44 = .ok (.iconst 1, 1) := by decide +kernel
theorem dX0_begin_45 : decode cX0_begin 45 = .ok (.isub, 1) := by decide +kernel
theorem dX0_begin_46 : decode cX0_begin 46 = .ok (.iload_n 2, 1) := by decide +kernel
theorem dX0_begin_47 : decode cX0_begin 47 = .ok (.isub, 1) := by decide +kernel
theorem dX0_begin_48 : decode cX0_begin 48 = .ok (.imul, 1) := by decide +kernel
theorem dX0_begin_49 : decode cX0_begin 49 = .ok (.aload_n 1, 1) := by decide +kernel
theorem dX0_begin_50 : decode cX0_begin 50 = .ok (.iload_n 3, 1) := by decide +kernel
theorem dX0_begin_51 : decode cX0_begin 51 = .ok (.iconst 1, 1) := by decide +kernel
theorem dX0_begin_52 : decode cX0_begin 52 = .ok (.isub, 1) := by decide +kernel
theorem dX0_begin_53 : decode cX0_begin 53 = .ok (.invokevirtual 27, 3) := by decide +kernel
theorem dX0_begin_56 : decode cX0_begin 56 = .ok (.i2l, 1) := by decide +kernel
theorem dX0_begin_57 : decode cX0_begin 57 = .ok (.invokestatic 31, 3) := by decide +kernel
theorem dX0_begin_60 : decode cX0_begin 60 = .ok (.iadd, 1) := by decide +kernel
theorem dX0_begin_61 : decode cX0_begin 61 = .ok (.putfield 20, 3) := by decide +kernel
theorem dX0_begin_64 : decode cX0_begin 64 = .ok (.iconst 1, 1) := by decide +kernel
theorem dX0_begin_65 : decode cX0_begin 65 = .ok (.ireturn, 1) := by decide +kernel
theorem dX0_take_0 : decode cX0_take 0 = .ok (.iload_n 1, 1) := by decide +kernel
theorem dX0_take_1 : decode cX0_take 1 = .ok (.aload_n 0, 1) := by decide +kernel
theorem dX0_take_2 : decode cX0_take 2 = .ok (.getfield 20, 3) := by decide +kernel
theorem dX0_take_5 : decode cX0_take 5 = .ok (.if_icmp .le 10, 3) := by decide +kernel
theorem dX0_take_8 : decode cX0_take 8 = .ok (.aload_n 0, 1) := by decide +kernel
theorem dX0_take_9 : decode cX0_take 9 = .ok (.iconst 1, 1) := by decide +kernel
theorem dX0_take_10 : decode cX0_take 10 = .ok (.putfield 23, 3) := by decide +kernel
theorem dX0_take_13 : decode cX0_take 13 = .ok (.lconst 0, 1) := by decide +kernel
theorem dX0_take_14 : decode cX0_take 14 = .ok (.lreturn, 1) := by decide +kernel
theorem dX0_take_15 : decode cX0_take 15 = .ok (.aload_n 0, 1) := by decide +kernel
theorem dX0_take_16 : decode cX0_take 16 = .ok (.dup, 1) := by decide +kernel
theorem dX0_take_17 : decode cX0_take 17 = .ok (.getfield 20, 3) := by decide +kernel
theorem dX0_take_20 : decode cX0_take 20 = .ok (.iload_n 1, 1) := by decide +kernel
theorem dX0_take_21 : decode cX0_take 21 = .ok (.isub, 1) := by decide +kernel
theorem dX0_take_22 : decode cX0_take 22 = .ok (.putfield 20, 3) := by decide +kernel
theorem dX0_take_25 : decode cX0_take 25 = .ok (.aload_n 0, 1) := by decide +kernel
theorem dX0_take_26 : decode cX0_take 26 = .ok (.aload_n 0, 1) := by decide +kernel
theorem dX0_take_27 : decode cX0_take 27 = .ok (.getfield 20, 3) := by decide +kernel
theorem dX0_take_30 : decode cX0_take 30 = .ok (.iload_n 1, 1) := by decide +kernel
theorem dX0_take_31 : decode cX0_take 31 = .ok (.invokevirtual 37, 3) := by decide +kernel
theorem dX0_take_34 : decode cX0_take 34 = .ok (.lreturn, 1) := by decide +kernel
theorem dX0_look_0 : decode cX0_look 0 = .ok (.iload_n 1, 1) := by decide +kernel
theorem dX0_look_1 : decode cX0_look 1 = .ok (.aload_n 0, 1) := by decide +kernel
theorem dX0_look_2 : decode cX0_look 2 = .ok (.getfield 20, 3) := by decide +kernel
theorem dX0_look_5 : decode cX0_look 5 = .ok (.invokestatic 41, 3) := by decide +kernel
theorem dX0_look_8 : decode cX0_look 8 = .ok (.istore_n 2, 1) := by decide +kernel
theorem dX0_look_9 : decode cX0_look 9 = .ok (.aload_n 0, 1) := by decide +kernel
theorem dX0_look_10 : decode cX0_look 10 = .ok (.aload_n 0, 1) := by decide +kernel
theorem dX0_look_11 : decode cX0_look 11 = .ok (.getfield 20, 3) := by decide +kernel
theorem dX0_look_14 : decode cX0_look 14 = .ok (.iload_n 2, 1) := by decide +kernel
theorem dX0_look_15 : decode cX0_look 15 = .ok (.isub, 1) := by decide +kernel
theorem dX0_look_16 : decode cX0_look 16 = .ok (.iload_n 2, 1) := by decide +kernel
theorem dX0_look_17 : decode cX0_look 17 = .ok (.invokevirtual 37, 3) := by decide +kernel
theorem dX0_look_20 : decode cX0_look 20 = .ok (.iload_n 1, 1) := by decide +kernel
theorem dX0_look_21 : decode cX0_look 21 = .ok (.iload_n 2, 1) := by decide +kernel
theorem dX0_look_22 : decode cX0_look 22 = .ok (.isub, 1) := by decide +kernel
theorem dX0_look_23 : decode cX0_look 23 = .ok (.lshl, 1) := by decide +kernel
theorem dX0_look_24 : decode cX0_look 24 = .ok (.l2i, 1) := by decide +kernel
theorem dX0_look_25 : decode cX0_look 25 = .ok (.ireturn, 1) := by decide +kernel
theorem dX0_bitsFrom_0 : decode cX0_bitsFrom 0 = .ok (.aload_n 0, 1) := by decide +kernel
theorem dX0_bitsFrom_1 : decode cX0_bitsFrom 1 = .ok (.getfield 16, 3) := by decide +kernel
theorem dX0_bitsFrom_4 : decode cX0_bitsFrom 4 = .ok (.iload_n 1, 1) := by decide +kernel
theorem dX0_bitsFrom_5 : decode cX0_bitsFrom 5 = .ok (.iconst 3, 1) := by decide +kernel
theorem dX0_bitsFrom_6 : decode cX0_bitsFrom 6 = .ok (.ishr, 1) := by decide +kernel
theorem dX0_bitsFrom_7 : decode cX0_bitsFrom 7 = .ok (.iadd, 1) := by decide +kernel
theorem dX0_bitsFrom_8 : decode cX0_bitsFrom 8 = .ok (.istore_n 3, 1) := by decide +kernel
theorem dX0_bitsFrom_9 : decode cX0_bitsFrom 9 = .ok (.lconst 0, 1) := by decide +kernel
theorem dX0_bitsFrom_10 : decode cX0_bitsFrom 10 = .ok (.lstore 4, 2) := by decide +kernel
theorem dX0_bitsFrom_12 : decode cX0_bitsFrom 12 = .ok (.iconst 0, 1) := by decide +kernel
theorem dX0_bitsFrom_13 : decode cX0_bitsFrom 13 = .ok (.istore 6, 2) := by decide +kernel
theorem dX0_bitsFrom_15 : decode cX0_bitsFrom 15 = .ok (.iload 6, 2) := by decide +kernel
theorem dX0_bitsFrom_17 : decode cX0_bitsFrom 17 = .ok (.iload_n 1, 1) := by decide +kernel
theorem dX0_bitsFrom_18 : decode cX0_bitsFrom 18 = .ok (.bipush 7, 2) := by decide +kernel
theorem dX0_bitsFrom_20 : decode cX0_bitsFrom 20 = .ok (.iand, 1) := by decide +kernel
theorem dX0_bitsFrom_21 : decode cX0_bitsFrom 21 = .ok (.iload_n 2, 1) := by decide +kernel
theorem dX0_bitsFrom_22 : decode cX0_bitsFrom 22 = .ok (.iadd, 1) := by decide +kernel
theorem dX0_bitsFrom_23 : decode cX0_bitsFrom 23 = .ok (.if_icmp .ge 44, 3) := by decide +kernel
theorem dX0_bitsFrom_26 : decode cX0_bitsFrom 26 = .ok (.iload_n 3, 1) := by decide +kernel
theorem dX0_bitsFrom_27 : decode cX0_bitsFrom 27 = .ok (.ifCond .lt 31, 3) := by decide +kernel
theorem dX0_bitsFrom_30 : decode cX0_bitsFrom 30 = .ok (.iload_n 3, 1) := by decide +kernel
theorem dX0_bitsFrom_31 : decode cX0_bitsFrom 31 = .ok (.aload_n 0, 1) := by decide +kernel
theorem dX0_bitsFrom_32 : decode cX0_bitsFrom 32 = .ok (.getfield 7, 3) := by decide +kernel
theorem dX0_bitsFrom_35 : decode cX0_bitsFrom 35 = .ok (.arraylength, 1) := by decide +kernel
theorem dX0_bitsFrom_36 : decode cX0_bitsFrom 36 = .ok (.if_icmp .ge 22, 3) := by decide +kernel
theorem dX0_bitsFrom_39 : decode cX0_bitsFrom 39 = .ok (.lload 4, 2) := by decide +kernel
theorem dX0_bitsFrom_41 : decode cX0_bitsFrom 41 = .ok (.aload_n 0, 1) := by decide +kernel
theorem dX0_bitsFrom_42 : decode cX0_bitsFrom 42 = .ok (.getfield 7, 3) := by decide +kernel
theorem dX0_bitsFrom_45 : decode cX0_bitsFrom 45 = .ok (.iload_n 3, 1) := by decide +kernel
theorem dX0_bitsFrom_46 : decode cX0_bitsFrom 46 = .ok (.baload, 1) := by decide +kernel
theorem dX0_bitsFrom_47 : decode cX0_bitsFrom 47 = .ok (.i2l, 1) := by decide +kernel
theorem dX0_bitsFrom_48 : decode cX0_bitsFrom 48 = .ok (.ldc2_w 47, 3) := by decide +kernel
theorem dX0_bitsFrom_51 : decode cX0_bitsFrom 51 = .ok (.land, 1) := by decide +kernel
theorem dX0_bitsFrom_52 : decode cX0_bitsFrom 52 = .ok (.iload 6, 2) := by decide +kernel
theorem dX0_bitsFrom_54 : decode cX0_bitsFrom 54 = .ok (.lshl, 1) := by decide +kernel
theorem dX0_bitsFrom_55 : decode cX0_bitsFrom 55 = .ok (.lor, 1) := by decide +kernel
theorem dX0_bitsFrom_56 : decode cX0_bitsFrom 56 = .ok (.lstore 4, 2) := by decide +kernel
theorem dX0_bitsFrom_58 : decode cX0_bitsFrom 58 = .ok (.iinc 3 1, 3) := by decide +kernel
theorem dX0_bitsFrom_61 : decode cX0_bitsFrom 61 = .ok (.iinc 6 8, 3) := by decide +kernel
theorem dX0_bitsFrom_64 : decode cX0_bitsFrom 64 = .ok (.goto (-49), 3) := by decide +kernel
theorem dX0_bitsFrom_67 : decode cX0_bitsFrom 67 = .ok (.lload 4, 2) := by decide +kernel
theorem dX0_bitsFrom_69 : decode cX0_bitsFrom 69 = .ok (.iload_n 1, 1) := by decide +kernel
theorem dX0_bitsFrom_70 : decode cX0_bitsFrom 70 = .ok (.bipush 7, 2) := by decide +kernel
theorem dX0_bitsFrom_72 : decode cX0_bitsFrom 72 = .ok (.iand, 1) := by decide +kernel
theorem dX0_bitsFrom_73 : decode cX0_bitsFrom 73 = .ok (.lushr, 1) := by decide +kernel
theorem dX0_bitsFrom_74 : decode cX0_bitsFrom 74 = .ok (.lconst 1, 1) := by decide +kernel
theorem dX0_bitsFrom_75 : decode cX0_bitsFrom 75 = .ok (.iload_n 2, 1) := by decide +kernel
theorem dX0_bitsFrom_76 : decode cX0_bitsFrom 76 = .ok (.lshl, 1) := by decide +kernel
theorem dX0_bitsFrom_77 : decode cX0_bitsFrom 77 = .ok (.lconst 1, 1) := by decide +kernel
theorem dX0_bitsFrom_78 : decode cX0_bitsFrom 78 = .ok (.lsub, 1) := by decide +kernel
theorem dX0_bitsFrom_79 : decode cX0_bitsFrom 79 = .ok (.land, 1) := by decide +kernel
theorem dX0_bitsFrom_80 : decode cX0_bitsFrom 80 = .ok (.lreturn, 1) := by decide +kernel
theorem dX1_init_0 : decode cX1_init 0 = .ok (.aload_n 0, 1) := by decide +kernel
theorem dX1_init_1 : decode cX1_init 1 = .ok (.invokespecial 3, 3) := by decide +kernel
theorem dX1_init_4 : decode cX1_init 4 = .ok (.aload_n 0, 1) := by decide +kernel
theorem dX1_init_5 : decode cX1_init 5 = .ok (.sipush 256, 3) := by decide +kernel
theorem dX1_init_8 : decode cX1_init 8 = .ok (.newarray .int, 2) := by decide +kernel
theorem dX1_init_10 : decode cX1_init 10 = .ok (.putfield 9, 3) := by decide +kernel
theorem dX1_init_13 : decode cX1_init 13 = .ok (.aload_n 0, 1) := by decide +kernel
theorem dX1_init_14 : decode cX1_init 14 = .ok (.sipush 256, 3) := by decide +kernel
theorem dX1_init_17 : decode cX1_init 17 = .ok (.newarray .int, 2) := by decide +kernel
theorem dX1_init_19 : decode cX1_init 19 = .ok (.putfield 15, 3) := by decide +kernel
theorem dX1_init_22 : decode cX1_init 22 = .ok (.aload_n 0, 1) := by decide +kernel
theorem dX1_init_23 : decode cX1_init 23 = .ok (.sipush 2048, 3) := by decide +kernel
theorem dX1_init_26 : decode cX1_init 26 = .ok (.newarray .int, 2) := by decide +kernel
theorem dX1_init_28 : decode cX1_init 28 = .ok (.putfield 18, 3) := by decide +kernel
theorem dX1_init_31 : decode cX1_init 31 = .ok (.return_, 1) := by decide +kernel
theorem dX1_build_0 : decode cX1_build 0 = .ok (.aload_n 0, 1) := by decide +kernel
theorem dX1_build_1 : decode cX1_build 1 = .ok (.aload_n 1, 1) := by decide +kernel
theorem dX1_build_2 : decode cX1_build 2 = .ok (.getfield 21, 3) := by decide +kernel
theorem dX1_build_5 : decode cX1_build 5 = .ok (.putfield 27, 3) := by decide +kernel
theorem dX1_build_8 : decode cX1_build 8 = .ok (.aload_n 0, 1) := by decide +kernel
theorem dX1_build_9 : decode cX1_build 9 = .ok (.getfield 9, 3) := by decide +kernel
theorem dX1_build_12 : decode cX1_build 12 = .ok (.iconst 0, 1) := by decide +kernel
theorem dX1_build_13 : decode cX1_build 13 = .ok (.invokestatic 28, 3) := by decide +kernel
theorem dX1_build_16 : decode cX1_build 16 = .ok (.iconst 0, 1) := by decide +kernel
theorem dX1_build_17 : decode cX1_build 17 = .ok (.istore_n 2, 1) := by decide +kernel
theorem dX1_build_18 : decode cX1_build 18 = .ok (.iconst 1, 1) := by decide +kernel
theorem dX1_build_19 : decode cX1_build 19 = .ok (.istore_n 3, 1) := by decide +kernel
theorem dX1_build_20 : decode cX1_build 20 = .ok (.iload_n 3, 1) := by decide +kernel
theorem dX1_build_21 : decode cX1_build 21 = .ok (.aload_n 0, 1) := by decide +kernel
theorem dX1_build_22 : decode cX1_build 22 = .ok (.getfield 27, 3) := by decide +kernel
theorem dX1_build_25 : decode cX1_build 25 = .ok (.if_icmp .gt 108, 3) := by decide +kernel
theorem dX1_build_28 : decode cX1_build 28 = .ok (.iconst 0, 1) := by decide +kernel
theorem dX1_build_29 : decode cX1_build 29 = .ok (.istore 4, 2) := by decide +kernel
theorem dX1_build_31 : decode cX1_build 31 = .ok (.iload 4, 2) := by decide +kernel
theorem dX1_build_33 : decode cX1_build 33 = .ok (.aload_n 1, 1) := by decide +kernel
theorem dX1_build_34 : decode cX1_build 34 = .ok (.getfield 34, 3) := by decide +kernel
theorem dX1_build_37 : decode cX1_build 37 = .ok (.if_icmp .ge 90, 3) := by decide +kernel
theorem dX1_build_40 : decode cX1_build 40 = .ok (.iload 4, 2) := by decide +kernel
theorem dX1_build_42 : decode cX1_build 42 = .ok (.sipush 256, 3) := by decide +kernel
theorem dX1_build_45 : decode cX1_build 45 = .ok (.if_icmp .ge 82, 3) := by decide +kernel
theorem dX1_build_48 : decode cX1_build 48 = .ok (.aload_n 1, 1) := by decide +kernel
theorem dX1_build_49 : decode cX1_build 49 = .ok (.getfield 37, 3) := by decide +kernel
theorem dX1_build_52 : decode cX1_build 52 = .ok (.iload 4, 2) := by decide +kernel
theorem dX1_build_54 : decode cX1_build 54 = .ok (.iaload, 1) := by decide +kernel
theorem dX1_build_55 : decode cX1_build 55 = .ok (.iload_n 3, 1) := by decide +kernel
theorem dX1_build_56 : decode cX1_build 56 = .ok (.if_icmp .ne 65, 3) := by decide +kernel
theorem dX1_build_59 : decode cX1_build 59 = .ok (.aload_n 0, 1) := by decide +kernel
theorem dX1_build_60 : decode cX1_build 60 = .ok (.getfield 9, 3) := by decide +kernel
theorem dX1_build_63 : decode cX1_build 63 = .ok (.iload 4, 2) := by decide +kernel
theorem dX1_build_65 : decode cX1_build 65 = .ok (.aload_n 0, 1) := by decide +kernel
theorem dX1_build_66 : decode cX1_build 66 = .ok (.getfield 27, 3) := by decide +kernel
theorem dX1_build_69 : decode cX1_build 69 = .ok (.iconst 1, 1) := by decide +kernel
theorem dX1_build_70 : decode cX1_build 70 = .ok (.iadd, 1) := by decide +kernel
theorem dX1_build_71 : decode cX1_build 71 = .ok (.iload_n 3, 1) := by decide +kernel
theorem dX1_build_72 : decode cX1_build 72 = .ok (.isub, 1) := by decide +kernel
theorem dX1_build_73 : decode cX1_build 73 = .ok (.iastore, 1) := by decide +kernel
theorem dX1_build_74 : decode cX1_build 74 = .ok (.aload_n 0, 1) := by decide +kernel
theorem dX1_build_75 : decode cX1_build 75 = .ok (.getfield 15, 3) := by decide +kernel
theorem dX1_build_78 : decode cX1_build 78 = .ok (.iload 4, 2) := by decide +kernel
theorem dX1_build_80 : decode cX1_build 80 = .ok (.iload_n 2, 1) := by decide +kernel
theorem dX1_build_81 : decode cX1_build 81 = .ok (.iload_n 3, 1) := by decide +kernel
theorem dX1_build_82 : decode cX1_build 82 = .ok (.iconst 1, 1) := by decide +kernel
theorem dX1_build_83 : decode cX1_build 83 = .ok (.isub, 1) := by decide +kernel
theorem dX1_build_84 : decode cX1_build 84 = .ok (.ishr, 1) := by decide +kernel
theorem dX1_build_85 : decode cX1_build 85 = .ok (.iastore, 1) := by decide +kernel
theorem dX1_build_86 : decode cX1_build 86 = .ok (.iload_n 2, 1) := by decide +kernel
theorem dX1_build_87 : decode cX1_build 87 = .ok (.iconst 1, 1) := by decide +kernel
theorem dX1_build_88 : decode cX1_build 88 = .ok (.iload_n 3, 1) := by decide +kernel
theorem dX1_build_89 : decode cX1_build 89 = .ok (.iconst 1, 1) := by decide +kernel
theorem dX1_build_90 : decode cX1_build 90 = .ok (.isub, 1) := by decide +kernel
theorem dX1_build_91 : decode cX1_build 91 = .ok (.ishl, 1) := by decide +kernel
theorem dX1_build_92 : decode cX1_build 92 = .ok (.iadd, 1) := by decide +kernel
theorem dX1_build_93 : decode cX1_build 93 = .ok (.sipush 2048, 3) := by decide +kernel
theorem dX1_build_96 : decode cX1_build 96 = .ok (.invokestatic 40, 3) := by decide +kernel
theorem dX1_build_99 : decode cX1_build 99 = .ok (.istore 5, 2) := by decide +kernel
theorem dX1_build_101 : decode cX1_build 101 = .ok (.iload_n 2, 1) := by decide +kernel
theorem dX1_build_102 : decode cX1_build 102 = .ok (.iload 5, 2) := by decide +kernel
theorem dX1_build_104 : decode cX1_build 104 = .ok (.if_icmp .ge 17, 3) := by decide +kernel
theorem dX1_build_107 : decode cX1_build 107 = .ok (.aload_n 0, 1) := by decide +kernel
theorem dX1_build_108 : decode cX1_build 108 = .ok (.getfield 18, 3) := by decide +kernel
theorem dX1_build_111 : decode cX1_build 111 = .ok (.iload_n 2, 1) := by decide +kernel
theorem dX1_build_112 : decode cX1_build 112 = .ok (.iload 4, 2) := by decide +kernel
theorem dX1_build_114 : decode cX1_build 114 = .ok (.iastore, 1) := by decide +kernel
theorem dX1_build_115 : decode cX1_build 115 = .ok (.iinc 2 1, 3) := by decide +kernel
theorem dX1_build_118 : decode cX1_build 118 = .ok (.goto (-17), 3) := by decide +kernel
theorem dX1_build_121 : decode cX1_build 121 = .ok (.iinc 4 1, 3) := by decide +kernel
theorem dX1_build_124 : decode cX1_build 124 = .ok (.goto (-93), 3) := by decide +kernel
theorem dX1_build_127 : decode cX1_build 127 = .ok (.iinc 3 1, 3) := by decide +kernel
theorem dX1_build_130 : decode cX1_build 130 = .ok (.goto (-110), 3) := by decide +kernel
theorem dX1_build_133 : decode cX1_build 133 = .ok (.return_, 1) := by decide +kernel
theorem dX1_symbolOf_0 : decode cX1_symbolOf 0 = .ok (.iload_n 1, 1) := by decide +kernel
theorem dX1_symbolOf_1 : decode cX1_symbolOf 1 = .ok (.ifCond .lt 19, 3) := by decide +kernel
theorem dX1_symbolOf_4 : decode cX1_symbolOf 4 = .ok (.iload_n 1, 1) := by decide +kernel
theorem dX1_symbolOf_5 : decode cX1_symbolOf 5 = .ok (.sipush 2048, 3) := by decide +kernel
theorem dX1_symbolOf_8 : decode cX1_symbolOf 8 = .ok (.if_icmp .ge 12, 3) := by decide +kernel
theorem dX1_symbolOf_11 : decode cX1_symbolOf 11 = .ok (.aload_n 0, 1) := by decide +kernel
theorem dX1_symbolOf_12 : decode cX1_symbolOf 12 = .ok (.getfield 18, 3) := by decide +kernel
theorem dX1_symbolOf_15 : decode cX1_symbolOf 15 = .ok (.iload_n 1, 1) := by decide +kernel
theorem dX1_symbolOf_16 : decode cX1_symbolOf 16 = .ok (.iaload, 1) := by decide +kernel
theorem dX1_symbolOf_17 : decode cX1_symbolOf 17 = .ok (.goto 4, 3) := by decide +kernel
theorem dX1_symbolOf_20 : decode cX1_symbolOf 20 = .ok (.iconst 0, 1) := by decide +kernel
theorem dX1_symbolOf_21 : decode cX1_symbolOf 21 = .ok (.ireturn, 1) := by decide +kernel
theorem dX1_lengthOf_0 : decode cX1_lengthOf 0 = .ok (.iconst 0, 1) := by decide +kernel
theorem dX1_lengthOf_1 : decode cX1_lengthOf 1 = .ok (.istore 4, 2) := by decide +kernel
theorem dX1_lengthOf_3 : decode cX1_lengthOf 3 = .ok (.iload_n 2, 1) := by decide +kernel
theorem dX1_lengthOf_4 : decode cX1_lengthOf 4 = .ok (.istore 5, 2) := by decide +kernel
theorem dX1_lengthOf_6 : decode cX1_lengthOf 6 = .ok (.iload 5, 2) := by decide +kernel
theorem dX1_lengthOf_8 : decode cX1_lengthOf 8 = .ok (.iload_n 3, 1) := by decide +kernel
theorem dX1_lengthOf_9 : decode cX1_lengthOf 9 = .ok (.if_icmp .ge 25, 3) := by decide +kernel
theorem dX1_lengthOf_12 : decode cX1_lengthOf 12 = .ok (.iload 4, 2) := by decide +kernel
theorem dX1_lengthOf_14 : decode cX1_lengthOf 14 = .ok (.aload_n 0, 1) := by decide +kernel
theorem dX1_lengthOf_15 : decode cX1_lengthOf 15 = .ok (.getfield 9, 3) := by decide +kernel
theorem dX1_lengthOf_18 : decode cX1_lengthOf 18 = .ok (.aload_n 1, 1) := by decide +kernel
theorem dX1_lengthOf_19 : decode cX1_lengthOf 19 = .ok (.iload 5, 2) := by decide +kernel
theorem dX1_lengthOf_21 : decode cX1_lengthOf 21 = .ok (.invokevirtual 46, 3) := by decide +kernel
theorem dX1_lengthOf_24 : decode cX1_lengthOf 24 = .ok (.iaload, 1) := by decide +kernel
theorem dX1_lengthOf_25 : decode cX1_lengthOf 25 = .ok (.iadd, 1) := by decide +kernel
theorem dX1_lengthOf_26 : decode cX1_lengthOf 26 = .ok (.istore 4, 2) := by decide +kernel
theorem dX1_lengthOf_28 : decode cX1_lengthOf 28 = .ok (.iinc 5 1, 3) := by decide +kernel
theorem dX1_lengthOf_31 : decode cX1_lengthOf 31 = .ok (.goto (-25), 3) := by decide +kernel
theorem dX1_lengthOf_34 : decode cX1_lengthOf 34 = .ok (.iload 4, 2) := by decide +kernel
theorem dX1_lengthOf_36 : decode cX1_lengthOf 36 = .ok (.bipush 8, 2) := by decide +kernel
theorem dX1_lengthOf_38 : decode cX1_lengthOf 38 = .ok (.idiv, 1) := by decide +kernel
theorem dX1_lengthOf_39 : decode cX1_lengthOf 39 = .ok (.iconst 1, 1) := by decide +kernel
theorem dX1_lengthOf_40 : decode cX1_lengthOf 40 = .ok (.iadd, 1) := by decide +kernel
theorem dX1_lengthOf_41 : decode cX1_lengthOf 41 = .ok (.ireturn, 1) := by decide +kernel
theorem dX2_init_0 : decode cX2_init 0 = .ok (.aload_n 0, 1) := by decide +kernel
theorem dX2_init_1 : decode cX2_init 1 = .ok (.invokespecial 3, 3) := by decide +kernel
theorem dX2_init_4 : decode cX2_init 4 = .ok (.aload_n 0, 1) := by decide +kernel
theorem dX2_init_5 : decode cX2_init 5 = .ok (.iconst 3, 1) := by decide +kernel
theorem dX2_init_6 : decode cX2_init 6 = .ok (.newarray .int, 2) := by decide +kernel
theorem dX2_init_8 : decode cX2_init 8 = .ok (.putfield 9, 3) := by decide +kernel
theorem dX2_init_11 : decode cX2_init 11 = .ok (.aload_n 0, 1) := by decide +kernel
theorem dX2_init_12 : decode cX2_init 12 = .ok (.iconst 3, 1) := by decide +kernel
theorem dX2_init_13 : decode cX2_init 13 = .ok (.anewarray 15, 3) := by decide +kernel
theorem dX2_init_16 : decode cX2_init 16 = .ok (.putfield 17, 3) := by decide +kernel
theorem dX2_init_19 : decode cX2_init 19 = .ok (.aload_n 0, 1) := by decide +kernel
theorem dX2_init_20 : decode cX2_init 20 = .ok (.new 21, 3) := by decide +kernel
theorem dX2_init_23 : decode cX2_init 23 = .ok (.dup, 1) := by decide +kernel
theorem dX2_init_24 : decode cX2_init 24 = .ok (.invokespecial 23, 3) := by decide +kernel
theorem dX2_init_27 : decode cX2_init 27 = .ok (.putfield 24, 3) := by decide +kernel
theorem dX2_init_30 : decode cX2_init 30 = .ok (.aload_n 0, 1) := by decide +kernel
theorem dX2_init_31 : decode cX2_init 31 = .ok (.new 28, 3) := by decide +kernel
theorem dX2_init_34 : decode cX2_init 34 = .ok (.dup, 1) := by decide +kernel
theorem dX2_init_35 : decode cX2_init 35 = .ok (.sipush 3000, 3) := by decide +kernel
theorem dX2_init_38 : decode cX2_init 38 = .ok (.invokespecial 30, 3) := by decide +kernel
theorem dX2_init_41 : decode cX2_init 41 = .ok (.putfield 33, 3) := by decide +kernel
theorem dX2_init_44 : decode cX2_init 44 = .ok (.iconst 0, 1) := by decide +kernel
theorem dX2_init_45 : decode cX2_init 45 = .ok (.istore_n 1, 1) := by decide +kernel
theorem dX2_init_46 : decode cX2_init 46 = .ok (.iload_n 1, 1) := by decide +kernel
theorem dX2_init_47 : decode cX2_init 47 = .ok (.iconst 3, 1) := by decide +kernel
theorem dX2_init_48 : decode cX2_init 48 = .ok (.if_icmp .ge 22, 3) := by decide +kernel
theorem dX2_init_51 : decode cX2_init 51 = .ok (.aload_n 0, 1) := by decide +kernel
theorem dX2_init_52 : decode cX2_init 52 = .ok (.getfield 17, 3) := by decide +kernel
theorem dX2_init_55 : decode cX2_init 55 = .ok (.iload_n 1, 1) := by decide +kernel
theorem dX2_init_56 : decode cX2_init 56 = .ok (.new 15, 3) := by decide +kernel
theorem dX2_init_59 : decode cX2_init 59 = .ok (.dup, 1) := by decide +kernel
theorem dX2_init_60 : decode cX2_init 60 = .ok (.invokespecial 37, 3) := by decide +kernel
theorem dX2_init_63 : decode cX2_init 63 = .ok (.aastore, 1) := by decide +kernel
theorem dX2_init_64 : decode cX2_init 64 = .ok (.iinc 1 1, 3) := by decide +kernel
theorem dX2_init_67 : decode cX2_init 67 = .ok (.goto (-21), 3) := by decide +kernel
theorem dX2_init_70 : decode cX2_init 70 = .ok (.return_, 1) := by decide +kernel
theorem dX2_read_0 : decode cX2_read 0 = .ok (.aload_n 0, 1) := by decide +kernel
theorem dX2_read_1 : decode cX2_read 1 = .ok (.getfield 9, 3) := by decide +kernel
theorem dX2_read_4 : decode cX2_read 4 = .ok (.aconst_null, 1) := by decide +kernel
theorem dX2_read_5 : decode cX2_read 5 = .ok (.invokestatic 38, 3) := by decide +kernel
theorem dX2_read_8 : decode cX2_read 8 = .ok (.aload_n 0, 1) := by decide +kernel
theorem dX2_read_9 : decode cX2_read 9 = .ok (.iconst 0, 1) := by decide +kernel
theorem dX2_read_10 : decode cX2_read 10 = .ok (.putfield 42, 3) := by decide +kernel
theorem dX2_read_13 : decode cX2_read 13 = .ok (.aload_n 0, 1) := by decide +kernel
theorem dX2_read_14 : decode cX2_read 14 = .ok (.iconst 0, 1) := by decide +kernel
theorem dX2_read_15 : decode cX2_read 15 = .ok (.putfield 46, 3) := by decide +kernel
theorem dX2_read_18 : decode cX2_read 18 = .ok (.aload_n 0, 1) := by decide +kernel
theorem dX2_read_19 : decode cX2_read 19 = .ok (.aload_n 1, 1) := by decide +kernel
theorem dX2_read_20 : decode cX2_read 20 = .ok (.getfield 49, 3) := by decide +kernel
theorem dX2_read_23 : decode cX2_read 23 = .ok (.iconst 4, 1) := by decide +kernel
theorem dX2_read_24 : decode cX2_read 24 = .ok (.if_icmp .lt 20, 3) := by decide +kernel
theorem dX2_read_27 : decode cX2_read 27 = .ok (.aload_n 1, 1) := by decide +kernel
theorem dX2_read_28 : decode cX2_read 28 = .ok (.iconst 0, 1) := by decide +kernel
theorem dX2_read_29 : decode cX2_read 29 = .ok (.iconst 4, 1) := by decide +kernel
theorem dX2_read_30 : decode cX2_read 30 = .ok (.invokevirtual 52, 3) := by decide +kernel
theorem dX2_read_33 : decode cX2_read 33 = .ok (.ldc2_w 55, 3) := by decide +kernel
theorem dX2_read_36 : decode cX2_read 36 = .ok (.lcmp, 1) := by decide +kernel
theorem dX2_read_37 : decode cX2_read 37 = .ok (.ifCond .ne 7, 3) := by decide +kernel
theorem dX2_read_40 : decode cX2_read 40 = .ok (.iconst 1, 1) := by decide +kernel
theorem dX2_read_41 : decode cX2_read 41 = .ok (.goto 4, 3) := by decide +kernel
theorem dX2_read_44 : decode cX2_read 44 = .ok (.iconst 0, 1) := by decide +kernel
theorem dX2_read_45 : decode cX2_read 45 = .ok (.putfield 57, 3) := by decide +kernel
theorem dX2_read_48 : decode cX2_read 48 = .ok (.aload_n 0, 1) := by decide +kernel
theorem dX2_read_49 : decode cX2_read 49 = .ok (.getfield 57, 3) := by decide +kernel
theorem dX2_read_52 : decode cX2_read 52 = .ok (.ifCond .ne 5, 3) := by decide +kernel
theorem dX2_read_55 : decode cX2_read 55 = .ok (.iconst 1, 1) := by decide +kernel
theorem dX2_read_56 : decode cX2_read 56 = .ok (.ireturn, 1) := by decide +kernel
theorem dX2_read_57 : decode cX2_read 57 = .ok (.aload_n 0, 1) := by decide +kernel
theorem dX2_read_58 : decode cX2_read 58 = .ok (.aload_n 1, 1) := by decide +kernel
theorem dX2_read_59 : decode cX2_read 59 = .ok (.getfield 49, 3) := by decide +kernel
theorem dX2_read_62 : decode cX2_read 62 = .ok (.bipush 8, 2) := by decide +kernel
theorem dX2_read_64 : decode cX2_read 64 = .ok (.if_icmp .ge 7, 3) := by decide +kernel
theorem dX2_read_67 : decode cX2_read 67 = .ok (.iconst 0, 1) := by decide +kernel
theorem dX2_read_68 : decode cX2_read 68 = .ok (.goto 10, 3) := by decide +kernel
theorem dX2_read_71 : decode cX2_read 71 = .ok (.aload_n 1, 1) := by decide +kernel
theorem dX2_read_72 : decode cX2_read 72 = .ok (.iconst 4, 1) := by decide +kernel
theorem dX2_read_73 : decode cX2_read 73 = .ok (.iconst 4, 1) := by decide +kernel
theorem dX2_read_74 : decode cX2_read 74 = .ok (.invokevirtual 52, 3) := by decide +kernel
theorem dX2_read_77 : decode cX2_read 77 = .ok (.l2i, 1) := by decide +kernel
theorem dX2_read_78 : decode cX2_read 78 = .ok (.putfield 42, 3) := by decide +kernel
theorem dX2_read_81 : decode cX2_read 81 = .ok (.aload_n 0, 1) := by decide +kernel
theorem dX2_read_82 : decode cX2_read 82 = .ok (.getfield 42, 3) := by decide +kernel
theorem dX2_read_85 : decode cX2_read 85 = .ok (.ifCond .ne 5, 3) := by decide +kernel
theorem dX2_read_88 : decode cX2_read 88 = .ok (.iconst 0, 1) := by decide +kernel
theorem dX2_read_89 : decode cX2_read 89 = .ok (.ireturn, 1) := by decide +kernel
theorem dX2_read_90 : decode cX2_read 90 = .ok (.aload_n 2, 1) := by decide +kernel
theorem dX2_read_91 : decode cX2_read 91 = .ok (.aload_n 1, 1) := by decide +kernel
theorem dX2_read_92 : decode cX2_read 92 = .ok (.bipush 8, 2) := by decide +kernel
theorem dX2_read_94 : decode cX2_read 94 = .ok (.aload_n 1, 1) := by decide +kernel
theorem dX2_read_95 : decode cX2_read 95 = .ok (.getfield 49, 3) := by decide +kernel
theorem dX2_read_98 : decode cX2_read 98 = .ok (.invokevirtual 61, 3) := by decide +kernel
theorem dX2_read_101 : decode cX2_read 101 = .ok (.istore_n 3, 1) := by decide +kernel
theorem dX2_read_102 : decode cX2_read 102 = .ok (.iload_n 3, 1) := by decide +kernel
theorem dX2_read_103 : decode cX2_read 103 = .ok (.ifCond .ge 5, 3) := by decide +kernel
theorem dX2_read_106 : decode cX2_read 106 = .ok (.iconst 0, 1) := by decide +kernel
theorem dX2_read_107 : decode cX2_read 107 = .ok (.ireturn, 1) := by decide +kernel
theorem dX2_read_108 : decode cX2_read 108 = .ok (.aload_n 0, 1) := by decide +kernel
theorem dX2_read_109 : decode cX2_read 109 = .ok (.getfield 24, 3) := by decide +kernel
theorem dX2_read_112 : decode cX2_read 112 = .ok (.aload_n 2, 1) := by decide +kernel
theorem dX2_read_113 : decode cX2_read 113 = .ok (.invokevirtual 67, 3) := by decide +kernel
theorem dX2_read_116 : decode cX2_read 116 = .ok (.aload_n 0, 1) := by decide +kernel
theorem dX2_read_117 : decode cX2_read 117 = .ok (.aload_n 1, 1) := by decide +kernel
theorem dX2_read_118 : decode cX2_read 118 = .ok (.iload_n 3, 1) := by decide +kernel
theorem dX2_read_119 : decode cX2_read 119 = .ok (.iconst 1, 1) := by decide +kernel
theorem dX2_read_120 : decode cX2_read 120 = .ok (.invokevirtual 71, 3) := by decide +kernel
theorem dX2_read_123 : decode cX2_read 123 = .ok (.istore_n 3, 1) := by decide +kernel
theorem dX2_read_124 : decode cX2_read 124 = .ok (.aload_n 0, 1) := by decide +kernel
theorem dX2_read_125 : decode cX2_read 125 = .ok (.aload_n 1, 1) := by decide +kernel
theorem dX2_read_126 : decode cX2_read 126 = .ok (.iload_n 3, 1) := by decide +kernel
theorem dX2_read_127 : decode cX2_read 127 = .ok (.iconst 2, 1) := by decide +kernel
theorem dX2_read_128 : decode cX2_read 128 = .ok (.invokevirtual 71, 3) := by decide +kernel
theorem dX2_read_131 : decode cX2_read 131 = .ok (.istore_n 3, 1) := by decide +kernel
theorem dX2_read_132 : decode cX2_read 132 = .ok (.aload_n 0, 1) := by decide +kernel
theorem dX2_read_133 : decode cX2_read 133 = .ok (.aload_n 1, 1) := by decide +kernel
theorem dX2_read_134 : decode cX2_read 134 = .ok (.iload_n 3, 1) := by decide +kernel
theorem dX2_read_135 : decode cX2_read 135 = .ok (.iconst 0, 1) := by decide +kernel
theorem dX2_read_136 : decode cX2_read 136 = .ok (.invokevirtual 71, 3) := by decide +kernel
theorem dX2_read_139 : decode cX2_read 139 = .ok (.istore_n 3, 1) := by decide +kernel
theorem dX2_read_140 : decode cX2_read 140 = .ok (.aload_n 0, 1) := by decide +kernel
theorem dX2_read_141 : decode cX2_read 141 = .ok (.iload_n 3, 1) := by decide +kernel
theorem dX2_read_142 : decode cX2_read 142 = .ok (.bipush 12, 2) := by decide +kernel
theorem dX2_read_144 : decode cX2_read 144 = .ok (.iadd, 1) := by decide +kernel
theorem dX2_read_145 : decode cX2_read 145 = .ok (.putfield 46, 3) := by decide +kernel
theorem dX2_read_148 : decode cX2_read 148 = .ok (.iload_n 3, 1) := by decide +kernel
theorem dX2_read_149 : decode cX2_read 149 = .ok (.ifCond .lt 27, 3) := by decide +kernel
theorem dX2_read_152 : decode cX2_read 152 = .ok (.aload_n 0, 1) := by decide +kernel
theorem dX2_read_153 : decode cX2_read 153 = .ok (.getfield 46, 3) := by decide +kernel
theorem dX2_read_156 : decode cX2_read 156 = .ok (.aload_n 1, 1) := by decide +kernel
theorem dX2_read_157 : decode cX2_read 157 = .ok (.getfield 49, 3) := by decide +kernel
theorem dX2_read_160 : decode cX2_read 160 = .ok (.if_icmp .gt 16, 3) := by decide +kernel
theorem dX2_read_163 : decode cX2_read 163 = .ok (.aload_n 0, 1) := by decide +kernel
theorem dX2_read_164 : decode cX2_read 164 = .ok (.aload_n 1, 1) := by decide +kernel
theorem dX2_read_165 : decode cX2_read 165 = .ok (.iload_n 3, 1) := by decide +kernel
theorem dX2_read_166 : decode cX2_read 166 = .ok (.invokevirtual 74, 3) := by decide +kernel
theorem dX2_read_169 : decode cX2_read 169 = .ok (.ifCond .eq 7, 3) := by decide +kernel
theorem dX2_read_172 : decode cX2_read 172 = .ok (.iconst 1, 1) := by decide +kernel
theorem dX2_read_173 : decode cX2_read 173 = .ok (.goto 4, 3) := by decide +kernel
theorem dX2_read_176 : decode cX2_read 176 = .ok (.iconst 0, 1) := by decide +kernel
theorem dX2_read_177 : decode cX2_read 177 = .ok (.ireturn, 1) := by decide +kernel
theorem dX2_readTable_0 : decode cX2_readTable 0 = .ok (.iload_n 2, 1) := by decide +kernel
theorem dX2_readTable_1 : decode cX2_readTable 1 = .ok (.ifCond .ge 7, 3) := by decide +kernel
theorem dX2_readTable_4 : decode cX2_readTable 4 = .ok (.iconst (-1), 1) := by decide +kernel
theorem dX2_readTable_5 : decode cX2_readTable 5 = .ok (.goto 28, 3) := by decide +kernel
theorem dX2_readTable_8 : decode cX2_readTable 8 = .ok (.aload_n 0, 1) := by decide +kernel
theorem dX2_readTable_9 : decode cX2_readTable 9 = .ok (.getfield 17, 3) := by decide +kernel
theorem dX2_readTable_12 : decode cX2_readTable 12 = .ok (.iload_n 3, 1) := by decide +kernel
theorem dX2_readTable_13 : decode cX2_readTable 13 = .ok (.aaload, 1) := by decide +kernel
theorem dX2_readTable_14 : decode cX2_readTable 14 = .ok (.aload_n 1, 1) := by decide +kernel
theorem dX2_readTable_15 : decode cX2_readTable 15 = .ok (.iload_n 2, 1) := by decide +kernel
theorem dX2_readTable_16 : decode cX2_readTable 16 = .ok (.aload_n 1, 1) := by decide +kernel
theorem dX2_readTable_17 : decode cX2_readTable 17 = .ok (.getfield 49, 3) := by decide +kernel
theorem dX2_readTable_20 : decode cX2_readTable 20 = .ok (.getstatic 78, 3) := by decide +kernel
theorem dX2_readTable_23 : decode cX2_readTable 23 = .ok (.iload_n 3, 1) := by decide +kernel
theorem dX2_readTable_24 : decode cX2_readTable 24 = .ok (.iaload, 1) := by decide +kernel
theorem dX2_readTable_25 : decode cX2_readTable 25 = .ok (.getstatic 81, 3) := by decide +kernel
theorem dX2_readTable_28 : decode cX2_readTable 28 = .ok (.iload_n 3, 1) := by decide +kernel
theorem dX2_readTable_29 : decode cX2_readTable 29 = .ok (.iaload, 1) := by decide +kernel
theorem dX2_readTable_30 : decode cX2_readTable 30 = .ok (.invokevirtual 84, 3) := by decide +kernel
theorem dX2_readTable_33 : decode cX2_readTable 33 = .ok (.ireturn, 1) := by decide +kernel
theorem dX2_readRemembered_0 : decode cX2_readRemembered 0 = .ok (.iconst 0, 1) := by decide +kernel
theorem dX2_readRemembered_1 : decode cX2_readRemembered 1 = .ok (.istore_n 3, 1) := by decide +kernel
theorem dX2_readRemembered_2 : decode cX2_readRemembered 2 = .ok (.iload_n 3, 1) := by decide +kernel
theorem dX2_readRemembered_3 : decode cX2_readRemembered 3 = .ok (.iconst 3, 1) := by decide +kernel
theorem dX2_readRemembered_4 : decode cX2_readRemembered 4 = .ok (.if_icmp .ge 55, 3) := by decide +kernel
theorem dX2_readRemembered_7 : decode cX2_readRemembered 7 = .ok (.aload_n 1, 1) := by decide +kernel
theorem dX2_readRemembered_8 : decode cX2_readRemembered 8 = .ok (.iload_n 2, 1) := by decide +kernel
theorem dX2_readRemembered_9 : decode cX2_readRemembered 9 = .ok (.iconst 4, 1) := by decide +kernel
theorem dX2_readRemembered_10 : decode cX2_readRemembered 10 = .ok (.iload_n 3, 1) := by decide +kernel
theorem dX2_readRemembered_11 : decode cX2_readRemembered 11 = .ok (.imul, 1) := by decide +kernel
theorem dX2_readRemembered_12 : decode cX2_readRemembered 12 = .ok (.iadd, 1) := by decide +kernel
theorem dX2_readRemembered_13 : decode cX2_readRemembered 13 = .ok (.iconst 4, 1) := by decide +kernel
theorem dX2_readRemembered_14 : decode cX2_readRemembered 14 = .ok (.invokevirtual 52, 3) := by decide +kernel
theorem dX2_readRemembered_17 : decode cX2_readRemembered 17 = .ok (.lstore 4, 2) := by decide +kernel
theorem dX2_readRemembered_19 : decode cX2_readRemembered 19 = .ok (.lload 4, 2) := by decide +kernel
theorem dX2_readRemembered_21 : decode cX2_readRemembered 21 = .ok (.lconst 0, 1) := by decide +kernel
theorem dX2_readRemembered_22 : decode cX2_readRemembered 22 = .ok (.lcmp, 1) := by decide +kernel
theorem dX2_readRemembered_23 : decode cX2_readRemembered 23 = .ok (.ifCond .eq 19, 3) := by decide +kernel
theorem dX2_readRemembered_26 : decode cX2_readRemembered 26 = .ok (.lload 4, 2) := by decide +kernel
theorem dX2_readRemembered_28 : decode cX2_readRemembered 28 = .ok (.aload_n 1, 1) := by decide +kernel
theorem dX2_readRemembered_29 : decode cX2_readRemembered 29 = .ok (.getfield 49, 3) := by decide +kernel
theorem dX2_readRemembered_32 : decode cX2_readRemembered 32 = .ok (.aload_n 0, 1) := by decide +kernel
theorem dX2_readRemembered_33 : decode cX2_readRemembered 33 = .ok (.getfield 46, 3) := by decide +kernel
theorem dX2_readRemembered_36 : decode cX2_readRemembered 36 = .ok (.isub, 1) := by decide +kernel
theorem dX2_readRemembered_37 : decode cX2_readRemembered 37 = .ok (.i2l, 1) := by decide +kernel
theorem dX2_readRemembered_38 : decode cX2_readRemembered 38 = .ok (.lcmp, 1) := by decide +kernel
theorem dX2_readRemembered_39 : decode cX2_readRemembered 39 = .ok (.ifCond .le 5, 3) := by decide +kernel
theorem dX2_readRemembered_42 : decode cX2_readRemembered 42 = .ok (.iconst 0, 1) := by decide +kernel
theorem dX2_readRemembered_43 : decode cX2_readRemembered 43 = .ok (.ireturn, 1) := by decide +kernel
theorem dX2_readRemembered_44 : decode cX2_readRemembered 44 = .ok (.aload_n 0, 1) := by decide +kernel
theorem dX2_readRemembered_45 : decode cX2_readRemembered 45 = .ok (.getfield 9, 3) := by decide +kernel
theorem dX2_readRemembered_48 : decode cX2_readRemembered 48 = .ok (.iload_n 3, 1) := by decide +kernel
theorem dX2_readRemembered_49 : decode cX2_readRemembered 49 = .ok (.lload 4, 2) := by decide +kernel
theorem dX2_readRemembered_51 : decode cX2_readRemembered 51 = .ok (.l2i, 1) := by decide +kernel
theorem dX2_readRemembered_52 : decode cX2_readRemembered 52 = .ok (.iastore, 1) := by decide +kernel
theorem dX2_readRemembered_53 : decode cX2_readRemembered 53 = .ok (.iinc 3 1, 3) := by decide +kernel
theorem dX2_readRemembered_56 : decode cX2_readRemembered 56 = .ok (.goto (-54), 3) := by decide +kernel
theorem dX2_readRemembered_59 : decode cX2_readRemembered 59 = .ok (.iconst 1, 1) := by decide +kernel
theorem dX2_readRemembered_60 : decode cX2_readRemembered 60 = .ok (.ireturn, 1) := by decide +kernel
theorem dX2_takeContent_0 : decode cX2_takeContent 0 = .ok (.aload_n 0, 1) := by decide +kernel
theorem dX2_takeContent_1 : decode cX2_takeContent 1 = .ok (.getfield 33, 3) := by decide +kernel
theorem dX2_takeContent_4 : decode cX2_takeContent 4 = .ok (.iconst 0, 1) := by decide +kernel
theorem dX2_takeContent_5 : decode cX2_takeContent 5 = .ok (.putfield 49, 3) := by decide +kernel
theorem dX2_takeContent_8 : decode cX2_takeContent 8 = .ok (.aload_n 0, 1) := by decide +kernel
theorem dX2_takeContent_9 : decode cX2_takeContent 9 = .ok (.getfield 33, 3) := by decide +kernel
theorem dX2_takeContent_12 : decode cX2_takeContent 12 = .ok (.aload_n 1, 1) := by decide +kernel
theorem dX2_takeContent_13 : decode cX2_takeContent 13 = .ok (.aload_n 0, 1) := by decide +kernel
theorem dX2_takeContent_14 : decode cX2_takeContent 14 = .ok (.getfield 46, 3) := by decide +kernel
theorem dX2_takeContent_17 : decode cX2_takeContent 17 = .ok (.aload_n 1, 1) := by decide +kernel
theorem dX2_takeContent_18 : decode cX2_takeContent 18 = .ok (.getfield 49, 3) := by decide +kernel
theorem dX2_takeContent_21 : decode cX2_takeContent 21 = .ok (.aload_n 0, 1) := by decide +kernel
theorem dX2_takeContent_22 : decode cX2_takeContent 22 = .ok (.getfield 46, 3) := by decide +kernel
theorem dX2_takeContent_25 : decode cX2_takeContent 25 = .ok (.isub, 1) := by decide +kernel
theorem dX2_takeContent_26 : decode cX2_takeContent 26 = .ok (.invokevirtual 87, 3) := by decide +kernel
theorem dX2_takeContent_29 : decode cX2_takeContent 29 = .ok (.return_, 1) := by decide +kernel
theorem dX3_init_0 : decode cX3_init 0 = .ok (.aload_n 0, 1) := by decide +kernel
theorem dX3_init_1 : decode cX3_init 1 = .ok (.invokespecial 3, 3) := by decide +kernel
theorem dX3_init_4 : decode cX3_init 4 = .ok (.aload_n 0, 1) := by decide +kernel
theorem dX3_init_5 : decode cX3_init 5 = .ok (.new 9, 3) := by decide +kernel
theorem dX3_init_8 : decode cX3_init 8 = .ok (.dup, 1) := by decide +kernel
theorem dX3_init_9 : decode cX3_init 9 = .ok (.sipush 2048, 3) := by decide +kernel
theorem dX3_init_12 : decode cX3_init 12 = .ok (.invokespecial 11, 3) := by decide +kernel
theorem dX3_init_15 : decode cX3_init 15 = .ok (.putfield 14, 3) := by decide +kernel
theorem dX3_init_18 : decode cX3_init 18 = .ok (.aload_n 0, 1) := by decide +kernel
theorem dX3_init_19 : decode cX3_init 19 = .ok (.sipush 512, 3) := by decide +kernel
theorem dX3_init_22 : decode cX3_init 22 = .ok (.newarray .int, 2) := by decide +kernel
theorem dX3_init_24 : decode cX3_init 24 = .ok (.putfield 20, 3) := by decide +kernel
theorem dX3_init_27 : decode cX3_init 27 = .ok (.aload_n 0, 1) := by decide +kernel
theorem dX3_init_28 : decode cX3_init 28 = .ok (.sipush 512, 3) := by decide +kernel
theorem dX3_init_31 : decode cX3_init 31 = .ok (.newarray .int, 2) := by decide +kernel
theorem dX3_init_33 : decode cX3_init 33 = .ok (.putfield 24, 3) := by decide +kernel
theorem dX3_init_36 : decode cX3_init 36 = .ok (.aload_n 0, 1) := by decide +kernel
theorem dX3_init_37 : decode cX3_init 37 = .ok (.sipush 512, 3) := by decide +kernel
theorem dX3_init_40 : decode cX3_init 40 = .ok (.newarray .int, 2) := by decide +kernel
theorem dX3_init_42 : decode cX3_init 42 = .ok (.putfield 27, 3) := by decide +kernel
theorem dX3_init_45 : decode cX3_init 45 = .ok (.aload_n 0, 1) := by decide +kernel
theorem dX3_init_46 : decode cX3_init 46 = .ok (.new 9, 3) := by decide +kernel
theorem dX3_init_49 : decode cX3_init 49 = .ok (.dup, 1) := by decide +kernel
theorem dX3_init_50 : decode cX3_init 50 = .ok (.sipush 9000, 3) := by decide +kernel
theorem dX3_init_53 : decode cX3_init 53 = .ok (.invokespecial 11, 3) := by decide +kernel
theorem dX3_init_56 : decode cX3_init 56 = .ok (.putfield 30, 3) := by decide +kernel
theorem dX3_init_59 : decode cX3_init 59 = .ok (.aload_n 0, 1) := by decide +kernel
theorem dX3_init_60 : decode cX3_init 60 = .ok (.sipush 4096, 3) := by decide +kernel
theorem dX3_init_63 : decode cX3_init 63 = .ok (.newarray .int, 2) := by decide +kernel
theorem dX3_init_65 : decode cX3_init 65 = .ok (.putfield 33, 3) := by decide +kernel
theorem dX3_init_68 : decode cX3_init 68 = .ok (.aload_n 0, 1) := by decide +kernel
theorem dX3_init_69 : decode cX3_init 69 = .ok (.sipush 9000, 3) := by decide +kernel
theorem dX3_init_72 : decode cX3_init 72 = .ok (.newarray .int, 2) := by decide +kernel
theorem dX3_init_74 : decode cX3_init 74 = .ok (.putfield 36, 3) := by decide +kernel
theorem dX3_init_77 : decode cX3_init 77 = .ok (.return_, 1) := by decide +kernel
theorem dX3_begin_0 : decode cX3_begin 0 = .ok (.aload_n 0, 1) := by decide +kernel
theorem dX3_begin_1 : decode cX3_begin 1 = .ok (.getfield 30, 3) := by decide +kernel
theorem dX3_begin_4 : decode cX3_begin 4 = .ok (.iconst 0, 1) := by decide +kernel
theorem dX3_begin_5 : decode cX3_begin 5 = .ok (.putfield 39, 3) := by decide +kernel
theorem dX3_begin_8 : decode cX3_begin 8 = .ok (.aload_n 2, 1) := by decide +kernel
theorem dX3_begin_9 : decode cX3_begin 9 = .ok (.ifnull 16, 3) := by decide +kernel
theorem dX3_begin_12 : decode cX3_begin 12 = .ok (.aload_n 0, 1) := by decide +kernel
theorem dX3_begin_13 : decode cX3_begin 13 = .ok (.getfield 30, 3) := by decide +kernel
theorem dX3_begin_16 : decode cX3_begin 16 = .ok (.aload_n 2, 1) := by decide +kernel
theorem dX3_begin_17 : decode cX3_begin 17 = .ok (.iconst 0, 1) := by decide +kernel
theorem dX3_begin_18 : decode cX3_begin 18 = .ok (.aload_n 2, 1) := by decide +kernel
theorem dX3_begin_19 : decode cX3_begin 19 = .ok (.getfield 39, 3) := by decide +kernel
theorem dX3_begin_22 : decode cX3_begin 22 = .ok (.invokevirtual 43, 3) := by decide +kernel
theorem dX3_begin_25 : decode cX3_begin 25 = .ok (.aload_n 0, 1) := by decide +kernel
theorem dX3_begin_26 : decode cX3_begin 26 = .ok (.aload_n 0, 1) := by decide +kernel
theorem dX3_begin_27 : decode cX3_begin 27 = .ok (.getfield 30, 3) := by decide +kernel
theorem dX3_begin_30 : decode cX3_begin 30 = .ok (.getfield 39, 3) := by decide +kernel
theorem dX3_begin_33 : decode cX3_begin 33 = .ok (.putfield 47, 3) := by decide +kernel
theorem dX3_begin_36 : decode cX3_begin 36 = .ok (.aload_n 0, 1) := by decide +kernel
theorem dX3_begin_37 : decode cX3_begin 37 = .ok (.getfield 30, 3) := by decide +kernel
theorem dX3_begin_40 : decode cX3_begin 40 = .ok (.aload_n 1, 1) := by decide +kernel
theorem dX3_begin_41 : decode cX3_begin 41 = .ok (.iconst 0, 1) := by decide +kernel
theorem dX3_begin_42 : decode cX3_begin 42 = .ok (.aload_n 1, 1) := by decide +kernel
theorem dX3_begin_43 : decode cX3_begin 43 = .ok (.getfield 39, 3) := by decide +kernel
theorem dX3_begin_46 : decode cX3_begin 46 = .ok (.invokevirtual 43, 3) := by decide +kernel
theorem dX3_begin_49 : decode cX3_begin 49 = .ok (.aload_n 0, 1) := by decide +kernel
theorem dX3_begin_50 : decode cX3_begin 50 = .ok (.getfield 33, 3) := by decide +kernel
theorem dX3_begin_53 : decode cX3_begin 53 = .ok (.iconst (-1), 1) := by decide +kernel
theorem dX3_begin_54 : decode cX3_begin 54 = .ok (.invokestatic 50, 3) := by decide +kernel
theorem dX3_begin_57 : decode cX3_begin 57 = .ok (.aload_n 0, 1) := by decide +kernel
theorem dX3_begin_58 : decode cX3_begin 58 = .ok (.iconst 0, 1) := by decide +kernel
theorem dX3_begin_59 : decode cX3_begin 59 = .ok (.putfield 56, 3) := by decide +kernel
theorem dX3_begin_62 : decode cX3_begin 62 = .ok (.return_, 1) := by decide +kernel
theorem dX3_find_0 : decode cX3_find 0 = .ok (.aload_n 0, 1) := by decide +kernel
theorem dX3_find_1 : decode cX3_find 1 = .ok (.getfield 47, 3) := by decide +kernel
theorem dX3_find_4 : decode cX3_find 4 = .ok (.iload_n 2, 1) := by decide +kernel
theorem dX3_find_5 : decode cX3_find 5 = .ok (.iadd, 1) := by decide +kernel
theorem dX3_find_6 : decode cX3_find 6 = .ok (.istore_n 3, 1) := by decide +kernel
theorem dX3_find_7 : decode cX3_find 7 = .ok (.aload_n 0, 1) := by decide +kernel
theorem dX3_find_8 : decode cX3_find 8 = .ok (.getfield 47, 3) := by decide +kernel
theorem dX3_find_11 : decode cX3_find 11 = .ok (.iload_n 1, 1) := by decide +kernel
theorem dX3_find_12 : decode cX3_find 12 = .ok (.iadd, 1) := by decide +kernel
theorem dX3_find_13 : decode cX3_find 13 = .ok (.istore 4, 2) := by decide +kernel
theorem dX3_find_15 : decode cX3_find 15 = .ok (.iconst 0, 1) := by decide +kernel
theorem dX3_find_16 : decode cX3_find 16 = .ok (.istore 5, 2) := by decide +kernel
theorem dX3_find_18 : decode cX3_find 18 = .ok (.aload_n 0, 1) := by decide +kernel
theorem dX3_find_19 : decode cX3_find 19 = .ok (.iconst 0, 1) := by decide +kernel
theorem dX3_find_20 : decode cX3_find 20 = .ok (.putfield 59, 3) := by decide +kernel
theorem dX3_find_23 : decode cX3_find 23 = .ok (.aload_n 0, 1) := by decide +kernel
theorem dX3_find_24 : decode cX3_find 24 = .ok (.getfield 14, 3) := by decide +kernel
theorem dX3_find_27 : decode cX3_find 27 = .ok (.iconst 0, 1) := by decide +kernel
theorem dX3_find_28 : decode cX3_find 28 = .ok (.putfield 39, 3) := by decide +kernel
theorem dX3_find_31 : decode cX3_find 31 = .ok (.iconst 0, 1) := by decide +kernel
theorem dX3_find_32 : decode cX3_find 32 = .ok (.istore 6, 2) := by decide +kernel
theorem dX3_find_34 : decode cX3_find 34 = .ok (.iload 6, 2) := by decide +kernel
theorem dX3_find_36 : decode cX3_find 36 = .ok (.sipush 2048, 3) := by decide +kernel
theorem dX3_find_39 : decode cX3_find 39 = .ok (.if_icmp .ge 126, 3) := by decide +kernel
theorem dX3_find_42 : decode cX3_find 42 = .ok (.iload 4, 2) := by decide +kernel
theorem dX3_find_44 : decode cX3_find 44 = .ok (.iload_n 3, 1) := by decide +kernel
theorem dX3_find_45 : decode cX3_find 45 = .ok (.if_icmp .ge 120, 3) := by decide +kernel
theorem dX3_find_48 : decode cX3_find 48 = .ok (.aload_n 0, 1) := by decide +kernel
theorem dX3_find_49 : decode cX3_find 49 = .ok (.iload 4, 2) := by decide +kernel
theorem dX3_find_51 : decode cX3_find 51 = .ok (.iload_n 3, 1) := by decide +kernel
theorem dX3_find_52 : decode cX3_find 52 = .ok (.invokevirtual 62, 3) := by decide +kernel
theorem dX3_find_55 : decode cX3_find 55 = .ok (.aload_n 0, 1) := by decide +kernel
theorem dX3_find_56 : decode cX3_find 56 = .ok (.getfield 66, 3) := by decide +kernel
theorem dX3_find_59 : decode cX3_find 59 = .ok (.ifCond .eq 13, 3) := by decide +kernel
theorem dX3_find_62 : decode cX3_find 62 = .ok (.aload_n 0, 1) := by decide +kernel
theorem dX3_find_63 : decode cX3_find 63 = .ok (.getfield 59, 3) := by decide +kernel
theorem dX3_find_66 : decode cX3_find 66 = .ok (.sipush 512, 3) := by decide +kernel
theorem dX3_find_69 : decode cX3_find 69 = .ok (.if_icmp .lt 28, 3) := by decide +kernel
theorem dX3_find_72 : decode cX3_find 72 = .ok (.aload_n 0, 1) := by decide +kernel
theorem dX3_find_73 : decode cX3_find 73 = .ok (.getfield 14, 3) := by decide +kernel
theorem dX3_find_76 : decode cX3_find 76 = .ok (.aload_n 0, 1) := by decide +kernel
theorem dX3_find_77 : decode cX3_find 77 = .ok (.getfield 30, 3) := by decide +kernel
theorem dX3_find_80 : decode cX3_find 80 = .ok (.iload 4, 2) := by decide +kernel
theorem dX3_find_82 : decode cX3_find 82 = .ok (.invokevirtual 69, 3) := by decide +kernel
theorem dX3_find_85 : decode cX3_find 85 = .ok (.invokevirtual 73, 3) := by decide +kernel
theorem dX3_find_88 : decode cX3_find 88 = .ok (.iinc 5 1, 3) := by decide +kernel
theorem dX3_find_91 : decode cX3_find 91 = .ok (.iinc 4 1, 3) := by decide +kernel
theorem dX3_find_94 : decode cX3_find 94 = .ok (.goto 65, 3) := by decide +kernel
theorem dX3_find_97 : decode cX3_find 97 = .ok (.aload_n 0, 1) := by decide +kernel
theorem dX3_find_98 : decode cX3_find 98 = .ok (.getfield 20, 3) := by decide +kernel
theorem dX3_find_101 : decode cX3_find 101 = .ok (.aload_n 0, 1) := by decide +kernel
theorem dX3_find_102 : decode cX3_find 102 = .ok (.getfield 59, 3) := by decide +kernel
theorem dX3_find_105 : decode cX3_find 105 = .ok (.iload 5, 2) := by decide +kernel
theorem dX3_find_107 : decode cX3_find 107 = .ok (.iastore, 1) := by decide +kernel
theorem dX3_find_108 : decode cX3_find 108 = .ok (.aload_n 0, 1) := by decide +kernel
theorem dX3_find_109 : decode cX3_find 109 = .ok (.getfield 24, 3) := by decide +kernel
theorem dX3_find_112 : decode cX3_find 112 = .ok (.aload_n 0, 1) := by decide +kernel
theorem dX3_find_113 : decode cX3_find 113 = .ok (.getfield 59, 3) := by decide +kernel
theorem dX3_find_116 : decode cX3_find 116 = .ok (.aload_n 0, 1) := by decide +kernel
theorem dX3_find_117 : decode cX3_find 117 = .ok (.getfield 66, 3) := by decide +kernel
theorem dX3_find_120 : decode cX3_find 120 = .ok (.iastore, 1) := by decide +kernel
theorem dX3_find_121 : decode cX3_find 121 = .ok (.aload_n 0, 1) := by decide +kernel
theorem dX3_find_122 : decode cX3_find 122 = .ok (.getfield 27, 3) := by decide +kernel
theorem dX3_find_125 : decode cX3_find 125 = .ok (.aload_n 0, 1) := by decide +kernel
theorem dX3_find_126 : decode cX3_find 126 = .ok (.getfield 59, 3) := by decide +kernel
theorem dX3_find_129 : decode cX3_find 129 = .ok (.iload 4, 2) := by decide +kernel
theorem dX3_find_131 : decode cX3_find 131 = .ok (.aload_n 0, 1) := by decide +kernel
theorem dX3_find_132 : decode cX3_find 132 = .ok (.getfield 76, 3) := by decide +kernel
theorem dX3_find_135 : decode cX3_find 135 = .ok (.isub, 1) := by decide +kernel
theorem dX3_find_136 : decode cX3_find 136 = .ok (.iastore, 1) := by decide +kernel
theorem dX3_find_137 : decode cX3_find 137 = .ok (.aload_n 0, 1) := by decide +kernel
theorem dX3_find_138 : decode cX3_find 138 = .ok (.dup, 1) := by decide +kernel
theorem dX3_find_139 : decode cX3_find 139 = .ok (.getfield 59, 3) := by decide +kernel
theorem dX3_find_142 : decode cX3_find 142 = .ok (.iconst 1, 1) := by decide +kernel
theorem dX3_find_143 : decode cX3_find 143 = .ok (.iadd, 1) := by decide +kernel
theorem dX3_find_144 : decode cX3_find 144 = .ok (.putfield 59, 3) := by decide +kernel
theorem dX3_find_147 : decode cX3_find 147 = .ok (.iconst 0, 1) := by decide +kernel
theorem dX3_find_148 : decode cX3_find 148 = .ok (.istore 5, 2) := by decide +kernel
theorem dX3_find_150 : decode cX3_find 150 = .ok (.iload 4, 2) := by decide +kernel
theorem dX3_find_152 : decode cX3_find 152 = .ok (.aload_n 0, 1) := by decide +kernel
theorem dX3_find_153 : decode cX3_find 153 = .ok (.getfield 66, 3) := by decide +kernel
theorem dX3_find_156 : decode cX3_find 156 = .ok (.iadd, 1) := by decide +kernel
theorem dX3_find_157 : decode cX3_find 157 = .ok (.istore 4, 2) := by decide +kernel
theorem dX3_find_159 : decode cX3_find 159 = .ok (.iinc 6 1, 3) := by decide +kernel
theorem dX3_find_162 : decode cX3_find 162 = .ok (.goto (-128), 3) := by decide +kernel
theorem dX3_find_165 : decode cX3_find 165 = .ok (.return_, 1) := by decide +kernel
theorem dX3_findBest_0 : decode cX3_findBest 0 = .ok (.aload_n 0, 1) := by decide +kernel
theorem dX3_findBest_1 : decode cX3_findBest 1 = .ok (.iconst 0, 1) := by decide +kernel
theorem dX3_findBest_2 : decode cX3_findBest 2 = .ok (.putfield 66, 3) := by decide +kernel
theorem dX3_findBest_5 : decode cX3_findBest 5 = .ok (.iload_n 2, 1) := by decide +kernel
theorem dX3_findBest_6 : decode cX3_findBest 6 = .ok (.iload_n 1, 1) := by decide +kernel
theorem dX3_findBest_7 : decode cX3_findBest 7 = .ok (.isub, 1) := by decide +kernel
theorem dX3_findBest_8 : decode cX3_findBest 8 = .ok (.iconst 4, 1) := by decide +kernel
theorem dX3_findBest_9 : decode cX3_findBest 9 = .ok (.if_icmp .ge 4, 3) := by decide +kernel
theorem dX3_findBest_12 : decode cX3_findBest 12 = .ok (.return_, 1) := by decide +kernel
theorem dX3_findBest_13 : decode cX3_findBest 13 = .ok (.aload_n 0, 1) := by decide +kernel
theorem dX3_findBest_14 : decode cX3_findBest 14 = .ok (.iload_n 1, 1) := by decide +kernel
theorem dX3_findBest_15 : decode cX3_findBest 15 = .ok (.invokevirtual 79, 3) := by decide +kernel
theorem dX3_findBest_18 : decode cX3_findBest 18 = .ok (.iconst 0, 1) := by decide +kernel
theorem dX3_findBest_19 : decode cX3_findBest 19 = .ok (.istore_n 3, 1) := by decide +kernel
theorem dX3_findBest_20 : decode cX3_findBest 20 = .ok (.aload_n 0, 1) := by decide +kernel
theorem dX3_findBest_21 : decode cX3_findBest 21 = .ok (.getfield 33, 3) := by decide +kernel
theorem dX3_findBest_24 : decode cX3_findBest 24 = .ok (.aload_n 0, 1) := by decide +kernel
theorem dX3_findBest_25 : decode cX3_findBest 25 = .ok (.iload_n 1, 1) := by decide +kernel
theorem dX3_findBest_26 : decode cX3_findBest 26 = .ok (.invokevirtual 82, 3) := by decide +kernel
theorem dX3_findBest_29 : decode cX3_findBest 29 = .ok (.iaload, 1) := by decide +kernel
theorem dX3_findBest_30 : decode cX3_findBest 30 = .ok (.istore 4, 2) := by decide +kernel
theorem dX3_findBest_32 : decode cX3_findBest 32 = .ok (.iconst 0, 1) := by decide +kernel
theorem dX3_findBest_33 : decode cX3_findBest 33 = .ok (.istore 5, 2) := by decide +kernel
theorem dX3_findBest_35 : decode cX3_findBest 35 = .ok (.iload 5, 2) := by decide +kernel
theorem dX3_findBest_37 : decode cX3_findBest 37 = .ok (.aload_n 0, 1) := by decide +kernel
theorem dX3_findBest_38 : decode cX3_findBest 38 = .ok (.getfield 36, 3) := by decide +kernel
theorem dX3_findBest_41 : decode cX3_findBest 41 = .ok (.arraylength, 1) := by decide +kernel
theorem dX3_findBest_42 : decode cX3_findBest 42 = .ok (.if_icmp .ge 83, 3) := by decide +kernel
theorem dX3_findBest_45 : decode cX3_findBest 45 = .ok (.iload 4, 2) := by decide +kernel
theorem dX3_findBest_47 : decode cX3_findBest 47 = .ok (.ifCond .lt 78, 3) := by decide +kernel
theorem dX3_findBest_50 : decode cX3_findBest 50 = .ok (.iload_n 3, 1) := by decide +kernel
theorem dX3_findBest_51 : decode cX3_findBest 51 = .ok (.bipush 8, 2) := by decide +kernel
theorem dX3_findBest_53 : decode cX3_findBest 53 = .ok (.if_icmp .ge 72, 3) := by decide +kernel
theorem dX3_findBest_56 : decode cX3_findBest 56 = .ok (.aload_n 0, 1) := by decide +kernel
theorem dX3_findBest_57 : decode cX3_findBest 57 = .ok (.iload 4, 2) := by decide +kernel
theorem dX3_findBest_59 : decode cX3_findBest 59 = .ok (.iload_n 1, 1) := by decide +kernel
theorem dX3_findBest_60 : decode cX3_findBest 60 = .ok (.iload_n 2, 1) := by decide +kernel
theorem dX3_findBest_61 : decode cX3_findBest 61 = .ok (.invokevirtual 85, 3) := by decide +kernel
theorem dX3_findBest_64 : decode cX3_findBest 64 = .ok (.istore 6, 2) := by decide +kernel
theorem dX3_findBest_66 : decode cX3_findBest 66 = .ok (.iload 6, 2) := by decide +kernel
theorem dX3_findBest_68 : decode cX3_findBest 68 = .ok (.iconst 4, 1) := by decide +kernel
theorem dX3_findBest_69 : decode cX3_findBest 69 = .ok (.if_icmp .lt 27, 3) := by decide +kernel
theorem dX3_findBest_72 : decode cX3_findBest 72 = .ok (.iinc 3 1, 3) := by decide +kernel
theorem dX3_findBest_75 : decode cX3_findBest 75 = .ok (.iload 6, 2) := by decide +kernel
theorem dX3_findBest_77 : decode cX3_findBest 77 = .ok (.aload_n 0, 1) := by decide +kernel
theorem dX3_findBest_78 : decode cX3_findBest 78 = .ok (.getfield 66, 3) := by decide +kernel
theorem dX3_findBest_81 : decode cX3_findBest 81 = .ok (.if_icmp .le 15, 3) := by decide +kernel
theorem dX3_findBest_84 : decode cX3_findBest 84 = .ok (.aload_n 0, 1) := by decide +kernel
theorem dX3_findBest_85 : decode cX3_findBest 85 = .ok (.iload 6, 2) := by decide +kernel
theorem dX3_findBest_87 : decode cX3_findBest 87 = .ok (.putfield 66, 3) := by decide +kernel
theorem dX3_findBest_90 : decode cX3_findBest 90 = .ok (.aload_n 0, 1) := by decide +kernel
theorem dX3_findBest_91 : decode cX3_findBest 91 = .ok (.iload 4, 2) := by decide +kernel
theorem dX3_findBest_93 : decode cX3_findBest 93 = .ok (.putfield 76, 3) := by decide +kernel
theorem dX3_findBest_96 : decode cX3_findBest 96 = .ok (.iload 4, 2) := by decide +kernel
theorem dX3_findBest_98 : decode cX3_findBest 98 = .ok (.aload_n 0, 1) := by decide +kernel
theorem dX3_findBest_99 : decode cX3_findBest 99 = .ok (.getfield 36, 3) := by decide +kernel
theorem dX3_findBest_102 : decode cX3_findBest 102 = .ok (.arraylength, 1) := by decide +kernel
theorem dX3_findBest_103 : decode cX3_findBest 103 = .ok (.if_icmp .ge 13, 3) := by decide +kernel
theorem dX3_findBest_106 : decode cX3_findBest 106 = .ok (.aload_n 0, 1) := by decide +kernel
theorem dX3_findBest_107 : decode cX3_findBest 107 = .ok (.getfield 36, 3) := by decide +kernel
theorem dX3_findBest_110 : decode cX3_findBest 110 = .ok (.iload 4, 2) := by decide +kernel
theorem dX3_findBest_112 : decode cX3_findBest 112 = .ok (.iaload, 1) := by decide +kernel
theorem dX3_findBest_113 : decode cX3_findBest 113 = .ok (.goto 4, 3) := by decide +kernel
theorem dX3_findBest_116 : decode cX3_findBest 116 = .ok (.iconst (-1), 1) := by decide +kernel
theorem dX3_findBest_117 : decode cX3_findBest 117 = .ok (.istore 4, 2) := by decide +kernel
theorem dX3_findBest_119 : decode cX3_findBest 119 = .ok (.iinc 5 1, 3) := by decide +kernel
theorem dX3_findBest_122 : decode cX3_findBest 122 = .ok (.goto (-87), 3) := by decide +kernel
theorem dX3_findBest_125 : decode cX3_findBest 125 = .ok (.return_, 1) := by decide +kernel
theorem dX3_linkUpTo_0 : decode cX3_linkUpTo 0 = .ok (.aload_n 0, 1) := by decide +kernel
theorem dX3_linkUpTo_1 : decode cX3_linkUpTo 1 = .ok (.getfield 56, 3) := by decide +kernel
theorem dX3_linkUpTo_4 : decode cX3_linkUpTo 4 = .ok (.iload_n 1, 1) := by decide +kernel
theorem dX3_linkUpTo_5 : decode cX3_linkUpTo 5 = .ok (.if_icmp .ge 62, 3) := by decide +kernel
theorem dX3_linkUpTo_8 : decode cX3_linkUpTo 8 = .ok (.aload_n 0, 1) := by decide +kernel
theorem dX3_linkUpTo_9 : decode cX3_linkUpTo 9 = .ok (.getfield 56, 3) := by decide +kernel
theorem dX3_linkUpTo_12 : decode cX3_linkUpTo 12 = .ok (.aload_n 0, 1) := by decide +kernel
theorem dX3_linkUpTo_13 : decode cX3_linkUpTo 13 = .ok (.getfield 36, 3) := by decide +kernel
theorem dX3_linkUpTo_16 : decode cX3_linkUpTo 16 = .ok (.arraylength, 1) := by decide +kernel
theorem dX3_linkUpTo_17 : decode cX3_linkUpTo 17 = .ok (.if_icmp .ge 50, 3) := by decide +kernel
theorem dX3_linkUpTo_20 : decode cX3_linkUpTo 20 = .ok (.aload_n 0, 1) := by decide +kernel
theorem dX3_linkUpTo_21 : decode cX3_linkUpTo 21 = .ok (.aload_n 0, 1) := by decide +kernel
theorem dX3_linkUpTo_22 : decode cX3_linkUpTo 22 = .ok (.getfield 56, 3) := by decide +kernel
theorem dX3_linkUpTo_25 : decode cX3_linkUpTo 25 = .ok (.invokevirtual 82, 3) := by decide +kernel
theorem dX3_linkUpTo_28 : decode cX3_linkUpTo 28 = .ok (.istore_n 2, 1) := by decide +kernel
theorem dX3_linkUpTo_29 : decode cX3_linkUpTo 29 = .ok (.aload_n 0, 1) := by decide +kernel
theorem dX3_linkUpTo_30 : decode cX3_linkUpTo 30 = .ok (.getfield 36, 3) := by decide +kernel
theorem dX3_linkUpTo_33 : decode cX3_linkUpTo 33 = .ok (.aload_n 0, 1) := by decide +kernel
theorem dX3_linkUpTo_34 : decode cX3_linkUpTo 34 = .ok (.getfield 56, 3) := by decide +kernel
theorem dX3_linkUpTo_37 : decode cX3_linkUpTo 37 = .ok (.aload_n 0, 1) := by decide +kernel
theorem dX3_linkUpTo_38 : decode cX3_linkUpTo 38 = .ok (.getfield 33, 3) := by decide +kernel
theorem dX3_linkUpTo_41 : decode cX3_linkUpTo 41 = .ok (.iload_n 2, 1) := by decide +kernel
theorem dX3_linkUpTo_42 : decode cX3_linkUpTo 42 = .ok (.iaload, 1) := by decide +kernel
theorem dX3_linkUpTo_43 : decode cX3_linkUpTo 43 = .ok (.iastore, 1) := by decide +kernel
theorem dX3_linkUpTo_44 : decode cX3_linkUpTo 44 = .ok (.aload_n 0, 1) := by decide +kernel
theorem dX3_linkUpTo_45 : decode cX3_linkUpTo 45 = .ok (.getfield 33, 3) := by decide +kernel
theorem dX3_linkUpTo_48 : decode cX3_linkUpTo 48 = .ok (.iload_n 2, 1) := by decide +kernel
theorem dX3_linkUpTo_49 : decode cX3_linkUpTo 49 = .ok (.aload_n 0, 1) := by decide +kernel
theorem dX3_linkUpTo_50 : decode cX3_linkUpTo 50 = .ok (.getfield 56, 3) := by decide +kernel
theorem dX3_linkUpTo_53 : decode cX3_linkUpTo 53 = .ok (.iastore, 1) := by decide +kernel
theorem dX3_linkUpTo_54 : decode cX3_linkUpTo 54 = .ok (.aload_n 0, 1) := by decide +kernel
theorem dX3_linkUpTo_55 : decode cX3_linkUpTo 55 = .ok (.dup, 1) := by decide +kernel
theorem dX3_linkUpTo_56 : decode cX3_linkUpTo 56 = .ok (.getfield 56, 3) := by decide +kernel
theorem dX3_linkUpTo_59 : decode cX3_linkUpTo 59 = .ok (.iconst 1, 1) := by decide +kernel
theorem dX3_linkUpTo_60 : decode cX3_linkUpTo 60 = .ok (.iadd, 1) := by decide +kernel
theorem dX3_linkUpTo_61 : decode cX3_linkUpTo 61 = .ok (.putfield 56, 3) := by decide +kernel
theorem dX3_linkUpTo_64 : decode cX3_linkUpTo 64 = .ok (.goto (-64), 3) := by decide +kernel
theorem dX3_linkUpTo_67 : decode cX3_linkUpTo 67 = .ok (.return_, 1) := by decide +kernel
theorem dX3_chainOf_0 : decode cX3_chainOf 0 = .ok (.aload_n 0, 1) := by decide +kernel
theorem dX3_chainOf_1 : decode cX3_chainOf 1 = .ok (.getfield 30, 3) := by decide +kernel
theorem dX3_chainOf_4 : decode cX3_chainOf 4 = .ok (.iload_n 1, 1) := by decide +kernel
theorem dX3_chainOf_5 : decode cX3_chainOf 5 = .ok (.invokevirtual 69, 3) := by decide +kernel
theorem dX3_chainOf_8 : decode cX3_chainOf 8 = .ok (.aload_n 0, 1) := by decide +kernel
theorem dX3_chainOf_9 : decode cX3_chainOf 9 = .ok (.getfield 30, 3) := by decide +kernel
theorem dX3_chainOf_12 : decode cX3_chainOf 12 = .ok (.iload_n 1, 1) := by decide +kernel
theorem dX3_chainOf_13 : decode cX3_chainOf 13 = .ok (.iconst 1, 1) := by decide +kernel
theorem dX3_chainOf_14 : decode cX3_chainOf 14 = .ok (.iadd, 1) := by decide +kernel
theorem dX3_chainOf_15 : decode cX3_chainOf 15 = .ok (.invokevirtual 69, 3) := by decide +kernel
theorem dX3_chainOf_18 : decode cX3_chainOf 18 = .ok (.bipush 8, 2) := by decide +kernel
theorem dX3_chainOf_20 : decode cX3_chainOf 20 = .ok (.ishl, 1) := by decide +kernel
theorem dX3_chainOf_21 : decode cX3_chainOf 21 = .ok (.ior, 1) := by decide +kernel
theorem dX3_chainOf_22 : decode cX3_chainOf 22 = .ok (.aload_n 0, 1) := by decide +kernel
theorem dX3_chainOf_23 : decode cX3_chainOf 23 = .ok (.getfield 30, 3) := by decide +kernel
theorem dX3_chainOf_26 : decode cX3_chainOf 26 = .ok (.iload_n 1, 1) := by decide +kernel
theorem dX3_chainOf_27 : decode cX3_chainOf 27 = .ok (.iconst 2, 1) := by decide +kernel
theorem dX3_chainOf_28 : decode cX3_chainOf 28 = .ok (.iadd, 1) := by decide +kernel
theorem dX3_chainOf_29 : decode cX3_chainOf 29 = .ok (.invokevirtual 69, 3) := by decide +kernel
theorem dX3_chainOf_32 : decode cX3_chainOf 32 = .ok (.bipush 16, 2) := by decide +kernel
theorem dX3_chainOf_34 : decode cX3_chainOf 34 = .ok (.ishl, 1) := by decide +kernel
theorem dX3_chainOf_35 : decode cX3_chainOf 35 = .ok (.ior, 1) := by decide +kernel
theorem dX3_chainOf_36 : decode cX3_chainOf 36 = .ok (.aload_n 0, 1) := by decide +kernel
theorem dX3_chainOf_37 : decode cX3_chainOf 37 = .ok (.getfield 30, 3) := by decide +kernel
theorem dX3_chainOf_40 : decode cX3_chainOf 40 = .ok (.iload_n 1, 1) := by decide +kernel
theorem dX3_chainOf_41 : decode cX3_chainOf 41 = .ok (.iconst 3, 1) := by decide +kernel
theorem dX3_chainOf_42 : decode cX3_chainOf 42 = .ok (.iadd, 1) := by decide +kernel
theorem dX3_chainOf_43 : decode cX3_chainOf 43 = .ok (.invokevirtual 69, 3) := by decide +kernel
theorem dX3_chainOf_46 : decode cX3_chainOf 46 = .ok (.bipush 24, 2) := by decide +kernel
theorem dX3_chainOf_48 : decode cX3_chainOf 48 = .ok (.ishl, 1) := by decide +kernel
theorem dX3_chainOf_49 : decode cX3_chainOf 49 = .ok (.ior, 1) := by decide +kernel
theorem dX3_chainOf_50 : decode cX3_chainOf 50 = .ok (.istore_n 2, 1) := by decide +kernel
theorem dX3_chainOf_51 : decode cX3_chainOf 51 = .ok (.iload_n 2, 1) := by decide +kernel
theorem dX3_chainOf_52 : decode cX3_chainOf 52 = .ok (.ldc 89, 2) := by decide +kernel
theorem dX3_chainOf_54 : decode cX3_chainOf 54 = .ok (.imul, 1) := by decide +kernel
theorem dX3_chainOf_55 : decode cX3_chainOf 55 = .ok (.bipush 20, 2) := by decide +kernel
theorem dX3_chainOf_57 : decode cX3_chainOf 57 = .ok (.iushr, 1) := by decide +kernel
theorem dX3_chainOf_58 : decode cX3_chainOf 58 = .ok (.ireturn, 1) := by decide +kernel
theorem dX3_sameFrom_0 : decode cX3_sameFrom 0 = .ok (.iconst 0, 1) := by decide +kernel
theorem dX3_sameFrom_1 : decode cX3_sameFrom 1 = .ok (.istore 4, 2) := by decide +kernel
theorem dX3_sameFrom_3 : decode cX3_sameFrom 3 = .ok (.iconst 0, 1) := by decide +kernel
theorem dX3_sameFrom_4 : decode cX3_sameFrom 4 = .ok (.istore 5, 2) := by decide +kernel
theorem dX3_sameFrom_6 : decode cX3_sameFrom 6 = .ok (.iload_n 2, 1) := by decide +kernel
theorem dX3_sameFrom_7 : decode cX3_sameFrom 7 = .ok (.iload 5, 2) := by decide +kernel
theorem dX3_sameFrom_9 : decode cX3_sameFrom 9 = .ok (.iadd, 1) := by decide +kernel
theorem dX3_sameFrom_10 : decode cX3_sameFrom 10 = .ok (.iload_n 3, 1) := by decide +kernel
theorem dX3_sameFrom_11 : decode cX3_sameFrom 11 = .ok (.if_icmp .ge 37, 3) := by decide +kernel
theorem dX3_sameFrom_14 : decode cX3_sameFrom 14 = .ok (.aload_n 0, 1) := by decide +kernel
theorem dX3_sameFrom_15 : decode cX3_sameFrom 15 = .ok (.getfield 30, 3) := by decide +kernel
theorem dX3_sameFrom_18 : decode cX3_sameFrom 18 = .ok (.iload_n 1, 1) := by decide +kernel
theorem dX3_sameFrom_19 : decode cX3_sameFrom 19 = .ok (.iload 5, 2) := by decide +kernel
theorem dX3_sameFrom_21 : decode cX3_sameFrom 21 = .ok (.iadd, 1) := by decide +kernel
theorem dX3_sameFrom_22 : decode cX3_sameFrom 22 = .ok (.invokevirtual 69, 3) := by decide +kernel
theorem dX3_sameFrom_25 : decode cX3_sameFrom 25 = .ok (.aload_n 0, 1) := by decide +kernel
theorem dX3_sameFrom_26 : decode cX3_sameFrom 26 = .ok (.getfield 30, 3) := by decide +kernel
theorem dX3_sameFrom_29 : decode cX3_sameFrom 29 = .ok (.iload_n 2, 1) := by decide +kernel
theorem dX3_sameFrom_30 : decode cX3_sameFrom 30 = .ok (.iload 5, 2) := by decide +kernel
theorem dX3_sameFrom_32 : decode cX3_sameFrom 32 = .ok (.iadd, 1) := by decide +kernel
theorem dX3_sameFrom_33 : decode cX3_sameFrom 33 = .ok (.invokevirtual 69, 3) := by decide +kernel
theorem dX3_sameFrom_36 : decode cX3_sameFrom 36 = .ok (.if_icmp .ne 12, 3) := by decide +kernel
theorem dX3_sameFrom_39 : decode cX3_sameFrom 39 = .ok (.iinc 4 1, 3) := by decide +kernel
theorem dX3_sameFrom_42 : decode cX3_sameFrom 42 = .ok (.iinc 5 1, 3) := by decide +kernel
theorem dX3_sameFrom_45 : decode cX3_sameFrom 45 = .ok (.goto (-39), 3) := by decide +kernel
theorem dX3_sameFrom_48 : decode cX3_sameFrom 48 = .ok (.iload 4, 2) := by decide +kernel
theorem dX3_sameFrom_50 : decode cX3_sameFrom 50 = .ok (.ireturn, 1) := by decide +kernel
theorem dX4_init_0 : decode cX4_init 0 = .ok (.aload_n 0, 1) := by decide +kernel
theorem dX4_init_1 : decode cX4_init 1 = .ok (.invokespecial 3, 3) := by decide +kernel
theorem dX4_init_4 : decode cX4_init 4 = .ok (.aload_n 0, 1) := by decide +kernel
theorem dX4_init_5 : decode cX4_init 5 = .ok (.new 9, 3) := by decide +kernel
theorem dX4_init_8 : decode cX4_init 8 = .ok (.dup, 1) := by decide +kernel
theorem dX4_init_9 : decode cX4_init 9 = .ok (.sipush 8000, 3) := by decide +kernel
theorem dX4_init_12 : decode cX4_init 12 = .ok (.invokespecial 11, 3) := by decide +kernel
theorem dX4_init_15 : decode cX4_init 15 = .ok (.putfield 14, 3) := by decide +kernel
theorem dX4_init_18 : decode cX4_init 18 = .ok (.aload_n 0, 1) := by decide +kernel
theorem dX4_init_19 : decode cX4_init 19 = .ok (.new 20, 3) := by decide +kernel
theorem dX4_init_22 : decode cX4_init 22 = .ok (.dup, 1) := by decide +kernel
theorem dX4_init_23 : decode cX4_init 23 = .ok (.invokespecial 22, 3) := by decide +kernel
theorem dX4_init_26 : decode cX4_init 26 = .ok (.putfield 23, 3) := by decide +kernel
theorem dX4_init_29 : decode cX4_init 29 = .ok (.aload_n 0, 1) := by decide +kernel
theorem dX4_init_30 : decode cX4_init 30 = .ok (.new 27, 3) := by decide +kernel
theorem dX4_init_33 : decode cX4_init 33 = .ok (.dup, 1) := by decide +kernel
theorem dX4_init_34 : decode cX4_init 34 = .ok (.invokespecial 29, 3) := by decide +kernel
theorem dX4_init_37 : decode cX4_init 37 = .ok (.putfield 30, 3) := by decide +kernel
theorem dX4_init_40 : decode cX4_init 40 = .ok (.aload_n 0, 1) := by decide +kernel
theorem dX4_init_41 : decode cX4_init 41 = .ok (.aload_n 1, 1) := by decide +kernel
theorem dX4_init_42 : decode cX4_init 42 = .ok (.putfield 34, 3) := by decide +kernel
theorem dX4_init_45 : decode cX4_init 45 = .ok (.aload_n 0, 1) := by decide +kernel
theorem dX4_init_46 : decode cX4_init 46 = .ok (.aload_n 2, 1) := by decide +kernel
theorem dX4_init_47 : decode cX4_init 47 = .ok (.putfield 38, 3) := by decide +kernel
theorem dX4_init_50 : decode cX4_init 50 = .ok (.aload_n 0, 1) := by decide +kernel
theorem dX4_init_51 : decode cX4_init 51 = .ok (.aload_n 0, 1) := by decide +kernel
theorem dX4_init_52 : decode cX4_init 52 = .ok (.getfield 23, 3) := by decide +kernel
theorem dX4_init_55 : decode cX4_init 55 = .ok (.putfield 42, 3) := by decide +kernel
theorem dX4_init_58 : decode cX4_init 58 = .ok (.return_, 1) := by decide +kernel
theorem dX4_beginFrame_0 : decode cX4_beginFrame 0 = .ok (.aload_n 0, 1) := by decide +kernel
theorem dX4_beginFrame_1 : decode cX4_beginFrame 1 = .ok (.aload_n 1, 1) := by decide +kernel
theorem dX4_beginFrame_2 : decode cX4_beginFrame 2 = .ok (.ifnull 14, 3) := by decide +kernel
theorem dX4_beginFrame_5 : decode cX4_beginFrame 5 = .ok (.aload_n 1, 1) := by decide +kernel
theorem dX4_beginFrame_6 : decode cX4_beginFrame 6 = .ok (.getfield 45, 3) := by decide +kernel
theorem dX4_beginFrame_9 : decode cX4_beginFrame 9 = .ok (.ifCond .eq 7, 3) := by decide +kernel
theorem dX4_beginFrame_12 : decode cX4_beginFrame 12 = .ok (.iconst 1, 1) := by decide +kernel
theorem dX4_beginFrame_13 : decode cX4_beginFrame 13 = .ok (.goto 4, 3) := by decide +kernel
theorem dX4_beginFrame_16 : decode cX4_beginFrame 16 = .ok (.iconst 0, 1) := by decide +kernel
theorem dX4_beginFrame_17 : decode cX4_beginFrame 17 = .ok (.putfield 51, 3) := by decide +kernel
theorem dX4_beginFrame_20 : decode cX4_beginFrame 20 = .ok (.aload_n 0, 1) := by decide +kernel
theorem dX4_beginFrame_21 : decode cX4_beginFrame 21 = .ok (.aload_n 1, 1) := by decide +kernel
theorem dX4_beginFrame_22 : decode cX4_beginFrame 22 = .ok (.ifnull 17, 3) := by decide +kernel
theorem dX4_beginFrame_25 : decode cX4_beginFrame 25 = .ok (.aload_n 1, 1) := by decide +kernel
theorem dX4_beginFrame_26 : decode cX4_beginFrame 26 = .ok (.getfield 45, 3) := by decide +kernel
theorem dX4_beginFrame_29 : decode cX4_beginFrame 29 = .ok (.ifCond .eq 10, 3) := by decide +kernel
theorem dX4_beginFrame_32 : decode cX4_beginFrame 32 = .ok (.aload_n 1, 1) := by decide +kernel
theorem dX4_beginFrame_33 : decode cX4_beginFrame 33 = .ok (.getfield 54, 3) := by decide +kernel
theorem dX4_beginFrame_36 : decode cX4_beginFrame 36 = .ok (.goto 7, 3) := by decide +kernel
theorem dX4_beginFrame_39 : decode cX4_beginFrame 39 = .ok (.aload_n 0, 1) := by decide +kernel
theorem dX4_beginFrame_40 : decode cX4_beginFrame 40 = .ok (.getfield 23, 3) := by decide +kernel
theorem dX4_beginFrame_43 : decode cX4_beginFrame 43 = .ok (.putfield 42, 3) := by decide +kernel
theorem dX4_beginFrame_46 : decode cX4_beginFrame 46 = .ok (.return_, 1) := by decide +kernel
theorem dX4_readHead_0 : decode cX4_readHead 0 = .ok (.aload_n 0, 1) := by decide +kernel
theorem dX4_readHead_1 : decode cX4_readHead 1 = .ok (.iload_n 2, 1) := by decide +kernel
theorem dX4_readHead_2 : decode cX4_readHead 2 = .ok (.putfield 57, 3) := by decide +kernel
theorem dX4_readHead_5 : decode cX4_readHead 5 = .ok (.aload_n 0, 1) := by decide +kernel
theorem dX4_readHead_6 : decode cX4_readHead 6 = .ok (.aload_n 1, 1) := by decide +kernel
theorem dX4_readHead_7 : decode cX4_readHead 7 = .ok (.aload_n 0, 1) := by decide +kernel
theorem dX4_readHead_8 : decode cX4_readHead 8 = .ok (.getfield 57, 3) := by decide +kernel
theorem dX4_readHead_11 : decode cX4_readHead 11 = .ok (.invokevirtual 61, 3) := by decide +kernel
theorem dX4_readHead_14 : decode cX4_readHead 14 = .ok (.iconst 3, 1) := by decide +kernel
theorem dX4_readHead_15 : decode cX4_readHead 15 = .ok (.iand, 1) := by decide +kernel
theorem dX4_readHead_16 : decode cX4_readHead 16 = .ok (.putfield 65, 3) := by decide +kernel
theorem dX4_readHead_19 : decode cX4_readHead 19 = .ok (.aload_n 0, 1) := by decide +kernel
theorem dX4_readHead_20 : decode cX4_readHead 20 = .ok (.aload_n 1, 1) := by decide +kernel
theorem dX4_readHead_21 : decode cX4_readHead 21 = .ok (.aload_n 0, 1) := by decide +kernel
theorem dX4_readHead_22 : decode cX4_readHead 22 = .ok (.getfield 57, 3) := by decide +kernel
theorem dX4_readHead_25 : decode cX4_readHead 25 = .ok (.invokevirtual 61, 3) := by decide +kernel
theorem dX4_readHead_28 : decode cX4_readHead 28 = .ok (.iconst 2, 1) := by decide +kernel
theorem dX4_readHead_29 : decode cX4_readHead 29 = .ok (.ishr, 1) := by decide +kernel
theorem dX4_readHead_30 : decode cX4_readHead 30 = .ok (.iconst 3, 1) := by decide +kernel
theorem dX4_readHead_31 : decode cX4_readHead 31 = .ok (.iand, 1) := by decide +kernel
theorem dX4_readHead_32 : decode cX4_readHead 32 = .ok (.putfield 68, 3) := by decide +kernel
theorem dX4_readHead_35 : decode cX4_readHead 35 = .ok (.aload_n 0, 1) := by decide +kernel
theorem dX4_readHead_36 : decode cX4_readHead 36 = .ok (.invokevirtual 71, 3) := by decide +kernel
theorem dX4_readHead_39 : decode cX4_readHead 39 = .ok (.ifCond .eq 16, 3) := by decide +kernel
theorem dX4_readHead_42 : decode cX4_readHead 42 = .ok (.aload_n 0, 1) := by decide +kernel
theorem dX4_readHead_43 : decode cX4_readHead 43 = .ok (.getfield 68, 3) := by decide +kernel
theorem dX4_readHead_46 : decode cX4_readHead 46 = .ok (.iconst 2, 1) := by decide +kernel
theorem dX4_readHead_47 : decode cX4_readHead 47 = .ok (.iadd, 1) := by decide +kernel
theorem dX4_readHead_48 : decode cX4_readHead 48 = .ok (.iconst 3, 1) := by decide +kernel
theorem dX4_readHead_49 : decode cX4_readHead 49 = .ok (.invokestatic 75, 3) := by decide +kernel
theorem dX4_readHead_52 : decode cX4_readHead 52 = .ok (.goto 23, 3) := by decide +kernel
theorem dX4_readHead_55 : decode cX4_readHead 55 = .ok (.aload_n 0, 1) := by decide +kernel
theorem dX4_readHead_56 : decode cX4_readHead 56 = .ok (.getfield 68, 3) := by decide +kernel
theorem dX4_readHead_59 : decode cX4_readHead 59 = .ok (.iconst 3, 1) := by decide +kernel
theorem dX4_readHead_60 : decode cX4_readHead 60 = .ok (.if_icmp .ne 7, 3) := by decide +kernel
theorem dX4_readHead_63 : decode cX4_readHead 63 = .ok (.iconst 3, 1) := by decide +kernel
theorem dX4_readHead_64 : decode cX4_readHead 64 = .ok (.goto 11, 3) := by decide +kernel
theorem dX4_readHead_67 : decode cX4_readHead 67 = .ok (.aload_n 0, 1) := by decide +kernel
theorem dX4_readHead_68 : decode cX4_readHead 68 = .ok (.getfield 68, 3) := by decide +kernel
theorem dX4_readHead_71 : decode cX4_readHead 71 = .ok (.iconst 2, 1) := by decide +kernel
theorem dX4_readHead_72 : decode cX4_readHead 72 = .ok (.irem, 1) := by decide +kernel
theorem dX4_readHead_73 : decode cX4_readHead 73 = .ok (.iconst 1, 1) := by decide +kernel
theorem dX4_readHead_74 : decode cX4_readHead 74 = .ok (.iadd, 1) := by decide +kernel
theorem dX4_readHead_75 : decode cX4_readHead 75 = .ok (.istore 5, 2) := by decide +kernel
theorem dX4_readHead_77 : decode cX4_readHead 77 = .ok (.aload_n 0, 1) := by decide +kernel
theorem dX4_readHead_78 : decode cX4_readHead 78 = .ok (.getfield 57, 3) := by decide +kernel
theorem dX4_readHead_81 : decode cX4_readHead 81 = .ok (.iload_n 3, 1) := by decide +kernel
theorem dX4_readHead_82 : decode cX4_readHead 82 = .ok (.if_icmp .ge 14, 3) := by decide +kernel
theorem dX4_readHead_85 : decode cX4_readHead 85 = .ok (.iload 5, 2) := by decide +kernel
theorem dX4_readHead_87 : decode cX4_readHead 87 = .ok (.iload_n 3, 1) := by decide +kernel
theorem dX4_readHead_88 : decode cX4_readHead 88 = .ok (.aload_n 0, 1) := by decide +kernel
theorem dX4_readHead_89 : decode cX4_readHead 89 = .ok (.getfield 57, 3) := by decide +kernel
theorem dX4_readHead_92 : decode cX4_readHead 92 = .ok (.isub, 1) := by decide +kernel
theorem dX4_readHead_93 : decode cX4_readHead 93 = .ok (.if_icmp .le 17, 3) := by decide +kernel
theorem dX4_readHead_96 : decode cX4_readHead 96 = .ok (.aload_n 0, 1) := by decide +kernel
theorem dX4_readHead_97 : decode cX4_readHead 97 = .ok (.getfield 34, 3) := by decide +kernel
theorem dX4_readHead_100 : decode cX4_readHead 100 = .ok (.bipush 10, 2) := by decide +kernel
theorem dX4_readHead_102 : decode cX4_readHead 102 = .ok (.aload_n 0, 1) := by decide +kernel
theorem dX4_readHead_103 : decode cX4_readHead 103 = .ok (.getfield 57, 3) := by decide +kernel
theorem dX4_readHead_106 : decode cX4_readHead 106 = .ok (.invokevirtual 81, 3) := by decide +kernel
theorem dX4_readHead_109 : decode cX4_readHead 109 = .ok (.ireturn, 1) := by decide +kernel
theorem dX4_readHead_110 : decode cX4_readHead 110 = .ok (.aload_n 1, 1) := by decide +kernel
theorem dX4_readHead_111 : decode cX4_readHead 111 = .ok (.aload_n 0, 1) := by decide +kernel
theorem dX4_readHead_112 : decode cX4_readHead 112 = .ok (.getfield 57, 3) := by decide +kernel
theorem dX4_readHead_115 : decode cX4_readHead 115 = .ok (.iload 5, 2) := by decide +kernel
theorem dX4_readHead_117 : decode cX4_readHead 117 = .ok (.invokevirtual 87, 3) := by decide +kernel
theorem dX4_readHead_120 : decode cX4_readHead 120 = .ok (.lstore 6, 2) := by decide +kernel
theorem dX4_readHead_122 : decode cX4_readHead 122 = .ok (.aload_n 0, 1) := by decide +kernel
theorem dX4_readHead_123 : decode cX4_readHead 123 = .ok (.aload_n 0, 1) := by decide +kernel
theorem dX4_readHead_124 : decode cX4_readHead 124 = .ok (.getfield 57, 3) := by decide +kernel
theorem dX4_readHead_127 : decode cX4_readHead 127 = .ok (.iload 5, 2) := by decide +kernel
theorem dX4_readHead_129 : decode cX4_readHead 129 = .ok (.iadd, 1) := by decide +kernel
theorem dX4_readHead_130 : decode cX4_readHead 130 = .ok (.putfield 91, 3) := by decide +kernel
theorem dX4_readHead_133 : decode cX4_readHead 133 = .ok (.aload_n 0, 1) := by decide +kernel
theorem dX4_readHead_134 : decode cX4_readHead 134 = .ok (.invokevirtual 71, 3) := by decide +kernel
theorem dX4_readHead_137 : decode cX4_readHead 137 = .ok (.ifCond .eq 62, 3) := by decide +kernel
theorem dX4_readHead_140 : decode cX4_readHead 140 = .ok (.aload_n 0, 1) := by decide +kernel
theorem dX4_readHead_141 : decode cX4_readHead 141 = .ok (.getfield 68, 3) := by decide +kernel
theorem dX4_readHead_144 : decode cX4_readHead 144 = .ok (.iconst 2, 1) := by decide +kernel
theorem dX4_readHead_145 : decode cX4_readHead 145 = .ok (.if_icmp .ge 8, 3) := by decide +kernel
theorem dX4_readHead_148 : decode cX4_readHead 148 = .ok (.bipush 10, 2) := by decide +kernel
theorem dX4_readHead_150 : decode cX4_readHead 150 = .ok (.goto 18, 3) := by decide +kernel
theorem dX4_readHead_153 : decode cX4_readHead 153 = .ok (.aload_n 0, 1) := by decide +kernel
theorem dX4_readHead_154 : decode cX4_readHead 154 = .ok (.getfield 68, 3) := by decide +kernel
theorem dX4_readHead_157 : decode cX4_readHead 157 = .ok (.iconst 2, 1) := by decide +kernel
theorem dX4_readHead_158 : decode cX4_readHead 158 = .ok (.if_icmp .ne 8, 3) := by decide +kernel
theorem dX4_readHead_161 : decode cX4_readHead 161 = .ok (.bipush 14, 2) := by decide +kernel
theorem dX4_readHead_163 : decode cX4_readHead 163 = .ok (.goto 5, 3) := by decide +kernel
theorem dX4_readHead_166 : decode cX4_readHead 166 = .ok (.bipush 18, 2) := by decide +kernel
theorem dX4_readHead_168 : decode cX4_readHead 168 = .ok (.istore 9, 2) := by decide +kernel
theorem dX4_readHead_170 : decode cX4_readHead 170 = .ok (.aload_n 0, 1) := by decide +kernel
theorem dX4_readHead_171 : decode cX4_readHead 171 = .ok (.lload 6, 2) := by decide +kernel
theorem dX4_readHead_173 : decode cX4_readHead 173 = .ok (.iconst 4, 1) := by decide +kernel
theorem dX4_readHead_174 : decode cX4_readHead 174 = .ok (.lshr, 1) := by decide +kernel
theorem dX4_readHead_175 : decode cX4_readHead 175 = .ok (.lconst 1, 1) := by decide +kernel
theorem dX4_readHead_176 : decode cX4_readHead 176 = .ok (.iload 9, 2) := by decide +kernel
theorem dX4_readHead_178 : decode cX4_readHead 178 = .ok (.lshl, 1) := by decide +kernel
theorem dX4_readHead_179 : decode cX4_readHead 179 = .ok (.lconst 1, 1) := by decide +kernel
theorem dX4_readHead_180 : decode cX4_readHead 180 = .ok (.lsub, 1) := by decide +kernel
theorem dX4_readHead_181 : decode cX4_readHead 181 = .ok (.land, 1) := by decide +kernel
theorem dX4_readHead_182 : decode cX4_readHead 182 = .ok (.l2i, 1) := by decide +kernel
theorem dX4_readHead_183 : decode cX4_readHead 183 = .ok (.putfield 94, 3) := by decide +kernel
theorem dX4_readHead_186 : decode cX4_readHead 186 = .ok (.lload 6, 2) := by decide +kernel
theorem dX4_readHead_188 : decode cX4_readHead 188 = .ok (.iconst 4, 1) := by decide +kernel
theorem dX4_readHead_189 : decode cX4_readHead 189 = .ok (.iload 9, 2) := by decide +kernel
theorem dX4_readHead_191 : decode cX4_readHead 191 = .ok (.iadd, 1) := by decide +kernel
theorem dX4_readHead_192 : decode cX4_readHead 192 = .ok (.lshr, 1) := by decide +kernel
theorem dX4_readHead_193 : decode cX4_readHead 193 = .ok (.l2i, 1) := by decide +kernel
theorem dX4_readHead_194 : decode cX4_readHead 194 = .ok (.istore 8, 2) := by decide +kernel
theorem dX4_readHead_196 : decode cX4_readHead 196 = .ok (.goto 43, 3) := by decide +kernel
theorem dX4_readHead_199 : decode cX4_readHead 199 = .ok (.aload_n 0, 1) := by decide +kernel
theorem dX4_readHead_200 : decode cX4_readHead 200 = .ok (.lload 6, 2) := by decide +kernel
theorem dX4_readHead_202 : decode cX4_readHead 202 = .ok (.aload_n 0, 1) := by decide +kernel
theorem dX4_readHead_203 : decode cX4_readHead 203 = .ok (.getfield 68, 3) := by decide +kernel
theorem dX4_readHead_206 : decode cX4_readHead 206 = .ok (.iconst 2, 1) := by decide +kernel
theorem dX4_readHead_207 : decode cX4_readHead 207 = .ok (.irem, 1) := by decide +kernel
theorem dX4_readHead_208 : decode cX4_readHead 208 = .ok (.ifCond .ne 7, 3) := by decide +kernel
theorem dX4_readHead_211 : decode cX4_readHead 211 = .ok (.iconst 3, 1) := by decide +kernel
theorem dX4_readHead_212 : decode cX4_readHead 212 = .ok (.goto 4, 3) := by decide +kernel
theorem dX4_readHead_215 : decode cX4_readHead 215 = .ok (.iconst 4, 1) := by decide +kernel
theorem dX4_readHead_216 : decode cX4_readHead 216 = .ok (.lshr, 1) := by decide +kernel
theorem dX4_readHead_217 : decode cX4_readHead 217 = .ok (.l2i, 1) := by decide +kernel
theorem dX4_readHead_218 : decode cX4_readHead 218 = .ok (.putfield 94, 3) := by decide +kernel
theorem dX4_readHead_221 : decode cX4_readHead 221 = .ok (.aload_n 0, 1) := by decide +kernel
theorem dX4_readHead_222 : decode cX4_readHead 222 = .ok (.getfield 65, 3) := by decide +kernel
theorem dX4_readHead_225 : decode cX4_readHead 225 = .ok (.iconst 1, 1) := by decide +kernel
theorem dX4_readHead_226 : decode cX4_readHead 226 = .ok (.if_icmp .ne 7, 3) := by decide +kernel
theorem dX4_readHead_229 : decode cX4_readHead 229 = .ok (.iconst 1, 1) := by decide +kernel
theorem dX4_readHead_230 : decode cX4_readHead 230 = .ok (.goto 7, 3) := by decide +kernel
theorem dX4_readHead_233 : decode cX4_readHead 233 = .ok (.aload_n 0, 1) := by decide +kernel
theorem dX4_readHead_234 : decode cX4_readHead 234 = .ok (.getfield 94, 3) := by decide +kernel
theorem dX4_readHead_237 : decode cX4_readHead 237 = .ok (.istore 8, 2) := by decide +kernel
theorem dX4_readHead_239 : decode cX4_readHead 239 = .ok (.aload_n 0, 1) := by decide +kernel
theorem dX4_readHead_240 : decode cX4_readHead 240 = .ok (.aload_n 0, 1) := by decide +kernel
theorem dX4_readHead_241 : decode cX4_readHead 241 = .ok (.getfield 91, 3) := by decide +kernel
theorem dX4_readHead_244 : decode cX4_readHead 244 = .ok (.iload 8, 2) := by decide +kernel
theorem dX4_readHead_246 : decode cX4_readHead 246 = .ok (.iadd, 1) := by decide +kernel
theorem dX4_readHead_247 : decode cX4_readHead 247 = .ok (.putfield 97, 3) := by decide +kernel
theorem dX4_readHead_250 : decode cX4_readHead 250 = .ok (.aload_n 0, 1) := by decide +kernel
theorem dX4_readHead_251 : decode cX4_readHead 251 = .ok (.getfield 94, 3) := by decide +kernel
theorem dX4_readHead_254 : decode cX4_readHead 254 = .ok (.iload 4, 2) := by decide +kernel
theorem dX4_readHead_256 : decode cX4_readHead 256 = .ok (.if_icmp .gt 11, 3) := by decide +kernel
theorem dX4_readHead_259 : decode cX4_readHead 259 = .ok (.aload_n 0, 1) := by decide +kernel
theorem dX4_readHead_260 : decode cX4_readHead 260 = .ok (.getfield 97, 3) := by decide +kernel
theorem dX4_readHead_263 : decode cX4_readHead 263 = .ok (.iload_n 3, 1) := by decide +kernel
theorem dX4_readHead_264 : decode cX4_readHead 264 = .ok (.if_icmp .le 19, 3) := by decide +kernel
theorem dX4_readHead_267 : decode cX4_readHead 267 = .ok (.aload_n 0, 1) := by decide +kernel
theorem dX4_readHead_268 : decode cX4_readHead 268 = .ok (.getfield 34, 3) := by decide +kernel
theorem dX4_readHead_271 : decode cX4_readHead 271 = .ok (.bipush 10, 2) := by decide +kernel
theorem dX4_readHead_273 : decode cX4_readHead 273 = .ok (.aload_n 0, 1) := by decide +kernel
theorem dX4_readHead_274 : decode cX4_readHead 274 = .ok (.getfield 57, 3) := by decide +kernel
theorem dX4_readHead_277 : decode cX4_readHead 277 = .ok (.invokevirtual 81, 3) := by decide +kernel
theorem dX4_readHead_280 : decode cX4_readHead 280 = .ok (.ifCond .eq 7, 3) := by decide +kernel
theorem dX4_readHead_283 : decode cX4_readHead 283 = .ok (.iconst 1, 1) := by decide +kernel
theorem dX4_readHead_284 : decode cX4_readHead 284 = .ok (.goto 4, 3) := by decide +kernel
theorem dX4_readHead_287 : decode cX4_readHead 287 = .ok (.iconst 0, 1) := by decide +kernel
theorem dX4_readHead_288 : decode cX4_readHead 288 = .ok (.ireturn, 1) := by decide +kernel
theorem dX4_coded_0 : decode cX4_coded 0 = .ok (.aload_n 0, 1) := by decide +kernel
theorem dX4_coded_1 : decode cX4_coded 1 = .ok (.getfield 65, 3) := by decide +kernel
theorem dX4_coded_4 : decode cX4_coded 4 = .ok (.iconst 2, 1) := by decide +kernel
theorem dX4_coded_5 : decode cX4_coded 5 = .ok (.if_icmp .lt 7, 3) := by decide +kernel
theorem dX4_coded_8 : decode cX4_coded 8 = .ok (.iconst 1, 1) := by decide +kernel
theorem dX4_coded_9 : decode cX4_coded 9 = .ok (.goto 4, 3) := by decide +kernel
theorem dX4_coded_12 : decode cX4_coded 12 = .ok (.iconst 0, 1) := by decide +kernel
theorem dX4_coded_13 : decode cX4_coded 13 = .ok (.ireturn, 1) := by decide +kernel
theorem dX4_readCode_0 : decode cX4_readCode 0 = .ok (.aload_n 0, 1) := by decide +kernel
theorem dX4_readCode_1 : decode cX4_readCode 1 = .ok (.getfield 65, 3) := by decide +kernel
theorem dX4_readCode_4 : decode cX4_readCode 4 = .ok (.iconst 2, 1) := by decide +kernel
theorem dX4_readCode_5 : decode cX4_readCode 5 = .ok (.if_icmp .ne 67, 3) := by decide +kernel
theorem dX4_readCode_8 : decode cX4_readCode 8 = .ok (.aload_n 0, 1) := by decide +kernel
theorem dX4_readCode_9 : decode cX4_readCode 9 = .ok (.getfield 38, 3) := by decide +kernel
theorem dX4_readCode_12 : decode cX4_readCode 12 = .ok (.aload_n 1, 1) := by decide +kernel
theorem dX4_readCode_13 : decode cX4_readCode 13 = .ok (.aload_n 0, 1) := by decide +kernel
theorem dX4_readCode_14 : decode cX4_readCode 14 = .ok (.getfield 91, 3) := by decide +kernel
theorem dX4_readCode_17 : decode cX4_readCode 17 = .ok (.aload_n 0, 1) := by decide +kernel
theorem dX4_readCode_18 : decode cX4_readCode 18 = .ok (.getfield 97, 3) := by decide +kernel
theorem dX4_readCode_21 : decode cX4_readCode 21 = .ok (.invokevirtual 100, 3) := by decide +kernel
theorem dX4_readCode_24 : decode cX4_readCode 24 = .ok (.istore_n 2, 1) := by decide +kernel
theorem dX4_readCode_25 : decode cX4_readCode 25 = .ok (.iload_n 2, 1) := by decide +kernel
theorem dX4_readCode_26 : decode cX4_readCode 26 = .ok (.ifCond .ge 17, 3) := by decide +kernel
theorem dX4_readCode_29 : decode cX4_readCode 29 = .ok (.aload_n 0, 1) := by decide +kernel
theorem dX4_readCode_30 : decode cX4_readCode 30 = .ok (.getfield 34, 3) := by decide +kernel
theorem dX4_readCode_33 : decode cX4_readCode 33 = .ok (.bipush 11, 2) := by decide +kernel
theorem dX4_readCode_35 : decode cX4_readCode 35 = .ok (.aload_n 0, 1) := by decide +kernel
theorem dX4_readCode_36 : decode cX4_readCode 36 = .ok (.getfield 91, 3) := by decide +kernel
theorem dX4_readCode_39 : decode cX4_readCode 39 = .ok (.invokevirtual 81, 3) := by decide +kernel
theorem dX4_readCode_42 : decode cX4_readCode 42 = .ok (.ireturn, 1) := by decide +kernel
theorem dX4_readCode_43 : decode cX4_readCode 43 = .ok (.aload_n 0, 1) := by decide +kernel
theorem dX4_readCode_44 : decode cX4_readCode 44 = .ok (.getfield 23, 3) := by decide +kernel
theorem dX4_readCode_47 : decode cX4_readCode 47 = .ok (.aload_n 0, 1) := by decide +kernel
theorem dX4_readCode_48 : decode cX4_readCode 48 = .ok (.getfield 38, 3) := by decide +kernel
theorem dX4_readCode_51 : decode cX4_readCode 51 = .ok (.invokevirtual 106, 3) := by decide +kernel
theorem dX4_readCode_54 : decode cX4_readCode 54 = .ok (.aload_n 0, 1) := by decide +kernel
theorem dX4_readCode_55 : decode cX4_readCode 55 = .ok (.aload_n 0, 1) := by decide +kernel
theorem dX4_readCode_56 : decode cX4_readCode 56 = .ok (.getfield 23, 3) := by decide +kernel
theorem dX4_readCode_59 : decode cX4_readCode 59 = .ok (.putfield 42, 3) := by decide +kernel
theorem dX4_readCode_62 : decode cX4_readCode 62 = .ok (.aload_n 0, 1) := by decide +kernel
theorem dX4_readCode_63 : decode cX4_readCode 63 = .ok (.iconst 1, 1) := by decide +kernel
theorem dX4_readCode_64 : decode cX4_readCode 64 = .ok (.putfield 51, 3) := by decide +kernel
theorem dX4_readCode_67 : decode cX4_readCode 67 = .ok (.aload_n 0, 1) := by decide +kernel
theorem dX4_readCode_68 : decode cX4_readCode 68 = .ok (.iload_n 2, 1) := by decide +kernel
theorem dX4_readCode_69 : decode cX4_readCode 69 = .ok (.putfield 91, 3) := by decide +kernel
theorem dX4_readCode_72 : decode cX4_readCode 72 = .ok (.aload_n 0, 1) := by decide +kernel
theorem dX4_readCode_73 : decode cX4_readCode 73 = .ok (.invokevirtual 71, 3) := by decide +kernel
theorem dX4_readCode_76 : decode cX4_readCode 76 = .ok (.ifCond .eq 26, 3) := by decide +kernel
theorem dX4_readCode_79 : decode cX4_readCode 79 = .ok (.aload_n 0, 1) := by decide +kernel
theorem dX4_readCode_80 : decode cX4_readCode 80 = .ok (.getfield 51, 3) := by decide +kernel
theorem dX4_readCode_83 : decode cX4_readCode 83 = .ok (.ifCond .ne 19, 3) := by decide +kernel
theorem dX4_readCode_86 : decode cX4_readCode 86 = .ok (.aload_n 0, 1) := by decide +kernel
theorem dX4_readCode_87 : decode cX4_readCode 87 = .ok (.getfield 34, 3) := by decide +kernel
theorem dX4_readCode_90 : decode cX4_readCode 90 = .ok (.bipush 12, 2) := by decide +kernel
theorem dX4_readCode_92 : decode cX4_readCode 92 = .ok (.aload_n 0, 1) := by decide +kernel
theorem dX4_readCode_93 : decode cX4_readCode 93 = .ok (.getfield 57, 3) := by decide +kernel
theorem dX4_readCode_96 : decode cX4_readCode 96 = .ok (.invokevirtual 81, 3) := by decide +kernel
theorem dX4_readCode_99 : decode cX4_readCode 99 = .ok (.ifCond .eq 7, 3) := by decide +kernel
theorem dX4_readCode_102 : decode cX4_readCode 102 = .ok (.iconst 1, 1) := by decide +kernel
theorem dX4_readCode_103 : decode cX4_readCode 103 = .ok (.goto 4, 3) := by decide +kernel
theorem dX4_readCode_106 : decode cX4_readCode 106 = .ok (.iconst 0, 1) := by decide +kernel
theorem dX4_readCode_107 : decode cX4_readCode 107 = .ok (.ireturn, 1) := by decide +kernel
theorem dX4_readBody_0 : decode cX4_readBody 0 = .ok (.aload_n 0, 1) := by decide +kernel
theorem dX4_readBody_1 : decode cX4_readBody 1 = .ok (.getfield 14, 3) := by decide +kernel
theorem dX4_readBody_4 : decode cX4_readBody 4 = .ok (.iconst 0, 1) := by decide +kernel
theorem dX4_readBody_5 : decode cX4_readBody 5 = .ok (.putfield 110, 3) := by decide +kernel
theorem dX4_readBody_8 : decode cX4_readBody 8 = .ok (.iconst 1, 1) := by decide +kernel
theorem dX4_readBody_9 : decode cX4_readBody 9 = .ok (.istore_n 2, 1) := by decide +kernel
theorem dX4_readBody_10 : decode cX4_readBody 10 = .ok (.aload_n 0, 1) := by decide +kernel
theorem dX4_readBody_11 : decode cX4_readBody 11 = .ok (.getfield 65, 3) := by decide +kernel
theorem dX4_readBody_14 : decode cX4_readBody 14 = .ok (.ifCond .ne 22, 3) := by decide +kernel
theorem dX4_readBody_17 : decode cX4_readBody 17 = .ok (.aload_n 0, 1) := by decide +kernel
theorem dX4_readBody_18 : decode cX4_readBody 18 = .ok (.getfield 14, 3) := by decide +kernel
theorem dX4_readBody_21 : decode cX4_readBody 21 = .ok (.aload_n 1, 1) := by decide +kernel
theorem dX4_readBody_22 : decode cX4_readBody 22 = .ok (.aload_n 0, 1) := by decide +kernel
theorem dX4_readBody_23 : decode cX4_readBody 23 = .ok (.getfield 91, 3) := by decide +kernel
theorem dX4_readBody_26 : decode cX4_readBody 26 = .ok (.aload_n 0, 1) := by decide +kernel
theorem dX4_readBody_27 : decode cX4_readBody 27 = .ok (.getfield 94, 3) := by decide +kernel
theorem dX4_readBody_30 : decode cX4_readBody 30 = .ok (.invokevirtual 111, 3) := by decide +kernel
theorem dX4_readBody_33 : decode cX4_readBody 33 = .ok (.goto 66, 3) := by decide +kernel
theorem dX4_readBody_36 : decode cX4_readBody 36 = .ok (.aload_n 0, 1) := by decide +kernel
theorem dX4_readBody_37 : decode cX4_readBody 37 = .ok (.getfield 65, 3) := by decide +kernel
theorem dX4_readBody_40 : decode cX4_readBody 40 = .ok (.iconst 1, 1) := by decide +kernel
theorem dX4_readBody_41 : decode cX4_readBody 41 = .ok (.if_icmp .ne 25, 3) := by decide +kernel
theorem dX4_readBody_44 : decode cX4_readBody 44 = .ok (.aload_n 0, 1) := by decide +kernel
theorem dX4_readBody_45 : decode cX4_readBody 45 = .ok (.getfield 14, 3) := by decide +kernel
theorem dX4_readBody_48 : decode cX4_readBody 48 = .ok (.aload_n 1, 1) := by decide +kernel
theorem dX4_readBody_49 : decode cX4_readBody 49 = .ok (.aload_n 0, 1) := by decide +kernel
theorem dX4_readBody_50 : decode cX4_readBody 50 = .ok (.getfield 91, 3) := by decide +kernel
theorem dX4_readBody_53 : decode cX4_readBody 53 = .ok (.invokevirtual 61, 3) := by decide +kernel
theorem dX4_readBody_56 : decode cX4_readBody 56 = .ok (.aload_n 0, 1) := by decide +kernel
theorem dX4_readBody_57 : decode cX4_readBody 57 = .ok (.getfield 94, 3) := by decide +kernel
theorem dX4_readBody_60 : decode cX4_readBody 60 = .ok (.invokevirtual 115, 3) := by decide +kernel
theorem dX4_readBody_63 : decode cX4_readBody 63 = .ok (.goto 36, 3) := by decide +kernel
theorem dX4_readBody_66 : decode cX4_readBody 66 = .ok (.aload_n 0, 1) := by decide +kernel
theorem dX4_readBody_67 : decode cX4_readBody 67 = .ok (.getfield 68, 3) := by decide +kernel
theorem dX4_readBody_70 : decode cX4_readBody 70 = .ok (.ifCond .ne 23, 3) := by decide +kernel
theorem dX4_readBody_73 : decode cX4_readBody 73 = .ok (.aload_n 0, 1) := by decide +kernel
theorem dX4_readBody_74 : decode cX4_readBody 74 = .ok (.aload_n 1, 1) := by decide +kernel
theorem dX4_readBody_75 : decode cX4_readBody 75 = .ok (.aload_n 0, 1) := by decide +kernel
theorem dX4_readBody_76 : decode cX4_readBody 76 = .ok (.getfield 91, 3) := by decide +kernel
theorem dX4_readBody_79 : decode cX4_readBody 79 = .ok (.aload_n 0, 1) := by decide +kernel
theorem dX4_readBody_80 : decode cX4_readBody 80 = .ok (.getfield 97, 3) := by decide +kernel
theorem dX4_readBody_83 : decode cX4_readBody 83 = .ok (.aload_n 0, 1) := by decide +kernel
theorem dX4_readBody_84 : decode cX4_readBody 84 = .ok (.getfield 94, 3) := by decide +kernel
theorem dX4_readBody_87 : decode cX4_readBody 87 = .ok (.invokevirtual 119, 3) := by decide +kernel
theorem dX4_readBody_90 : decode cX4_readBody 90 = .ok (.goto 8, 3) := by decide +kernel
theorem dX4_readBody_93 : decode cX4_readBody 93 = .ok (.aload_n 0, 1) := by decide +kernel
theorem dX4_readBody_94 : decode cX4_readBody 94 = .ok (.aload_n 1, 1) := by decide +kernel
theorem dX4_readBody_95 : decode cX4_readBody 95 = .ok (.invokevirtual 123, 3) := by decide +kernel
theorem dX4_readBody_98 : decode cX4_readBody 98 = .ok (.istore_n 2, 1) := by decide +kernel
theorem dX4_readBody_99 : decode cX4_readBody 99 = .ok (.aload_n 0, 1) := by decide +kernel
theorem dX4_readBody_100 : decode cX4_readBody 100 = .ok (.getfield 34, 3) := by decide +kernel
theorem dX4_readBody_103 : decode cX4_readBody 103 = .ok (.getfield 127, 3) := by decide +kernel
theorem dX4_readBody_106 : decode cX4_readBody 106 = .ok (.iconst 3, 1) := by decide +kernel
theorem dX4_readBody_107 : decode cX4_readBody 107 = .ok (.dup2, 1) := by decide +kernel
theorem dX4_readBody_108 : decode cX4_readBody 108 = .ok (.iaload, 1) := by decide +kernel
theorem dX4_readBody_109 : decode cX4_readBody 109 = .ok (.iload_n 2, 1) := by decide +kernel
theorem dX4_readBody_110 : decode cX4_readBody 110 = .ok (.ifCond .eq 10, 3) := by decide +kernel
theorem dX4_readBody_113 : decode cX4_readBody 113 = .ok (.aload_n 0, 1) := by decide +kernel
theorem dX4_readBody_114 : decode cX4_readBody 114 = .ok (.getfield 94, 3) := by decide +kernel
theorem dX4_readBody_117 : decode cX4_readBody 117 = .ok (.goto 4, 3) := by decide +kernel
theorem dX4_readBody_120 : decode cX4_readBody 120 = .ok (.iconst 0, 1) := by decide +kernel
theorem dX4_readBody_121 : decode cX4_readBody 121 = .ok (.iadd, 1) := by decide +kernel
theorem dX4_readBody_122 : decode cX4_readBody 122 = .ok (.iastore, 1) := by decide +kernel
theorem dX4_readBody_123 : decode cX4_readBody 123 = .ok (.iload_n 2, 1) := by decide +kernel
theorem dX4_readBody_124 : decode cX4_readBody 124 = .ok (.ifCond .ne 19, 3) := by decide +kernel
theorem dX4_readBody_127 : decode cX4_readBody 127 = .ok (.aload_n 0, 1) := by decide +kernel
theorem dX4_readBody_128 : decode cX4_readBody 128 = .ok (.getfield 34, 3) := by decide +kernel
theorem dX4_readBody_131 : decode cX4_readBody 131 = .ok (.bipush 13, 2) := by decide +kernel
theorem dX4_readBody_133 : decode cX4_readBody 133 = .ok (.aload_n 0, 1) := by decide +kernel
theorem dX4_readBody_134 : decode cX4_readBody 134 = .ok (.getfield 91, 3) := by decide +kernel
theorem dX4_readBody_137 : decode cX4_readBody 137 = .ok (.invokevirtual 81, 3) := by decide +kernel
theorem dX4_readBody_140 : decode cX4_readBody 140 = .ok (.ifCond .eq 7, 3) := by decide +kernel
theorem dX4_readBody_143 : decode cX4_readBody 143 = .ok (.iconst 1, 1) := by decide +kernel
theorem dX4_readBody_144 : decode cX4_readBody 144 = .ok (.goto 4, 3) := by decide +kernel
theorem dX4_readBody_147 : decode cX4_readBody 147 = .ok (.iconst 0, 1) := by decide +kernel
theorem dX4_readBody_148 : decode cX4_readBody 148 = .ok (.ireturn, 1) := by decide +kernel
theorem dX4_readFour_0 : decode cX4_readFour 0 = .ok (.aload_n 0, 1) := by decide +kernel
theorem dX4_readFour_1 : decode cX4_readFour 1 = .ok (.getfield 91, 3) := by decide +kernel
theorem dX4_readFour_4 : decode cX4_readFour 4 = .ok (.bipush 6, 2) := by decide +kernel
theorem dX4_readFour_6 : decode cX4_readFour 6 = .ok (.iadd, 1) := by decide +kernel
theorem dX4_readFour_7 : decode cX4_readFour 7 = .ok (.istore_n 2, 1) := by decide +kernel
theorem dX4_readFour_8 : decode cX4_readFour 8 = .ok (.aload_n 0, 1) := by decide +kernel
theorem dX4_readFour_9 : decode cX4_readFour 9 = .ok (.getfield 94, 3) := by decide +kernel
theorem dX4_readFour_12 : decode cX4_readFour 12 = .ok (.iconst 3, 1) := by decide +kernel
theorem dX4_readFour_13 : decode cX4_readFour 13 = .ok (.iadd, 1) := by decide +kernel
theorem dX4_readFour_14 : decode cX4_readFour 14 = .ok (.iconst 4, 1) := by decide +kernel
theorem dX4_readFour_15 : decode cX4_readFour 15 = .ok (.idiv, 1) := by decide +kernel
theorem dX4_readFour_16 : decode cX4_readFour 16 = .ok (.istore_n 3, 1) := by decide +kernel
theorem dX4_readFour_17 : decode cX4_readFour 17 = .ok (.iload_n 2, 1) := by decide +kernel
theorem dX4_readFour_18 : decode cX4_readFour 18 = .ok (.aload_n 0, 1) := by decide +kernel
theorem dX4_readFour_19 : decode cX4_readFour 19 = .ok (.getfield 97, 3) := by decide +kernel
theorem dX4_readFour_22 : decode cX4_readFour 22 = .ok (.if_icmp .le 5, 3) := by decide +kernel
theorem dX4_readFour_25 : decode cX4_readFour 25 = .ok (.iconst 0, 1) := by decide +kernel
theorem dX4_readFour_26 : decode cX4_readFour 26 = .ok (.ireturn, 1) := by decide +kernel
theorem dX4_readFour_27 : decode cX4_readFour 27 = .ok (.iconst 0, 1) := by decide +kernel
theorem dX4_readFour_28 : decode cX4_readFour 28 = .ok (.istore 4, 2) := by decide +kernel
theorem dX4_readFour_30 : decode cX4_readFour 30 = .ok (.iload 4, 2) := by decide +kernel
theorem dX4_readFour_32 : decode cX4_readFour 32 = .ok (.iconst 3, 1) := by decide +kernel
theorem dX4_readFour_33 : decode cX4_readFour 33 = .ok (.if_icmp .ge 54, 3) := by decide +kernel
theorem dX4_readFour_36 : decode cX4_readFour 36 = .ok (.iload_n 2, 1) := by decide +kernel
theorem dX4_readFour_37 : decode cX4_readFour 37 = .ok (.aload_n 1, 1) := by decide +kernel
theorem dX4_readFour_38 : decode cX4_readFour 38 = .ok (.aload_n 0, 1) := by decide +kernel
theorem dX4_readFour_39 : decode cX4_readFour 39 = .ok (.getfield 91, 3) := by decide +kernel
theorem dX4_readFour_42 : decode cX4_readFour 42 = .ok (.iconst 2, 1) := by decide +kernel
theorem dX4_readFour_43 : decode cX4_readFour 43 = .ok (.iload 4, 2) := by decide +kernel
theorem dX4_readFour_45 : decode cX4_readFour 45 = .ok (.imul, 1) := by decide +kernel
theorem dX4_readFour_46 : decode cX4_readFour 46 = .ok (.iadd, 1) := by decide +kernel
theorem dX4_readFour_47 : decode cX4_readFour 47 = .ok (.iconst 2, 1) := by decide +kernel
theorem dX4_readFour_48 : decode cX4_readFour 48 = .ok (.invokevirtual 87, 3) := by decide +kernel
theorem dX4_readFour_51 : decode cX4_readFour 51 = .ok (.l2i, 1) := by decide +kernel
theorem dX4_readFour_52 : decode cX4_readFour 52 = .ok (.iadd, 1) := by decide +kernel
theorem dX4_readFour_53 : decode cX4_readFour 53 = .ok (.istore 5, 2) := by decide +kernel
theorem dX4_readFour_55 : decode cX4_readFour 55 = .ok (.iload 5, 2) := by decide +kernel
theorem dX4_readFour_57 : decode cX4_readFour 57 = .ok (.aload_n 0, 1) := by decide +kernel
theorem dX4_readFour_58 : decode cX4_readFour 58 = .ok (.getfield 97, 3) := by decide +kernel
theorem dX4_readFour_61 : decode cX4_readFour 61 = .ok (.if_icmp .gt 15, 3) := by decide +kernel
theorem dX4_readFour_64 : decode cX4_readFour 64 = .ok (.aload_n 0, 1) := by decide +kernel
theorem dX4_readFour_65 : decode cX4_readFour 65 = .ok (.aload_n 1, 1) := by decide +kernel
theorem dX4_readFour_66 : decode cX4_readFour 66 = .ok (.iload_n 2, 1) := by decide +kernel
theorem dX4_readFour_67 : decode cX4_readFour 67 = .ok (.iload 5, 2) := by decide +kernel
theorem dX4_readFour_69 : decode cX4_readFour 69 = .ok (.iload_n 3, 1) := by decide +kernel
theorem dX4_readFour_70 : decode cX4_readFour 70 = .ok (.invokevirtual 119, 3) := by decide +kernel
theorem dX4_readFour_73 : decode cX4_readFour 73 = .ok (.ifCond .ne 5, 3) := by decide +kernel
theorem dX4_readFour_76 : decode cX4_readFour 76 = .ok (.iconst 0, 1) := by decide +kernel
theorem dX4_readFour_77 : decode cX4_readFour 77 = .ok (.ireturn, 1) := by decide +kernel
theorem dX4_readFour_78 : decode cX4_readFour 78 = .ok (.iload 5, 2) := by decide +kernel
theorem dX4_readFour_80 : decode cX4_readFour 80 = .ok (.istore_n 2, 1) := by decide +kernel
theorem dX4_readFour_81 : decode cX4_readFour 81 = .ok (.iinc 4 1, 3) := by decide +kernel
theorem dX4_readFour_84 : decode cX4_readFour 84 = .ok (.goto (-54), 3) := by decide +kernel
theorem dX4_readFour_87 : decode cX4_readFour 87 = .ok (.aload_n 0, 1) := by decide +kernel
theorem dX4_readFour_88 : decode cX4_readFour 88 = .ok (.aload_n 1, 1) := by decide +kernel
theorem dX4_readFour_89 : decode cX4_readFour 89 = .ok (.iload_n 2, 1) := by decide +kernel
theorem dX4_readFour_90 : decode cX4_readFour 90 = .ok (.aload_n 0, 1) := by decide +kernel
theorem dX4_readFour_91 : decode cX4_readFour 91 = .ok (.getfield 97, 3) := by decide +kernel
theorem dX4_readFour_94 : decode cX4_readFour 94 = .ok (.aload_n 0, 1) := by decide +kernel
theorem dX4_readFour_95 : decode cX4_readFour 95 = .ok (.getfield 94, 3) := by decide +kernel
theorem dX4_readFour_98 : decode cX4_readFour 98 = .ok (.iconst 3, 1) := by decide +kernel
theorem dX4_readFour_99 : decode cX4_readFour 99 = .ok (.iload_n 3, 1) := by decide +kernel
theorem dX4_readFour_100 : decode cX4_readFour 100 = .ok (.imul, 1) := by decide +kernel
theorem dX4_readFour_101 : decode cX4_readFour 101 = .ok (.isub, 1) := by decide +kernel
theorem dX4_readFour_102 : decode cX4_readFour 102 = .ok (.invokevirtual 119, 3) := by decide +kernel
theorem dX4_readFour_105 : decode cX4_readFour 105 = .ok (.ireturn, 1) := by decide +kernel
theorem dX4_readStream_0 : decode cX4_readStream 0 = .ok (.iload 4, 2) := by decide +kernel
theorem dX4_readStream_2 : decode cX4_readStream 2 = .ok (.ifCond .lt 16, 3) := by decide +kernel
theorem dX4_readStream_5 : decode cX4_readStream 5 = .ok (.aload_n 0, 1) := by decide +kernel
theorem dX4_readStream_6 : decode cX4_readStream 6 = .ok (.getfield 30, 3) := by decide +kernel
theorem dX4_readStream_9 : decode cX4_readStream 9 = .ok (.aload_n 1, 1) := by decide +kernel
theorem dX4_readStream_10 : decode cX4_readStream 10 = .ok (.iload_n 2, 1) := by decide +kernel
theorem dX4_readStream_11 : decode cX4_readStream 11 = .ok (.iload_n 3, 1) := by decide +kernel
theorem dX4_readStream_12 : decode cX4_readStream 12 = .ok (.invokevirtual 131, 3) := by decide +kernel
theorem dX4_readStream_15 : decode cX4_readStream 15 = .ok (.ifCond .ne 5, 3) := by decide +kernel
theorem dX4_readStream_18 : decode cX4_readStream 18 = .ok (.iconst 0, 1) := by decide +kernel
theorem dX4_readStream_19 : decode cX4_readStream 19 = .ok (.ireturn, 1) := by decide +kernel
theorem dX4_readStream_20 : decode cX4_readStream 20 = .ok (.iconst 0, 1) := by decide +kernel
theorem dX4_readStream_21 : decode cX4_readStream 21 = .ok (.istore 5, 2) := by decide +kernel
theorem dX4_readStream_23 : decode cX4_readStream 23 = .ok (.iload 5, 2) := by decide +kernel
theorem dX4_readStream_25 : decode cX4_readStream 25 = .ok (.iload 4, 2) := by decide +kernel
theorem dX4_readStream_27 : decode cX4_readStream 27 = .ok (.if_icmp .ge 81, 3) := by decide +kernel
theorem dX4_readStream_30 : decode cX4_readStream 30 = .ok (.aload_n 0, 1) := by decide +kernel
theorem dX4_readStream_31 : decode cX4_readStream 31 = .ok (.getfield 42, 3) := by decide +kernel
theorem dX4_readStream_34 : decode cX4_readStream 34 = .ok (.aload_n 0, 1) := by decide +kernel
theorem dX4_readStream_35 : decode cX4_readStream 35 = .ok (.getfield 30, 3) := by decide +kernel
theorem dX4_readStream_38 : decode cX4_readStream 38 = .ok (.aload_n 0, 1) := by decide +kernel
theorem dX4_readStream_39 : decode cX4_readStream 39 = .ok (.getfield 42, 3) := by decide +kernel
theorem dX4_readStream_42 : decode cX4_readStream 42 = .ok (.getfield 135, 3) := by decide +kernel
theorem dX4_readStream_45 : decode cX4_readStream 45 = .ok (.invokevirtual 138, 3) := by decide +kernel
theorem dX4_readStream_48 : decode cX4_readStream 48 = .ok (.invokevirtual 141, 3) := by decide +kernel
theorem dX4_readStream_51 : decode cX4_readStream 51 = .ok (.istore 6, 2) := by decide +kernel
theorem dX4_readStream_53 : decode cX4_readStream 53 = .ok (.aload_n 0, 1) := by decide +kernel
theorem dX4_readStream_54 : decode cX4_readStream 54 = .ok (.getfield 42, 3) := by decide +kernel
theorem dX4_readStream_57 : decode cX4_readStream 57 = .ok (.getfield 144, 3) := by decide +kernel
theorem dX4_readStream_60 : decode cX4_readStream 60 = .ok (.iload 6, 2) := by decide +kernel
theorem dX4_readStream_62 : decode cX4_readStream 62 = .ok (.iaload, 1) := by decide +kernel
theorem dX4_readStream_63 : decode cX4_readStream 63 = .ok (.istore 7, 2) := by decide +kernel
theorem dX4_readStream_65 : decode cX4_readStream 65 = .ok (.iload 7, 2) := by decide +kernel
theorem dX4_readStream_67 : decode cX4_readStream 67 = .ok (.aload_n 0, 1) := by decide +kernel
theorem dX4_readStream_68 : decode cX4_readStream 68 = .ok (.getfield 30, 3) := by decide +kernel
theorem dX4_readStream_71 : decode cX4_readStream 71 = .ok (.getfield 147, 3) := by decide +kernel
theorem dX4_readStream_74 : decode cX4_readStream 74 = .ok (.if_icmp .le 5, 3) := by decide +kernel
theorem dX4_readStream_77 : decode cX4_readStream 77 = .ok (.iconst 0, 1) := by decide +kernel
theorem dX4_readStream_78 : decode cX4_readStream 78 = .ok (.ireturn, 1) := by decide +kernel
theorem dX4_readStream_79 : decode cX4_readStream 79 = .ok (.aload_n 0, 1) := by decide +kernel
theorem dX4_readStream_80 : decode cX4_readStream 80 = .ok (.getfield 30, 3) := by decide +kernel
theorem dX4_readStream_83 : decode cX4_readStream 83 = .ok (.dup, 1) := by decide +kernel
theorem dX4_readStream_84 : decode cX4_readStream 84 = .ok (.getfield 147, 3) := by decide +kernel
theorem dX4_readStream_87 : decode cX4_readStream 87 = .ok (.iload 7, 2) := by decide +kernel
theorem dX4_readStream_89 : decode cX4_readStream 89 = .ok (.isub, 1) := by decide +kernel
theorem dX4_readStream_90 : decode cX4_readStream 90 = .ok (.putfield 147, 3) := by decide +kernel
theorem dX4_readStream_93 : decode cX4_readStream 93 = .ok (.aload_n 0, 1) := by decide +kernel
theorem dX4_readStream_94 : decode cX4_readStream 94 = .ok (.getfield 14, 3) := by decide +kernel
theorem dX4_readStream_97 : decode cX4_readStream 97 = .ok (.iload 6, 2) := by decide +kernel
theorem dX4_readStream_99 : decode cX4_readStream 99 = .ok (.invokevirtual 150, 3) := by decide +kernel
theorem dX4_readStream_102 : decode cX4_readStream 102 = .ok (.iinc 5 1, 3) := by decide +kernel
theorem dX4_readStream_105 : decode cX4_readStream 105 = .ok (.goto (-82), 3) := by decide +kernel
theorem dX4_readStream_108 : decode cX4_readStream 108 = .ok (.aload_n 0, 1) := by decide +kernel
theorem dX4_readStream_109 : decode cX4_readStream 109 = .ok (.getfield 30, 3) := by decide +kernel
theorem dX4_readStream_112 : decode cX4_readStream 112 = .ok (.getfield 147, 3) := by decide +kernel
theorem dX4_readStream_115 : decode cX4_readStream 115 = .ok (.ifCond .ne 7, 3) := by decide +kernel
theorem dX4_readStream_118 : decode cX4_readStream 118 = .ok (.iconst 1, 1) := by decide +kernel
theorem dX4_readStream_119 : decode cX4_readStream 119 = .ok (.goto 4, 3) := by decide +kernel
theorem dX4_readStream_122 : decode cX4_readStream 122 = .ok (.iconst 0, 1) := by decide +kernel
theorem dX4_readStream_123 : decode cX4_readStream 123 = .ok (.ireturn, 1) := by decide +kernel
theorem dX5_init_0 : decode cX5_init 0 = .ok (.aload_n 0, 1) := by decide +kernel
theorem dX5_init_1 : decode cX5_init 1 = .ok (.invokespecial 3, 3) := by decide +kernel
theorem dX5_init_4 : decode cX5_init 4 = .ok (.aload_n 0, 1) := by decide +kernel
theorem dX5_init_5 : decode cX5_init 5 = .ok (.new 9, 3) := by decide +kernel
theorem dX5_init_8 : decode cX5_init 8 = .ok (.dup, 1) := by decide +kernel
theorem dX5_init_9 : decode cX5_init 9 = .ok (.iconst 0, 1) := by decide +kernel
theorem dX5_init_10 : decode cX5_init 10 = .ok (.invokespecial 11, 3) := by decide +kernel
theorem dX5_init_13 : decode cX5_init 13 = .ok (.putfield 14, 3) := by decide +kernel
theorem dX5_init_16 : decode cX5_init 16 = .ok (.aload_n 0, 1) := by decide +kernel
theorem dX5_init_17 : decode cX5_init 17 = .ok (.aload_n 0, 1) := by decide +kernel
theorem dX5_init_18 : decode cX5_init 18 = .ok (.getfield 14, 3) := by decide +kernel
theorem dX5_init_21 : decode cX5_init 21 = .ok (.putfield 20, 3) := by decide +kernel
theorem dX5_init_24 : decode cX5_init 24 = .ok (.aload_n 0, 1) := by decide +kernel
theorem dX5_init_25 : decode cX5_init 25 = .ok (.aload_n 1, 1) := by decide +kernel
theorem dX5_init_26 : decode cX5_init 26 = .ok (.putfield 23, 3) := by decide +kernel
theorem dX5_init_29 : decode cX5_init 29 = .ok (.aload_n 0, 1) := by decide +kernel
theorem dX5_init_30 : decode cX5_init 30 = .ok (.new 27, 3) := by decide +kernel
theorem dX5_init_33 : decode cX5_init 33 = .ok (.dup, 1) := by decide +kernel
theorem dX5_init_34 : decode cX5_init 34 = .ok (.aload_n 1, 1) := by decide +kernel
theorem dX5_init_35 : decode cX5_init 35 = .ok (.aload_n 2, 1) := by decide +kernel
theorem dX5_init_36 : decode cX5_init 36 = .ok (.invokespecial 29, 3) := by decide +kernel
theorem dX5_init_39 : decode cX5_init 39 = .ok (.putfield 32, 3) := by decide +kernel
theorem dX5_init_42 : decode cX5_init 42 = .ok (.aload_n 0, 1) := by decide +kernel
theorem dX5_init_43 : decode cX5_init 43 = .ok (.new 36, 3) := by decide +kernel
theorem dX5_init_46 : decode cX5_init 46 = .ok (.dup, 1) := by decide +kernel
theorem dX5_init_47 : decode cX5_init 47 = .ok (.aload_n 1, 1) := by decide +kernel
theorem dX5_init_48 : decode cX5_init 48 = .ok (.aload_n 0, 1) := by decide +kernel
theorem dX5_init_49 : decode cX5_init 49 = .ok (.getfield 32, 3) := by decide +kernel
theorem dX5_init_52 : decode cX5_init 52 = .ok (.aload_n 3, 1) := by decide +kernel
theorem dX5_init_53 : decode cX5_init 53 = .ok (.invokespecial 38, 3) := by decide +kernel
theorem dX5_init_56 : decode cX5_init 56 = .ok (.putfield 41, 3) := by decide +kernel
theorem dX5_init_59 : decode cX5_init 59 = .ok (.return_, 1) := by decide +kernel
theorem dX5_openAll_0 : decode cX5_openAll 0 = .ok (.aload_n 0, 1) := by decide +kernel
theorem dX5_openAll_1 : decode cX5_openAll 1 = .ok (.aload_n 1, 1) := by decide +kernel
theorem dX5_openAll_2 : decode cX5_openAll 2 = .ok (.putfield 14, 3) := by decide +kernel
theorem dX5_openAll_5 : decode cX5_openAll 5 = .ok (.aload_n 0, 1) := by decide +kernel
theorem dX5_openAll_6 : decode cX5_openAll 6 = .ok (.aload_n 2, 1) := by decide +kernel
theorem dX5_openAll_7 : decode cX5_openAll 7 = .ok (.putfield 20, 3) := by decide +kernel
theorem dX5_openAll_10 : decode cX5_openAll 10 = .ok (.aload_n 0, 1) := by decide +kernel
theorem dX5_openAll_11 : decode cX5_openAll 11 = .ok (.aload_n 3, 1) := by decide +kernel
theorem dX5_openAll_12 : decode cX5_openAll 12 = .ok (.putfield 45, 3) := by decide +kernel
theorem dX5_openAll_15 : decode cX5_openAll 15 = .ok (.aload_n 0, 1) := by decide +kernel
theorem dX5_openAll_16 : decode cX5_openAll 16 = .ok (.lload 4, 2) := by decide +kernel
theorem dX5_openAll_18 : decode cX5_openAll 18 = .ok (.putfield 49, 3) := by decide +kernel
theorem dX5_openAll_21 : decode cX5_openAll 21 = .ok (.aload_n 0, 1) := by decide +kernel
theorem dX5_openAll_22 : decode cX5_openAll 22 = .ok (.iconst 0, 1) := by decide +kernel
theorem dX5_openAll_23 : decode cX5_openAll 23 = .ok (.putfield 53, 3) := by decide +kernel
theorem dX5_openAll_26 : decode cX5_openAll 26 = .ok (.aload_n 0, 1) := by decide +kernel
theorem dX5_openAll_27 : decode cX5_openAll 27 = .ok (.getfield 20, 3) := by decide +kernel
theorem dX5_openAll_30 : decode cX5_openAll 30 = .ok (.iconst 0, 1) := by decide +kernel
theorem dX5_openAll_31 : decode cX5_openAll 31 = .ok (.putfield 57, 3) := by decide +kernel
theorem dX5_openAll_34 : decode cX5_openAll 34 = .ok (.aload_n 0, 1) := by decide +kernel
theorem dX5_openAll_35 : decode cX5_openAll 35 = .ok (.getfield 23, 3) := by decide +kernel
theorem dX5_openAll_38 : decode cX5_openAll 38 = .ok (.invokevirtual 60, 3) := by decide +kernel
theorem dX5_openAll_41 : decode cX5_openAll 41 = .ok (.aload_n 0, 1) := by decide +kernel
theorem dX5_openAll_42 : decode cX5_openAll 42 = .ok (.invokevirtual 65, 3) := by decide +kernel
theorem dX5_openAll_45 : decode cX5_openAll 45 = .ok (.iconst 1, 1) := by decide +kernel
theorem dX5_openAll_46 : decode cX5_openAll 46 = .ok (.istore 6, 2) := by decide +kernel
theorem dX5_openAll_48 : decode cX5_openAll 48 = .ok (.iconst 0, 1) := by decide +kernel
theorem dX5_openAll_49 : decode cX5_openAll 49 = .ok (.istore 7, 2) := by decide +kernel
theorem dX5_openAll_51 : decode cX5_openAll 51 = .ok (.iload 7, 2) := by decide +kernel
theorem dX5_openAll_53 : decode cX5_openAll 53 = .ok (.sipush 8000, 3) := by decide +kernel
theorem dX5_openAll_56 : decode cX5_openAll 56 = .ok (.if_icmp .ge 135, 3) := by decide +kernel
theorem dX5_openAll_59 : decode cX5_openAll 59 = .ok (.iload 6, 2) := by decide +kernel
theorem dX5_openAll_61 : decode cX5_openAll 61 = .ok (.ifCond .eq 130, 3) := by decide +kernel
theorem dX5_openAll_64 : decode cX5_openAll 64 = .ok (.aload_n 0, 1) := by decide +kernel
theorem dX5_openAll_65 : decode cX5_openAll 65 = .ok (.getfield 53, 3) := by decide +kernel
theorem dX5_openAll_68 : decode cX5_openAll 68 = .ok (.aload_n 0, 1) := by decide +kernel
theorem dX5_openAll_69 : decode cX5_openAll 69 = .ok (.getfield 14, 3) := by decide +kernel
theorem dX5_openAll_72 : decode cX5_openAll 72 = .ok (.getfield 57, 3) := by decide +kernel
theorem dX5_openAll_75 : decode cX5_openAll 75 = .ok (.if_icmp .ge 116, 3) := by decide +kernel
theorem dX5_openAll_78 : decode cX5_openAll 78 = .ok (.aload_n 0, 1) := by decide +kernel
theorem dX5_openAll_79 : decode cX5_openAll 79 = .ok (.invokevirtual 68, 3) := by decide +kernel
theorem dX5_openAll_82 : decode cX5_openAll 82 = .ok (.istore 6, 2) := by decide +kernel
theorem dX5_openAll_84 : decode cX5_openAll 84 = .ok (.iconst 0, 1) := by decide +kernel
theorem dX5_openAll_85 : decode cX5_openAll 85 = .ok (.istore 8, 2) := by decide +kernel
theorem dX5_openAll_87 : decode cX5_openAll 87 = .ok (.iload 8, 2) := by decide +kernel
theorem dX5_openAll_89 : decode cX5_openAll 89 = .ok (.sipush 8000, 3) := by decide +kernel
theorem dX5_openAll_92 : decode cX5_openAll 92 = .ok (.if_icmp .ge 67, 3) := by decide +kernel
theorem dX5_openAll_95 : decode cX5_openAll 95 = .ok (.iload 6, 2) := by decide +kernel
theorem dX5_openAll_97 : decode cX5_openAll 97 = .ok (.ifCond .eq 62, 3) := by decide +kernel
theorem dX5_openAll_100 : decode cX5_openAll 100 = .ok (.aload_n 0, 1) := by decide +kernel
theorem dX5_openAll_101 : decode cX5_openAll 101 = .ok (.getfield 72, 3) := by decide +kernel
theorem dX5_openAll_104 : decode cX5_openAll 104 = .ok (.ifCond .ne 55, 3) := by decide +kernel
theorem dX5_openAll_107 : decode cX5_openAll 107 = .ok (.aload_n 0, 1) := by decide +kernel
theorem dX5_openAll_108 : decode cX5_openAll 108 = .ok (.invokevirtual 76, 3) := by decide +kernel
theorem dX5_openAll_111 : decode cX5_openAll 111 = .ok (.ifCond .eq 39, 3) := by decide +kernel
theorem dX5_openAll_114 : decode cX5_openAll 114 = .ok (.aload_n 0, 1) := by decide +kernel
theorem dX5_openAll_115 : decode cX5_openAll 115 = .ok (.getfield 79, 3) := by decide +kernel
theorem dX5_openAll_118 : decode cX5_openAll 118 = .ok (.iconst 2, 1) := by decide +kernel
theorem dX5_openAll_119 : decode cX5_openAll 119 = .ok (.if_icmp .ne 13, 3) := by decide +kernel
theorem dX5_openAll_122 : decode cX5_openAll 122 = .ok (.aload_n 0, 1) := by decide +kernel
theorem dX5_openAll_123 : decode cX5_openAll 123 = .ok (.invokevirtual 82, 3) := by decide +kernel
theorem dX5_openAll_126 : decode cX5_openAll 126 = .ok (.ifCond .eq 24, 3) := by decide +kernel
theorem dX5_openAll_129 : decode cX5_openAll 129 = .ok (.goto 10, 3) := by decide +kernel
theorem dX5_openAll_132 : decode cX5_openAll 132 = .ok (.aload_n 0, 1) := by decide +kernel
theorem dX5_openAll_133 : decode cX5_openAll 133 = .ok (.invokevirtual 85, 3) := by decide +kernel
theorem dX5_openAll_136 : decode cX5_openAll 136 = .ok (.ifCond .eq 14, 3) := by decide +kernel
theorem dX5_openAll_139 : decode cX5_openAll 139 = .ok (.aload_n 0, 1) := by decide +kernel
theorem dX5_openAll_140 : decode cX5_openAll 140 = .ok (.invokevirtual 88, 3) := by decide +kernel
theorem dX5_openAll_143 : decode cX5_openAll 143 = .ok (.ifCond .eq 7, 3) := by decide +kernel
theorem dX5_openAll_146 : decode cX5_openAll 146 = .ok (.iconst 1, 1) := by decide +kernel
theorem dX5_openAll_147 : decode cX5_openAll 147 = .ok (.goto 4, 3) := by decide +kernel
theorem dX5_openAll_150 : decode cX5_openAll 150 = .ok (.iconst 0, 1) := by decide +kernel
theorem dX5_openAll_151 : decode cX5_openAll 151 = .ok (.istore 6, 2) := by decide +kernel
theorem dX5_openAll_153 : decode cX5_openAll 153 = .ok (.iinc 8 1, 3) := by decide +kernel
theorem dX5_openAll_156 : decode cX5_openAll 156 = .ok (.goto (-69), 3) := by decide +kernel
theorem dX5_openAll_159 : decode cX5_openAll 159 = .ok (.iload 6, 2) := by decide +kernel
theorem dX5_openAll_161 : decode cX5_openAll 161 = .ok (.ifCond .eq 21, 3) := by decide +kernel
theorem dX5_openAll_164 : decode cX5_openAll 164 = .ok (.aload_n 0, 1) := by decide +kernel
theorem dX5_openAll_165 : decode cX5_openAll 165 = .ok (.getfield 91, 3) := by decide +kernel
theorem dX5_openAll_168 : decode cX5_openAll 168 = .ok (.ifCond .ne 10, 3) := by decide +kernel
theorem dX5_openAll_171 : decode cX5_openAll 171 = .ok (.aload_n 0, 1) := by decide +kernel
theorem dX5_openAll_172 : decode cX5_openAll 172 = .ok (.invokevirtual 94, 3) := by decide +kernel
theorem dX5_openAll_175 : decode cX5_openAll 175 = .ok (.ifCond .eq 7, 3) := by decide +kernel
theorem dX5_openAll_178 : decode cX5_openAll 178 = .ok (.iconst 1, 1) := by decide +kernel
theorem dX5_openAll_179 : decode cX5_openAll 179 = .ok (.goto 4, 3) := by decide +kernel
theorem dX5_openAll_182 : decode cX5_openAll 182 = .ok (.iconst 0, 1) := by decide +kernel
theorem dX5_openAll_183 : decode cX5_openAll 183 = .ok (.istore 6, 2) := by decide +kernel
theorem dX5_openAll_185 : decode cX5_openAll 185 = .ok (.iinc 7 1, 3) := by decide +kernel
theorem dX5_openAll_188 : decode cX5_openAll 188 = .ok (.goto (-137), 3) := by decide +kernel
theorem dX5_openAll_191 : decode cX5_openAll 191 = .ok (.iload 6, 2) := by decide +kernel
theorem dX5_openAll_193 : decode cX5_openAll 193 = .ok (.ireturn, 1) := by decide +kernel
theorem dX5_forget_0 : decode cX5_forget 0 = .ok (.aload_n 0, 1) := by decide +kernel
theorem dX5_forget_1 : decode cX5_forget 1 = .ok (.getfield 32, 3) := by decide +kernel
theorem dX5_forget_4 : decode cX5_forget 4 = .ok (.iconst 0, 1) := by decide +kernel
theorem dX5_forget_5 : decode cX5_forget 5 = .ok (.putfield 97, 3) := by decide +kernel
theorem dX5_forget_8 : decode cX5_forget 8 = .ok (.iconst 0, 1) := by decide +kernel
theorem dX5_forget_9 : decode cX5_forget 9 = .ok (.istore_n 1, 1) := by decide +kernel
theorem dX5_forget_10 : decode cX5_forget 10 = .ok (.iload_n 1, 1) := by decide +kernel
theorem dX5_forget_11 : decode cX5_forget 11 = .ok (.iconst 3, 1) := by decide +kernel
theorem dX5_forget_12 : decode cX5_forget 12 = .ok (.if_icmp .ge 19, 3) := by decide +kernel
theorem dX5_forget_15 : decode cX5_forget 15 = .ok (.aload_n 0, 1) := by decide +kernel
theorem dX5_forget_16 : decode cX5_forget 16 = .ok (.getfield 41, 3) := by decide +kernel
theorem dX5_forget_19 : decode cX5_forget 19 = .ok (.getfield 100, 3) := by decide +kernel
theorem dX5_forget_22 : decode cX5_forget 22 = .ok (.iload_n 1, 1) := by decide +kernel
theorem dX5_forget_23 : decode cX5_forget 23 = .ok (.iconst 0, 1) := by decide +kernel
theorem dX5_forget_24 : decode cX5_forget 24 = .ok (.bastore, 1) := by decide +kernel
theorem dX5_forget_25 : decode cX5_forget 25 = .ok (.iinc 1 1, 3) := by decide +kernel
theorem dX5_forget_28 : decode cX5_forget 28 = .ok (.goto (-18), 3) := by decide +kernel
theorem dX5_forget_31 : decode cX5_forget 31 = .ok (.return_, 1) := by decide +kernel
theorem dX5_readMark_0 : decode cX5_readMark 0 = .ok (.aload_n 0, 1) := by decide +kernel
theorem dX5_readMark_1 : decode cX5_readMark 1 = .ok (.ldc2_w 103, 3) := by decide +kernel
theorem dX5_readMark_4 : decode cX5_readMark 4 = .ok (.invokevirtual 105, 3) := by decide +kernel
theorem dX5_readMark_7 : decode cX5_readMark 7 = .ok (.ifCond .ne 8, 3) := by decide +kernel
theorem dX5_readMark_10 : decode cX5_readMark 10 = .ok (.aload_n 0, 1) := by decide +kernel
theorem dX5_readMark_11 : decode cX5_readMark 11 = .ok (.invokevirtual 109, 3) := by decide +kernel
theorem dX5_readMark_14 : decode cX5_readMark 14 = .ok (.ireturn, 1) := by decide +kernel
theorem dX5_readMark_15 : decode cX5_readMark 15 = .ok (.aload_n 0, 1) := by decide +kernel
theorem dX5_readMark_16 : decode cX5_readMark 16 = .ok (.getfield 14, 3) := by decide +kernel
theorem dX5_readMark_19 : decode cX5_readMark 19 = .ok (.aload_n 0, 1) := by decide +kernel
theorem dX5_readMark_20 : decode cX5_readMark 20 = .ok (.getfield 53, 3) := by decide +kernel
theorem dX5_readMark_23 : decode cX5_readMark 23 = .ok (.iconst 4, 1) := by decide +kernel
theorem dX5_readMark_24 : decode cX5_readMark 24 = .ok (.invokevirtual 112, 3) := by decide +kernel
theorem dX5_readMark_27 : decode cX5_readMark 27 = .ok (.lstore_n 1, 1) := by decide +kernel
theorem dX5_readMark_28 : decode cX5_readMark 28 = .ok (.aload_n 0, 1) := by decide +kernel
theorem dX5_readMark_29 : decode cX5_readMark 29 = .ok (.lload_n 1, 1) := by decide +kernel
theorem dX5_readMark_30 : decode cX5_readMark 30 = .ok (.ldc2_w 116, 3) := by decide +kernel
theorem dX5_readMark_33 : decode cX5_readMark 33 = .ok (.lcmp, 1) := by decide +kernel
theorem dX5_readMark_34 : decode cX5_readMark 34 = .ok (.ifCond .lt 15, 3) := by decide +kernel
theorem dX5_readMark_37 : decode cX5_readMark 37 = .ok (.lload_n 1, 1) := by decide +kernel
theorem dX5_readMark_38 : decode cX5_readMark 38 = .ok (.ldc2_w 118, 3) := by decide +kernel
theorem dX5_readMark_41 : decode cX5_readMark 41 = .ok (.lcmp, 1) := by decide +kernel
theorem dX5_readMark_42 : decode cX5_readMark 42 = .ok (.ifCond .gt 7, 3) := by decide +kernel
theorem dX5_readMark_45 : decode cX5_readMark 45 = .ok (.iconst 1, 1) := by decide +kernel
theorem dX5_readMark_46 : decode cX5_readMark 46 = .ok (.goto 4, 3) := by decide +kernel
theorem dX5_readMark_49 : decode cX5_readMark 49 = .ok (.iconst 0, 1) := by decide +kernel
theorem dX5_readMark_50 : decode cX5_readMark 50 = .ok (.putfield 91, 3) := by decide +kernel
theorem dX5_readMark_53 : decode cX5_readMark 53 = .ok (.aload_n 0, 1) := by decide +kernel
theorem dX5_readMark_54 : decode cX5_readMark 54 = .ok (.aload_n 0, 1) := by decide +kernel
theorem dX5_readMark_55 : decode cX5_readMark 55 = .ok (.getfield 91, 3) := by decide +kernel
theorem dX5_readMark_58 : decode cX5_readMark 58 = .ok (.putfield 72, 3) := by decide +kernel
theorem dX5_readMark_61 : decode cX5_readMark 61 = .ok (.aload_n 0, 1) := by decide +kernel
theorem dX5_readMark_62 : decode cX5_readMark 62 = .ok (.getfield 91, 3) := by decide +kernel
theorem dX5_readMark_65 : decode cX5_readMark 65 = .ok (.ifCond .ne 24, 3) := by decide +kernel
theorem dX5_readMark_68 : decode cX5_readMark 68 = .ok (.lload_n 1, 1) := by decide +kernel
theorem dX5_readMark_69 : decode cX5_readMark 69 = .ok (.ldc2_w 120, 3) := by decide +kernel
theorem dX5_readMark_72 : decode cX5_readMark 72 = .ok (.lcmp, 1) := by decide +kernel
theorem dX5_readMark_73 : decode cX5_readMark 73 = .ok (.ifCond .eq 16, 3) := by decide +kernel
theorem dX5_readMark_76 : decode cX5_readMark 76 = .ok (.aload_n 0, 1) := by decide +kernel
theorem dX5_readMark_77 : decode cX5_readMark 77 = .ok (.getfield 23, 3) := by decide +kernel
theorem dX5_readMark_80 : decode cX5_readMark 80 = .ok (.iconst 2, 1) := by decide +kernel
theorem dX5_readMark_81 : decode cX5_readMark 81 = .ok (.aload_n 0, 1) := by decide +kernel
theorem dX5_readMark_82 : decode cX5_readMark 82 = .ok (.getfield 53, 3) := by decide +kernel
theorem dX5_readMark_85 : decode cX5_readMark 85 = .ok (.invokevirtual 122, 3) := by decide +kernel
theorem dX5_readMark_88 : decode cX5_readMark 88 = .ok (.ireturn, 1) := by decide +kernel
theorem dX5_readMark_89 : decode cX5_readMark 89 = .ok (.aload_n 0, 1) := by decide +kernel
theorem dX5_readMark_90 : decode cX5_readMark 90 = .ok (.dup, 1) := by decide +kernel
theorem dX5_readMark_91 : decode cX5_readMark 91 = .ok (.getfield 53, 3) := by decide +kernel
theorem dX5_readMark_94 : decode cX5_readMark 94 = .ok (.iconst 4, 1) := by decide +kernel
theorem dX5_readMark_95 : decode cX5_readMark 95 = .ok (.iadd, 1) := by decide +kernel
theorem dX5_readMark_96 : decode cX5_readMark 96 = .ok (.putfield 53, 3) := by decide +kernel
theorem dX5_readMark_99 : decode cX5_readMark 99 = .ok (.aload_n 0, 1) := by decide +kernel
theorem dX5_readMark_100 : decode cX5_readMark 100 = .ok (.getfield 91, 3) := by decide +kernel
theorem dX5_readMark_103 : decode cX5_readMark 103 = .ok (.ifCond .eq 10, 3) := by decide +kernel
theorem dX5_readMark_106 : decode cX5_readMark 106 = .ok (.aload_n 0, 1) := by decide +kernel
theorem dX5_readMark_107 : decode cX5_readMark 107 = .ok (.invokevirtual 126, 3) := by decide +kernel
theorem dX5_readMark_110 : decode cX5_readMark 110 = .ok (.goto 7, 3) := by decide +kernel
theorem dX5_readMark_113 : decode cX5_readMark 113 = .ok (.aload_n 0, 1) := by decide +kernel
theorem dX5_readMark_114 : decode cX5_readMark 114 = .ok (.invokevirtual 129, 3) := by decide +kernel
theorem dX5_readMark_117 : decode cX5_readMark 117 = .ok (.ireturn, 1) := by decide +kernel
theorem dX5_there_0 : decode cX5_there 0 = .ok (.lload_n 1, 1) := by decide +kernel
theorem dX5_there_1 : decode cX5_there 1 = .ok (.aload_n 0, 1) := by decide +kernel
theorem dX5_there_2 : decode cX5_there 2 = .ok (.getfield 14, 3) := by decide +kernel
theorem dX5_there_5 : decode cX5_there 5 = .ok (.getfield 57, 3) := by decide +kernel
theorem dX5_there_8 : decode cX5_there 8 = .ok (.aload_n 0, 1) := by decide +kernel
theorem dX5_there_9 : decode cX5_there 9 = .ok (.getfield 53, 3) := by decide +kernel
theorem dX5_there_12 : decode cX5_there 12 = .ok (.isub, 1) := by decide +kernel
theorem dX5_there_13 : decode cX5_there 13 = .ok (.i2l, 1) := by decide +kernel
theorem dX5_there_14 : decode cX5_there 14 = .ok (.lcmp, 1) := by decide +kernel
theorem dX5_there_15 : decode cX5_there 15 = .ok (.ifCond .gt 7, 3) := by decide +kernel
theorem dX5_there_18 : decode cX5_there 18 = .ok (.iconst 1, 1) := by decide +kernel
theorem dX5_there_19 : decode cX5_there 19 = .ok (.goto 4, 3) := by decide +kernel
theorem dX5_there_22 : decode cX5_there 22 = .ok (.iconst 0, 1) := by decide +kernel
theorem dX5_there_23 : decode cX5_there 23 = .ok (.ireturn, 1) := by decide +kernel
theorem dX5_lacks_0 : decode cX5_lacks 0 = .ok (.aload_n 0, 1) := by decide +kernel
theorem dX5_lacks_1 : decode cX5_lacks 1 = .ok (.getfield 23, 3) := by decide +kernel
theorem dX5_lacks_4 : decode cX5_lacks 4 = .ok (.iconst 1, 1) := by decide +kernel
theorem dX5_lacks_5 : decode cX5_lacks 5 = .ok (.aload_n 0, 1) := by decide +kernel
theorem dX5_lacks_6 : decode cX5_lacks 6 = .ok (.getfield 14, 3) := by decide +kernel
theorem dX5_lacks_9 : decode cX5_lacks 9 = .ok (.getfield 57, 3) := by decide +kernel
theorem dX5_lacks_12 : decode cX5_lacks 12 = .ok (.invokevirtual 122, 3) := by decide +kernel
theorem dX5_lacks_15 : decode cX5_lacks 15 = .ok (.ireturn, 1) := by decide +kernel
theorem dX5_passOver_0 : decode cX5_passOver 0 = .ok (.aload_n 0, 1) := by decide +kernel
theorem dX5_passOver_1 : decode cX5_passOver 1 = .ok (.ldc2_w 103, 3) := by decide +kernel
theorem dX5_passOver_4 : decode cX5_passOver 4 = .ok (.invokevirtual 105, 3) := by decide +kernel
theorem dX5_passOver_7 : decode cX5_passOver 7 = .ok (.ifCond .ne 8, 3) := by decide +kernel
theorem dX5_passOver_10 : decode cX5_passOver 10 = .ok (.aload_n 0, 1) := by decide +kernel
theorem dX5_passOver_11 : decode cX5_passOver 11 = .ok (.invokevirtual 109, 3) := by decide +kernel
theorem dX5_passOver_14 : decode cX5_passOver 14 = .ok (.ireturn, 1) := by decide +kernel
theorem dX5_passOver_15 : decode cX5_passOver 15 = .ok (.aload_n 0, 1) := by decide +kernel
theorem dX5_passOver_16 : decode cX5_passOver 16 = .ok (.getfield 14, 3) := by decide +kernel
theorem dX5_passOver_19 : decode cX5_passOver 19 = .ok (.aload_n 0, 1) := by decide +kernel
theorem dX5_passOver_20 : decode cX5_passOver 20 = .ok (.getfield 53, 3) := by decide +kernel
theorem dX5_passOver_23 : decode cX5_passOver 23 = .ok (.iconst 4, 1) := by decide +kernel
theorem dX5_passOver_24 : decode cX5_passOver 24 = .ok (.invokevirtual 112, 3) := by decide +kernel
theorem dX5_passOver_27 : decode cX5_passOver 27 = .ok (.lstore_n 1, 1) := by decide +kernel
theorem dX5_passOver_28 : decode cX5_passOver 28 = .ok (.aload_n 0, 1) := by decide +kernel
theorem dX5_passOver_29 : decode cX5_passOver 29 = .ok (.dup, 1) := by decide +kernel
theorem dX5_passOver_30 : decode cX5_passOver 30 = .ok (.getfield 53, 3) := by decide +kernel
theorem dX5_passOver_33 : decode cX5_passOver 33 = .ok (.iconst 4, 1) := by decide +kernel
theorem dX5_passOver_34 : decode cX5_passOver 34 = .ok (.iadd, 1) := by decide +kernel
theorem dX5_passOver_35 : decode cX5_passOver 35 = .ok (.putfield 53, 3) := by decide +kernel
theorem dX5_passOver_38 : decode cX5_passOver 38 = .ok (.aload_n 0, 1) := by decide +kernel
theorem dX5_passOver_39 : decode cX5_passOver 39 = .ok (.lload_n 1, 1) := by decide +kernel
theorem dX5_passOver_40 : decode cX5_passOver 40 = .ok (.invokevirtual 105, 3) := by decide +kernel
theorem dX5_passOver_43 : decode cX5_passOver 43 = .ok (.ifCond .ne 8, 3) := by decide +kernel
theorem dX5_passOver_46 : decode cX5_passOver 46 = .ok (.aload_n 0, 1) := by decide +kernel
theorem dX5_passOver_47 : decode cX5_passOver 47 = .ok (.invokevirtual 109, 3) := by decide +kernel
theorem dX5_passOver_50 : decode cX5_passOver 50 = .ok (.ireturn, 1) := by decide +kernel
theorem dX5_passOver_51 : decode cX5_passOver 51 = .ok (.aload_n 0, 1) := by decide +kernel
theorem dX5_passOver_52 : decode cX5_passOver 52 = .ok (.dup, 1) := by decide +kernel
theorem dX5_passOver_53 : decode cX5_passOver 53 = .ok (.getfield 53, 3) := by decide +kernel
theorem dX5_passOver_56 : decode cX5_passOver 56 = .ok (.lload_n 1, 1) := by decide +kernel
theorem dX5_passOver_57 : decode cX5_passOver 57 = .ok (.l2i, 1) := by decide +kernel
theorem dX5_passOver_58 : decode cX5_passOver 58 = .ok (.iadd, 1) := by decide +kernel
theorem dX5_passOver_59 : decode cX5_passOver 59 = .ok (.putfield 53, 3) := by decide +kernel
theorem dX5_passOver_62 : decode cX5_passOver 62 = .ok (.aload_n 0, 1) := by decide +kernel
theorem dX5_passOver_63 : decode cX5_passOver 63 = .ok (.getfield 23, 3) := by decide +kernel
theorem dX5_passOver_66 : decode cX5_passOver 66 = .ok (.getfield 132, 3) := by decide +kernel
theorem dX5_passOver_69 : decode cX5_passOver 69 = .ok (.bipush 11, 2) := by decide +kernel
theorem dX5_passOver_71 : decode cX5_passOver 71 = .ok (.dup2, 1) := by decide +kernel
theorem dX5_passOver_72 : decode cX5_passOver 72 = .ok (.iaload, 1) := by decide +kernel
theorem dX5_passOver_73 : decode cX5_passOver 73 = .ok (.iconst 1, 1) := by decide +kernel
theorem dX5_passOver_74 : decode cX5_passOver 74 = .ok (.iadd, 1) := by decide +kernel
theorem dX5_passOver_75 : decode cX5_passOver 75 = .ok (.iastore, 1) := by decide +kernel
theorem dX5_passOver_76 : decode cX5_passOver 76 = .ok (.iconst 1, 1) := by decide +kernel
theorem dX5_passOver_77 : decode cX5_passOver 77 = .ok (.ireturn, 1) := by decide +kernel
theorem dX5_readHead_0 : decode cX5_readHead 0 = .ok (.aload_n 0, 1) := by decide +kernel
theorem dX5_readHead_1 : decode cX5_readHead 1 = .ok (.lconst 1, 1) := by decide +kernel
theorem dX5_readHead_2 : decode cX5_readHead 2 = .ok (.invokevirtual 105, 3) := by decide +kernel
theorem dX5_readHead_5 : decode cX5_readHead 5 = .ok (.ifCond .ne 8, 3) := by decide +kernel
theorem dX5_readHead_8 : decode cX5_readHead 8 = .ok (.aload_n 0, 1) := by decide +kernel
theorem dX5_readHead_9 : decode cX5_readHead 9 = .ok (.invokevirtual 109, 3) := by decide +kernel
theorem dX5_readHead_12 : decode cX5_readHead 12 = .ok (.ireturn, 1) := by decide +kernel
theorem dX5_readHead_13 : decode cX5_readHead 13 = .ok (.aload_n 0, 1) := by decide +kernel
theorem dX5_readHead_14 : decode cX5_readHead 14 = .ok (.getfield 14, 3) := by decide +kernel
theorem dX5_readHead_17 : decode cX5_readHead 17 = .ok (.aload_n 0, 1) := by decide +kernel
theorem dX5_readHead_18 : decode cX5_readHead 18 = .ok (.getfield 53, 3) := by decide +kernel
theorem dX5_readHead_21 : decode cX5_readHead 21 = .ok (.invokevirtual 136, 3) := by decide +kernel
theorem dX5_readHead_24 : decode cX5_readHead 24 = .ok (.istore_n 1, 1) := by decide +kernel
theorem dX5_readHead_25 : decode cX5_readHead 25 = .ok (.iload_n 1, 1) := by decide +kernel
theorem dX5_readHead_26 : decode cX5_readHead 26 = .ok (.bipush 8, 2) := by decide +kernel
theorem dX5_readHead_28 : decode cX5_readHead 28 = .ok (.iand, 1) := by decide +kernel
theorem dX5_readHead_29 : decode cX5_readHead 29 = .ok (.ifCond .eq 16, 3) := by decide +kernel
theorem dX5_readHead_32 : decode cX5_readHead 32 = .ok (.aload_n 0, 1) := by decide +kernel
theorem dX5_readHead_33 : decode cX5_readHead 33 = .ok (.getfield 23, 3) := by decide +kernel
theorem dX5_readHead_36 : decode cX5_readHead 36 = .ok (.iconst 3, 1) := by decide +kernel
theorem dX5_readHead_37 : decode cX5_readHead 37 = .ok (.aload_n 0, 1) := by decide +kernel
theorem dX5_readHead_38 : decode cX5_readHead 38 = .ok (.getfield 53, 3) := by decide +kernel
theorem dX5_readHead_41 : decode cX5_readHead 41 = .ok (.invokevirtual 122, 3) := by decide +kernel
theorem dX5_readHead_44 : decode cX5_readHead 44 = .ok (.ireturn, 1) := by decide +kernel
theorem dX5_readHead_45 : decode cX5_readHead 45 = .ok (.aload_n 0, 1) := by decide +kernel
theorem dX5_readHead_46 : decode cX5_readHead 46 = .ok (.dup, 1) := by decide +kernel
theorem dX5_readHead_47 : decode cX5_readHead 47 = .ok (.getfield 53, 3) := by decide +kernel
theorem dX5_readHead_50 : decode cX5_readHead 50 = .ok (.iconst 1, 1) := by decide +kernel
theorem dX5_readHead_51 : decode cX5_readHead 51 = .ok (.iadd, 1) := by decide +kernel
theorem dX5_readHead_52 : decode cX5_readHead 52 = .ok (.putfield 53, 3) := by decide +kernel
theorem dX5_readHead_55 : decode cX5_readHead 55 = .ok (.iload_n 1, 1) := by decide +kernel
theorem dX5_readHead_56 : decode cX5_readHead 56 = .ok (.bipush 32, 2) := by decide +kernel
theorem dX5_readHead_58 : decode cX5_readHead 58 = .ok (.iand, 1) := by decide +kernel
theorem dX5_readHead_59 : decode cX5_readHead 59 = .ok (.ifCond .eq 7, 3) := by decide +kernel
theorem dX5_readHead_62 : decode cX5_readHead 62 = .ok (.iconst 1, 1) := by decide +kernel
theorem dX5_readHead_63 : decode cX5_readHead 63 = .ok (.goto 4, 3) := by decide +kernel
theorem dX5_readHead_66 : decode cX5_readHead 66 = .ok (.iconst 0, 1) := by decide +kernel
theorem dX5_readHead_67 : decode cX5_readHead 67 = .ok (.istore_n 2, 1) := by decide +kernel
theorem dX5_readHead_68 : decode cX5_readHead 68 = .ok (.aload_n 0, 1) := by decide +kernel
theorem dX5_readHead_69 : decode cX5_readHead 69 = .ok (.iload_n 1, 1) := by decide +kernel
theorem dX5_readHead_70 : decode cX5_readHead 70 = .ok (.iconst 4, 1) := by decide +kernel
theorem dX5_readHead_71 : decode cX5_readHead 71 = .ok (.iand, 1) := by decide +kernel
theorem dX5_readHead_72 : decode cX5_readHead 72 = .ok (.ifCond .eq 7, 3) := by decide +kernel
theorem dX5_readHead_75 : decode cX5_readHead 75 = .ok (.iconst 1, 1) := by decide +kernel
theorem dX5_readHead_76 : decode cX5_readHead 76 = .ok (.goto 4, 3) := by decide +kernel
theorem dX5_readHead_79 : decode cX5_readHead 79 = .ok (.iconst 0, 1) := by decide +kernel
theorem dX5_readHead_80 : decode cX5_readHead 80 = .ok (.putfield 140, 3) := by decide +kernel
theorem dX5_readHead_83 : decode cX5_readHead 83 = .ok (.iload_n 2, 1) := by decide +kernel
theorem dX5_readHead_84 : decode cX5_readHead 84 = .ok (.ifCond .ne 12, 3) := by decide +kernel
theorem dX5_readHead_87 : decode cX5_readHead 87 = .ok (.aload_n 0, 1) := by decide +kernel
theorem dX5_readHead_88 : decode cX5_readHead 88 = .ok (.invokevirtual 143, 3) := by decide +kernel
theorem dX5_readHead_91 : decode cX5_readHead 91 = .ok (.ifCond .ne 5, 3) := by decide +kernel
theorem dX5_readHead_94 : decode cX5_readHead 94 = .ok (.iconst 0, 1) := by decide +kernel
