theorem dX12_differ_38 : decode cX12_differ 38 = .ok (.getfield 18, 3) := by decide +kernel
theorem dX12_differ_41 : decode cX12_differ 41 = .ok (.getfield 73, 3) := by decide +kernel
theorem dX12_differ_44 : decode cX12_differ 44 = .ok (.if_icmp .ge 22, 3) := by decide +kernel
theorem dX12_differ_47 : decode cX12_differ 47 = .ok (.aload_n 0, 1) := by decide +kernel
theorem dX12_differ_48 : decode cX12_differ 48 = .ok (.getfield 14, 3) := by decide +kernel
theorem dX12_differ_51 : decode cX12_differ 51 = .ok (.iload_n 2, 1) := by decide +kernel
theorem dX12_differ_52 : decode cX12_differ 52 = .ok (.invokevirtual 81, 3) := by decide +kernel
theorem dX12_differ_55 : decode cX12_differ 55 = .ok (.aload_n 0, 1) := by decide +kernel
theorem dX12_differ_56 : decode cX12_differ 56 = .ok (.getfield 18, 3) := by decide +kernel
theorem dX12_differ_59 : decode cX12_differ 59 = .ok (.iload_n 2, 1) := by decide +kernel
theorem dX12_differ_60 : decode cX12_differ 60 = .ok (.invokevirtual 81, 3) := by decide +kernel
theorem dX12_differ_63 : decode cX12_differ 63 = .ok (.if_icmp .eq 5, 3) := by decide +kernel
theorem dX12_differ_66 : decode cX12_differ 66 = .ok (.iload_n 2, 1) := by decide +kernel
theorem dX12_differ_67 : decode cX12_differ 67 = .ok (.ireturn, 1) := by decide +kernel
theorem dX12_differ_68 : decode cX12_differ 68 = .ok (.iinc 2 1, 3) := by decide +kernel
theorem dX12_differ_71 : decode cX12_differ 71 = .ok (.goto (-51), 3) := by decide +kernel
theorem dX12_differ_74 : decode cX12_differ 74 = .ok (.bipush (-3), 2) := by decide +kernel
theorem dX12_differ_76 : decode cX12_differ 76 = .ok (.ireturn, 1) := by decide +kernel
theorem dX12_keep_0 : decode cX12_keep 0 = .ok (.aload_n 0, 1) := by decide +kernel
theorem dX12_keep_1 : decode cX12_keep 1 = .ok (.invokevirtual 99, 3) := by decide +kernel
theorem dX12_keep_4 : decode cX12_keep 4 = .ok (.astore_n 1, 1) := by decide +kernel
theorem dX12_keep_5 : decode cX12_keep 5 = .ok (.aload_n 1, 1) := by decide +kernel
theorem dX12_keep_6 : decode cX12_keep 6 = .ok (.aload_n 0, 1) := by decide +kernel
theorem dX12_keep_7 : decode cX12_keep 7 = .ok (.getfield 14, 3) := by decide +kernel
theorem dX12_keep_10 : decode cX12_keep 10 = .ok (.aload_n 0, 1) := by decide +kernel
theorem dX12_keep_11 : decode cX12_keep 11 = .ok (.getfield 27, 3) := by decide +kernel
theorem dX12_keep_14 : decode cX12_keep 14 = .ok (.invokevirtual 103, 3) := by decide +kernel
theorem dX12_keep_17 : decode cX12_keep 17 = .ok (.ifCond .ne 11, 3) := by decide +kernel
theorem dX12_keep_20 : decode cX12_keep 20 = .ok (.aload_n 0, 1) := by decide +kernel
theorem dX12_keep_21 : decode cX12_keep 21 = .ok (.iconst 0, 1) := by decide +kernel
theorem dX12_keep_22 : decode cX12_keep 22 = .ok (.putfield 44, 3) := by decide +kernel
theorem dX12_keep_25 : decode cX12_keep 25 = .ok (.bipush (-31), 2) := by decide +kernel
theorem dX12_keep_27 : decode cX12_keep 27 = .ok (.ireturn, 1) := by decide +kernel
theorem dX12_keep_28 : decode cX12_keep 28 = .ok (.aload_n 0, 1) := by decide +kernel
theorem dX12_keep_29 : decode cX12_keep 29 = .ok (.getfield 14, 3) := by decide +kernel
theorem dX12_keep_32 : decode cX12_keep 32 = .ok (.getfield 73, 3) := by decide +kernel
theorem dX12_keep_35 : decode cX12_keep 35 = .ok (.sipush 3000, 3) := by decide +kernel
theorem dX12_keep_38 : decode cX12_keep 38 = .ok (.if_icmp .le 6, 3) := by decide +kernel
theorem dX12_keep_41 : decode cX12_keep 41 = .ok (.bipush (-4), 2) := by decide +kernel
theorem dX12_keep_43 : decode cX12_keep 43 = .ok (.ireturn, 1) := by decide +kernel
theorem dX12_keep_44 : decode cX12_keep 44 = .ok (.aload_n 0, 1) := by decide +kernel
theorem dX12_keep_45 : decode cX12_keep 45 = .ok (.iconst (-1), 1) := by decide +kernel
theorem dX12_keep_46 : decode cX12_keep 46 = .ok (.putfield 44, 3) := by decide +kernel
theorem dX12_keep_49 : decode cX12_keep 49 = .ok (.aload_n 0, 1) := by decide +kernel
theorem dX12_keep_50 : decode cX12_keep 50 = .ok (.getfield 14, 3) := by decide +kernel
theorem dX12_keep_53 : decode cX12_keep 53 = .ok (.getfield 73, 3) := by decide +kernel
theorem dX12_keep_56 : decode cX12_keep 56 = .ok (.ifCond .ne 10, 3) := by decide +kernel
theorem dX12_keep_59 : decode cX12_keep 59 = .ok (.aload_n 0, 1) := by decide +kernel
theorem dX12_keep_60 : decode cX12_keep 60 = .ok (.aconst_null, 1) := by decide +kernel
theorem dX12_keep_61 : decode cX12_keep 61 = .ok (.putfield 107, 3) := by decide +kernel
theorem dX12_keep_64 : decode cX12_keep 64 = .ok (.iconst 0, 1) := by decide +kernel
theorem dX12_keep_65 : decode cX12_keep 65 = .ok (.ireturn, 1) := by decide +kernel
theorem dX12_keep_66 : decode cX12_keep 66 = .ok (.aload_n 1, 1) := by decide +kernel
theorem dX12_keep_67 : decode cX12_keep 67 = .ok (.aload_n 0, 1) := by decide +kernel
theorem dX12_keep_68 : decode cX12_keep 68 = .ok (.getfield 14, 3) := by decide +kernel
theorem dX12_keep_71 : decode cX12_keep 71 = .ok (.invokevirtual 111, 3) := by decide +kernel
theorem dX12_keep_74 : decode cX12_keep 74 = .ok (.aload_n 0, 1) := by decide +kernel
theorem dX12_keep_75 : decode cX12_keep 75 = .ok (.aload_n 1, 1) := by decide +kernel
theorem dX12_keep_76 : decode cX12_keep 76 = .ok (.putfield 107, 3) := by decide +kernel
theorem dX12_keep_79 : decode cX12_keep 79 = .ok (.aload_n 1, 1) := by decide +kernel
theorem dX12_keep_80 : decode cX12_keep 80 = .ok (.getfield 115, 3) := by decide +kernel
theorem dX12_keep_83 : decode cX12_keep 83 = .ok (.ireturn, 1) := by decide +kernel
theorem dX12_open_0 : decode cX12_open 0 = .ok (.lload_n 1, 1) := by decide +kernel
theorem dX12_open_1 : decode cX12_open 1 = .ok (.lconst 0, 1) := by decide +kernel
theorem dX12_open_2 : decode cX12_open 2 = .ok (.lcmp, 1) := by decide +kernel
theorem dX12_open_3 : decode cX12_open 3 = .ok (.ifCond .ge 6, 3) := by decide +kernel
theorem dX12_open_6 : decode cX12_open 6 = .ok (.bipush (-2), 2) := by decide +kernel
theorem dX12_open_8 : decode cX12_open 8 = .ok (.ireturn, 1) := by decide +kernel
theorem dX12_open_9 : decode cX12_open 9 = .ok (.aload_n 0, 1) := by decide +kernel
theorem dX12_open_10 : decode cX12_open 10 = .ok (.aload_n 0, 1) := by decide +kernel
theorem dX12_open_11 : decode cX12_open 11 = .ok (.getfield 107, 3) := by decide +kernel
theorem dX12_open_14 : decode cX12_open 14 = .ok (.putfield 118, 3) := by decide +kernel
theorem dX12_open_17 : decode cX12_open 17 = .ok (.aload_n 0, 1) := by decide +kernel
theorem dX12_open_18 : decode cX12_open 18 = .ok (.getfield 60, 3) := by decide +kernel
theorem dX12_open_21 : decode cX12_open 21 = .ok (.aload_n 0, 1) := by decide +kernel
theorem dX12_open_22 : decode cX12_open 22 = .ok (.getfield 14, 3) := by decide +kernel
theorem dX12_open_25 : decode cX12_open 25 = .ok (.aload_n 0, 1) := by decide +kernel
theorem dX12_open_26 : decode cX12_open 26 = .ok (.getfield 21, 3) := by decide +kernel
theorem dX12_open_29 : decode cX12_open 29 = .ok (.aload_n 0, 1) := by decide +kernel
theorem dX12_open_30 : decode cX12_open 30 = .ok (.getfield 107, 3) := by decide +kernel
theorem dX12_open_33 : decode cX12_open 33 = .ok (.lload_n 1, 1) := by decide +kernel
theorem dX12_open_34 : decode cX12_open 34 = .ok (.invokevirtual 121, 3) := by decide +kernel
theorem dX12_open_37 : decode cX12_open 37 = .ok (.ifCond .ne 25, 3) := by decide +kernel
theorem dX12_open_40 : decode cX12_open 40 = .ok (.aload_n 0, 1) := by decide +kernel
theorem dX12_open_41 : decode cX12_open 41 = .ok (.aload_n 0, 1) := by decide +kernel
theorem dX12_open_42 : decode cX12_open 42 = .ok (.getfield 34, 3) := by decide +kernel
theorem dX12_open_45 : decode cX12_open 45 = .ok (.getfield 125, 3) := by decide +kernel
theorem dX12_open_48 : decode cX12_open 48 = .ok (.putfield 44, 3) := by decide +kernel
theorem dX12_open_51 : decode cX12_open 51 = .ok (.bipush (-10), 2) := by decide +kernel
theorem dX12_open_53 : decode cX12_open 53 = .ok (.aload_n 0, 1) := by decide +kernel
theorem dX12_open_54 : decode cX12_open 54 = .ok (.getfield 34, 3) := by decide +kernel
theorem dX12_open_57 : decode cX12_open 57 = .ok (.getfield 126, 3) := by decide +kernel
theorem dX12_open_60 : decode cX12_open 60 = .ok (.isub, 1) := by decide +kernel
theorem dX12_open_61 : decode cX12_open 61 = .ok (.ireturn, 1) := by decide +kernel
theorem dX12_open_62 : decode cX12_open 62 = .ok (.aload_n 0, 1) := by decide +kernel
theorem dX12_open_63 : decode cX12_open 63 = .ok (.iconst (-1), 1) := by decide +kernel
theorem dX12_open_64 : decode cX12_open 64 = .ok (.putfield 44, 3) := by decide +kernel
theorem dX12_open_67 : decode cX12_open 67 = .ok (.aload_n 0, 1) := by decide +kernel
theorem dX12_open_68 : decode cX12_open 68 = .ok (.invokevirtual 129, 3) := by decide +kernel
theorem dX12_open_71 : decode cX12_open 71 = .ok (.aload_n 0, 1) := by decide +kernel
theorem dX12_open_72 : decode cX12_open 72 = .ok (.getfield 18, 3) := by decide +kernel
theorem dX12_open_75 : decode cX12_open 75 = .ok (.getfield 73, 3) := by decide +kernel
theorem dX12_open_78 : decode cX12_open 78 = .ok (.ireturn, 1) := by decide +kernel
theorem dX12_place_0 : decode cX12_place 0 = .ok (.aload_n 0, 1) := by decide +kernel
theorem dX12_place_1 : decode cX12_place 1 = .ok (.getfield 44, 3) := by decide +kernel
theorem dX12_place_4 : decode cX12_place 4 = .ok (.ireturn, 1) := by decide +kernel
theorem dX12_pack_0 : decode cX12_pack 0 = .ok (.iload_n 1, 1) := by decide +kernel
theorem dX12_pack_1 : decode cX12_pack 1 = .ok (.ifCond .lt 18, 3) := by decide +kernel
theorem dX12_pack_4 : decode cX12_pack 4 = .ok (.iload_n 1, 1) := by decide +kernel
theorem dX12_pack_5 : decode cX12_pack 5 = .ok (.iconst 2, 1) := by decide +kernel
theorem dX12_pack_6 : decode cX12_pack 6 = .ok (.if_icmp .gt 13, 3) := by decide +kernel
theorem dX12_pack_9 : decode cX12_pack 9 = .ok (.iload_n 2, 1) := by decide +kernel
theorem dX12_pack_10 : decode cX12_pack 10 = .ok (.ifCond .lt 9, 3) := by decide +kernel
theorem dX12_pack_13 : decode cX12_pack 13 = .ok (.iload_n 2, 1) := by decide +kernel
theorem dX12_pack_14 : decode cX12_pack 14 = .ok (.bipush 7, 2) := by decide +kernel
theorem dX12_pack_16 : decode cX12_pack 16 = .ok (.if_icmp .le 6, 3) := by decide +kernel
theorem dX12_pack_19 : decode cX12_pack 19 = .ok (.bipush (-2), 2) := by decide +kernel
theorem dX12_pack_21 : decode cX12_pack 21 = .ok (.ireturn, 1) := by decide +kernel
theorem dX12_pack_22 : decode cX12_pack 22 = .ok (.iload_n 2, 1) := by decide +kernel
theorem dX12_pack_23 : decode cX12_pack 23 = .ok (.iconst 4, 1) := by decide +kernel
theorem dX12_pack_24 : decode cX12_pack 24 = .ok (.iand, 1) := by decide +kernel
theorem dX12_pack_25 : decode cX12_pack 25 = .ok (.ifCond .eq 7, 3) := by decide +kernel
theorem dX12_pack_28 : decode cX12_pack 28 = .ok (.iconst 1, 1) := by decide +kernel
theorem dX12_pack_29 : decode cX12_pack 29 = .ok (.goto 4, 3) := by decide +kernel
theorem dX12_pack_32 : decode cX12_pack 32 = .ok (.iconst 0, 1) := by decide +kernel
theorem dX12_pack_33 : decode cX12_pack 33 = .ok (.istore_n 3, 1) := by decide +kernel
theorem dX12_pack_34 : decode cX12_pack 34 = .ok (.iload_n 3, 1) := by decide +kernel
theorem dX12_pack_35 : decode cX12_pack 35 = .ok (.ifCond .eq 13, 3) := by decide +kernel
theorem dX12_pack_38 : decode cX12_pack 38 = .ok (.aload_n 0, 1) := by decide +kernel
theorem dX12_pack_39 : decode cX12_pack 39 = .ok (.getfield 107, 3) := by decide +kernel
theorem dX12_pack_42 : decode cX12_pack 42 = .ok (.ifnonnull 6, 3) := by decide +kernel
theorem dX12_pack_45 : decode cX12_pack 45 = .ok (.bipush (-3), 2) := by decide +kernel
theorem dX12_pack_47 : decode cX12_pack 47 = .ok (.ireturn, 1) := by decide +kernel
theorem dX12_pack_48 : decode cX12_pack 48 = .ok (.aload_n 0, 1) := by decide +kernel
theorem dX12_pack_49 : decode cX12_pack 49 = .ok (.getfield 14, 3) := by decide +kernel
theorem dX12_pack_52 : decode cX12_pack 52 = .ok (.getfield 73, 3) := by decide +kernel
theorem dX12_pack_55 : decode cX12_pack 55 = .ok (.sipush 6000, 3) := by decide +kernel
theorem dX12_pack_58 : decode cX12_pack 58 = .ok (.if_icmp .le 6, 3) := by decide +kernel
theorem dX12_pack_61 : decode cX12_pack 61 = .ok (.bipush (-4), 2) := by decide +kernel
theorem dX12_pack_63 : decode cX12_pack 63 = .ok (.ireturn, 1) := by decide +kernel
theorem dX12_pack_64 : decode cX12_pack 64 = .ok (.aload_n 0, 1) := by decide +kernel
theorem dX12_pack_65 : decode cX12_pack 65 = .ok (.getfield 69, 3) := by decide +kernel
theorem dX12_pack_68 : decode cX12_pack 68 = .ok (.aload_n 0, 1) := by decide +kernel
theorem dX12_pack_69 : decode cX12_pack 69 = .ok (.getfield 14, 3) := by decide +kernel
theorem dX12_pack_72 : decode cX12_pack 72 = .ok (.aload_n 0, 1) := by decide +kernel
theorem dX12_pack_73 : decode cX12_pack 73 = .ok (.getfield 21, 3) := by decide +kernel
theorem dX12_pack_76 : decode cX12_pack 76 = .ok (.iload_n 3, 1) := by decide +kernel
theorem dX12_pack_77 : decode cX12_pack 77 = .ok (.ifCond .eq 10, 3) := by decide +kernel
theorem dX12_pack_80 : decode cX12_pack 80 = .ok (.aload_n 0, 1) := by decide +kernel
theorem dX12_pack_81 : decode cX12_pack 81 = .ok (.getfield 107, 3) := by decide +kernel
theorem dX12_pack_84 : decode cX12_pack 84 = .ok (.goto 4, 3) := by decide +kernel
theorem dX12_pack_87 : decode cX12_pack 87 = .ok (.aconst_null, 1) := by decide +kernel
theorem dX12_pack_88 : decode cX12_pack 88 = .ok (.iload_n 1, 1) := by decide +kernel
theorem dX12_pack_89 : decode cX12_pack 89 = .ok (.iload_n 2, 1) := by decide +kernel
theorem dX12_pack_90 : decode cX12_pack 90 = .ok (.invokevirtual 132, 3) := by decide +kernel
theorem dX12_pack_93 : decode cX12_pack 93 = .ok (.aload_n 0, 1) := by decide +kernel
theorem dX12_pack_94 : decode cX12_pack 94 = .ok (.invokevirtual 129, 3) := by decide +kernel
theorem dX12_pack_97 : decode cX12_pack 97 = .ok (.aload_n 0, 1) := by decide +kernel
theorem dX12_pack_98 : decode cX12_pack 98 = .ok (.getfield 18, 3) := by decide +kernel
theorem dX12_pack_101 : decode cX12_pack 101 = .ok (.getfield 73, 3) := by decide +kernel
theorem dX12_pack_104 : decode cX12_pack 104 = .ok (.ireturn, 1) := by decide +kernel
theorem dX12_out_0 : decode cX12_out 0 = .ok (.iload_n 1, 1) := by decide +kernel
theorem dX12_out_1 : decode cX12_out 1 = .ok (.ifCond .lt 14, 3) := by decide +kernel
theorem dX12_out_4 : decode cX12_out 4 = .ok (.iload_n 1, 1) := by decide +kernel
theorem dX12_out_5 : decode cX12_out 5 = .ok (.aload_n 0, 1) := by decide +kernel
theorem dX12_out_6 : decode cX12_out 6 = .ok (.getfield 18, 3) := by decide +kernel
theorem dX12_out_9 : decode cX12_out 9 = .ok (.getfield 73, 3) := by decide +kernel
theorem dX12_out_12 : decode cX12_out 12 = .ok (.if_icmp .lt 8, 3) := by decide +kernel
theorem dX12_out_15 : decode cX12_out 15 = .ok (.bipush (-2), 2) := by decide +kernel
theorem dX12_out_17 : decode cX12_out 17 = .ok (.goto 11, 3) := by decide +kernel
theorem dX12_out_20 : decode cX12_out 20 = .ok (.aload_n 0, 1) := by decide +kernel
theorem dX12_out_21 : decode cX12_out 21 = .ok (.getfield 18, 3) := by decide +kernel
theorem dX12_out_24 : decode cX12_out 24 = .ok (.iload_n 1, 1) := by decide +kernel
theorem dX12_out_25 : decode cX12_out 25 = .ok (.invokevirtual 81, 3) := by decide +kernel
theorem dX12_out_28 : decode cX12_out 28 = .ok (.ireturn, 1) := by decide +kernel
theorem dX12_sum_0 : decode cX12_sum 0 = .ok (.aload_n 0, 1) := by decide +kernel
theorem dX12_sum_1 : decode cX12_sum 1 = .ok (.getfield 14, 3) := by decide +kernel
theorem dX12_sum_4 : decode cX12_sum 4 = .ok (.iconst 0, 1) := by decide +kernel
theorem dX12_sum_5 : decode cX12_sum 5 = .ok (.invokevirtual 136, 3) := by decide +kernel
theorem dX12_sum_8 : decode cX12_sum 8 = .ok (.lstore_n 2, 1) := by decide +kernel
theorem dX12_sum_9 : decode cX12_sum 9 = .ok (.iload_n 1, 1) := by decide +kernel
theorem dX12_sum_10 : decode cX12_sum 10 = .ok (.ifCond .eq 10, 3) := by decide +kernel
theorem dX12_sum_13 : decode cX12_sum 13 = .ok (.lload_n 2, 1) := by decide +kernel
theorem dX12_sum_14 : decode cX12_sum 14 = .ok (.bipush 32, 2) := by decide +kernel
theorem dX12_sum_16 : decode cX12_sum 16 = .ok (.lushr, 1) := by decide +kernel
theorem dX12_sum_17 : decode cX12_sum 17 = .ok (.goto 4, 3) := by decide +kernel
theorem dX12_sum_20 : decode cX12_sum 20 = .ok (.lload_n 2, 1) := by decide +kernel
theorem dX12_sum_21 : decode cX12_sum 21 = .ok (.l2i, 1) := by decide +kernel
theorem dX12_sum_22 : decode cX12_sum 22 = .ok (.ireturn, 1) := by decide +kernel
theorem dX12_told_0 : decode cX12_told 0 = .ok (.iload_n 1, 1) := by decide +kernel
theorem dX12_told_1 : decode cX12_told 1 = .ok (.ifCond .lt 15, 3) := by decide +kernel
theorem dX12_told_4 : decode cX12_told 4 = .ok (.iload_n 1, 1) := by decide +kernel
theorem dX12_told_5 : decode cX12_told 5 = .ok (.aload_n 0, 1) := by decide +kernel
theorem dX12_told_6 : decode cX12_told 6 = .ok (.getfield 34, 3) := by decide +kernel
theorem dX12_told_9 : decode cX12_told 9 = .ok (.getfield 140, 3) := by decide +kernel
theorem dX12_told_12 : decode cX12_told 12 = .ok (.arraylength, 1) := by decide +kernel
theorem dX12_told_13 : decode cX12_told 13 = .ok (.if_icmp .lt 8, 3) := by decide +kernel
theorem dX12_told_16 : decode cX12_told 16 = .ok (.bipush (-2), 2) := by decide +kernel
theorem dX12_told_18 : decode cX12_told 18 = .ok (.goto 12, 3) := by decide +kernel
theorem dX12_told_21 : decode cX12_told 21 = .ok (.aload_n 0, 1) := by decide +kernel
theorem dX12_told_22 : decode cX12_told 22 = .ok (.getfield 34, 3) := by decide +kernel
theorem dX12_told_25 : decode cX12_told 25 = .ok (.getfield 140, 3) := by decide +kernel
theorem dX12_told_28 : decode cX12_told 28 = .ok (.iload_n 1, 1) := by decide +kernel
theorem dX12_told_29 : decode cX12_told 29 = .ok (.iaload, 1) := by decide +kernel
theorem dX12_told_30 : decode cX12_told 30 = .ok (.ireturn, 1) := by decide +kernel
theorem dX12_sequence_0 : decode cX12_sequence 0 = .ok (.iload_n 1, 1) := by decide +kernel
theorem dX12_sequence_1 : decode cX12_sequence 1 = .ok (.ifCond .lt 32, 3) := by decide +kernel
theorem dX12_sequence_4 : decode cX12_sequence 4 = .ok (.iload_n 1, 1) := by decide +kernel
theorem dX12_sequence_5 : decode cX12_sequence 5 = .ok (.sipush 2000, 3) := by decide +kernel
theorem dX12_sequence_8 : decode cX12_sequence 8 = .ok (.if_icmp .ge 25, 3) := by decide +kernel
theorem dX12_sequence_11 : decode cX12_sequence 11 = .ok (.iload_n 1, 1) := by decide +kernel
theorem dX12_sequence_12 : decode cX12_sequence 12 = .ok (.aload_n 0, 1) := by decide +kernel
theorem dX12_sequence_13 : decode cX12_sequence 13 = .ok (.getfield 34, 3) := by decide +kernel
theorem dX12_sequence_16 : decode cX12_sequence 16 = .ok (.getfield 140, 3) := by decide +kernel
theorem dX12_sequence_19 : decode cX12_sequence 19 = .ok (.iconst 4, 1) := by decide +kernel
theorem dX12_sequence_20 : decode cX12_sequence 20 = .ok (.iaload, 1) := by decide +kernel
theorem dX12_sequence_21 : decode cX12_sequence 21 = .ok (.if_icmp .ge 12, 3) := by decide +kernel
theorem dX12_sequence_24 : decode cX12_sequence 24 = .ok (.iload_n 2, 1) := by decide +kernel
theorem dX12_sequence_25 : decode cX12_sequence 25 = .ok (.ifCond .lt 8, 3) := by decide +kernel
theorem dX12_sequence_28 : decode cX12_sequence 28 = .ok (.iload_n 2, 1) := by decide +kernel
theorem dX12_sequence_29 : decode cX12_sequence 29 = .ok (.iconst 3, 1) := by decide +kernel
theorem dX12_sequence_30 : decode cX12_sequence 30 = .ok (.if_icmp .le 6, 3) := by decide +kernel
theorem dX12_sequence_33 : decode cX12_sequence 33 = .ok (.bipush (-2), 2) := by decide +kernel
theorem dX12_sequence_35 : decode cX12_sequence 35 = .ok (.ireturn, 1) := by decide +kernel
theorem dX12_sequence_36 : decode cX12_sequence 36 = .ok (.aload_n 0, 1) := by decide +kernel
theorem dX12_sequence_37 : decode cX12_sequence 37 = .ok (.getfield 34, 3) := by decide +kernel
theorem dX12_sequence_40 : decode cX12_sequence 40 = .ok (.getfield 144, 3) := by decide +kernel
theorem dX12_sequence_43 : decode cX12_sequence 43 = .ok (.iconst 4, 1) := by decide +kernel
theorem dX12_sequence_44 : decode cX12_sequence 44 = .ok (.iload_n 1, 1) := by decide +kernel
theorem dX12_sequence_45 : decode cX12_sequence 45 = .ok (.imul, 1) := by decide +kernel
theorem dX12_sequence_46 : decode cX12_sequence 46 = .ok (.iload_n 2, 1) := by decide +kernel
theorem dX12_sequence_47 : decode cX12_sequence 47 = .ok (.iadd, 1) := by decide +kernel
theorem dX12_sequence_48 : decode cX12_sequence 48 = .ok (.iaload, 1) := by decide +kernel
theorem dX12_sequence_49 : decode cX12_sequence 49 = .ok (.ireturn, 1) := by decide +kernel
theorem dX12_table_0 : decode cX12_table 0 = .ok (.iload_n 1, 1) := by decide +kernel
theorem dX12_table_1 : decode cX12_table 1 = .ok (.ifCond .lt 17, 3) := by decide +kernel
theorem dX12_table_4 : decode cX12_table 4 = .ok (.iload_n 1, 1) := by decide +kernel
theorem dX12_table_5 : decode cX12_table 5 = .ok (.iconst 3, 1) := by decide +kernel
theorem dX12_table_6 : decode cX12_table 6 = .ok (.if_icmp .ge 12, 3) := by decide +kernel
theorem dX12_table_9 : decode cX12_table 9 = .ok (.iload_n 3, 1) := by decide +kernel
theorem dX12_table_10 : decode cX12_table 10 = .ok (.ifCond .lt 8, 3) := by decide +kernel
theorem dX12_table_13 : decode cX12_table 13 = .ok (.iload_n 3, 1) := by decide +kernel
theorem dX12_table_14 : decode cX12_table 14 = .ok (.iconst 2, 1) := by decide +kernel
theorem dX12_table_15 : decode cX12_table 15 = .ok (.if_icmp .le 6, 3) := by decide +kernel
theorem dX12_table_18 : decode cX12_table 18 = .ok (.bipush (-2), 2) := by decide +kernel
theorem dX12_table_20 : decode cX12_table 20 = .ok (.ireturn, 1) := by decide +kernel
theorem dX12_table_21 : decode cX12_table 21 = .ok (.aload_n 0, 1) := by decide +kernel
theorem dX12_table_22 : decode cX12_table 22 = .ok (.getfield 60, 3) := by decide +kernel
theorem dX12_table_25 : decode cX12_table 25 = .ok (.getfield 147, 3) := by decide +kernel
theorem dX12_table_28 : decode cX12_table 28 = .ok (.getfield 151, 3) := by decide +kernel
theorem dX12_table_31 : decode cX12_table 31 = .ok (.iload_n 1, 1) := by decide +kernel
theorem dX12_table_32 : decode cX12_table 32 = .ok (.baload, 1) := by decide +kernel
theorem dX12_table_33 : decode cX12_table 33 = .ok (.ifCond .ne 6, 3) := by decide +kernel
theorem dX12_table_36 : decode cX12_table 36 = .ok (.bipush (-3), 2) := by decide +kernel
theorem dX12_table_38 : decode cX12_table 38 = .ok (.ireturn, 1) := by decide +kernel
theorem dX12_table_39 : decode cX12_table 39 = .ok (.aload_n 0, 1) := by decide +kernel
theorem dX12_table_40 : decode cX12_table 40 = .ok (.getfield 60, 3) := by decide +kernel
theorem dX12_table_43 : decode cX12_table 43 = .ok (.getfield 147, 3) := by decide +kernel
theorem dX12_table_46 : decode cX12_table 46 = .ok (.getfield 157, 3) := by decide +kernel
theorem dX12_table_49 : decode cX12_table 49 = .ok (.iload_n 1, 1) := by decide +kernel
theorem dX12_table_50 : decode cX12_table 50 = .ok (.aaload, 1) := by decide +kernel
theorem dX12_table_51 : decode cX12_table 51 = .ok (.astore 4, 2) := by decide +kernel
theorem dX12_table_53 : decode cX12_table 53 = .ok (.iload_n 2, 1) := by decide +kernel
theorem dX12_table_54 : decode cX12_table 54 = .ok (.iconst (-1), 1) := by decide +kernel
theorem dX12_table_55 : decode cX12_table 55 = .ok (.if_icmp .ne 9, 3) := by decide +kernel
theorem dX12_table_58 : decode cX12_table 58 = .ok (.aload 4, 2) := by decide +kernel
theorem dX12_table_60 : decode cX12_table 60 = .ok (.getfield 161, 3) := by decide +kernel
theorem dX12_table_63 : decode cX12_table 63 = .ok (.ireturn, 1) := by decide +kernel
theorem dX12_table_64 : decode cX12_table 64 = .ok (.iload_n 2, 1) := by decide +kernel
theorem dX12_table_65 : decode cX12_table 65 = .ok (.ifCond .lt 14, 3) := by decide +kernel
theorem dX12_table_68 : decode cX12_table 68 = .ok (.iload_n 2, 1) := by decide +kernel
theorem dX12_table_69 : decode cX12_table 69 = .ok (.iconst 1, 1) := by decide +kernel
theorem dX12_table_70 : decode cX12_table 70 = .ok (.aload 4, 2) := by decide +kernel
theorem dX12_table_72 : decode cX12_table 72 = .ok (.getfield 161, 3) := by decide +kernel
theorem dX12_table_75 : decode cX12_table 75 = .ok (.ishl, 1) := by decide +kernel
theorem dX12_table_76 : decode cX12_table 76 = .ok (.if_icmp .lt 6, 3) := by decide +kernel
theorem dX12_table_79 : decode cX12_table 79 = .ok (.bipush (-2), 2) := by decide +kernel
theorem dX12_table_81 : decode cX12_table 81 = .ok (.ireturn, 1) := by decide +kernel
theorem dX12_table_82 : decode cX12_table 82 = .ok (.iload_n 3, 1) := by decide +kernel
theorem dX12_table_83 : decode cX12_table 83 = .ok (.ifCond .ne 12, 3) := by decide +kernel
theorem dX12_table_86 : decode cX12_table 86 = .ok (.aload 4, 2) := by decide +kernel
theorem dX12_table_88 : decode cX12_table 88 = .ok (.iload_n 2, 1) := by decide +kernel
theorem dX12_table_89 : decode cX12_table 89 = .ok (.invokevirtual 164, 3) := by decide +kernel
theorem dX12_table_92 : decode cX12_table 92 = .ok (.goto 23, 3) := by decide +kernel
theorem dX12_table_95 : decode cX12_table 95 = .ok (.iload_n 3, 1) := by decide +kernel
theorem dX12_table_96 : decode cX12_table 96 = .ok (.iconst 1, 1) := by decide +kernel
theorem dX12_table_97 : decode cX12_table 97 = .ok (.if_icmp .ne 12, 3) := by decide +kernel
theorem dX12_table_100 : decode cX12_table 100 = .ok (.aload 4, 2) := by decide +kernel
theorem dX12_table_102 : decode cX12_table 102 = .ok (.iload_n 2, 1) := by decide +kernel
theorem dX12_table_103 : decode cX12_table 103 = .ok (.invokevirtual 167, 3) := by decide +kernel
theorem dX12_table_106 : decode cX12_table 106 = .ok (.goto 9, 3) := by decide +kernel
theorem dX12_table_109 : decode cX12_table 109 = .ok (.aload 4, 2) := by decide +kernel
theorem dX12_table_111 : decode cX12_table 111 = .ok (.iload_n 2, 1) := by decide +kernel
theorem dX12_table_112 : decode cX12_table 112 = .ok (.invokevirtual 170, 3) := by decide +kernel
theorem dX12_table_115 : decode cX12_table 115 = .ok (.ireturn, 1) := by decide +kernel
theorem dX12_bits_0 : decode cX12_bits 0 = .ok (.iload_n 1, 1) := by decide +kernel
theorem dX12_bits_1 : decode cX12_bits 1 = .ok (.ifCond .lt 10, 3) := by decide +kernel
theorem dX12_bits_4 : decode cX12_bits 4 = .ok (.iload_n 1, 1) := by decide +kernel
theorem dX12_bits_5 : decode cX12_bits 5 = .ok (.sipush 256, 3) := by decide +kernel
theorem dX12_bits_8 : decode cX12_bits 8 = .ok (.if_icmp .lt 6, 3) := by decide +kernel
theorem dX12_bits_11 : decode cX12_bits 11 = .ok (.bipush (-2), 2) := by decide +kernel
theorem dX12_bits_13 : decode cX12_bits 13 = .ok (.ireturn, 1) := by decide +kernel
theorem dX12_bits_14 : decode cX12_bits 14 = .ok (.aload_n 0, 1) := by decide +kernel
theorem dX12_bits_15 : decode cX12_bits 15 = .ok (.getfield 60, 3) := by decide +kernel
theorem dX12_bits_18 : decode cX12_bits 18 = .ok (.getfield 173, 3) := by decide +kernel
theorem dX12_bits_21 : decode cX12_bits 21 = .ok (.getfield 177, 3) := by decide +kernel
theorem dX12_bits_24 : decode cX12_bits 24 = .ok (.ifCond .eq 21, 3) := by decide +kernel
theorem dX12_bits_27 : decode cX12_bits 27 = .ok (.aload_n 0, 1) := by decide +kernel
theorem dX12_bits_28 : decode cX12_bits 28 = .ok (.getfield 60, 3) := by decide +kernel
theorem dX12_bits_31 : decode cX12_bits 31 = .ok (.getfield 173, 3) := by decide +kernel
theorem dX12_bits_34 : decode cX12_bits 34 = .ok (.getfield 182, 3) := by decide +kernel
theorem dX12_bits_37 : decode cX12_bits 37 = .ok (.getfield 185, 3) := by decide +kernel
theorem dX12_bits_40 : decode cX12_bits 40 = .ok (.iload_n 1, 1) := by decide +kernel
theorem dX12_bits_41 : decode cX12_bits 41 = .ok (.iaload, 1) := by decide +kernel
theorem dX12_bits_42 : decode cX12_bits 42 = .ok (.goto 5, 3) := by decide +kernel
theorem dX12_bits_45 : decode cX12_bits 45 = .ok (.bipush (-3), 2) := by decide +kernel
theorem dX12_bits_47 : decode cX12_bits 47 = .ok (.ireturn, 1) := by decide +kernel
theorem dX12_spareCameOut_0 : decode cX12_spareCameOut 0 = .ok (.aload_n 0, 1) := by decide +kernel
theorem dX12_spareCameOut_1 : decode cX12_spareCameOut 1 = .ok (.getfield 18, 3) := by decide +kernel
theorem dX12_spareCameOut_4 : decode cX12_spareCameOut 4 = .ok (.astore_n 1, 1) := by decide +kernel
theorem dX12_spareCameOut_5 : decode cX12_spareCameOut 5 = .ok (.aload_n 0, 1) := by decide +kernel
theorem dX12_spareCameOut_6 : decode cX12_spareCameOut 6 = .ok (.aload_n 0, 1) := by decide +kernel
theorem dX12_spareCameOut_7 : decode cX12_spareCameOut 7 = .ok (.getfield 21, 3) := by decide +kernel
theorem dX12_spareCameOut_10 : decode cX12_spareCameOut 10 = .ok (.putfield 18, 3) := by decide +kernel
theorem dX12_spareCameOut_13 : decode cX12_spareCameOut 13 = .ok (.aload_n 0, 1) := by decide +kernel
theorem dX12_spareCameOut_14 : decode cX12_spareCameOut 14 = .ok (.aload_n 1, 1) := by decide +kernel
theorem dX12_spareCameOut_15 : decode cX12_spareCameOut 15 = .ok (.putfield 21, 3) := by decide +kernel
theorem dX12_spareCameOut_18 : decode cX12_spareCameOut 18 = .ok (.return_, 1) := by decide +kernel
theorem dX12_unusedDictionary_0 : decode cX12_unusedDictionary 0 = .ok (.iconst 1, 1) := by decide +kernel
theorem dX12_unusedDictionary_1 : decode cX12_unusedDictionary 1 = .ok (.istore_n 1, 1) := by decide +kernel
theorem dX12_unusedDictionary_2 : decode cX12_unusedDictionary 2 = .ok (.iload_n 1, 1) := by decide +kernel
theorem dX12_unusedDictionary_3 : decode cX12_unusedDictionary 3 = .ok (.aload_n 0, 1) := by decide +kernel
theorem dX12_unusedDictionary_4 : decode cX12_unusedDictionary 4 = .ok (.getfield 40, 3) := by decide +kernel
theorem dX12_unusedDictionary_7 : decode cX12_unusedDictionary 7 = .ok (.arraylength, 1) := by decide +kernel
theorem dX12_unusedDictionary_8 : decode cX12_unusedDictionary 8 = .ok (.if_icmp .ge 42, 3) := by decide +kernel
theorem dX12_unusedDictionary_11 : decode cX12_unusedDictionary 11 = .ok (.aload_n 0, 1) := by decide +kernel
theorem dX12_unusedDictionary_12 : decode cX12_unusedDictionary 12 = .ok (.getfield 40, 3) := by decide +kernel
theorem dX12_unusedDictionary_15 : decode cX12_unusedDictionary 15 = .ok (.iload_n 1, 1) := by decide +kernel
theorem dX12_unusedDictionary_16 : decode cX12_unusedDictionary 16 = .ok (.aaload, 1) := by decide +kernel
theorem dX12_unusedDictionary_17 : decode cX12_unusedDictionary 17 = .ok (.aload_n 0, 1) := by decide +kernel
theorem dX12_unusedDictionary_18 : decode cX12_unusedDictionary 18 = .ok (.getfield 107, 3) := by decide +kernel
theorem dX12_unusedDictionary_21 : decode cX12_unusedDictionary 21 = .ok (.if_acmp .eq 23, 3) := by decide +kernel
theorem dX12_unusedDictionary_24 : decode cX12_unusedDictionary 24 = .ok (.aload_n 0, 1) := by decide +kernel
theorem dX12_unusedDictionary_25 : decode cX12_unusedDictionary 25 = .ok (.getfield 40, 3) := by decide +kernel
theorem dX12_unusedDictionary_28 : decode cX12_unusedDictionary 28 = .ok (.iload_n 1, 1) := by decide +kernel
theorem dX12_unusedDictionary_29 : decode cX12_unusedDictionary 29 = .ok (.aaload, 1) := by decide +kernel
theorem dX12_unusedDictionary_30 : decode cX12_unusedDictionary 30 = .ok (.aload_n 0, 1) := by decide +kernel
theorem dX12_unusedDictionary_31 : decode cX12_unusedDictionary 31 = .ok (.getfield 118, 3) := by decide +kernel
theorem dX12_unusedDictionary_34 : decode cX12_unusedDictionary 34 = .ok (.if_acmp .eq 10, 3) := by decide +kernel
theorem dX12_unusedDictionary_37 : decode cX12_unusedDictionary 37 = .ok (.aload_n 0, 1) := by decide +kernel
theorem dX12_unusedDictionary_38 : decode cX12_unusedDictionary 38 = .ok (.getfield 40, 3) := by decide +kernel
theorem dX12_unusedDictionary_41 : decode cX12_unusedDictionary 41 = .ok (.iload_n 1, 1) := by decide +kernel
theorem dX12_unusedDictionary_42 : decode cX12_unusedDictionary 42 = .ok (.aaload, 1) := by decide +kernel
theorem dX12_unusedDictionary_43 : decode cX12_unusedDictionary 43 = .ok (.areturn, 1) := by decide +kernel
theorem dX12_unusedDictionary_44 : decode cX12_unusedDictionary 44 = .ok (.iinc 1 1, 3) := by decide +kernel
theorem dX12_unusedDictionary_47 : decode cX12_unusedDictionary 47 = .ok (.goto (-45), 3) := by decide +kernel
theorem dX12_unusedDictionary_50 : decode cX12_unusedDictionary 50 = .ok (.aload_n 0, 1) := by decide +kernel
theorem dX12_unusedDictionary_51 : decode cX12_unusedDictionary 51 = .ok (.getfield 40, 3) := by decide +kernel
theorem dX12_unusedDictionary_54 : decode cX12_unusedDictionary 54 = .ok (.iconst 0, 1) := by decide +kernel
theorem dX12_unusedDictionary_55 : decode cX12_unusedDictionary 55 = .ok (.aaload, 1) := by decide +kernel
theorem dX12_unusedDictionary_56 : decode cX12_unusedDictionary 56 = .ok (.areturn, 1) := by decide +kernel
theorem dX12_logOf_0 : decode cX12_logOf 0 = .ok (.iconst 0, 1) := by decide +kernel
theorem dX12_logOf_1 : decode cX12_logOf 1 = .ok (.istore_n 2, 1) := by decide +kernel
theorem dX12_logOf_2 : decode cX12_logOf 2 = .ok (.iconst 1, 1) := by decide +kernel
theorem dX12_logOf_3 : decode cX12_logOf 3 = .ok (.istore_n 3, 1) := by decide +kernel
theorem dX12_logOf_4 : decode cX12_logOf 4 = .ok (.iload_n 3, 1) := by decide +kernel
theorem dX12_logOf_5 : decode cX12_logOf 5 = .ok (.bipush 63, 2) := by decide +kernel
theorem dX12_logOf_7 : decode cX12_logOf 7 = .ok (.if_icmp .ge 22, 3) := by decide +kernel
theorem dX12_logOf_10 : decode cX12_logOf 10 = .ok (.lload_n 0, 1) := by decide +kernel
theorem dX12_logOf_11 : decode cX12_logOf 11 = .ok (.iload_n 3, 1) := by decide +kernel
theorem dX12_logOf_12 : decode cX12_logOf 12 = .ok (.lushr, 1) := by decide +kernel
theorem dX12_logOf_13 : decode cX12_logOf 13 = .ok (.lconst 0, 1) := by decide +kernel
theorem dX12_logOf_14 : decode cX12_logOf 14 = .ok (.lcmp, 1) := by decide +kernel
theorem dX12_logOf_15 : decode cX12_logOf 15 = .ok (.ifCond .ne 6, 3) := by decide +kernel
theorem dX12_logOf_18 : decode cX12_logOf 18 = .ok (.goto 11, 3) := by decide +kernel
theorem dX12_logOf_21 : decode cX12_logOf 21 = .ok (.iload_n 3, 1) := by decide +kernel
theorem dX12_logOf_22 : decode cX12_logOf 22 = .ok (.istore_n 2, 1) := by decide +kernel
theorem dX12_logOf_23 : decode cX12_logOf 23 = .ok (.iinc 3 1, 3) := by decide +kernel
theorem dX12_logOf_26 : decode cX12_logOf 26 = .ok (.goto (-22), 3) := by decide +kernel
theorem dX12_logOf_29 : decode cX12_logOf 29 = .ok (.iload_n 2, 1) := by decide +kernel
theorem dX12_logOf_30 : decode cX12_logOf 30 = .ok (.ireturn, 1) := by decide +kernel
theorem dX12_turn_0 : decode cX12_turn 0 = .ok (.lload_n 0, 1) := by decide +kernel
theorem dX12_turn_1 : decode cX12_turn 1 = .ok (.iload_n 2, 1) := by decide +kernel
theorem dX12_turn_2 : decode cX12_turn 2 = .ok (.lshl, 1) := by decide +kernel
theorem dX12_turn_3 : decode cX12_turn 3 = .ok (.lload_n 0, 1) := by decide +kernel
theorem dX12_turn_4 : decode cX12_turn 4 = .ok (.bipush 64, 2) := by decide +kernel
theorem dX12_turn_6 : decode cX12_turn 6 = .ok (.iload_n 2, 1) := by decide +kernel
theorem dX12_turn_7 : decode cX12_turn 7 = .ok (.isub, 1) := by decide +kernel
theorem dX12_turn_8 : decode cX12_turn 8 = .ok (.lushr, 1) := by decide +kernel
theorem dX12_turn_9 : decode cX12_turn 9 = .ok (.lor, 1) := by decide +kernel
theorem dX12_turn_10 : decode cX12_turn 10 = .ok (.lreturn, 1) := by decide +kernel
theorem dX12_round_0 : decode cX12_round 0 = .ok (.lload_n 0, 1) := by decide +kernel
theorem dX12_round_1 : decode cX12_round 1 = .ok (.lload_n 2, 1) := by decide +kernel
theorem dX12_round_2 : decode cX12_round 2 = .ok (.ldc2_w 190, 3) := by decide +kernel
theorem dX12_round_5 : decode cX12_round 5 = .ok (.lmul, 1) := by decide +kernel
theorem dX12_round_6 : decode cX12_round 6 = .ok (.ladd, 1) := by decide +kernel
theorem dX12_round_7 : decode cX12_round 7 = .ok (.bipush 31, 2) := by decide +kernel
theorem dX12_round_9 : decode cX12_round 9 = .ok (.invokestatic 192, 3) := by decide +kernel
theorem dX12_round_12 : decode cX12_round 12 = .ok (.ldc2_w 196, 3) := by decide +kernel
theorem dX12_round_15 : decode cX12_round 15 = .ok (.lmul, 1) := by decide +kernel
theorem dX12_round_16 : decode cX12_round 16 = .ok (.lreturn, 1) := by decide +kernel
theorem dX12_baseOf_0 : decode cX12_baseOf 0 = .ok (.iload_n 0, 1) := by decide +kernel
theorem dX12_baseOf_1 : decode cX12_baseOf 1 = .ok (.ifCond .ne 9, 3) := by decide +kernel
theorem dX12_baseOf_4 : decode cX12_baseOf 4 = .ok (.getstatic 198, 3) := by decide +kernel
theorem dX12_baseOf_7 : decode cX12_baseOf 7 = .ok (.goto 6, 3) := by decide +kernel
theorem dX12_baseOf_10 : decode cX12_baseOf 10 = .ok (.getstatic 201, 3) := by decide +kernel
theorem dX12_baseOf_13 : decode cX12_baseOf 13 = .ok (.areturn, 1) := by decide +kernel
theorem dX12_extraOf_0 : decode cX12_extraOf 0 = .ok (.iload_n 0, 1) := by decide +kernel
theorem dX12_extraOf_1 : decode cX12_extraOf 1 = .ok (.ifCond .ne 9, 3) := by decide +kernel
theorem dX12_extraOf_4 : decode cX12_extraOf 4 = .ok (.getstatic 204, 3) := by decide +kernel
theorem dX12_extraOf_7 : decode cX12_extraOf 7 = .ok (.goto 6, 3) := by decide +kernel
theorem dX12_extraOf_10 : decode cX12_extraOf 10 = .ok (.getstatic 207, 3) := by decide +kernel
theorem dX12_extraOf_13 : decode cX12_extraOf 13 = .ok (.areturn, 1) := by decide +kernel
theorem dX12_whichOf_0 : decode cX12_whichOf 0 = .ok (.lload_n 0, 1) := by decide +kernel
theorem dX12_whichOf_1 : decode cX12_whichOf 1 = .ok (.ldc2_w 210, 3) := by decide +kernel
theorem dX12_whichOf_4 : decode cX12_whichOf 4 = .ok (.lcmp, 1) := by decide +kernel
theorem dX12_whichOf_5 : decode cX12_whichOf 5 = .ok (.ifCond .le 7, 3) := by decide +kernel
theorem dX12_whichOf_8 : decode cX12_whichOf 8 = .ok (.iconst 0, 1) := by decide +kernel
theorem dX12_whichOf_9 : decode cX12_whichOf 9 = .ok (.goto 15, 3) := by decide +kernel
theorem dX12_whichOf_12 : decode cX12_whichOf 12 = .ok (.lload_n 0, 1) := by decide +kernel
theorem dX12_whichOf_13 : decode cX12_whichOf 13 = .ok (.l2i, 1) := by decide +kernel
theorem dX12_whichOf_14 : decode cX12_whichOf 14 = .ok (.iload_n 2, 1) := by decide +kernel
theorem dX12_whichOf_15 : decode cX12_whichOf 15 = .ok (.ifCond .ne 7, 3) := by decide +kernel
theorem dX12_whichOf_18 : decode cX12_whichOf 18 = .ok (.iconst 1, 1) := by decide +kernel
theorem dX12_whichOf_19 : decode cX12_whichOf 19 = .ok (.goto 4, 3) := by decide +kernel
theorem dX12_whichOf_22 : decode cX12_whichOf 22 = .ok (.iconst 0, 1) := by decide +kernel
theorem dX12_whichOf_23 : decode cX12_whichOf 23 = .ok (.iadd, 1) := by decide +kernel
theorem dX12_whichOf_24 : decode cX12_whichOf 24 = .ok (.ireturn, 1) := by decide +kernel
theorem dX12_offsetOf_0 : decode cX12_offsetOf 0 = .ok (.lload_n 1, 1) := by decide +kernel
theorem dX12_offsetOf_1 : decode cX12_offsetOf 1 = .ok (.iload_n 3, 1) := by decide +kernel
theorem dX12_offsetOf_2 : decode cX12_offsetOf 2 = .ok (.invokestatic 212, 3) := by decide +kernel
theorem dX12_offsetOf_5 : decode cX12_offsetOf 5 = .ok (.istore 4, 2) := by decide +kernel
theorem dX12_offsetOf_7 : decode cX12_offsetOf 7 = .ok (.iload 4, 2) := by decide +kernel
theorem dX12_offsetOf_9 : decode cX12_offsetOf 9 = .ok (.ifCond .ne 9, 3) := by decide +kernel
theorem dX12_offsetOf_12 : decode cX12_offsetOf 12 = .ok (.lload_n 1, 1) := by decide +kernel
theorem dX12_offsetOf_13 : decode cX12_offsetOf 13 = .ok (.ldc2_w 210, 3) := by decide +kernel
theorem dX12_offsetOf_16 : decode cX12_offsetOf 16 = .ok (.lsub, 1) := by decide +kernel
theorem dX12_offsetOf_17 : decode cX12_offsetOf 17 = .ok (.lreturn, 1) := by decide +kernel
theorem dX12_offsetOf_18 : decode cX12_offsetOf 18 = .ok (.iload 4, 2) := by decide +kernel
theorem dX12_offsetOf_20 : decode cX12_offsetOf 20 = .ok (.iconst 4, 1) := by decide +kernel
theorem dX12_offsetOf_21 : decode cX12_offsetOf 21 = .ok (.if_icmp .ne 12, 3) := by decide +kernel
theorem dX12_offsetOf_24 : decode cX12_offsetOf 24 = .ok (.aload_n 0, 1) := by decide +kernel
theorem dX12_offsetOf_25 : decode cX12_offsetOf 25 = .ok (.iconst 0, 1) := by decide +kernel
theorem dX12_offsetOf_26 : decode cX12_offsetOf 26 = .ok (.iaload, 1) := by decide +kernel
theorem dX12_offsetOf_27 : decode cX12_offsetOf 27 = .ok (.iconst 1, 1) := by decide +kernel
theorem dX12_offsetOf_28 : decode cX12_offsetOf 28 = .ok (.isub, 1) := by decide +kernel
theorem dX12_offsetOf_29 : decode cX12_offsetOf 29 = .ok (.i2l, 1) := by decide +kernel
theorem dX12_offsetOf_30 : decode cX12_offsetOf 30 = .ok (.goto 14, 3) := by decide +kernel
theorem dX12_offsetOf_33 : decode cX12_offsetOf 33 = .ok (.aload_n 0, 1) := by decide +kernel
theorem dX12_offsetOf_34 : decode cX12_offsetOf 34 = .ok (.iload 4, 2) := by decide +kernel
theorem dX12_offsetOf_36 : decode cX12_offsetOf 36 = .ok (.iconst 1, 1) := by decide +kernel
theorem dX12_offsetOf_37 : decode cX12_offsetOf 37 = .ok (.invokestatic 93, 3) := by decide +kernel
theorem dX12_offsetOf_40 : decode cX12_offsetOf 40 = .ok (.iconst 1, 1) := by decide +kernel
theorem dX12_offsetOf_41 : decode cX12_offsetOf 41 = .ok (.isub, 1) := by decide +kernel
theorem dX12_offsetOf_42 : decode cX12_offsetOf 42 = .ok (.iaload, 1) := by decide +kernel
theorem dX12_offsetOf_43 : decode cX12_offsetOf 43 = .ok (.i2l, 1) := by decide +kernel
theorem dX12_offsetOf_44 : decode cX12_offsetOf 44 = .ok (.lreturn, 1) := by decide +kernel
theorem dX12_remember_0 : decode cX12_remember 0 = .ok (.iload_n 1, 1) := by decide +kernel
theorem dX12_remember_1 : decode cX12_remember 1 = .ok (.iconst 1, 1) := by decide +kernel
theorem dX12_remember_2 : decode cX12_remember 2 = .ok (.if_icmp .ne 4, 3) := by decide +kernel
theorem dX12_remember_5 : decode cX12_remember 5 = .ok (.return_, 1) := by decide +kernel
theorem dX12_remember_6 : decode cX12_remember 6 = .ok (.iload_n 1, 1) := by decide +kernel
theorem dX12_remember_7 : decode cX12_remember 7 = .ok (.iconst 2, 1) := by decide +kernel
theorem dX12_remember_8 : decode cX12_remember 8 = .ok (.if_icmp .eq 9, 3) := by decide +kernel
theorem dX12_remember_11 : decode cX12_remember 11 = .ok (.aload_n 0, 1) := by decide +kernel
theorem dX12_remember_12 : decode cX12_remember 12 = .ok (.iconst 2, 1) := by decide +kernel
theorem dX12_remember_13 : decode cX12_remember 13 = .ok (.aload_n 0, 1) := by decide +kernel
theorem dX12_remember_14 : decode cX12_remember 14 = .ok (.iconst 1, 1) := by decide +kernel
theorem dX12_remember_15 : decode cX12_remember 15 = .ok (.iaload, 1) := by decide +kernel
theorem dX12_remember_16 : decode cX12_remember 16 = .ok (.iastore, 1) := by decide +kernel
theorem dX12_remember_17 : decode cX12_remember 17 = .ok (.aload_n 0, 1) := by decide +kernel
theorem dX12_remember_18 : decode cX12_remember 18 = .ok (.iconst 1, 1) := by decide +kernel
theorem dX12_remember_19 : decode cX12_remember 19 = .ok (.aload_n 0, 1) := by decide +kernel
theorem dX12_remember_20 : decode cX12_remember 20 = .ok (.iconst 0, 1) := by decide +kernel
theorem dX12_remember_21 : decode cX12_remember 21 = .ok (.iaload, 1) := by decide +kernel
theorem dX12_remember_22 : decode cX12_remember 22 = .ok (.iastore, 1) := by decide +kernel
theorem dX12_remember_23 : decode cX12_remember 23 = .ok (.aload_n 0, 1) := by decide +kernel
theorem dX12_remember_24 : decode cX12_remember 24 = .ok (.iconst 0, 1) := by decide +kernel
theorem dX12_remember_25 : decode cX12_remember 25 = .ok (.iload_n 2, 1) := by decide +kernel
theorem dX12_remember_26 : decode cX12_remember 26 = .ok (.iastore, 1) := by decide +kernel
theorem dX12_remember_27 : decode cX12_remember 27 = .ok (.return_, 1) := by decide +kernel
theorem dX12_rememberFirst_0 : decode cX12_rememberFirst 0 = .ok (.aload_n 0, 1) := by decide +kernel
theorem dX12_rememberFirst_1 : decode cX12_rememberFirst 1 = .ok (.iconst 0, 1) := by decide +kernel
theorem dX12_rememberFirst_2 : decode cX12_rememberFirst 2 = .ok (.aload_n 1, 1) := by decide +kernel
theorem dX12_rememberFirst_3 : decode cX12_rememberFirst 3 = .ok (.ifnonnull 7, 3) := by decide +kernel
theorem dX12_rememberFirst_6 : decode cX12_rememberFirst 6 = .ok (.iconst 1, 1) := by decide +kernel
theorem dX12_rememberFirst_7 : decode cX12_rememberFirst 7 = .ok (.goto 9, 3) := by decide +kernel
theorem dX12_rememberFirst_10 : decode cX12_rememberFirst 10 = .ok (.aload_n 1, 1) := by decide +kernel
theorem dX12_rememberFirst_11 : decode cX12_rememberFirst 11 = .ok (.getfield 216, 3) := by decide +kernel
theorem dX12_rememberFirst_14 : decode cX12_rememberFirst 14 = .ok (.iconst 0, 1) := by decide +kernel
theorem dX12_rememberFirst_15 : decode cX12_rememberFirst 15 = .ok (.iaload, 1) := by decide +kernel
theorem dX12_rememberFirst_16 : decode cX12_rememberFirst 16 = .ok (.iastore, 1) := by decide +kernel
theorem dX12_rememberFirst_17 : decode cX12_rememberFirst 17 = .ok (.aload_n 0, 1) := by decide +kernel
theorem dX12_rememberFirst_18 : decode cX12_rememberFirst 18 = .ok (.iconst 1, 1) := by decide +kernel
theorem dX12_rememberFirst_19 : decode cX12_rememberFirst 19 = .ok (.aload_n 1, 1) := by decide +kernel
theorem dX12_rememberFirst_20 : decode cX12_rememberFirst 20 = .ok (.ifnonnull 7, 3) := by decide +kernel
theorem dX12_rememberFirst_23 : decode cX12_rememberFirst 23 = .ok (.iconst 4, 1) := by decide +kernel
theorem dX12_rememberFirst_24 : decode cX12_rememberFirst 24 = .ok (.goto 9, 3) := by decide +kernel
theorem dX12_rememberFirst_27 : decode cX12_rememberFirst 27 = .ok (.aload_n 1, 1) := by decide +kernel
theorem dX12_rememberFirst_28 : decode cX12_rememberFirst 28 = .ok (.getfield 216, 3) := by decide +kernel
theorem dX12_rememberFirst_31 : decode cX12_rememberFirst 31 = .ok (.iconst 1, 1) := by decide +kernel
theorem dX12_rememberFirst_32 : decode cX12_rememberFirst 32 = .ok (.iaload, 1) := by decide +kernel
theorem dX12_rememberFirst_33 : decode cX12_rememberFirst 33 = .ok (.iastore, 1) := by decide +kernel
theorem dX12_rememberFirst_34 : decode cX12_rememberFirst 34 = .ok (.aload_n 0, 1) := by decide +kernel
theorem dX12_rememberFirst_35 : decode cX12_rememberFirst 35 = .ok (.iconst 2, 1) := by decide +kernel
theorem dX12_rememberFirst_36 : decode cX12_rememberFirst 36 = .ok (.aload_n 1, 1) := by decide +kernel
theorem dX12_rememberFirst_37 : decode cX12_rememberFirst 37 = .ok (.ifnonnull 8, 3) := by decide +kernel
theorem dX12_rememberFirst_40 : decode cX12_rememberFirst 40 = .ok (.bipush 8, 2) := by decide +kernel
theorem dX12_rememberFirst_42 : decode cX12_rememberFirst 42 = .ok (.goto 9, 3) := by decide +kernel
theorem dX12_rememberFirst_45 : decode cX12_rememberFirst 45 = .ok (.aload_n 1, 1) := by decide +kernel
theorem dX12_rememberFirst_46 : decode cX12_rememberFirst 46 = .ok (.getfield 216, 3) := by decide +kernel
theorem dX12_rememberFirst_49 : decode cX12_rememberFirst 49 = .ok (.iconst 2, 1) := by decide +kernel
theorem dX12_rememberFirst_50 : decode cX12_rememberFirst 50 = .ok (.iaload, 1) := by decide +kernel
theorem dX12_rememberFirst_51 : decode cX12_rememberFirst 51 = .ok (.iastore, 1) := by decide +kernel
theorem dX12_rememberFirst_52 : decode cX12_rememberFirst 52 = .ok (.return_, 1) := by decide +kernel
theorem dX13_init_0 : decode cX13_init 0 = .ok (.aload_n 0, 1) := by decide +kernel
theorem dX13_init_1 : decode cX13_init 1 = .ok (.invokespecial 1, 3) := by decide +kernel
theorem dX13_init_4 : decode cX13_init 4 = .ok (.aload_n 0, 1) := by decide +kernel
theorem dX13_init_5 : decode cX13_init 5 = .ok (.sipush 8000, 3) := by decide +kernel
theorem dX13_init_8 : decode cX13_init 8 = .ok (.newarray .byte, 2) := by decide +kernel
theorem dX13_init_10 : decode cX13_init 10 = .ok (.putfield 7, 3) := by decide +kernel
theorem dX13_init_13 : decode cX13_init 13 = .ok (.aload_n 0, 1) := by decide +kernel
theorem dX13_init_14 : decode cX13_init 14 = .ok (.sipush 8000, 3) := by decide +kernel
theorem dX13_init_17 : decode cX13_init 17 = .ok (.newarray .byte, 2) := by decide +kernel
theorem dX13_init_19 : decode cX13_init 19 = .ok (.putfield 13, 3) := by decide +kernel
theorem dX13_init_22 : decode cX13_init 22 = .ok (.aload_n 0, 1) := by decide +kernel
theorem dX13_init_23 : decode cX13_init 23 = .ok (.iconst (-1), 1) := by decide +kernel
theorem dX13_init_24 : decode cX13_init 24 = .ok (.putfield 16, 3) := by decide +kernel
theorem dX13_init_27 : decode cX13_init 27 = .ok (.aload_n 0, 1) := by decide +kernel
theorem dX13_init_28 : decode cX13_init 28 = .ok (.aload_n 0, 1) := by decide +kernel
theorem dX13_init_29 : decode cX13_init 29 = .ok (.getfield 7, 3) := by decide +kernel
theorem dX13_init_32 : decode cX13_init 32 = .ok (.putfield 20, 3) := by decide +kernel
theorem dX13_init_35 : decode cX13_init 35 = .ok (.aload_n 0, 1) := by decide +kernel
theorem dX13_init_36 : decode cX13_init 36 = .ok (.sipush 256, 3) := by decide +kernel
theorem dX13_init_39 : decode cX13_init 39 = .ok (.newarray .int, 2) := by decide +kernel
theorem dX13_init_41 : decode cX13_init 41 = .ok (.putfield 23, 3) := by decide +kernel
theorem dX13_init_44 : decode cX13_init 44 = .ok (.aload_n 0, 1) := by decide +kernel
theorem dX13_init_45 : decode cX13_init 45 = .ok (.sipush 5120, 3) := by decide +kernel
theorem dX13_init_48 : decode cX13_init 48 = .ok (.newarray .short, 2) := by decide +kernel
theorem dX13_init_50 : decode cX13_init 50 = .ok (.putfield 27, 3) := by decide +kernel
theorem dX13_init_53 : decode cX13_init 53 = .ok (.aload_n 0, 1) := by decide +kernel
theorem dX13_init_54 : decode cX13_init 54 = .ok (.sipush 5120, 3) := by decide +kernel
theorem dX13_init_57 : decode cX13_init 57 = .ok (.newarray .byte, 2) := by decide +kernel
theorem dX13_init_59 : decode cX13_init 59 = .ok (.putfield 31, 3) := by decide +kernel
theorem dX13_init_62 : decode cX13_init 62 = .ok (.aload_n 0, 1) := by decide +kernel
theorem dX13_init_63 : decode cX13_init 63 = .ok (.sipush 5120, 3) := by decide +kernel
theorem dX13_init_66 : decode cX13_init 66 = .ok (.newarray .int, 2) := by decide +kernel
theorem dX13_init_68 : decode cX13_init 68 = .ok (.putfield 34, 3) := by decide +kernel
theorem dX13_init_71 : decode cX13_init 71 = .ok (.aload_n 0, 1) := by decide +kernel
theorem dX13_init_72 : decode cX13_init 72 = .ok (.bipush 10, 2) := by decide +kernel
theorem dX13_init_74 : decode cX13_init 74 = .ok (.newarray .int, 2) := by decide +kernel
theorem dX13_init_76 : decode cX13_init 76 = .ok (.putfield 37, 3) := by decide +kernel
theorem dX13_init_79 : decode cX13_init 79 = .ok (.aload_n 0, 1) := by decide +kernel
theorem dX13_init_80 : decode cX13_init 80 = .ok (.bipush 10, 2) := by decide +kernel
theorem dX13_init_82 : decode cX13_init 82 = .ok (.newarray .boolean, 2) := by decide +kernel
theorem dX13_init_84 : decode cX13_init 84 = .ok (.putfield 40, 3) := by decide +kernel
theorem dX13_init_87 : decode cX13_init 87 = .ok (.aload_n 0, 1) := by decide +kernel
theorem dX13_init_88 : decode cX13_init 88 = .ok (.sipush 256, 3) := by decide +kernel
theorem dX13_init_91 : decode cX13_init 91 = .ok (.newarray .int, 2) := by decide +kernel
theorem dX13_init_93 : decode cX13_init 93 = .ok (.putfield 44, 3) := by decide +kernel
theorem dX13_init_96 : decode cX13_init 96 = .ok (.aload_n 0, 1) := by decide +kernel
theorem dX13_init_97 : decode cX13_init 97 = .ok (.sipush 768, 3) := by decide +kernel
theorem dX13_init_100 : decode cX13_init 100 = .ok (.newarray .int, 2) := by decide +kernel
theorem dX13_init_102 : decode cX13_init 102 = .ok (.putfield 47, 3) := by decide +kernel
theorem dX13_init_105 : decode cX13_init 105 = .ok (.aload_n 0, 1) := by decide +kernel
theorem dX13_init_106 : decode cX13_init 106 = .ok (.iconst 3, 1) := by decide +kernel
theorem dX13_init_107 : decode cX13_init 107 = .ok (.newarray .boolean, 2) := by decide +kernel
theorem dX13_init_109 : decode cX13_init 109 = .ok (.putfield 50, 3) := by decide +kernel
theorem dX13_init_112 : decode cX13_init 112 = .ok (.aload_n 0, 1) := by decide +kernel
theorem dX13_init_113 : decode cX13_init 113 = .ok (.iconst 3, 1) := by decide +kernel
theorem dX13_init_114 : decode cX13_init 114 = .ok (.newarray .int, 2) := by decide +kernel
theorem dX13_init_116 : decode cX13_init 116 = .ok (.putfield 53, 3) := by decide +kernel
theorem dX13_init_119 : decode cX13_init 119 = .ok (.aload_n 0, 1) := by decide +kernel
theorem dX13_init_120 : decode cX13_init 120 = .ok (.sipush 6144, 3) := by decide +kernel
theorem dX13_init_123 : decode cX13_init 123 = .ok (.newarray .short, 2) := by decide +kernel
theorem dX13_init_125 : decode cX13_init 125 = .ok (.putfield 56, 3) := by decide +kernel
theorem dX13_init_128 : decode cX13_init 128 = .ok (.aload_n 0, 1) := by decide +kernel
theorem dX13_init_129 : decode cX13_init 129 = .ok (.sipush 257, 3) := by decide +kernel
theorem dX13_init_132 : decode cX13_init 132 = .ok (.newarray .int, 2) := by decide +kernel
theorem dX13_init_134 : decode cX13_init 134 = .ok (.putfield 59, 3) := by decide +kernel
theorem dX13_init_137 : decode cX13_init 137 = .ok (.aload_n 0, 1) := by decide +kernel
theorem dX13_init_138 : decode cX13_init 138 = .ok (.sipush 3000, 3) := by decide +kernel
theorem dX13_init_141 : decode cX13_init 141 = .ok (.newarray .byte, 2) := by decide +kernel
theorem dX13_init_143 : decode cX13_init 143 = .ok (.putfield 62, 3) := by decide +kernel
theorem dX13_init_146 : decode cX13_init 146 = .ok (.aload_n 0, 1) := by decide +kernel
theorem dX13_init_147 : decode cX13_init 147 = .ok (.iconst 3, 1) := by decide +kernel
theorem dX13_init_148 : decode cX13_init 148 = .ok (.newarray .int, 2) := by decide +kernel
theorem dX13_init_150 : decode cX13_init 150 = .ok (.putfield 65, 3) := by decide +kernel
theorem dX13_init_153 : decode cX13_init 153 = .ok (.aload_n 0, 1) := by decide +kernel
theorem dX13_init_154 : decode cX13_init 154 = .ok (.sipush 3000, 3) := by decide +kernel
theorem dX13_init_157 : decode cX13_init 157 = .ok (.newarray .byte, 2) := by decide +kernel
theorem dX13_init_159 : decode cX13_init 159 = .ok (.putfield 68, 3) := by decide +kernel
theorem dX13_init_162 : decode cX13_init 162 = .ok (.aload_n 0, 1) := by decide +kernel
theorem dX13_init_163 : decode cX13_init 163 = .ok (.sipush 8000, 3) := by decide +kernel
theorem dX13_init_166 : decode cX13_init 166 = .ok (.newarray .byte, 2) := by decide +kernel
theorem dX13_init_168 : decode cX13_init 168 = .ok (.putfield 71, 3) := by decide +kernel
theorem dX13_init_171 : decode cX13_init 171 = .ok (.aload_n 0, 1) := by decide +kernel
theorem dX13_init_172 : decode cX13_init 172 = .ok (.ldc 74, 2) := by decide +kernel
theorem dX13_init_174 : decode cX13_init 174 = .ok (.newarray .byte, 2) := by decide +kernel
theorem dX13_init_176 : decode cX13_init 176 = .ok (.putfield 75, 3) := by decide +kernel
theorem dX13_init_179 : decode cX13_init 179 = .ok (.aload_n 0, 1) := by decide +kernel
theorem dX13_init_180 : decode cX13_init 180 = .ok (.ldc 78, 2) := by decide +kernel
theorem dX13_init_182 : decode cX13_init 182 = .ok (.newarray .byte, 2) := by decide +kernel
theorem dX13_init_184 : decode cX13_init 184 = .ok (.putfield 79, 3) := by decide +kernel
theorem dX13_init_187 : decode cX13_init 187 = .ok (.aload_n 0, 1) := by decide +kernel
theorem dX13_init_188 : decode cX13_init 188 = .ok (.iconst 3, 1) := by decide +kernel
theorem dX13_init_189 : decode cX13_init 189 = .ok (.newarray .int, 2) := by decide +kernel
theorem dX13_init_191 : decode cX13_init 191 = .ok (.putfield 82, 3) := by decide +kernel
theorem dX13_init_194 : decode cX13_init 194 = .ok (.aload_n 0, 1) := by decide +kernel
theorem dX13_init_195 : decode cX13_init 195 = .ok (.iconst 3, 1) := by decide +kernel
theorem dX13_init_196 : decode cX13_init 196 = .ok (.newarray .long, 2) := by decide +kernel
theorem dX13_init_198 : decode cX13_init 198 = .ok (.putfield 85, 3) := by decide +kernel
theorem dX13_init_201 : decode cX13_init 201 = .ok (.aload_n 0, 1) := by decide +kernel
theorem dX13_init_202 : decode cX13_init 202 = .ok (.bipush 12, 2) := by decide +kernel
theorem dX13_init_204 : decode cX13_init 204 = .ok (.newarray .int, 2) := by decide +kernel
theorem dX13_init_206 : decode cX13_init 206 = .ok (.putfield 89, 3) := by decide +kernel
theorem dX13_init_209 : decode cX13_init 209 = .ok (.aload_n 0, 1) := by decide +kernel
theorem dX13_init_210 : decode cX13_init 210 = .ok (.sipush 2000, 3) := by decide +kernel
theorem dX13_init_213 : decode cX13_init 213 = .ok (.newarray .int, 2) := by decide +kernel
theorem dX13_init_215 : decode cX13_init 215 = .ok (.putfield 92, 3) := by decide +kernel
theorem dX13_init_218 : decode cX13_init 218 = .ok (.aload_n 0, 1) := by decide +kernel
theorem dX13_init_219 : decode cX13_init 219 = .ok (.sipush 2000, 3) := by decide +kernel
theorem dX13_init_222 : decode cX13_init 222 = .ok (.newarray .int, 2) := by decide +kernel
theorem dX13_init_224 : decode cX13_init 224 = .ok (.putfield 95, 3) := by decide +kernel
theorem dX13_init_227 : decode cX13_init 227 = .ok (.aload_n 0, 1) := by decide +kernel
theorem dX13_init_228 : decode cX13_init 228 = .ok (.sipush 2000, 3) := by decide +kernel
theorem dX13_init_231 : decode cX13_init 231 = .ok (.newarray .int, 2) := by decide +kernel
theorem dX13_init_233 : decode cX13_init 233 = .ok (.putfield 98, 3) := by decide +kernel
theorem dX13_init_236 : decode cX13_init 236 = .ok (.aload_n 0, 1) := by decide +kernel
theorem dX13_init_237 : decode cX13_init 237 = .ok (.sipush 2000, 3) := by decide +kernel
theorem dX13_init_240 : decode cX13_init 240 = .ok (.newarray .int, 2) := by decide +kernel
theorem dX13_init_242 : decode cX13_init 242 = .ok (.putfield 101, 3) := by decide +kernel
theorem dX13_init_245 : decode cX13_init 245 = .ok (.aload_n 0, 1) := by decide +kernel
theorem dX13_init_246 : decode cX13_init 246 = .ok (.sipush 20000, 3) := by decide +kernel
theorem dX13_init_249 : decode cX13_init 249 = .ok (.newarray .byte, 2) := by decide +kernel
theorem dX13_init_251 : decode cX13_init 251 = .ok (.putfield 104, 3) := by decide +kernel
theorem dX13_init_254 : decode cX13_init 254 = .ok (.aload_n 0, 1) := by decide +kernel
theorem dX13_init_255 : decode cX13_init 255 = .ok (.ldc 107, 2) := by decide +kernel
theorem dX13_init_257 : decode cX13_init 257 = .ok (.newarray .byte, 2) := by decide +kernel
theorem dX13_init_259 : decode cX13_init 259 = .ok (.putfield 108, 3) := by decide +kernel
theorem dX13_init_262 : decode cX13_init 262 = .ok (.aload_n 0, 1) := by decide +kernel
theorem dX13_init_263 : decode cX13_init 263 = .ok (.sipush 11000, 3) := by decide +kernel
theorem dX13_init_266 : decode cX13_init 266 = .ok (.newarray .byte, 2) := by decide +kernel
theorem dX13_init_268 : decode cX13_init 268 = .ok (.putfield 111, 3) := by decide +kernel
theorem dX13_init_271 : decode cX13_init 271 = .ok (.aload_n 0, 1) := by decide +kernel
theorem dX13_init_272 : decode cX13_init 272 = .ok (.iconst 3, 1) := by decide +kernel
theorem dX13_init_273 : decode cX13_init 273 = .ok (.newarray .long, 2) := by decide +kernel
theorem dX13_init_275 : decode cX13_init 275 = .ok (.putfield 114, 3) := by decide +kernel
theorem dX13_init_278 : decode cX13_init 278 = .ok (.aload_n 0, 1) := by decide +kernel
theorem dX13_init_279 : decode cX13_init 279 = .ok (.iconst 3, 1) := by decide +kernel
theorem dX13_init_280 : decode cX13_init 280 = .ok (.newarray .long, 2) := by decide +kernel
theorem dX13_init_282 : decode cX13_init 282 = .ok (.putfield 117, 3) := by decide +kernel
theorem dX13_init_285 : decode cX13_init 285 = .ok (.aload_n 0, 1) := by decide +kernel
theorem dX13_init_286 : decode cX13_init 286 = .ok (.sipush 600, 3) := by decide +kernel
theorem dX13_init_289 : decode cX13_init 289 = .ok (.newarray .int, 2) := by decide +kernel
theorem dX13_init_291 : decode cX13_init 291 = .ok (.putfield 120, 3) := by decide +kernel
theorem dX13_init_294 : decode cX13_init 294 = .ok (.aload_n 0, 1) := by decide +kernel
theorem dX13_init_295 : decode cX13_init 295 = .ok (.sipush 600, 3) := by decide +kernel
theorem dX13_init_298 : decode cX13_init 298 = .ok (.newarray .int, 2) := by decide +kernel
theorem dX13_init_300 : decode cX13_init 300 = .ok (.putfield 123, 3) := by decide +kernel
theorem dX13_init_303 : decode cX13_init 303 = .ok (.aload_n 0, 1) := by decide +kernel
theorem dX13_init_304 : decode cX13_init 304 = .ok (.sipush 600, 3) := by decide +kernel
theorem dX13_init_307 : decode cX13_init 307 = .ok (.newarray .long, 2) := by decide +kernel
theorem dX13_init_309 : decode cX13_init 309 = .ok (.putfield 126, 3) := by decide +kernel
theorem dX13_init_312 : decode cX13_init 312 = .ok (.aload_n 0, 1) := by decide +kernel
theorem dX13_init_313 : decode cX13_init 313 = .ok (.sipush 1800, 3) := by decide +kernel
theorem dX13_init_316 : decode cX13_init 316 = .ok (.newarray .int, 2) := by decide +kernel
theorem dX13_init_318 : decode cX13_init 318 = .ok (.putfield 129, 3) := by decide +kernel
theorem dX13_init_321 : decode cX13_init 321 = .ok (.aload_n 0, 1) := by decide +kernel
theorem dX13_init_322 : decode cX13_init 322 = .ok (.sipush 1800, 3) := by decide +kernel
theorem dX13_init_325 : decode cX13_init 325 = .ok (.newarray .int, 2) := by decide +kernel
theorem dX13_init_327 : decode cX13_init 327 = .ok (.putfield 132, 3) := by decide +kernel
theorem dX13_init_330 : decode cX13_init 330 = .ok (.aload_n 0, 1) := by decide +kernel
theorem dX13_init_331 : decode cX13_init 331 = .ok (.sipush 2048, 3) := by decide +kernel
theorem dX13_init_334 : decode cX13_init 334 = .ok (.newarray .byte, 2) := by decide +kernel
theorem dX13_init_336 : decode cX13_init 336 = .ok (.putfield 135, 3) := by decide +kernel
theorem dX13_init_339 : decode cX13_init 339 = .ok (.aload_n 0, 1) := by decide +kernel
theorem dX13_init_340 : decode cX13_init 340 = .ok (.sipush 256, 3) := by decide +kernel
theorem dX13_init_343 : decode cX13_init 343 = .ok (.newarray .int, 2) := by decide +kernel
theorem dX13_init_345 : decode cX13_init 345 = .ok (.putfield 138, 3) := by decide +kernel
theorem dX13_init_348 : decode cX13_init 348 = .ok (.aload_n 0, 1) := by decide +kernel
theorem dX13_init_349 : decode cX13_init 349 = .ok (.sipush 512, 3) := by decide +kernel
theorem dX13_init_352 : decode cX13_init 352 = .ok (.newarray .long, 2) := by decide +kernel
theorem dX13_init_354 : decode cX13_init 354 = .ok (.putfield 141, 3) := by decide +kernel
theorem dX13_init_357 : decode cX13_init 357 = .ok (.aload_n 0, 1) := by decide +kernel
theorem dX13_init_358 : decode cX13_init 358 = .ok (.sipush 512, 3) := by decide +kernel
theorem dX13_init_361 : decode cX13_init 361 = .ok (.newarray .int, 2) := by decide +kernel
theorem dX13_init_363 : decode cX13_init 363 = .ok (.putfield 144, 3) := by decide +kernel
theorem dX13_init_366 : decode cX13_init 366 = .ok (.aload_n 0, 1) := by decide +kernel
theorem dX13_init_367 : decode cX13_init 367 = .ok (.sipush 512, 3) := by decide +kernel
theorem dX13_init_370 : decode cX13_init 370 = .ok (.newarray .boolean, 2) := by decide +kernel
theorem dX13_init_372 : decode cX13_init 372 = .ok (.putfield 147, 3) := by decide +kernel
theorem dX13_init_375 : decode cX13_init 375 = .ok (.return_, 1) := by decide +kernel
theorem dX13_feed_0 : decode cX13_feed 0 = .ok (.iload_n 3, 1) := by decide +kernel
theorem dX13_feed_1 : decode cX13_feed 1 = .ok (.ifCond .lt 9, 3) := by decide +kernel
theorem dX13_feed_4 : decode cX13_feed 4 = .ok (.iload_n 3, 1) := by decide +kernel
theorem dX13_feed_5 : decode cX13_feed 5 = .ok (.bipush 8, 2) := by decide +kernel
theorem dX13_feed_7 : decode cX13_feed 7 = .ok (.if_icmp .le 6, 3) := by decide +kernel
theorem dX13_feed_10 : decode cX13_feed 10 = .ok (.bipush (-2), 2) := by decide +kernel
theorem dX13_feed_12 : decode cX13_feed 12 = .ok (.ireturn, 1) := by decide +kernel
theorem dX13_feed_13 : decode cX13_feed 13 = .ok (.iload_n 3, 1) := by decide +kernel
theorem dX13_feed_14 : decode cX13_feed 14 = .ok (.ifCond .ne 10, 3) := by decide +kernel
theorem dX13_feed_17 : decode cX13_feed 17 = .ok (.aload_n 0, 1) := by decide +kernel
theorem dX13_feed_18 : decode cX13_feed 18 = .ok (.iconst 0, 1) := by decide +kernel
theorem dX13_feed_19 : decode cX13_feed 19 = .ok (.putfield 150, 3) := by decide +kernel
theorem dX13_feed_22 : decode cX13_feed 22 = .ok (.iconst 0, 1) := by decide +kernel
theorem dX13_feed_23 : decode cX13_feed 23 = .ok (.ireturn, 1) := by decide +kernel
theorem dX13_feed_24 : decode cX13_feed 24 = .ok (.aload_n 0, 1) := by decide +kernel
theorem dX13_feed_25 : decode cX13_feed 25 = .ok (.getfield 150, 3) := by decide +kernel
theorem dX13_feed_28 : decode cX13_feed 28 = .ok (.iload_n 3, 1) := by decide +kernel
theorem dX13_feed_29 : decode cX13_feed 29 = .ok (.iadd, 1) := by decide +kernel
theorem dX13_feed_30 : decode cX13_feed 30 = .ok (.sipush 8000, 3) := by decide +kernel
theorem dX13_feed_33 : decode cX13_feed 33 = .ok (.if_icmp .le 6, 3) := by decide +kernel
theorem dX13_feed_36 : decode cX13_feed 36 = .ok (.bipush (-4), 2) := by decide +kernel
theorem dX13_feed_38 : decode cX13_feed 38 = .ok (.ireturn, 1) := by decide +kernel
theorem dX13_feed_39 : decode cX13_feed 39 = .ok (.iload_n 3, 1) := by decide +kernel
theorem dX13_feed_40 : decode cX13_feed 40 = .ok (.iconst 1, 1) := by decide +kernel
theorem dX13_feed_41 : decode cX13_feed 41 = .ok (.isub, 1) := by decide +kernel
theorem dX13_feed_42 : decode cX13_feed 42 = .ok (.istore 4, 2) := by decide +kernel
theorem dX13_feed_44 : decode cX13_feed 44 = .ok (.iload 4, 2) := by decide +kernel
theorem dX13_feed_46 : decode cX13_feed 46 = .ok (.ifCond .lt 37, 3) := by decide +kernel
theorem dX13_feed_49 : decode cX13_feed 49 = .ok (.aload_n 0, 1) := by decide +kernel
theorem dX13_feed_50 : decode cX13_feed 50 = .ok (.getfield 7, 3) := by decide +kernel
theorem dX13_feed_53 : decode cX13_feed 53 = .ok (.aload_n 0, 1) := by decide +kernel
theorem dX13_feed_54 : decode cX13_feed 54 = .ok (.getfield 150, 3) := by decide +kernel
theorem dX13_feed_57 : decode cX13_feed 57 = .ok (.lload_n 1, 1) := by decide +kernel
theorem dX13_feed_58 : decode cX13_feed 58 = .ok (.bipush 8, 2) := by decide +kernel
theorem dX13_feed_60 : decode cX13_feed 60 = .ok (.iload 4, 2) := by decide +kernel
theorem dX13_feed_62 : decode cX13_feed 62 = .ok (.imul, 1) := by decide +kernel
theorem dX13_feed_63 : decode cX13_feed 63 = .ok (.lshr, 1) := by decide +kernel
theorem dX13_feed_64 : decode cX13_feed 64 = .ok (.l2i, 1) := by decide +kernel
theorem dX13_feed_65 : decode cX13_feed 65 = .ok (.i2b, 1) := by decide +kernel
theorem dX13_feed_66 : decode cX13_feed 66 = .ok (.bastore, 1) := by decide +kernel
theorem dX13_feed_67 : decode cX13_feed 67 = .ok (.aload_n 0, 1) := by decide +kernel
theorem dX13_feed_68 : decode cX13_feed 68 = .ok (.dup, 1) := by decide +kernel
theorem dX13_feed_69 : decode cX13_feed 69 = .ok (.getfield 150, 3) := by decide +kernel
theorem dX13_feed_72 : decode cX13_feed 72 = .ok (.iconst 1, 1) := by decide +kernel
theorem dX13_feed_73 : decode cX13_feed 73 = .ok (.iadd, 1) := by decide +kernel
theorem dX13_feed_74 : decode cX13_feed 74 = .ok (.putfield 150, 3) := by decide +kernel
theorem dX13_feed_77 : decode cX13_feed 77 = .ok (.iinc 4 (-1), 3) := by decide +kernel
theorem dX13_feed_80 : decode cX13_feed 80 = .ok (.goto (-36), 3) := by decide +kernel
theorem dX13_feed_83 : decode cX13_feed 83 = .ok (.aload_n 0, 1) := by decide +kernel
theorem dX13_feed_84 : decode cX13_feed 84 = .ok (.getfield 150, 3) := by decide +kernel
theorem dX13_feed_87 : decode cX13_feed 87 = .ok (.ireturn, 1) := by decide +kernel
theorem dX13_fill_0 : decode cX13_fill 0 = .ok (.iload_n 1, 1) := by decide +kernel
theorem dX13_fill_1 : decode cX13_fill 1 = .ok (.ifCond .lt 13, 3) := by decide +kernel
theorem dX13_fill_4 : decode cX13_fill 4 = .ok (.iload_n 3, 1) := by decide +kernel
theorem dX13_fill_5 : decode cX13_fill 5 = .ok (.ifCond .lt 9, 3) := by decide +kernel
theorem dX13_fill_8 : decode cX13_fill 8 = .ok (.iload_n 3, 1) := by decide +kernel
theorem dX13_fill_9 : decode cX13_fill 9 = .ok (.bipush 7, 2) := by decide +kernel
theorem dX13_fill_11 : decode cX13_fill 11 = .ok (.if_icmp .le 6, 3) := by decide +kernel
theorem dX13_fill_14 : decode cX13_fill 14 = .ok (.bipush (-2), 2) := by decide +kernel
theorem dX13_fill_16 : decode cX13_fill 16 = .ok (.ireturn, 1) := by decide +kernel
theorem dX13_fill_17 : decode cX13_fill 17 = .ok (.iload_n 1, 1) := by decide +kernel
theorem dX13_fill_18 : decode cX13_fill 18 = .ok (.sipush 8000, 3) := by decide +kernel
theorem dX13_fill_21 : decode cX13_fill 21 = .ok (.aload_n 0, 1) := by decide +kernel
theorem dX13_fill_22 : decode cX13_fill 22 = .ok (.getfield 150, 3) := by decide +kernel
theorem dX13_fill_25 : decode cX13_fill 25 = .ok (.isub, 1) := by decide +kernel
theorem dX13_fill_26 : decode cX13_fill 26 = .ok (.if_icmp .le 6, 3) := by decide +kernel
theorem dX13_fill_29 : decode cX13_fill 29 = .ok (.bipush (-4), 2) := by decide +kernel
theorem dX13_fill_31 : decode cX13_fill 31 = .ok (.ireturn, 1) := by decide +kernel
theorem dX13_fill_32 : decode cX13_fill 32 = .ok (.iload_n 2, 1) := by decide +kernel
theorem dX13_fill_33 : decode cX13_fill 33 = .ok (.istore 4, 2) := by decide +kernel
theorem dX13_fill_35 : decode cX13_fill 35 = .ok (.iconst 0, 1) := by decide +kernel
theorem dX13_fill_36 : decode cX13_fill 36 = .ok (.istore 5, 2) := by decide +kernel
theorem dX13_fill_38 : decode cX13_fill 38 = .ok (.iload 5, 2) := by decide +kernel
theorem dX13_fill_40 : decode cX13_fill 40 = .ok (.iload_n 1, 1) := by decide +kernel
theorem dX13_fill_41 : decode cX13_fill 41 = .ok (.if_icmp .ge 46, 3) := by decide +kernel
theorem dX13_fill_44 : decode cX13_fill 44 = .ok (.iload 4, 2) := by decide +kernel
theorem dX13_fill_46 : decode cX13_fill 46 = .ok (.ldc 153, 2) := by decide +kernel
theorem dX13_fill_48 : decode cX13_fill 48 = .ok (.imul, 1) := by decide +kernel
theorem dX13_fill_49 : decode cX13_fill 49 = .ok (.ldc 154, 2) := by decide +kernel
theorem dX13_fill_51 : decode cX13_fill 51 = .ok (.iadd, 1) := by decide +kernel
theorem dX13_fill_52 : decode cX13_fill 52 = .ok (.istore 4, 2) := by decide +kernel
theorem dX13_fill_54 : decode cX13_fill 54 = .ok (.aload_n 0, 1) := by decide +kernel
theorem dX13_fill_55 : decode cX13_fill 55 = .ok (.getfield 7, 3) := by decide +kernel
theorem dX13_fill_58 : decode cX13_fill 58 = .ok (.aload_n 0, 1) := by decide +kernel
theorem dX13_fill_59 : decode cX13_fill 59 = .ok (.getfield 150, 3) := by decide +kernel
theorem dX13_fill_62 : decode cX13_fill 62 = .ok (.iload 4, 2) := by decide +kernel
theorem dX13_fill_64 : decode cX13_fill 64 = .ok (.bipush 24, 2) := by decide +kernel
theorem dX13_fill_66 : decode cX13_fill 66 = .ok (.iushr, 1) := by decide +kernel
theorem dX13_fill_67 : decode cX13_fill 67 = .ok (.iload_n 3, 1) := by decide +kernel
theorem dX13_fill_68 : decode cX13_fill 68 = .ok (.iushr, 1) := by decide +kernel
theorem dX13_fill_69 : decode cX13_fill 69 = .ok (.i2b, 1) := by decide +kernel
theorem dX13_fill_70 : decode cX13_fill 70 = .ok (.bastore, 1) := by decide +kernel
theorem dX13_fill_71 : decode cX13_fill 71 = .ok (.aload_n 0, 1) := by decide +kernel
theorem dX13_fill_72 : decode cX13_fill 72 = .ok (.dup, 1) := by decide +kernel
theorem dX13_fill_73 : decode cX13_fill 73 = .ok (.getfield 150, 3) := by decide +kernel
theorem dX13_fill_76 : decode cX13_fill 76 = .ok (.iconst 1, 1) := by decide +kernel
theorem dX13_fill_77 : decode cX13_fill 77 = .ok (.iadd, 1) := by decide +kernel
theorem dX13_fill_78 : decode cX13_fill 78 = .ok (.putfield 150, 3) := by decide +kernel
theorem dX13_fill_81 : decode cX13_fill 81 = .ok (.iinc 5 1, 3) := by decide +kernel
theorem dX13_fill_84 : decode cX13_fill 84 = .ok (.goto (-46), 3) := by decide +kernel
theorem dX13_fill_87 : decode cX13_fill 87 = .ok (.aload_n 0, 1) := by decide +kernel
theorem dX13_fill_88 : decode cX13_fill 88 = .ok (.getfield 150, 3) := by decide +kernel
theorem dX13_fill_91 : decode cX13_fill 91 = .ok (.ireturn, 1) := by decide +kernel
theorem dX13_size_0 : decode cX13_size 0 = .ok (.aload_n 0, 1) := by decide +kernel
theorem dX13_size_1 : decode cX13_size 1 = .ok (.getfield 150, 3) := by decide +kernel
theorem dX13_size_4 : decode cX13_size 4 = .ok (.ireturn, 1) := by decide +kernel
theorem dX13_set_0 : decode cX13_set 0 = .ok (.iload_n 1, 1) := by decide +kernel
theorem dX13_set_1 : decode cX13_set 1 = .ok (.ifCond .lt 22, 3) := by decide +kernel
theorem dX13_set_4 : decode cX13_set 4 = .ok (.iload_n 1, 1) := by decide +kernel
theorem dX13_set_5 : decode cX13_set 5 = .ok (.aload_n 0, 1) := by decide +kernel
theorem dX13_set_6 : decode cX13_set 6 = .ok (.getfield 150, 3) := by decide +kernel
theorem dX13_set_9 : decode cX13_set 9 = .ok (.if_icmp .ge 14, 3) := by decide +kernel
theorem dX13_set_12 : decode cX13_set 12 = .ok (.iload_n 2, 1) := by decide +kernel
theorem dX13_set_13 : decode cX13_set 13 = .ok (.ifCond .lt 10, 3) := by decide +kernel
theorem dX13_set_16 : decode cX13_set 16 = .ok (.iload_n 2, 1) := by decide +kernel
theorem dX13_set_17 : decode cX13_set 17 = .ok (.sipush 255, 3) := by decide +kernel
theorem dX13_set_20 : decode cX13_set 20 = .ok (.if_icmp .le 6, 3) := by decide +kernel
theorem dX13_set_23 : decode cX13_set 23 = .ok (.bipush (-2), 2) := by decide +kernel
theorem dX13_set_25 : decode cX13_set 25 = .ok (.ireturn, 1) := by decide +kernel
theorem dX13_set_26 : decode cX13_set 26 = .ok (.aload_n 0, 1) := by decide +kernel
theorem dX13_set_27 : decode cX13_set 27 = .ok (.getfield 7, 3) := by decide +kernel
theorem dX13_set_30 : decode cX13_set 30 = .ok (.iload_n 1, 1) := by decide +kernel
theorem dX13_set_31 : decode cX13_set 31 = .ok (.baload, 1) := by decide +kernel
theorem dX13_set_32 : decode cX13_set 32 = .ok (.sipush 255, 3) := by decide +kernel
theorem dX13_set_35 : decode cX13_set 35 = .ok (.iand, 1) := by decide +kernel
theorem dX13_set_36 : decode cX13_set 36 = .ok (.istore_n 3, 1) := by decide +kernel
theorem dX13_set_37 : decode cX13_set 37 = .ok (.aload_n 0, 1) := by decide +kernel
theorem dX13_set_38 : decode cX13_set 38 = .ok (.getfield 7, 3) := by decide +kernel
theorem dX13_set_41 : decode cX13_set 41 = .ok (.iload_n 1, 1) := by decide +kernel
theorem dX13_set_42 : decode cX13_set 42 = .ok (.iload_n 2, 1) := by decide +kernel
theorem dX13_set_43 : decode cX13_set 43 = .ok (.i2b, 1) := by decide +kernel
theorem dX13_set_44 : decode cX13_set 44 = .ok (.bastore, 1) := by decide +kernel
theorem dX13_set_45 : decode cX13_set 45 = .ok (.iload_n 3, 1) := by decide +kernel
theorem dX13_set_46 : decode cX13_set 46 = .ok (.ireturn, 1) := by decide +kernel
theorem dX13_cut_0 : decode cX13_cut 0 = .ok (.iload_n 1, 1) := by decide +kernel
theorem dX13_cut_1 : decode cX13_cut 1 = .ok (.ifCond .lt 11, 3) := by decide +kernel
theorem dX13_cut_4 : decode cX13_cut 4 = .ok (.iload_n 1, 1) := by decide +kernel
theorem dX13_cut_5 : decode cX13_cut 5 = .ok (.aload_n 0, 1) := by decide +kernel
theorem dX13_cut_6 : decode cX13_cut 6 = .ok (.getfield 150, 3) := by decide +kernel
theorem dX13_cut_9 : decode cX13_cut 9 = .ok (.if_icmp .le 6, 3) := by decide +kernel
theorem dX13_cut_12 : decode cX13_cut 12 = .ok (.bipush (-2), 2) := by decide +kernel
theorem dX13_cut_14 : decode cX13_cut 14 = .ok (.ireturn, 1) := by decide +kernel
theorem dX13_cut_15 : decode cX13_cut 15 = .ok (.aload_n 0, 1) := by decide +kernel
theorem dX13_cut_16 : decode cX13_cut 16 = .ok (.getfield 150, 3) := by decide +kernel
theorem dX13_cut_19 : decode cX13_cut 19 = .ok (.istore_n 2, 1) := by decide +kernel
theorem dX13_cut_20 : decode cX13_cut 20 = .ok (.aload_n 0, 1) := by decide +kernel
theorem dX13_cut_21 : decode cX13_cut 21 = .ok (.iload_n 1, 1) := by decide +kernel
theorem dX13_cut_22 : decode cX13_cut 22 = .ok (.putfield 150, 3) := by decide +kernel
theorem dX13_cut_25 : decode cX13_cut 25 = .ok (.iload_n 2, 1) := by decide +kernel
theorem dX13_cut_26 : decode cX13_cut 26 = .ok (.ireturn, 1) := by decide +kernel
theorem dX13_again_0 : decode cX13_again 0 = .ok (.iload_n 1, 1) := by decide +kernel
theorem dX13_again_1 : decode cX13_again 1 = .ok (.ifCond .lt 25, 3) := by decide +kernel
theorem dX13_again_4 : decode cX13_again 4 = .ok (.iload_n 2, 1) := by decide +kernel
theorem dX13_again_5 : decode cX13_again 5 = .ok (.ifCond .lt 21, 3) := by decide +kernel
theorem dX13_again_8 : decode cX13_again 8 = .ok (.iload_n 1, 1) := by decide +kernel
theorem dX13_again_9 : decode cX13_again 9 = .ok (.aload_n 0, 1) := by decide +kernel
theorem dX13_again_10 : decode cX13_again 10 = .ok (.getfield 150, 3) := by decide +kernel
theorem dX13_again_13 : decode cX13_again 13 = .ok (.if_icmp .gt 13, 3) := by decide +kernel
theorem dX13_again_16 : decode cX13_again 16 = .ok (.iload_n 2, 1) := by decide +kernel
theorem dX13_again_17 : decode cX13_again 17 = .ok (.aload_n 0, 1) := by decide +kernel
theorem dX13_again_18 : decode cX13_again 18 = .ok (.getfield 150, 3) := by decide +kernel
theorem dX13_again_21 : decode cX13_again 21 = .ok (.iload_n 1, 1) := by decide +kernel
theorem dX13_again_22 : decode cX13_again 22 = .ok (.isub, 1) := by decide +kernel
theorem dX13_again_23 : decode cX13_again 23 = .ok (.if_icmp .le 6, 3) := by decide +kernel
theorem dX13_again_26 : decode cX13_again 26 = .ok (.bipush (-2), 2) := by decide +kernel
theorem dX13_again_28 : decode cX13_again 28 = .ok (.ireturn, 1) := by decide +kernel
theorem dX13_again_29 : decode cX13_again 29 = .ok (.iload_n 2, 1) := by decide +kernel
theorem dX13_again_30 : decode cX13_again 30 = .ok (.sipush 8000, 3) := by decide +kernel
theorem dX13_again_33 : decode cX13_again 33 = .ok (.aload_n 0, 1) := by decide +kernel
theorem dX13_again_34 : decode cX13_again 34 = .ok (.getfield 150, 3) := by decide +kernel
theorem dX13_again_37 : decode cX13_again 37 = .ok (.isub, 1) := by decide +kernel
theorem dX13_again_38 : decode cX13_again 38 = .ok (.if_icmp .le 6, 3) := by decide +kernel
theorem dX13_again_41 : decode cX13_again 41 = .ok (.bipush (-4), 2) := by decide +kernel
theorem dX13_again_43 : decode cX13_again 43 = .ok (.ireturn, 1) := by decide +kernel
theorem dX13_again_44 : decode cX13_again 44 = .ok (.iconst 0, 1) := by decide +kernel
theorem dX13_again_45 : decode cX13_again 45 = .ok (.istore_n 3, 1) := by decide +kernel
theorem dX13_again_46 : decode cX13_again 46 = .ok (.iload_n 3, 1) := by decide +kernel
theorem dX13_again_47 : decode cX13_again 47 = .ok (.iload_n 2, 1) := by decide +kernel
theorem dX13_again_48 : decode cX13_again 48 = .ok (.if_icmp .ge 36, 3) := by decide +kernel
theorem dX13_again_51 : decode cX13_again 51 = .ok (.aload_n 0, 1) := by decide +kernel
theorem dX13_again_52 : decode cX13_again 52 = .ok (.getfield 7, 3) := by decide +kernel
theorem dX13_again_55 : decode cX13_again 55 = .ok (.aload_n 0, 1) := by decide +kernel
theorem dX13_again_56 : decode cX13_again 56 = .ok (.getfield 150, 3) := by decide +kernel
theorem dX13_again_59 : decode cX13_again 59 = .ok (.aload_n 0, 1) := by decide +kernel
theorem dX13_again_60 : decode cX13_again 60 = .ok (.getfield 7, 3) := by decide +kernel
theorem dX13_again_63 : decode cX13_again 63 = .ok (.iload_n 1, 1) := by decide +kernel
theorem dX13_again_64 : decode cX13_again 64 = .ok (.iload_n 3, 1) := by decide +kernel
theorem dX13_again_65 : decode cX13_again 65 = .ok (.iadd, 1) := by decide +kernel
theorem dX13_again_66 : decode cX13_again 66 = .ok (.baload, 1) := by decide +kernel
theorem dX13_again_67 : decode cX13_again 67 = .ok (.bastore, 1) := by decide +kernel
theorem dX13_again_68 : decode cX13_again 68 = .ok (.aload_n 0, 1) := by decide +kernel
theorem dX13_again_69 : decode cX13_again 69 = .ok (.dup, 1) := by decide +kernel
theorem dX13_again_70 : decode cX13_again 70 = .ok (.getfield 150, 3) := by decide +kernel
theorem dX13_again_73 : decode cX13_again 73 = .ok (.iconst 1, 1) := by decide +kernel
theorem dX13_again_74 : decode cX13_again 74 = .ok (.iadd, 1) := by decide +kernel
theorem dX13_again_75 : decode cX13_again 75 = .ok (.putfield 150, 3) := by decide +kernel
theorem dX13_again_78 : decode cX13_again 78 = .ok (.iinc 3 1, 3) := by decide +kernel
theorem dX13_again_81 : decode cX13_again 81 = .ok (.goto (-35), 3) := by decide +kernel
theorem dX13_again_84 : decode cX13_again 84 = .ok (.aload_n 0, 1) := by decide +kernel
theorem dX13_again_85 : decode cX13_again 85 = .ok (.getfield 150, 3) := by decide +kernel
theorem dX13_again_88 : decode cX13_again 88 = .ok (.ireturn, 1) := by decide +kernel
theorem dX13_swap_0 : decode cX13_swap 0 = .ok (.aload_n 0, 1) := by decide +kernel
theorem dX13_swap_1 : decode cX13_swap 1 = .ok (.getfield 150, 3) := by decide +kernel
theorem dX13_swap_4 : decode cX13_swap 4 = .ok (.aload_n 0, 1) := by decide +kernel
theorem dX13_swap_5 : decode cX13_swap 5 = .ok (.getfield 155, 3) := by decide +kernel
theorem dX13_swap_8 : decode cX13_swap 8 = .ok (.if_icmp .le 10, 3) := by decide +kernel
theorem dX13_swap_11 : decode cX13_swap 11 = .ok (.aload_n 0, 1) := by decide +kernel
theorem dX13_swap_12 : decode cX13_swap 12 = .ok (.getfield 150, 3) := by decide +kernel
theorem dX13_swap_15 : decode cX13_swap 15 = .ok (.goto 7, 3) := by decide +kernel
theorem dX13_swap_18 : decode cX13_swap 18 = .ok (.aload_n 0, 1) := by decide +kernel
theorem dX13_swap_19 : decode cX13_swap 19 = .ok (.getfield 155, 3) := by decide +kernel
theorem dX13_swap_22 : decode cX13_swap 22 = .ok (.istore_n 1, 1) := by decide +kernel
theorem dX13_swap_23 : decode cX13_swap 23 = .ok (.iconst 0, 1) := by decide +kernel
theorem dX13_swap_24 : decode cX13_swap 24 = .ok (.istore_n 2, 1) := by decide +kernel
theorem dX13_swap_25 : decode cX13_swap 25 = .ok (.iload_n 2, 1) := by decide +kernel
theorem dX13_swap_26 : decode cX13_swap 26 = .ok (.iload_n 1, 1) := by decide +kernel
theorem dX13_swap_27 : decode cX13_swap 27 = .ok (.if_icmp .ge 35, 3) := by decide +kernel
theorem dX13_swap_30 : decode cX13_swap 30 = .ok (.aload_n 0, 1) := by decide +kernel
theorem dX13_swap_31 : decode cX13_swap 31 = .ok (.getfield 7, 3) := by decide +kernel
theorem dX13_swap_34 : decode cX13_swap 34 = .ok (.iload_n 2, 1) := by decide +kernel
theorem dX13_swap_35 : decode cX13_swap 35 = .ok (.baload, 1) := by decide +kernel
theorem dX13_swap_36 : decode cX13_swap 36 = .ok (.istore_n 3, 1) := by decide +kernel
theorem dX13_swap_37 : decode cX13_swap 37 = .ok (.aload_n 0, 1) := by decide +kernel
theorem dX13_swap_38 : decode cX13_swap 38 = .ok (.getfield 7, 3) := by decide +kernel
theorem dX13_swap_41 : decode cX13_swap 41 = .ok (.iload_n 2, 1) := by decide +kernel
theorem dX13_swap_42 : decode cX13_swap 42 = .ok (.aload_n 0, 1) := by decide +kernel
theorem dX13_swap_43 : decode cX13_swap 43 = .ok (.getfield 13, 3) := by decide +kernel
theorem dX13_swap_46 : decode cX13_swap 46 = .ok (.iload_n 2, 1) := by decide +kernel
theorem dX13_swap_47 : decode cX13_swap 47 = .ok (.baload, 1) := by decide +kernel
theorem dX13_swap_48 : decode cX13_swap 48 = .ok (.bastore, 1) := by decide +kernel
theorem dX13_swap_49 : decode cX13_swap 49 = .ok (.aload_n 0, 1) := by decide +kernel
theorem dX13_swap_50 : decode cX13_swap 50 = .ok (.getfield 13, 3) := by decide +kernel
theorem dX13_swap_53 : decode cX13_swap 53 = .ok (.iload_n 2, 1) := by decide +kernel
theorem dX13_swap_54 : decode cX13_swap 54 = .ok (.iload_n 3, 1) := by decide +kernel
theorem dX13_swap_55 : decode cX13_swap 55 = .ok (.bastore, 1) := by decide +kernel
theorem dX13_swap_56 : decode cX13_swap 56 = .ok (.iinc 2 1, 3) := by decide +kernel
theorem dX13_swap_59 : decode cX13_swap 59 = .ok (.goto (-34), 3) := by decide +kernel
theorem dX13_swap_62 : decode cX13_swap 62 = .ok (.aload_n 0, 1) := by decide +kernel
theorem dX13_swap_63 : decode cX13_swap 63 = .ok (.getfield 150, 3) := by decide +kernel
theorem dX13_swap_66 : decode cX13_swap 66 = .ok (.istore_n 2, 1) := by decide +kernel
theorem dX13_swap_67 : decode cX13_swap 67 = .ok (.aload_n 0, 1) := by decide +kernel
theorem dX13_swap_68 : decode cX13_swap 68 = .ok (.aload_n 0, 1) := by decide +kernel
theorem dX13_swap_69 : decode cX13_swap 69 = .ok (.getfield 155, 3) := by decide +kernel
theorem dX13_swap_72 : decode cX13_swap 72 = .ok (.putfield 150, 3) := by decide +kernel
theorem dX13_swap_75 : decode cX13_swap 75 = .ok (.aload_n 0, 1) := by decide +kernel
theorem dX13_swap_76 : decode cX13_swap 76 = .ok (.iload_n 2, 1) := by decide +kernel
theorem dX13_swap_77 : decode cX13_swap 77 = .ok (.putfield 155, 3) := by decide +kernel
theorem dX13_swap_80 : decode cX13_swap 80 = .ok (.aload_n 0, 1) := by decide +kernel
theorem dX13_swap_81 : decode cX13_swap 81 = .ok (.getfield 150, 3) := by decide +kernel
theorem dX13_swap_84 : decode cX13_swap 84 = .ok (.ireturn, 1) := by decide +kernel
theorem dX13_differ_0 : decode cX13_differ 0 = .ok (.aload_n 0, 1) := by decide +kernel
theorem dX13_differ_1 : decode cX13_differ 1 = .ok (.getfield 150, 3) := by decide +kernel
theorem dX13_differ_4 : decode cX13_differ 4 = .ok (.aload_n 0, 1) := by decide +kernel
theorem dX13_differ_5 : decode cX13_differ 5 = .ok (.getfield 155, 3) := by decide +kernel
theorem dX13_differ_8 : decode cX13_differ 8 = .ok (.if_icmp .ge 10, 3) := by decide +kernel
theorem dX13_differ_11 : decode cX13_differ 11 = .ok (.aload_n 0, 1) := by decide +kernel
theorem dX13_differ_12 : decode cX13_differ 12 = .ok (.getfield 150, 3) := by decide +kernel
theorem dX13_differ_15 : decode cX13_differ 15 = .ok (.goto 7, 3) := by decide +kernel
theorem dX13_differ_18 : decode cX13_differ 18 = .ok (.aload_n 0, 1) := by decide +kernel
theorem dX13_differ_19 : decode cX13_differ 19 = .ok (.getfield 155, 3) := by decide +kernel
theorem dX13_differ_22 : decode cX13_differ 22 = .ok (.istore_n 1, 1) := by decide +kernel
theorem dX13_differ_23 : decode cX13_differ 23 = .ok (.iconst 0, 1) := by decide +kernel
theorem dX13_differ_24 : decode cX13_differ 24 = .ok (.istore_n 2, 1) := by decide +kernel
theorem dX13_differ_25 : decode cX13_differ 25 = .ok (.iload_n 2, 1) := by decide +kernel
theorem dX13_differ_26 : decode cX13_differ 26 = .ok (.iload_n 1, 1) := by decide +kernel
theorem dX13_differ_27 : decode cX13_differ 27 = .ok (.if_icmp .ge 26, 3) := by decide +kernel
theorem dX13_differ_30 : decode cX13_differ 30 = .ok (.aload_n 0, 1) := by decide +kernel
theorem dX13_differ_31 : decode cX13_differ 31 = .ok (.getfield 7, 3) := by decide +kernel
theorem dX13_differ_34 : decode cX13_differ 34 = .ok (.iload_n 2, 1) := by decide +kernel
theorem dX13_differ_35 : decode cX13_differ 35 = .ok (.baload, 1) := by decide +kernel
theorem dX13_differ_36 : decode cX13_differ 36 = .ok (.aload_n 0, 1) := by decide +kernel
theorem dX13_differ_37 : decode cX13_differ 37 = .ok (.getfield 13, 3) := by decide +kernel
theorem dX13_differ_40 : decode cX13_differ 40 = .ok (.iload_n 2, 1) := by decide +kernel
theorem dX13_differ_41 : decode cX13_differ 41 = .ok (.baload, 1) := by decide +kernel
theorem dX13_differ_42 : decode cX13_differ 42 = .ok (.if_icmp .eq 5, 3) := by decide +kernel
theorem dX13_differ_45 : decode cX13_differ 45 = .ok (.iload_n 2, 1) := by decide +kernel
theorem dX13_differ_46 : decode cX13_differ 46 = .ok (.ireturn, 1) := by decide +kernel
theorem dX13_differ_47 : decode cX13_differ 47 = .ok (.iinc 2 1, 3) := by decide +kernel
theorem dX13_differ_50 : decode cX13_differ 50 = .ok (.goto (-25), 3) := by decide +kernel
theorem dX13_differ_53 : decode cX13_differ 53 = .ok (.aload_n 0, 1) := by decide +kernel
theorem dX13_differ_54 : decode cX13_differ 54 = .ok (.getfield 150, 3) := by decide +kernel
theorem dX13_differ_57 : decode cX13_differ 57 = .ok (.aload_n 0, 1) := by decide +kernel
theorem dX13_differ_58 : decode cX13_differ 58 = .ok (.getfield 155, 3) := by decide +kernel
theorem dX13_differ_61 : decode cX13_differ 61 = .ok (.if_icmp .ne 8, 3) := by decide +kernel
theorem dX13_differ_64 : decode cX13_differ 64 = .ok (.bipush (-3), 2) := by decide +kernel
theorem dX13_differ_66 : decode cX13_differ 66 = .ok (.goto 4, 3) := by decide +kernel
theorem dX13_differ_69 : decode cX13_differ 69 = .ok (.iload_n 1, 1) := by decide +kernel
theorem dX13_differ_70 : decode cX13_differ 70 = .ok (.ireturn, 1) := by decide +kernel
theorem dX13_out_0 : decode cX13_out 0 = .ok (.iload_n 1, 1) := by decide +kernel
theorem dX13_out_1 : decode cX13_out 1 = .ok (.ifCond .lt 11, 3) := by decide +kernel
theorem dX13_out_4 : decode cX13_out 4 = .ok (.iload_n 1, 1) := by decide +kernel
theorem dX13_out_5 : decode cX13_out 5 = .ok (.aload_n 0, 1) := by decide +kernel
theorem dX13_out_6 : decode cX13_out 6 = .ok (.getfield 155, 3) := by decide +kernel
theorem dX13_out_9 : decode cX13_out 9 = .ok (.if_icmp .lt 8, 3) := by decide +kernel
theorem dX13_out_12 : decode cX13_out 12 = .ok (.bipush (-2), 2) := by decide +kernel
theorem dX13_out_14 : decode cX13_out 14 = .ok (.goto 13, 3) := by decide +kernel
theorem dX13_out_17 : decode cX13_out 17 = .ok (.aload_n 0, 1) := by decide +kernel
theorem dX13_out_18 : decode cX13_out 18 = .ok (.getfield 13, 3) := by decide +kernel
theorem dX13_out_21 : decode cX13_out 21 = .ok (.iload_n 1, 1) := by decide +kernel
theorem dX13_out_22 : decode cX13_out 22 = .ok (.baload, 1) := by decide +kernel
theorem dX13_out_23 : decode cX13_out 23 = .ok (.sipush 255, 3) := by decide +kernel
theorem dX13_out_26 : decode cX13_out 26 = .ok (.iand, 1) := by decide +kernel
theorem dX13_out_27 : decode cX13_out 27 = .ok (.ireturn, 1) := by decide +kernel
theorem dX13_place_0 : decode cX13_place 0 = .ok (.aload_n 0, 1) := by decide +kernel
theorem dX13_place_1 : decode cX13_place 1 = .ok (.getfield 16, 3) := by decide +kernel
theorem dX13_place_4 : decode cX13_place 4 = .ok (.ireturn, 1) := by decide +kernel
theorem dX13_fails_0 : decode cX13_fails 0 = .ok (.aload_n 0, 1) := by decide +kernel
theorem dX13_fails_1 : decode cX13_fails 1 = .ok (.getfield 158, 3) := by decide +kernel
theorem dX13_fails_4 : decode cX13_fails 4 = .ok (.ifCond .ne 13, 3) := by decide +kernel
theorem dX13_fails_7 : decode cX13_fails 7 = .ok (.aload_n 0, 1) := by decide +kernel
theorem dX13_fails_8 : decode cX13_fails 8 = .ok (.iload_n 1, 1) := by decide +kernel
theorem dX13_fails_9 : decode cX13_fails 9 = .ok (.putfield 158, 3) := by decide +kernel
theorem dX13_fails_12 : decode cX13_fails 12 = .ok (.aload_n 0, 1) := by decide +kernel
theorem dX13_fails_13 : decode cX13_fails 13 = .ok (.iload_n 2, 1) := by decide +kernel
theorem dX13_fails_14 : decode cX13_fails 14 = .ok (.putfield 16, 3) := by decide +kernel
theorem dX13_fails_17 : decode cX13_fails 17 = .ok (.iconst 0, 1) := by decide +kernel
theorem dX13_fails_18 : decode cX13_fails 18 = .ok (.ireturn, 1) := by decide +kernel
theorem dX13_turn_0 : decode cX13_turn 0 = .ok (.lload_n 0, 1) := by decide +kernel
theorem dX13_turn_1 : decode cX13_turn 1 = .ok (.iload_n 2, 1) := by decide +kernel
theorem dX13_turn_2 : decode cX13_turn 2 = .ok (.lshl, 1) := by decide +kernel
theorem dX13_turn_3 : decode cX13_turn 3 = .ok (.lload_n 0, 1) := by decide +kernel
theorem dX13_turn_4 : decode cX13_turn 4 = .ok (.bipush 64, 2) := by decide +kernel
theorem dX13_turn_6 : decode cX13_turn 6 = .ok (.iload_n 2, 1) := by decide +kernel
theorem dX13_turn_7 : decode cX13_turn 7 = .ok (.isub, 1) := by decide +kernel
theorem dX13_turn_8 : decode cX13_turn 8 = .ok (.lushr, 1) := by decide +kernel
theorem dX13_turn_9 : decode cX13_turn 9 = .ok (.lor, 1) := by decide +kernel
theorem dX13_turn_10 : decode cX13_turn 10 = .ok (.lreturn, 1) := by decide +kernel
theorem dX13_round_0 : decode cX13_round 0 = .ok (.lload_n 0, 1) := by decide +kernel
theorem dX13_round_1 : decode cX13_round 1 = .ok (.lload_n 2, 1) := by decide +kernel
theorem dX13_round_2 : decode cX13_round 2 = .ok (.ldc2_w 161, 3) := by decide +kernel
theorem dX13_round_5 : decode cX13_round 5 = .ok (.lmul, 1) := by decide +kernel
theorem dX13_round_6 : decode cX13_round 6 = .ok (.ladd, 1) := by decide +kernel
theorem dX13_round_7 : decode cX13_round 7 = .ok (.bipush 31, 2) := by decide +kernel
theorem dX13_round_9 : decode cX13_round 9 = .ok (.invokestatic 163, 3) := by decide +kernel
theorem dX13_round_12 : decode cX13_round 12 = .ok (.ldc2_w 167, 3) := by decide +kernel
theorem dX13_round_15 : decode cX13_round 15 = .ok (.lmul, 1) := by decide +kernel
theorem dX13_round_16 : decode cX13_round 16 = .ok (.lreturn, 1) := by decide +kernel
theorem dX13_eight_0 : decode cX13_eight 0 = .ok (.lconst 0, 1) := by decide +kernel
theorem dX13_eight_1 : decode cX13_eight 1 = .ok (.lstore_n 3, 1) := by decide +kernel
theorem dX13_eight_2 : decode cX13_eight 2 = .ok (.iload_n 2, 1) := by decide +kernel
theorem dX13_eight_3 : decode cX13_eight 3 = .ok (.iconst 1, 1) := by decide +kernel
theorem dX13_eight_4 : decode cX13_eight 4 = .ok (.isub, 1) := by decide +kernel
theorem dX13_eight_5 : decode cX13_eight 5 = .ok (.istore 5, 2) := by decide +kernel
theorem dX13_eight_7 : decode cX13_eight 7 = .ok (.iload 5, 2) := by decide +kernel
theorem dX13_eight_9 : decode cX13_eight 9 = .ok (.ifCond .lt 26, 3) := by decide +kernel
theorem dX13_eight_12 : decode cX13_eight 12 = .ok (.lload_n 3, 1) := by decide +kernel
theorem dX13_eight_13 : decode cX13_eight 13 = .ok (.bipush 8, 2) := by decide +kernel
theorem dX13_eight_15 : decode cX13_eight 15 = .ok (.lshl, 1) := by decide +kernel
theorem dX13_eight_16 : decode cX13_eight 16 = .ok (.aload_n 0, 1) := by decide +kernel
theorem dX13_eight_17 : decode cX13_eight 17 = .ok (.iload_n 1, 1) := by decide +kernel
theorem dX13_eight_18 : decode cX13_eight 18 = .ok (.iload 5, 2) := by decide +kernel
theorem dX13_eight_20 : decode cX13_eight 20 = .ok (.iadd, 1) := by decide +kernel
theorem dX13_eight_21 : decode cX13_eight 21 = .ok (.baload, 1) := by decide +kernel
theorem dX13_eight_22 : decode cX13_eight 22 = .ok (.sipush 255, 3) := by decide +kernel
theorem dX13_eight_25 : decode cX13_eight 25 = .ok (.iand, 1) := by decide +kernel
theorem dX13_eight_26 : decode cX13_eight 26 = .ok (.i2l, 1) := by decide +kernel
theorem dX13_eight_27 : decode cX13_eight 27 = .ok (.lor, 1) := by decide +kernel
theorem dX13_eight_28 : decode cX13_eight 28 = .ok (.lstore_n 3, 1) := by decide +kernel
theorem dX13_eight_29 : decode cX13_eight 29 = .ok (.iinc 5 (-1), 3) := by decide +kernel
theorem dX13_eight_32 : decode cX13_eight 32 = .ok (.goto (-25), 3) := by decide +kernel
theorem dX13_eight_35 : decode cX13_eight 35 = .ok (.lload_n 3, 1) := by decide +kernel
theorem dX13_eight_36 : decode cX13_eight 36 = .ok (.lreturn, 1) := by decide +kernel
theorem dX13_sumOf_0 : decode cX13_sumOf 0 = .ok (.iload_n 1, 1) := by decide +kernel
theorem dX13_sumOf_1 : decode cX13_sumOf 1 = .ok (.istore_n 3, 1) := by decide +kernel
theorem dX13_sumOf_2 : decode cX13_sumOf 2 = .ok (.iload_n 1, 1) := by decide +kernel
theorem dX13_sumOf_3 : decode cX13_sumOf 3 = .ok (.iload_n 2, 1) := by decide +kernel
theorem dX13_sumOf_4 : decode cX13_sumOf 4 = .ok (.iadd, 1) := by decide +kernel
theorem dX13_sumOf_5 : decode cX13_sumOf 5 = .ok (.istore 4, 2) := by decide +kernel
theorem dX13_sumOf_7 : decode cX13_sumOf 7 = .ok (.ldc2_w 169, 3) := by decide +kernel
theorem dX13_sumOf_10 : decode cX13_sumOf 10 = .ok (.lstore 5, 2) := by decide +kernel
theorem dX13_sumOf_12 : decode cX13_sumOf 12 = .ok (.iload_n 2, 1) := by decide +kernel
theorem dX13_sumOf_13 : decode cX13_sumOf 13 = .ok (.bipush 32, 2) := by decide +kernel
theorem dX13_sumOf_15 : decode cX13_sumOf 15 = .ok (.if_icmp .lt 209, 3) := by decide +kernel
theorem dX13_sumOf_18 : decode cX13_sumOf 18 = .ok (.ldc2_w 171, 3) := by decide +kernel
theorem dX13_sumOf_21 : decode cX13_sumOf 21 = .ok (.lstore 7, 2) := by decide +kernel
theorem dX13_sumOf_23 : decode cX13_sumOf 23 = .ok (.ldc2_w 161, 3) := by decide +kernel
theorem dX13_sumOf_26 : decode cX13_sumOf 26 = .ok (.lstore 9, 2) := by decide +kernel
theorem dX13_sumOf_28 : decode cX13_sumOf 28 = .ok (.lconst 0, 1) := by decide +kernel
theorem dX13_sumOf_29 : decode cX13_sumOf 29 = .ok (.lstore 11, 2) := by decide +kernel
theorem dX13_sumOf_31 : decode cX13_sumOf 31 = .ok (.ldc2_w 173, 3) := by decide +kernel
theorem dX13_sumOf_34 : decode cX13_sumOf 34 = .ok (.lstore 13, 2) := by decide +kernel
theorem dX13_sumOf_36 : decode cX13_sumOf 36 = .ok (.iload 4, 2) := by decide +kernel
theorem dX13_sumOf_38 : decode cX13_sumOf 38 = .ok (.iload_n 3, 1) := by decide +kernel
theorem dX13_sumOf_39 : decode cX13_sumOf 39 = .ok (.isub, 1) := by decide +kernel
theorem dX13_sumOf_40 : decode cX13_sumOf 40 = .ok (.bipush 32, 2) := by decide +kernel
theorem dX13_sumOf_42 : decode cX13_sumOf 42 = .ok (.if_icmp .lt 74, 3) := by decide +kernel
theorem dX13_sumOf_45 : decode cX13_sumOf 45 = .ok (.lload 7, 2) := by decide +kernel
theorem dX13_sumOf_47 : decode cX13_sumOf 47 = .ok (.aload_n 0, 1) := by decide +kernel
theorem dX13_sumOf_48 : decode cX13_sumOf 48 = .ok (.iload_n 3, 1) := by decide +kernel
theorem dX13_sumOf_49 : decode cX13_sumOf 49 = .ok (.bipush 8, 2) := by decide +kernel
theorem dX13_sumOf_51 : decode cX13_sumOf 51 = .ok (.invokestatic 175, 3) := by decide +kernel
theorem dX13_sumOf_54 : decode cX13_sumOf 54 = .ok (.invokestatic 179, 3) := by decide +kernel
theorem dX13_sumOf_57 : decode cX13_sumOf 57 = .ok (.lstore 7, 2) := by decide +kernel
theorem dX13_sumOf_59 : decode cX13_sumOf 59 = .ok (.lload 9, 2) := by decide +kernel
theorem dX13_sumOf_61 : decode cX13_sumOf 61 = .ok (.aload_n 0, 1) := by decide +kernel
theorem dX13_sumOf_62 : decode cX13_sumOf 62 = .ok (.iload_n 3, 1) := by decide +kernel
theorem dX13_sumOf_63 : decode cX13_sumOf 63 = .ok (.bipush 8, 2) := by decide +kernel
theorem dX13_sumOf_65 : decode cX13_sumOf 65 = .ok (.iadd, 1) := by decide +kernel
theorem dX13_sumOf_66 : decode cX13_sumOf 66 = .ok (.bipush 8, 2) := by decide +kernel
theorem dX13_sumOf_68 : decode cX13_sumOf 68 = .ok (.invokestatic 175, 3) := by decide +kernel
theorem dX13_sumOf_71 : decode cX13_sumOf 71 = .ok (.invokestatic 179, 3) := by decide +kernel
theorem dX13_sumOf_74 : decode cX13_sumOf 74 = .ok (.lstore 9, 2) := by decide +kernel
theorem dX13_sumOf_76 : decode cX13_sumOf 76 = .ok (.lload 11, 2) := by decide +kernel
theorem dX13_sumOf_78 : decode cX13_sumOf 78 = .ok (.aload_n 0, 1) := by decide +kernel
theorem dX13_sumOf_79 : decode cX13_sumOf 79 = .ok (.iload_n 3, 1) := by decide +kernel
theorem dX13_sumOf_80 : decode cX13_sumOf 80 = .ok (.bipush 16, 2) := by decide +kernel
theorem dX13_sumOf_82 : decode cX13_sumOf 82 = .ok (.iadd, 1) := by decide +kernel
theorem dX13_sumOf_83 : decode cX13_sumOf 83 = .ok (.bipush 8, 2) := by decide +kernel
theorem dX13_sumOf_85 : decode cX13_sumOf 85 = .ok (.invokestatic 175, 3) := by decide +kernel
theorem dX13_sumOf_88 : decode cX13_sumOf 88 = .ok (.invokestatic 179, 3) := by decide +kernel
theorem dX13_sumOf_91 : decode cX13_sumOf 91 = .ok (.lstore 11, 2) := by decide +kernel
theorem dX13_sumOf_93 : decode cX13_sumOf 93 = .ok (.lload 13, 2) := by decide +kernel
theorem dX13_sumOf_95 : decode cX13_sumOf 95 = .ok (.aload_n 0, 1) := by decide +kernel
theorem dX13_sumOf_96 : decode cX13_sumOf 96 = .ok (.iload_n 3, 1) := by decide +kernel
theorem dX13_sumOf_97 : decode cX13_sumOf 97 = .ok (.bipush 24, 2) := by decide +kernel
theorem dX13_sumOf_99 : decode cX13_sumOf 99 = .ok (.iadd, 1) := by decide +kernel
theorem dX13_sumOf_100 : decode cX13_sumOf 100 = .ok (.bipush 8, 2) := by decide +kernel
theorem dX13_sumOf_102 : decode cX13_sumOf 102 = .ok (.invokestatic 175, 3) := by decide +kernel
theorem dX13_sumOf_105 : decode cX13_sumOf 105 = .ok (.invokestatic 179, 3) := by decide +kernel
theorem dX13_sumOf_108 : decode cX13_sumOf 108 = .ok (.lstore 13, 2) := by decide +kernel
theorem dX13_sumOf_110 : decode cX13_sumOf 110 = .ok (.iinc 3 32, 3) := by decide +kernel
theorem dX13_sumOf_113 : decode cX13_sumOf 113 = .ok (.goto (-77), 3) := by decide +kernel
theorem dX13_sumOf_116 : decode cX13_sumOf 116 = .ok (.lload 7, 2) := by decide +kernel
theorem dX13_sumOf_118 : decode cX13_sumOf 118 = .ok (.iconst 1, 1) := by decide +kernel
theorem dX13_sumOf_119 : decode cX13_sumOf 119 = .ok (.invokestatic 163, 3) := by decide +kernel
theorem dX13_sumOf_122 : decode cX13_sumOf 122 = .ok (.lload 9, 2) := by decide +kernel
theorem dX13_sumOf_124 : decode cX13_sumOf 124 = .ok (.bipush 7, 2) := by decide +kernel
theorem dX13_sumOf_126 : decode cX13_sumOf 126 = .ok (.invokestatic 163, 3) := by decide +kernel
theorem dX13_sumOf_129 : decode cX13_sumOf 129 = .ok (.ladd, 1) := by decide +kernel
theorem dX13_sumOf_130 : decode cX13_sumOf 130 = .ok (.lload 11, 2) := by decide +kernel
theorem dX13_sumOf_132 : decode cX13_sumOf 132 = .ok (.bipush 12, 2) := by decide +kernel
theorem dX13_sumOf_134 : decode cX13_sumOf 134 = .ok (.invokestatic 163, 3) := by decide +kernel
theorem dX13_sumOf_137 : decode cX13_sumOf 137 = .ok (.ladd, 1) := by decide +kernel
theorem dX13_sumOf_138 : decode cX13_sumOf 138 = .ok (.lload 13, 2) := by decide +kernel
theorem dX13_sumOf_140 : decode cX13_sumOf 140 = .ok (.bipush 18, 2) := by decide +kernel
theorem dX13_sumOf_142 : decode cX13_sumOf 142 = .ok (.invokestatic 163, 3) := by decide +kernel
theorem dX13_sumOf_145 : decode cX13_sumOf 145 = .ok (.ladd, 1) := by decide +kernel
theorem dX13_sumOf_146 : decode cX13_sumOf 146 = .ok (.lstore 5, 2) := by decide +kernel
theorem dX13_sumOf_148 : decode cX13_sumOf 148 = .ok (.lload 5, 2) := by decide +kernel
theorem dX13_sumOf_150 : decode cX13_sumOf 150 = .ok (.lconst 0, 1) := by decide +kernel
theorem dX13_sumOf_151 : decode cX13_sumOf 151 = .ok (.lload 7, 2) := by decide +kernel
theorem dX13_sumOf_153 : decode cX13_sumOf 153 = .ok (.invokestatic 179, 3) := by decide +kernel
theorem dX13_sumOf_156 : decode cX13_sumOf 156 = .ok (.lxor, 1) := by decide +kernel
theorem dX13_sumOf_157 : decode cX13_sumOf 157 = .ok (.ldc2_w 167, 3) := by decide +kernel
theorem dX13_sumOf_160 : decode cX13_sumOf 160 = .ok (.lmul, 1) := by decide +kernel
theorem dX13_sumOf_161 : decode cX13_sumOf 161 = .ok (.ldc2_w 183, 3) := by decide +kernel
theorem dX13_sumOf_164 : decode cX13_sumOf 164 = .ok (.ladd, 1) := by decide +kernel
theorem dX13_sumOf_165 : decode cX13_sumOf 165 = .ok (.lstore 5, 2) := by decide +kernel
theorem dX13_sumOf_167 : decode cX13_sumOf 167 = .ok (.lload 5, 2) := by decide +kernel
theorem dX13_sumOf_169 : decode cX13_sumOf 169 = .ok (.lconst 0, 1) := by decide +kernel
theorem dX13_sumOf_170 : decode cX13_sumOf 170 = .ok (.lload 9, 2) := by decide +kernel
theorem dX13_sumOf_172 : decode cX13_sumOf 172 = .ok (.invokestatic 179, 3) := by decide +kernel
theorem dX13_sumOf_175 : decode cX13_sumOf 175 = .ok (.lxor, 1) := by decide +kernel
theorem dX13_sumOf_176 : decode cX13_sumOf 176 = .ok (.ldc2_w 167, 3) := by decide +kernel
theorem dX13_sumOf_179 : decode cX13_sumOf 179 = .ok (.lmul, 1) := by decide +kernel
theorem dX13_sumOf_180 : decode cX13_sumOf 180 = .ok (.ldc2_w 183, 3) := by decide +kernel
theorem dX13_sumOf_183 : decode cX13_sumOf 183 = .ok (.ladd, 1) := by decide +kernel
theorem dX13_sumOf_184 : decode cX13_sumOf 184 = .ok (.lstore 5, 2) := by decide +kernel
theorem dX13_sumOf_186 : decode cX13_sumOf 186 = .ok (.lload 5, 2) := by decide +kernel
theorem dX13_sumOf_188 : decode cX13_sumOf 188 = .ok (.lconst 0, 1) := by decide +kernel
theorem dX13_sumOf_189 : decode cX13_sumOf 189 = .ok (.lload 11, 2) := by decide +kernel
theorem dX13_sumOf_191 : decode cX13_sumOf 191 = .ok (.invokestatic 179, 3) := by decide +kernel
theorem dX13_sumOf_194 : decode cX13_sumOf 194 = .ok (.lxor, 1) := by decide +kernel
theorem dX13_sumOf_195 : decode cX13_sumOf 195 = .ok (.ldc2_w 167, 3) := by decide +kernel
theorem dX13_sumOf_198 : decode cX13_sumOf 198 = .ok (.lmul, 1) := by decide +kernel
theorem dX13_sumOf_199 : decode cX13_sumOf 199 = .ok (.ldc2_w 183, 3) := by decide +kernel
theorem dX13_sumOf_202 : decode cX13_sumOf 202 = .ok (.ladd, 1) := by decide +kernel
theorem dX13_sumOf_203 : decode cX13_sumOf 203 = .ok (.lstore 5, 2) := by decide +kernel
theorem dX13_sumOf_205 : decode cX13_sumOf 205 = .ok (.lload 5, 2) := by decide +kernel
theorem dX13_sumOf_207 : decode cX13_sumOf 207 = .ok (.lconst 0, 1) := by decide +kernel
theorem dX13_sumOf_208 : decode cX13_sumOf 208 = .ok (.lload 13, 2) := by decide +kernel
theorem dX13_sumOf_210 : decode cX13_sumOf 210 = .ok (.invokestatic 179, 3) := by decide +kernel
theorem dX13_sumOf_213 : decode cX13_sumOf 213 = .ok (.lxor, 1) := by decide +kernel
theorem dX13_sumOf_214 : decode cX13_sumOf 214 = .ok (.ldc2_w 167, 3) := by decide +kernel
theorem dX13_sumOf_217 : decode cX13_sumOf 217 = .ok (.lmul, 1) := by decide +kernel
theorem dX13_sumOf_218 : decode cX13_sumOf 218 = .ok (.ldc2_w 183, 3) := by decide +kernel
theorem dX13_sumOf_221 : decode cX13_sumOf 221 = .ok (.ladd, 1) := by decide +kernel
theorem dX13_sumOf_222 : decode cX13_sumOf 222 = .ok (.lstore 5, 2) := by decide +kernel
theorem dX13_sumOf_224 : decode cX13_sumOf 224 = .ok (.lload 5, 2) := by decide +kernel
theorem dX13_sumOf_226 : decode cX13_sumOf 226 = .ok (.iload_n 2, 1) := by decide +kernel
theorem dX13_sumOf_227 : decode cX13_sumOf 227 = .ok (.i2l, 1) := by decide +kernel
theorem dX13_sumOf_228 : decode cX13_sumOf 228 = .ok (.ladd, 1) := by decide +kernel
theorem dX13_sumOf_229 : decode cX13_sumOf 229 = .ok (.lstore 5, 2) := by decide +kernel
theorem dX13_sumOf_231 : decode cX13_sumOf 231 = .ok (.iload 4, 2) := by decide +kernel
theorem dX13_sumOf_233 : decode cX13_sumOf 233 = .ok (.iload_n 3, 1) := by decide +kernel
theorem dX13_sumOf_234 : decode cX13_sumOf 234 = .ok (.isub, 1) := by decide +kernel
theorem dX13_sumOf_235 : decode cX13_sumOf 235 = .ok (.bipush 8, 2) := by decide +kernel
theorem dX13_sumOf_237 : decode cX13_sumOf 237 = .ok (.if_icmp .lt 38, 3) := by decide +kernel
theorem dX13_sumOf_240 : decode cX13_sumOf 240 = .ok (.lload 5, 2) := by decide +kernel
theorem dX13_sumOf_242 : decode cX13_sumOf 242 = .ok (.lconst 0, 1) := by decide +kernel
theorem dX13_sumOf_243 : decode cX13_sumOf 243 = .ok (.aload_n 0, 1) := by decide +kernel
theorem dX13_sumOf_244 : decode cX13_sumOf 244 = .ok (.iload_n 3, 1) := by decide +kernel
theorem dX13_sumOf_245 : decode cX13_sumOf 245 = .ok (.bipush 8, 2) := by decide +kernel
theorem dX13_sumOf_247 : decode cX13_sumOf 247 = .ok (.invokestatic 175, 3) := by decide +kernel
theorem dX13_sumOf_250 : decode cX13_sumOf 250 = .ok (.invokestatic 179, 3) := by decide +kernel
theorem dX13_sumOf_253 : decode cX13_sumOf 253 = .ok (.lxor, 1) := by decide +kernel
theorem dX13_sumOf_254 : decode cX13_sumOf 254 = .ok (.bipush 27, 2) := by decide +kernel
theorem dX13_sumOf_256 : decode cX13_sumOf 256 = .ok (.invokestatic 163, 3) := by decide +kernel
theorem dX13_sumOf_259 : decode cX13_sumOf 259 = .ok (.ldc2_w 167, 3) := by decide +kernel
theorem dX13_sumOf_262 : decode cX13_sumOf 262 = .ok (.lmul, 1) := by decide +kernel
theorem dX13_sumOf_263 : decode cX13_sumOf 263 = .ok (.ldc2_w 183, 3) := by decide +kernel
theorem dX13_sumOf_266 : decode cX13_sumOf 266 = .ok (.ladd, 1) := by decide +kernel
theorem dX13_sumOf_267 : decode cX13_sumOf 267 = .ok (.lstore 5, 2) := by decide +kernel
theorem dX13_sumOf_269 : decode cX13_sumOf 269 = .ok (.iinc 3 8, 3) := by decide +kernel
theorem dX13_sumOf_272 : decode cX13_sumOf 272 = .ok (.goto (-41), 3) := by decide +kernel
theorem dX13_sumOf_275 : decode cX13_sumOf 275 = .ok (.iload 4, 2) := by decide +kernel
theorem dX13_sumOf_277 : decode cX13_sumOf 277 = .ok (.iload_n 3, 1) := by decide +kernel
theorem dX13_sumOf_278 : decode cX13_sumOf 278 = .ok (.isub, 1) := by decide +kernel
theorem dX13_sumOf_279 : decode cX13_sumOf 279 = .ok (.iconst 4, 1) := by decide +kernel
theorem dX13_sumOf_280 : decode cX13_sumOf 280 = .ok (.if_icmp .lt 34, 3) := by decide +kernel
theorem dX13_sumOf_283 : decode cX13_sumOf 283 = .ok (.lload 5, 2) := by decide +kernel
theorem dX13_sumOf_285 : decode cX13_sumOf 285 = .ok (.aload_n 0, 1) := by decide +kernel
theorem dX13_sumOf_286 : decode cX13_sumOf 286 = .ok (.iload_n 3, 1) := by decide +kernel
theorem dX13_sumOf_287 : decode cX13_sumOf 287 = .ok (.iconst 4, 1) := by decide +kernel
theorem dX13_sumOf_288 : decode cX13_sumOf 288 = .ok (.invokestatic 175, 3) := by decide +kernel
theorem dX13_sumOf_291 : decode cX13_sumOf 291 = .ok (.ldc2_w 167, 3) := by decide +kernel
theorem dX13_sumOf_294 : decode cX13_sumOf 294 = .ok (.lmul, 1) := by decide +kernel
theorem dX13_sumOf_295 : decode cX13_sumOf 295 = .ok (.lxor, 1) := by decide +kernel
theorem dX13_sumOf_296 : decode cX13_sumOf 296 = .ok (.bipush 23, 2) := by decide +kernel
theorem dX13_sumOf_298 : decode cX13_sumOf 298 = .ok (.invokestatic 163, 3) := by decide +kernel
theorem dX13_sumOf_301 : decode cX13_sumOf 301 = .ok (.ldc2_w 161, 3) := by decide +kernel
theorem dX13_sumOf_304 : decode cX13_sumOf 304 = .ok (.lmul, 1) := by decide +kernel
theorem dX13_sumOf_305 : decode cX13_sumOf 305 = .ok (.ldc2_w 185, 3) := by decide +kernel
theorem dX13_sumOf_308 : decode cX13_sumOf 308 = .ok (.ladd, 1) := by decide +kernel
theorem dX13_sumOf_309 : decode cX13_sumOf 309 = .ok (.lstore 5, 2) := by decide +kernel
theorem dX13_sumOf_311 : decode cX13_sumOf 311 = .ok (.iinc 3 4, 3) := by decide +kernel
theorem dX13_sumOf_314 : decode cX13_sumOf 314 = .ok (.iload_n 3, 1) := by decide +kernel
theorem dX13_sumOf_315 : decode cX13_sumOf 315 = .ok (.iload 4, 2) := by decide +kernel
theorem dX13_sumOf_317 : decode cX13_sumOf 317 = .ok (.if_icmp .ge 35, 3) := by decide +kernel
theorem dX13_sumOf_320 : decode cX13_sumOf 320 = .ok (.lload 5, 2) := by decide +kernel
theorem dX13_sumOf_322 : decode cX13_sumOf 322 = .ok (.aload_n 0, 1) := by decide +kernel
theorem dX13_sumOf_323 : decode cX13_sumOf 323 = .ok (.iload_n 3, 1) := by decide +kernel
theorem dX13_sumOf_324 : decode cX13_sumOf 324 = .ok (.baload, 1) := by decide +kernel
theorem dX13_sumOf_325 : decode cX13_sumOf 325 = .ok (.sipush 255, 3) := by decide +kernel
theorem dX13_sumOf_328 : decode cX13_sumOf 328 = .ok (.iand, 1) := by decide +kernel
theorem dX13_sumOf_329 : decode cX13_sumOf 329 = .ok (.i2l, 1) := by decide +kernel
theorem dX13_sumOf_330 : decode cX13_sumOf 330 = .ok (.ldc2_w 169, 3) := by decide +kernel
theorem dX13_sumOf_333 : decode cX13_sumOf 333 = .ok (.lmul, 1) := by decide +kernel
theorem dX13_sumOf_334 : decode cX13_sumOf 334 = .ok (.lxor, 1) := by decide +kernel
theorem dX13_sumOf_335 : decode cX13_sumOf 335 = .ok (.bipush 11, 2) := by decide +kernel
theorem dX13_sumOf_337 : decode cX13_sumOf 337 = .ok (.invokestatic 163, 3) := by decide +kernel
theorem dX13_sumOf_340 : decode cX13_sumOf 340 = .ok (.ldc2_w 167, 3) := by decide +kernel
theorem dX13_sumOf_343 : decode cX13_sumOf 343 = .ok (.lmul, 1) := by decide +kernel
theorem dX13_sumOf_344 : decode cX13_sumOf 344 = .ok (.lstore 5, 2) := by decide +kernel
theorem dX13_sumOf_346 : decode cX13_sumOf 346 = .ok (.iinc 3 1, 3) := by decide +kernel
theorem dX13_sumOf_349 : decode cX13_sumOf 349 = .ok (.goto (-35), 3) := by decide +kernel
theorem dX13_sumOf_352 : decode cX13_sumOf 352 = .ok (.lload 5, 2) := by decide +kernel
theorem dX13_sumOf_354 : decode cX13_sumOf 354 = .ok (.lload 5, 2) := by decide +kernel
theorem dX13_sumOf_356 : decode cX13_sumOf 356 = .ok (.bipush 33, 2) := by decide +kernel
theorem dX13_sumOf_358 : decode cX13_sumOf 358 = .ok (.lushr, 1) := by decide +kernel
theorem dX13_sumOf_359 : decode cX13_sumOf 359 = .ok (.lxor, 1) := by decide +kernel
theorem dX13_sumOf_360 : decode cX13_sumOf 360 = .ok (.ldc2_w 161, 3) := by decide +kernel
theorem dX13_sumOf_363 : decode cX13_sumOf 363 = .ok (.lmul, 1) := by decide +kernel
theorem dX13_sumOf_364 : decode cX13_sumOf 364 = .ok (.lstore 5, 2) := by decide +kernel
theorem dX13_sumOf_366 : decode cX13_sumOf 366 = .ok (.lload 5, 2) := by decide +kernel
theorem dX13_sumOf_368 : decode cX13_sumOf 368 = .ok (.lload 5, 2) := by decide +kernel
theorem dX13_sumOf_370 : decode cX13_sumOf 370 = .ok (.bipush 29, 2) := by decide +kernel
theorem dX13_sumOf_372 : decode cX13_sumOf 372 = .ok (.lushr, 1) := by decide +kernel
theorem dX13_sumOf_373 : decode cX13_sumOf 373 = .ok (.lxor, 1) := by decide +kernel
theorem dX13_sumOf_374 : decode cX13_sumOf 374 = .ok (.ldc2_w 185, 3) := by decide +kernel
theorem dX13_sumOf_377 : decode cX13_sumOf 377 = .ok (.lmul, 1) := by decide +kernel
theorem dX13_sumOf_378 : decode cX13_sumOf 378 = .ok (.lstore 5, 2) := by decide +kernel
theorem dX13_sumOf_380 : decode cX13_sumOf 380 = .ok (.lload 5, 2) := by decide +kernel
theorem dX13_sumOf_382 : decode cX13_sumOf 382 = .ok (.lload 5, 2) := by decide +kernel
theorem dX13_sumOf_384 : decode cX13_sumOf 384 = .ok (.bipush 32, 2) := by decide +kernel
theorem dX13_sumOf_386 : decode cX13_sumOf 386 = .ok (.lushr, 1) := by decide +kernel
theorem dX13_sumOf_387 : decode cX13_sumOf 387 = .ok (.lxor, 1) := by decide +kernel
theorem dX13_sumOf_388 : decode cX13_sumOf 388 = .ok (.lreturn, 1) := by decide +kernel
theorem dX13_sum_0 : decode cX13_sum 0 = .ok (.aload_n 0, 1) := by decide +kernel
theorem dX13_sum_1 : decode cX13_sum 1 = .ok (.getfield 7, 3) := by decide +kernel
theorem dX13_sum_4 : decode cX13_sum 4 = .ok (.iconst 0, 1) := by decide +kernel
theorem dX13_sum_5 : decode cX13_sum 5 = .ok (.aload_n 0, 1) := by decide +kernel
theorem dX13_sum_6 : decode cX13_sum 6 = .ok (.getfield 150, 3) := by decide +kernel
theorem dX13_sum_9 : decode cX13_sum 9 = .ok (.invokestatic 187, 3) := by decide +kernel
theorem dX13_sum_12 : decode cX13_sum 12 = .ok (.lstore_n 2, 1) := by decide +kernel
theorem dX13_sum_13 : decode cX13_sum 13 = .ok (.iload_n 1, 1) := by decide +kernel
theorem dX13_sum_14 : decode cX13_sum 14 = .ok (.ifCond .eq 10, 3) := by decide +kernel
theorem dX13_sum_17 : decode cX13_sum 17 = .ok (.lload_n 2, 1) := by decide +kernel
theorem dX13_sum_18 : decode cX13_sum 18 = .ok (.bipush 32, 2) := by decide +kernel
theorem dX13_sum_20 : decode cX13_sum 20 = .ok (.lushr, 1) := by decide +kernel
theorem dX13_sum_21 : decode cX13_sum 21 = .ok (.goto 4, 3) := by decide +kernel
theorem dX13_sum_24 : decode cX13_sum 24 = .ok (.lload_n 2, 1) := by decide +kernel
theorem dX13_sum_25 : decode cX13_sum 25 = .ok (.l2i, 1) := by decide +kernel
theorem dX13_sum_26 : decode cX13_sum 26 = .ok (.ireturn, 1) := by decide +kernel
theorem dX13_forward_0 : decode cX13_forward 0 = .ok (.aload_n 0, 1) := by decide +kernel
theorem dX13_forward_1 : decode cX13_forward 1 = .ok (.getfield 190, 3) := by decide +kernel
theorem dX13_forward_4 : decode cX13_forward 4 = .ok (.aload_n 0, 1) := by decide +kernel
theorem dX13_forward_5 : decode cX13_forward 5 = .ok (.getfield 193, 3) := by decide +kernel
theorem dX13_forward_8 : decode cX13_forward 8 = .ok (.isub, 1) := by decide +kernel
theorem dX13_forward_9 : decode cX13_forward 9 = .ok (.iload_n 1, 1) := by decide +kernel
theorem dX13_forward_10 : decode cX13_forward 10 = .ok (.if_icmp .ge 10, 3) := by decide +kernel
theorem dX13_forward_13 : decode cX13_forward 13 = .ok (.aload_n 0, 1) := by decide +kernel
theorem dX13_forward_14 : decode cX13_forward 14 = .ok (.iconst 1, 1) := by decide +kernel
theorem dX13_forward_15 : decode cX13_forward 15 = .ok (.putfield 196, 3) := by decide +kernel
theorem dX13_forward_18 : decode cX13_forward 18 = .ok (.iconst 0, 1) := by decide +kernel
theorem dX13_forward_19 : decode cX13_forward 19 = .ok (.ireturn, 1) := by decide +kernel
theorem dX13_forward_20 : decode cX13_forward 20 = .ok (.iconst 0, 1) := by decide +kernel
theorem dX13_forward_21 : decode cX13_forward 21 = .ok (.istore_n 2, 1) := by decide +kernel
theorem dX13_forward_22 : decode cX13_forward 22 = .ok (.iconst 0, 1) := by decide +kernel
theorem dX13_forward_23 : decode cX13_forward 23 = .ok (.istore_n 3, 1) := by decide +kernel
theorem dX13_forward_24 : decode cX13_forward 24 = .ok (.iload_n 3, 1) := by decide +kernel
theorem dX13_forward_25 : decode cX13_forward 25 = .ok (.iload_n 1, 1) := by decide +kernel
theorem dX13_forward_26 : decode cX13_forward 26 = .ok (.if_icmp .ge 45, 3) := by decide +kernel
theorem dX13_forward_29 : decode cX13_forward 29 = .ok (.iload_n 2, 1) := by decide +kernel
theorem dX13_forward_30 : decode cX13_forward 30 = .ok (.aload_n 0, 1) := by decide +kernel
theorem dX13_forward_31 : decode cX13_forward 31 = .ok (.getfield 20, 3) := by decide +kernel
theorem dX13_forward_34 : decode cX13_forward 34 = .ok (.aload_n 0, 1) := by decide +kernel
theorem dX13_forward_35 : decode cX13_forward 35 = .ok (.getfield 193, 3) := by decide +kernel
theorem dX13_forward_38 : decode cX13_forward 38 = .ok (.iconst 3, 1) := by decide +kernel
theorem dX13_forward_39 : decode cX13_forward 39 = .ok (.ishr, 1) := by decide +kernel
theorem dX13_forward_40 : decode cX13_forward 40 = .ok (.baload, 1) := by decide +kernel
theorem dX13_forward_41 : decode cX13_forward 41 = .ok (.aload_n 0, 1) := by decide +kernel
theorem dX13_forward_42 : decode cX13_forward 42 = .ok (.getfield 193, 3) := by decide +kernel
theorem dX13_forward_45 : decode cX13_forward 45 = .ok (.bipush 7, 2) := by decide +kernel
theorem dX13_forward_47 : decode cX13_forward 47 = .ok (.iand, 1) := by decide +kernel
theorem dX13_forward_48 : decode cX13_forward 48 = .ok (.ishr, 1) := by decide +kernel
theorem dX13_forward_49 : decode cX13_forward 49 = .ok (.iconst 1, 1) := by decide +kernel
theorem dX13_forward_50 : decode cX13_forward 50 = .ok (.iand, 1) := by decide +kernel
theorem dX13_forward_51 : decode cX13_forward 51 = .ok (.iload_n 3, 1) := by decide +kernel
theorem dX13_forward_52 : decode cX13_forward 52 = .ok (.ishl, 1) := by decide +kernel
theorem dX13_forward_53 : decode cX13_forward 53 = .ok (.ior, 1) := by decide +kernel
theorem dX13_forward_54 : decode cX13_forward 54 = .ok (.istore_n 2, 1) := by decide +kernel
theorem dX13_forward_55 : decode cX13_forward 55 = .ok (.aload_n 0, 1) := by decide +kernel
theorem dX13_forward_56 : decode cX13_forward 56 = .ok (.dup, 1) := by decide +kernel
theorem dX13_forward_57 : decode cX13_forward 57 = .ok (.getfield 193, 3) := by decide +kernel
theorem dX13_forward_60 : decode cX13_forward 60 = .ok (.iconst 1, 1) := by decide +kernel
theorem dX13_forward_61 : decode cX13_forward 61 = .ok (.iadd, 1) := by decide +kernel
theorem dX13_forward_62 : decode cX13_forward 62 = .ok (.putfield 193, 3) := by decide +kernel
theorem dX13_forward_65 : decode cX13_forward 65 = .ok (.iinc 3 1, 3) := by decide +kernel
theorem dX13_forward_68 : decode cX13_forward 68 = .ok (.goto (-44), 3) := by decide +kernel
theorem dX13_forward_71 : decode cX13_forward 71 = .ok (.iload_n 2, 1) := by decide +kernel
theorem dX13_forward_72 : decode cX13_forward 72 = .ok (.ireturn, 1) := by decide +kernel
theorem dX13_reversed_0 : decode cX13_reversed 0 = .ok (.aload_n 0, 1) := by decide +kernel
theorem dX13_reversed_1 : decode cX13_reversed 1 = .ok (.iload_n 1, 1) := by decide +kernel
theorem dX13_reversed_2 : decode cX13_reversed 2 = .ok (.putfield 200, 3) := by decide +kernel
theorem dX13_reversed_5 : decode cX13_reversed 5 = .ok (.aload_n 0, 1) := by decide +kernel
theorem dX13_reversed_6 : decode cX13_reversed 6 = .ok (.iconst 0, 1) := by decide +kernel
theorem dX13_reversed_7 : decode cX13_reversed 7 = .ok (.putfield 203, 3) := by decide +kernel
theorem dX13_reversed_10 : decode cX13_reversed 10 = .ok (.iload_n 2, 1) := by decide +kernel
theorem dX13_reversed_11 : decode cX13_reversed 11 = .ok (.iload_n 1, 1) := by decide +kernel
theorem dX13_reversed_12 : decode cX13_reversed 12 = .ok (.if_icmp .le 14, 3) := by decide +kernel
theorem dX13_reversed_15 : decode cX13_reversed 15 = .ok (.aload_n 0, 1) := by decide +kernel
theorem dX13_reversed_16 : decode cX13_reversed 16 = .ok (.getfield 20, 3) := by decide +kernel
theorem dX13_reversed_19 : decode cX13_reversed 19 = .ok (.iload_n 2, 1) := by decide +kernel
theorem dX13_reversed_20 : decode cX13_reversed 20 = .ok (.iconst 1, 1) := by decide +kernel
theorem dX13_reversed_21 : decode cX13_reversed 21 = .ok (.isub, 1) := by decide +kernel
theorem dX13_reversed_22 : decode cX13_reversed 22 = .ok (.baload, 1) := by decide +kernel
theorem dX13_reversed_23 : decode cX13_reversed 23 = .ok (.ifCond .ne 5, 3) := by decide +kernel
theorem dX13_reversed_26 : decode cX13_reversed 26 = .ok (.iconst 0, 1) := by decide +kernel
theorem dX13_reversed_27 : decode cX13_reversed 27 = .ok (.ireturn, 1) := by decide +kernel
theorem dX13_reversed_28 : decode cX13_reversed 28 = .ok (.aload_n 0, 1) := by decide +kernel
theorem dX13_reversed_29 : decode cX13_reversed 29 = .ok (.bipush 8, 2) := by decide +kernel
theorem dX13_reversed_31 : decode cX13_reversed 31 = .ok (.iload_n 2, 1) := by decide +kernel
theorem dX13_reversed_32 : decode cX13_reversed 32 = .ok (.iload_n 1, 1) := by decide +kernel
theorem dX13_reversed_33 : decode cX13_reversed 33 = .ok (.isub, 1) := by decide +kernel
theorem dX13_reversed_34 : decode cX13_reversed 34 = .ok (.iconst 1, 1) := by decide +kernel
theorem dX13_reversed_35 : decode cX13_reversed 35 = .ok (.isub, 1) := by decide +kernel
theorem dX13_reversed_36 : decode cX13_reversed 36 = .ok (.imul, 1) := by decide +kernel
theorem dX13_reversed_37 : decode cX13_reversed 37 = .ok (.aload_n 0, 1) := by decide +kernel
theorem dX13_reversed_38 : decode cX13_reversed 38 = .ok (.getfield 20, 3) := by decide +kernel
theorem dX13_reversed_41 : decode cX13_reversed 41 = .ok (.iload_n 2, 1) := by decide +kernel
theorem dX13_reversed_42 : decode cX13_reversed 42 = .ok (.iconst 1, 1) := by decide +kernel
theorem dX13_reversed_43 : decode cX13_reversed 43 = .ok (.isub, 1) := by decide +kernel
theorem dX13_reversed_44 : decode cX13_reversed 44 = .ok (.baload, 1) := by decide +kernel
theorem dX13_reversed_45 : decode cX13_reversed 45 = .ok (.sipush 255, 3) := by decide +kernel
theorem dX13_reversed_48 : decode cX13_reversed 48 = .ok (.iand, 1) := by decide +kernel
theorem dX13_reversed_49 : decode cX13_reversed 49 = .ok (.invokestatic 206, 3) := by decide +kernel
theorem dX13_reversed_52 : decode cX13_reversed 52 = .ok (.iadd, 1) := by decide +kernel
theorem dX13_reversed_53 : decode cX13_reversed 53 = .ok (.putfield 203, 3) := by decide +kernel
theorem dX13_reversed_56 : decode cX13_reversed 56 = .ok (.aload_n 0, 1) := by decide +kernel
theorem dX13_reversed_57 : decode cX13_reversed 57 = .ok (.iconst 0, 1) := by decide +kernel
theorem dX13_reversed_58 : decode cX13_reversed 58 = .ok (.putfield 196, 3) := by decide +kernel
theorem dX13_reversed_61 : decode cX13_reversed 61 = .ok (.iconst 1, 1) := by decide +kernel
theorem dX13_reversed_62 : decode cX13_reversed 62 = .ok (.ireturn, 1) := by decide +kernel
theorem dX13_log_0 : decode cX13_log 0 = .ok (.iconst 0, 1) := by decide +kernel
theorem dX13_log_1 : decode cX13_log 1 = .ok (.istore_n 1, 1) := by decide +kernel
theorem dX13_log_2 : decode cX13_log 2 = .ok (.iload_n 0, 1) := by decide +kernel
theorem dX13_log_3 : decode cX13_log 3 = .ok (.iload_n 1, 1) := by decide +kernel
theorem dX13_log_4 : decode cX13_log 4 = .ok (.iushr, 1) := by decide +kernel
theorem dX13_log_5 : decode cX13_log 5 = .ok (.iconst 1, 1) := by decide +kernel
theorem dX13_log_6 : decode cX13_log 6 = .ok (.if_icmp .le 9, 3) := by decide +kernel
theorem dX13_log_9 : decode cX13_log 9 = .ok (.iinc 1 1, 3) := by decide +kernel
theorem dX13_log_12 : decode cX13_log 12 = .ok (.goto (-10), 3) := by decide +kernel
theorem dX13_log_15 : decode cX13_log 15 = .ok (.iload_n 1, 1) := by decide +kernel
theorem dX13_log_16 : decode cX13_log 16 = .ok (.ireturn, 1) := by decide +kernel
theorem dX13_back_0 : decode cX13_back 0 = .ok (.aload_n 0, 1) := by decide +kernel
theorem dX13_back_1 : decode cX13_back 1 = .ok (.getfield 203, 3) := by decide +kernel
theorem dX13_back_4 : decode cX13_back 4 = .ok (.iload_n 1, 1) := by decide +kernel
theorem dX13_back_5 : decode cX13_back 5 = .ok (.if_icmp .ge 10, 3) := by decide +kernel
theorem dX13_back_8 : decode cX13_back 8 = .ok (.aload_n 0, 1) := by decide +kernel
theorem dX13_back_9 : decode cX13_back 9 = .ok (.iconst 1, 1) := by decide +kernel
theorem dX13_back_10 : decode cX13_back 10 = .ok (.putfield 196, 3) := by decide +kernel
theorem dX13_back_13 : decode cX13_back 13 = .ok (.lconst 0, 1) := by decide +kernel
theorem dX13_back_14 : decode cX13_back 14 = .ok (.lreturn, 1) := by decide +kernel
theorem dX13_back_15 : decode cX13_back 15 = .ok (.lconst 0, 1) := by decide +kernel
theorem dX13_back_16 : decode cX13_back 16 = .ok (.lstore_n 2, 1) := by decide +kernel
theorem dX13_back_17 : decode cX13_back 17 = .ok (.iconst 0, 1) := by decide +kernel
theorem dX13_back_18 : decode cX13_back 18 = .ok (.istore 4, 2) := by decide +kernel
theorem dX13_back_20 : decode cX13_back 20 = .ok (.iload 4, 2) := by decide +kernel
theorem dX13_back_22 : decode cX13_back 22 = .ok (.iload_n 1, 1) := by decide +kernel
theorem dX13_back_23 : decode cX13_back 23 = .ok (.if_icmp .ge 51, 3) := by decide +kernel
theorem dX13_back_26 : decode cX13_back 26 = .ok (.aload_n 0, 1) := by decide +kernel
theorem dX13_back_27 : decode cX13_back 27 = .ok (.dup, 1) := by decide +kernel
theorem dX13_back_28 : decode cX13_back 28 = .ok (.getfield 203, 3) := by decide +kernel
theorem dX13_back_31 : decode cX13_back 31 = .ok (.iconst 1, 1) := by decide +kernel
theorem dX13_back_32 : decode cX13_back 32 = .ok (.isub, 1) := by decide +kernel
theorem dX13_back_33 : decode cX13_back 33 = .ok (.putfield 203, 3) := by decide +kernel
theorem dX13_back_36 : decode cX13_back 36 = .ok (.lload_n 2, 1) := by decide +kernel
theorem dX13_back_37 : decode cX13_back 37 = .ok (.iconst 1, 1) := by decide +kernel
theorem dX13_back_38 : decode cX13_back 38 = .ok (.lshl, 1) := by decide +kernel
theorem dX13_back_39 : decode cX13_back 39 = .ok (.aload_n 0, 1) := by decide +kernel
theorem dX13_back_40 : decode cX13_back 40 = .ok (.getfield 20, 3) := by decide +kernel
theorem dX13_back_43 : decode cX13_back 43 = .ok (.aload_n 0, 1) := by decide +kernel
theorem dX13_back_44 : decode cX13_back 44 = .ok (.getfield 200, 3) := by decide +kernel
theorem dX13_back_47 : decode cX13_back 47 = .ok (.aload_n 0, 1) := by decide +kernel
theorem dX13_back_48 : decode cX13_back 48 = .ok (.getfield 203, 3) := by decide +kernel
theorem dX13_back_51 : decode cX13_back 51 = .ok (.iconst 3, 1) := by decide +kernel
theorem dX13_back_52 : decode cX13_back 52 = .ok (.ishr, 1) := by decide +kernel
theorem dX13_back_53 : decode cX13_back 53 = .ok (.iadd, 1) := by decide +kernel
theorem dX13_back_54 : decode cX13_back 54 = .ok (.baload, 1) := by decide +kernel
theorem dX13_back_55 : decode cX13_back 55 = .ok (.aload_n 0, 1) := by decide +kernel
theorem dX13_back_56 : decode cX13_back 56 = .ok (.getfield 203, 3) := by decide +kernel
theorem dX13_back_59 : decode cX13_back 59 = .ok (.bipush 7, 2) := by decide +kernel
theorem dX13_back_61 : decode cX13_back 61 = .ok (.iand, 1) := by decide +kernel
theorem dX13_back_62 : decode cX13_back 62 = .ok (.ishr, 1) := by decide +kernel
theorem dX13_back_63 : decode cX13_back 63 = .ok (.iconst 1, 1) := by decide +kernel
theorem dX13_back_64 : decode cX13_back 64 = .ok (.iand, 1) := by decide +kernel
theorem dX13_back_65 : decode cX13_back 65 = .ok (.i2l, 1) := by decide +kernel
theorem dX13_back_66 : decode cX13_back 66 = .ok (.lor, 1) := by decide +kernel
theorem dX13_back_67 : decode cX13_back 67 = .ok (.lstore_n 2, 1) := by decide +kernel
theorem dX13_back_68 : decode cX13_back 68 = .ok (.iinc 4 1, 3) := by decide +kernel
theorem dX13_back_71 : decode cX13_back 71 = .ok (.goto (-51), 3) := by decide +kernel
theorem dX13_back_74 : decode cX13_back 74 = .ok (.lload_n 2, 1) := by decide +kernel
theorem dX13_back_75 : decode cX13_back 75 = .ok (.lreturn, 1) := by decide +kernel
theorem dX13_table_0 : decode cX13_table 0 = .ok (.aload_n 0, 1) := by decide +kernel
theorem dX13_table_1 : decode cX13_table 1 = .ok (.getfield 210, 3) := by decide +kernel
theorem dX13_table_4 : decode cX13_table 4 = .ok (.istore_n 2, 1) := by decide +kernel
theorem dX13_table_5 : decode cX13_table 5 = .ok (.iconst 1, 1) := by decide +kernel
theorem dX13_table_6 : decode cX13_table 6 = .ok (.iload_n 2, 1) := by decide +kernel
theorem dX13_table_7 : decode cX13_table 7 = .ok (.ishl, 1) := by decide +kernel
theorem dX13_table_8 : decode cX13_table 8 = .ok (.istore_n 3, 1) := by decide +kernel
theorem dX13_table_9 : decode cX13_table 9 = .ok (.sipush 512, 3) := by decide +kernel
theorem dX13_table_12 : decode cX13_table 12 = .ok (.iload_n 1, 1) := by decide +kernel
theorem dX13_table_13 : decode cX13_table 13 = .ok (.imul, 1) := by decide +kernel
theorem dX13_table_14 : decode cX13_table 14 = .ok (.istore 4, 2) := by decide +kernel
theorem dX13_table_16 : decode cX13_table 16 = .ok (.iload_n 3, 1) := by decide +kernel
theorem dX13_table_17 : decode cX13_table 17 = .ok (.istore 5, 2) := by decide +kernel
theorem dX13_table_19 : decode cX13_table 19 = .ok (.aload_n 0, 1) := by decide +kernel
theorem dX13_table_20 : decode cX13_table 20 = .ok (.getfield 37, 3) := by decide +kernel
theorem dX13_table_23 : decode cX13_table 23 = .ok (.iload_n 1, 1) := by decide +kernel
theorem dX13_table_24 : decode cX13_table 24 = .ok (.iload_n 2, 1) := by decide +kernel
theorem dX13_table_25 : decode cX13_table 25 = .ok (.iastore, 1) := by decide +kernel
theorem dX13_table_26 : decode cX13_table 26 = .ok (.aload_n 0, 1) := by decide +kernel
theorem dX13_table_27 : decode cX13_table 27 = .ok (.getfield 40, 3) := by decide +kernel
theorem dX13_table_30 : decode cX13_table 30 = .ok (.iload_n 1, 1) := by decide +kernel
theorem dX13_table_31 : decode cX13_table 31 = .ok (.iconst 1, 1) := by decide +kernel
theorem dX13_table_32 : decode cX13_table 32 = .ok (.bastore, 1) := by decide +kernel
theorem dX13_table_33 : decode cX13_table 33 = .ok (.iconst 0, 1) := by decide +kernel
theorem dX13_table_34 : decode cX13_table 34 = .ok (.istore 6, 2) := by decide +kernel
theorem dX13_table_36 : decode cX13_table 36 = .ok (.iload 6, 2) := by decide +kernel
theorem dX13_table_38 : decode cX13_table 38 = .ok (.sipush 256, 3) := by decide +kernel
theorem dX13_table_41 : decode cX13_table 41 = .ok (.if_icmp .ge 65, 3) := by decide +kernel
theorem dX13_table_44 : decode cX13_table 44 = .ok (.aload_n 0, 1) := by decide +kernel
theorem dX13_table_45 : decode cX13_table 45 = .ok (.getfield 23, 3) := by decide +kernel
theorem dX13_table_48 : decode cX13_table 48 = .ok (.iload 6, 2) := by decide +kernel
theorem dX13_table_50 : decode cX13_table 50 = .ok (.iaload, 1) := by decide +kernel
theorem dX13_table_51 : decode cX13_table 51 = .ok (.iconst (-1), 1) := by decide +kernel
theorem dX13_table_52 : decode cX13_table 52 = .ok (.if_icmp .ne 19, 3) := by decide +kernel
theorem dX13_table_55 : decode cX13_table 55 = .ok (.iinc 5 (-1), 3) := by decide +kernel
theorem dX13_table_58 : decode cX13_table 58 = .ok (.aload_n 0, 1) := by decide +kernel
theorem dX13_table_59 : decode cX13_table 59 = .ok (.getfield 27, 3) := by decide +kernel
theorem dX13_table_62 : decode cX13_table 62 = .ok (.iload 4, 2) := by decide +kernel
theorem dX13_table_64 : decode cX13_table 64 = .ok (.iload 5, 2) := by decide +kernel
theorem dX13_table_66 : decode cX13_table 66 = .ok (.iadd, 1) := by decide +kernel
theorem dX13_table_67 : decode cX13_table 67 = .ok (.iload 6, 2) := by decide +kernel
theorem dX13_table_69 : decode cX13_table 69 = .ok (.i2s, 1) := by decide +kernel
theorem dX13_table_70 : decode cX13_table 70 = .ok (.sastore, 1) := by decide +kernel
theorem dX13_table_71 : decode cX13_table 71 = .ok (.aload_n 0, 1) := by decide +kernel
theorem dX13_table_72 : decode cX13_table 72 = .ok (.getfield 44, 3) := by decide +kernel
theorem dX13_table_75 : decode cX13_table 75 = .ok (.iload 6, 2) := by decide +kernel
theorem dX13_table_77 : decode cX13_table 77 = .ok (.aload_n 0, 1) := by decide +kernel
theorem dX13_table_78 : decode cX13_table 78 = .ok (.getfield 23, 3) := by decide +kernel
theorem dX13_table_81 : decode cX13_table 81 = .ok (.iload 6, 2) := by decide +kernel
theorem dX13_table_83 : decode cX13_table 83 = .ok (.iaload, 1) := by decide +kernel
theorem dX13_table_84 : decode cX13_table 84 = .ok (.iconst (-1), 1) := by decide +kernel
theorem dX13_table_85 : decode cX13_table 85 = .ok (.if_icmp .ne 7, 3) := by decide +kernel
theorem dX13_table_88 : decode cX13_table 88 = .ok (.iconst 1, 1) := by decide +kernel
theorem dX13_table_89 : decode cX13_table 89 = .ok (.goto 10, 3) := by decide +kernel
theorem dX13_table_92 : decode cX13_table 92 = .ok (.aload_n 0, 1) := by decide +kernel
theorem dX13_table_93 : decode cX13_table 93 = .ok (.getfield 23, 3) := by decide +kernel
theorem dX13_table_96 : decode cX13_table 96 = .ok (.iload 6, 2) := by decide +kernel
theorem dX13_table_98 : decode cX13_table 98 = .ok (.iaload, 1) := by decide +kernel
theorem dX13_table_99 : decode cX13_table 99 = .ok (.iastore, 1) := by decide +kernel
theorem dX13_table_100 : decode cX13_table 100 = .ok (.iinc 6 1, 3) := by decide +kernel
theorem dX13_table_103 : decode cX13_table 103 = .ok (.goto (-67), 3) := by decide +kernel
theorem dX13_table_106 : decode cX13_table 106 = .ok (.iconst 0, 1) := by decide +kernel
theorem dX13_table_107 : decode cX13_table 107 = .ok (.istore 6, 2) := by decide +kernel
theorem dX13_table_109 : decode cX13_table 109 = .ok (.iconst 0, 1) := by decide +kernel
theorem dX13_table_110 : decode cX13_table 110 = .ok (.istore 7, 2) := by decide +kernel
theorem dX13_table_112 : decode cX13_table 112 = .ok (.iload 7, 2) := by decide +kernel
theorem dX13_table_114 : decode cX13_table 114 = .ok (.sipush 256, 3) := by decide +kernel
theorem dX13_table_117 : decode cX13_table 117 = .ok (.if_icmp .ge 68, 3) := by decide +kernel
theorem dX13_table_120 : decode cX13_table 120 = .ok (.iconst 0, 1) := by decide +kernel
theorem dX13_table_121 : decode cX13_table 121 = .ok (.istore 8, 2) := by decide +kernel
theorem dX13_table_123 : decode cX13_table 123 = .ok (.iload 8, 2) := by decide +kernel
theorem dX13_table_125 : decode cX13_table 125 = .ok (.aload_n 0, 1) := by decide +kernel
theorem dX13_table_126 : decode cX13_table 126 = .ok (.getfield 23, 3) := by decide +kernel
theorem dX13_table_129 : decode cX13_table 129 = .ok (.iload 7, 2) := by decide +kernel
theorem dX13_table_131 : decode cX13_table 131 = .ok (.iaload, 1) := by decide +kernel
theorem dX13_table_132 : decode cX13_table 132 = .ok (.if_icmp .ge 47, 3) := by decide +kernel
theorem dX13_table_135 : decode cX13_table 135 = .ok (.aload_n 0, 1) := by decide +kernel
theorem dX13_table_136 : decode cX13_table 136 = .ok (.getfield 27, 3) := by decide +kernel
theorem dX13_table_139 : decode cX13_table 139 = .ok (.iload 4, 2) := by decide +kernel
theorem dX13_table_141 : decode cX13_table 141 = .ok (.iload 6, 2) := by decide +kernel
theorem dX13_table_143 : decode cX13_table 143 = .ok (.iadd, 1) := by decide +kernel
theorem dX13_table_144 : decode cX13_table 144 = .ok (.iload 7, 2) := by decide +kernel
theorem dX13_table_146 : decode cX13_table 146 = .ok (.i2s, 1) := by decide +kernel
theorem dX13_table_147 : decode cX13_table 147 = .ok (.sastore, 1) := by decide +kernel
theorem dX13_table_148 : decode cX13_table 148 = .ok (.iload 6, 2) := by decide +kernel
theorem dX13_table_150 : decode cX13_table 150 = .ok (.iload_n 3, 1) := by decide +kernel
theorem dX13_table_151 : decode cX13_table 151 = .ok (.iconst 1, 1) := by decide +kernel
theorem dX13_table_152 : decode cX13_table 152 = .ok (.ishr, 1) := by decide +kernel
theorem dX13_table_153 : decode cX13_table 153 = .ok (.iadd, 1) := by decide +kernel
theorem dX13_table_154 : decode cX13_table 154 = .ok (.iload_n 3, 1) := by decide +kernel
theorem dX13_table_155 : decode cX13_table 155 = .ok (.iconst 3, 1) := by decide +kernel
theorem dX13_table_156 : decode cX13_table 156 = .ok (.ishr, 1) := by decide +kernel
theorem dX13_table_157 : decode cX13_table 157 = .ok (.iadd, 1) := by decide +kernel
theorem dX13_table_158 : decode cX13_table 158 = .ok (.iconst 3, 1) := by decide +kernel
theorem dX13_table_159 : decode cX13_table 159 = .ok (.iadd, 1) := by decide +kernel
theorem dX13_table_160 : decode cX13_table 160 = .ok (.iload_n 3, 1) := by decide +kernel
theorem dX13_table_161 : decode cX13_table 161 = .ok (.iconst 1, 1) := by decide +kernel
theorem dX13_table_162 : decode cX13_table 162 = .ok (.isub, 1) := by decide +kernel
theorem dX13_table_163 : decode cX13_table 163 = .ok (.iand, 1) := by decide +kernel
theorem dX13_table_164 : decode cX13_table 164 = .ok (.istore 6, 2) := by decide +kernel
theorem dX13_table_166 : decode cX13_table 166 = .ok (.iload 6, 2) := by decide +kernel
theorem dX13_table_168 : decode cX13_table 168 = .ok (.iload 5, 2) := by decide +kernel
theorem dX13_table_170 : decode cX13_table 170 = .ok (.if_icmp .ge (-22), 3) := by decide +kernel
theorem dX13_table_173 : decode cX13_table 173 = .ok (.iinc 8 1, 3) := by decide +kernel
theorem dX13_table_176 : decode cX13_table 176 = .ok (.goto (-53), 3) := by decide +kernel
theorem dX13_table_179 : decode cX13_table 179 = .ok (.iinc 7 1, 3) := by decide +kernel
theorem dX13_table_182 : decode cX13_table 182 = .ok (.goto (-70), 3) := by decide +kernel
theorem dX13_table_185 : decode cX13_table 185 = .ok (.iconst 0, 1) := by decide +kernel
theorem dX13_table_186 : decode cX13_table 186 = .ok (.istore 7, 2) := by decide +kernel
theorem dX13_table_188 : decode cX13_table 188 = .ok (.iload 7, 2) := by decide +kernel
theorem dX13_table_190 : decode cX13_table 190 = .ok (.iload_n 3, 1) := by decide +kernel
theorem dX13_table_191 : decode cX13_table 191 = .ok (.if_icmp .ge 88, 3) := by decide +kernel
theorem dX13_table_194 : decode cX13_table 194 = .ok (.aload_n 0, 1) := by decide +kernel
theorem dX13_table_195 : decode cX13_table 195 = .ok (.getfield 44, 3) := by decide +kernel
theorem dX13_table_198 : decode cX13_table 198 = .ok (.aload_n 0, 1) := by decide +kernel
theorem dX13_table_199 : decode cX13_table 199 = .ok (.getfield 27, 3) := by decide +kernel
theorem dX13_table_202 : decode cX13_table 202 = .ok (.iload 4, 2) := by decide +kernel
theorem dX13_table_204 : decode cX13_table 204 = .ok (.iload 7, 2) := by decide +kernel
theorem dX13_table_206 : decode cX13_table 206 = .ok (.iadd, 1) := by decide +kernel
theorem dX13_table_207 : decode cX13_table 207 = .ok (.saload, 1) := by decide +kernel
theorem dX13_table_208 : decode cX13_table 208 = .ok (.iaload, 1) := by decide +kernel
theorem dX13_table_209 : decode cX13_table 209 = .ok (.istore 8, 2) := by decide +kernel
theorem dX13_table_211 : decode cX13_table 211 = .ok (.aload_n 0, 1) := by decide +kernel
theorem dX13_table_212 : decode cX13_table 212 = .ok (.getfield 44, 3) := by decide +kernel
theorem dX13_table_215 : decode cX13_table 215 = .ok (.aload_n 0, 1) := by decide +kernel
theorem dX13_table_216 : decode cX13_table 216 = .ok (.getfield 27, 3) := by decide +kernel
theorem dX13_table_219 : decode cX13_table 219 = .ok (.iload 4, 2) := by decide +kernel
theorem dX13_table_221 : decode cX13_table 221 = .ok (.iload 7, 2) := by decide +kernel
theorem dX13_table_223 : decode cX13_table 223 = .ok (.iadd, 1) := by decide +kernel
theorem dX13_table_224 : decode cX13_table 224 = .ok (.saload, 1) := by decide +kernel
theorem dX13_table_225 : decode cX13_table 225 = .ok (.dup2, 1) := by decide +kernel
theorem dX13_table_226 : decode cX13_table 226 = .ok (.iaload, 1) := by decide +kernel
theorem dX13_table_227 : decode cX13_table 227 = .ok (.iconst 1, 1) := by decide +kernel
theorem dX13_table_228 : decode cX13_table 228 = .ok (.iadd, 1) := by decide +kernel
theorem dX13_table_229 : decode cX13_table 229 = .ok (.iastore, 1) := by decide +kernel
theorem dX13_table_230 : decode cX13_table 230 = .ok (.aload_n 0, 1) := by decide +kernel
theorem dX13_table_231 : decode cX13_table 231 = .ok (.getfield 31, 3) := by decide +kernel
theorem dX13_table_234 : decode cX13_table 234 = .ok (.iload 4, 2) := by decide +kernel
theorem dX13_table_236 : decode cX13_table 236 = .ok (.iload 7, 2) := by decide +kernel
theorem dX13_table_238 : decode cX13_table 238 = .ok (.iadd, 1) := by decide +kernel
theorem dX13_table_239 : decode cX13_table 239 = .ok (.iload_n 2, 1) := by decide +kernel
theorem dX13_table_240 : decode cX13_table 240 = .ok (.iload 8, 2) := by decide +kernel
theorem dX13_table_242 : decode cX13_table 242 = .ok (.invokestatic 206, 3) := by decide +kernel
theorem dX13_table_245 : decode cX13_table 245 = .ok (.isub, 1) := by decide +kernel
theorem dX13_table_246 : decode cX13_table 246 = .ok (.i2b, 1) := by decide +kernel
theorem dX13_table_247 : decode cX13_table 247 = .ok (.bastore, 1) := by decide +kernel
theorem dX13_table_248 : decode cX13_table 248 = .ok (.aload_n 0, 1) := by decide +kernel
theorem dX13_table_249 : decode cX13_table 249 = .ok (.getfield 34, 3) := by decide +kernel
theorem dX13_table_252 : decode cX13_table 252 = .ok (.iload 4, 2) := by decide +kernel
theorem dX13_table_254 : decode cX13_table 254 = .ok (.iload 7, 2) := by decide +kernel
theorem dX13_table_256 : decode cX13_table 256 = .ok (.iadd, 1) := by decide +kernel
theorem dX13_table_257 : decode cX13_table 257 = .ok (.iload 8, 2) := by decide +kernel
theorem dX13_table_259 : decode cX13_table 259 = .ok (.aload_n 0, 1) := by decide +kernel
theorem dX13_table_260 : decode cX13_table 260 = .ok (.getfield 31, 3) := by decide +kernel
theorem dX13_table_263 : decode cX13_table 263 = .ok (.iload 4, 2) := by decide +kernel
theorem dX13_table_265 : decode cX13_table 265 = .ok (.iload 7, 2) := by decide +kernel
theorem dX13_table_267 : decode cX13_table 267 = .ok (.iadd, 1) := by decide +kernel
theorem dX13_table_268 : decode cX13_table 268 = .ok (.baload, 1) := by decide +kernel
theorem dX13_table_269 : decode cX13_table 269 = .ok (.ishl, 1) := by decide +kernel
theorem dX13_table_270 : decode cX13_table 270 = .ok (.iload_n 3, 1) := by decide +kernel
theorem dX13_table_271 : decode cX13_table 271 = .ok (.isub, 1) := by decide +kernel
theorem dX13_table_272 : decode cX13_table 272 = .ok (.iastore, 1) := by decide +kernel
theorem dX13_table_273 : decode cX13_table 273 = .ok (.iinc 7 1, 3) := by decide +kernel
theorem dX13_table_276 : decode cX13_table 276 = .ok (.goto (-88), 3) := by decide +kernel
theorem dX13_table_279 : decode cX13_table 279 = .ok (.return_, 1) := by decide +kernel
theorem dX13_alone_0 : decode cX13_alone 0 = .ok (.aload_n 0, 1) := by decide +kernel
theorem dX13_alone_1 : decode cX13_alone 1 = .ok (.getfield 37, 3) := by decide +kernel
theorem dX13_alone_4 : decode cX13_alone 4 = .ok (.iload_n 1, 1) := by decide +kernel
theorem dX13_alone_5 : decode cX13_alone 5 = .ok (.iconst 0, 1) := by decide +kernel
theorem dX13_alone_6 : decode cX13_alone 6 = .ok (.iastore, 1) := by decide +kernel
theorem dX13_alone_7 : decode cX13_alone 7 = .ok (.aload_n 0, 1) := by decide +kernel
theorem dX13_alone_8 : decode cX13_alone 8 = .ok (.getfield 40, 3) := by decide +kernel
theorem dX13_alone_11 : decode cX13_alone 11 = .ok (.iload_n 1, 1) := by decide +kernel
