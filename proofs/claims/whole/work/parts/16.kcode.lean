theorem kc_1_0 : zcode 1 0 = some (.iload_n 1, 1, (0, 0, 0, 0)) := by decide +kernel
theorem kc_1_1 : zcode 1 1 = some (.ifCond .lt 15, 3, (16, 0, 0, 0)) := by decide +kernel
theorem kc_1_4 : zcode 1 4 = some (.iload_n 1, 1, (0, 0, 0, 0)) := by decide +kernel
theorem kc_1_5 : zcode 1 5 = some (.aload_n 0, 1, (0, 0, 0, 0)) := by decide +kernel
theorem kc_1_6 : zcode 1 6 = some (.getfield 21, 3, (0, 3, 93, 0)) := by decide +kernel
theorem kc_1_9 : zcode 1 9 = some (.if_icmp .ge 7, 3, (16, 0, 0, 0)) := by decide +kernel
theorem kc_1_12 : zcode 1 12 = some (.iconst 1, 1, (0, 0, 0, 0)) := by decide +kernel
theorem kc_1_13 : zcode 1 13 = some (.goto 4, 3, (17, 0, 0, 0)) := by decide +kernel
theorem kc_1_16 : zcode 1 16 = some (.iconst 0, 1, (0, 0, 0, 0)) := by decide +kernel
theorem kc_1_17 : zcode 1 17 = some (.ireturn, 1, (1, 0, 0, 0)) := by decide +kernel
theorem kc_2_0 : zcode 2 0 = some (.aload_n 0, 1, (0, 0, 0, 0)) := by decide +kernel
theorem kc_2_1 : zcode 2 1 = some (.getfield 18, 3, (0, 2, 92, 0)) := by decide +kernel
theorem kc_2_4 : zcode 2 4 = some (.iconst 1, 1, (0, 0, 0, 0)) := by decide +kernel
theorem kc_2_5 : zcode 2 5 = some (.aload_n 0, 1, (0, 0, 0, 0)) := by decide +kernel
theorem kc_2_6 : zcode 2 6 = some (.getfield 21, 3, (0, 3, 93, 0)) := by decide +kernel
theorem kc_2_9 : zcode 2 9 = some (.ishl, 1, (0, 0, 0, 0)) := by decide +kernel
theorem kc_2_10 : zcode 2 10 = some (.iconst 1, 1, (0, 0, 0, 0)) := by decide +kernel
theorem kc_2_11 : zcode 2 11 = some (.isub, 1, (0, 0, 0, 0)) := by decide +kernel
theorem kc_2_12 : zcode 2 12 = some (.iaload, 1, (0, 0, 0, 0)) := by decide +kernel
theorem kc_2_13 : zcode 2 13 = some (.ireturn, 1, (0, 0, 0, 0)) := by decide +kernel
theorem kc_3_0 : zcode 3 0 = some (.aload_n 0, 1, (0, 0, 0, 0)) := by decide +kernel
theorem kc_3_1 : zcode 3 1 = some (.iconst 0, 1, (0, 0, 0, 0)) := by decide +kernel
theorem kc_3_2 : zcode 3 2 = some (.putfield 21, 3, (0, 3, 93, 0)) := by decide +kernel
theorem kc_3_5 : zcode 3 5 = some (.return_, 1, (0, 0, 0, 0)) := by decide +kernel
theorem kc_4_0 : zcode 4 0 = some (.aload_n 0, 1, (0, 0, 0, 0)) := by decide +kernel
theorem kc_4_1 : zcode 4 1 = some (.getfield 21, 3, (0, 3, 93, 0)) := by decide +kernel
theorem kc_4_4 : zcode 4 4 = some (.bipush 6, 2, (0, 0, 0, 0)) := by decide +kernel
theorem kc_4_6 : zcode 4 6 = some (.if_icmp .lt 4, 3, (10, 0, 0, 0)) := by decide +kernel
theorem kc_4_9 : zcode 4 9 = some (.return_, 1, (0, 0, 0, 0)) := by decide +kernel
theorem kc_4_10 : zcode 4 10 = some (.aload_n 0, 1, (0, 0, 0, 0)) := by decide +kernel
theorem kc_4_11 : zcode 4 11 = some (.getfield 21, 3, (0, 3, 93, 0)) := by decide +kernel
theorem kc_4_14 : zcode 4 14 = some (.istore_n 2, 1, (0, 0, 0, 0)) := by decide +kernel
theorem kc_4_15 : zcode 4 15 = some (.iload_n 2, 1, (0, 0, 0, 0)) := by decide +kernel
theorem kc_4_16 : zcode 4 16 = some (.ifCond .le 35, 3, (51, 0, 0, 0)) := by decide +kernel
theorem kc_4_19 : zcode 4 19 = some (.aload_n 0, 1, (0, 0, 0, 0)) := by decide +kernel
theorem kc_4_20 : zcode 4 20 = some (.getfield 15, 3, (0, 1, 91, 0)) := by decide +kernel
theorem kc_4_23 : zcode 4 23 = some (.iload_n 2, 1, (0, 0, 0, 0)) := by decide +kernel
theorem kc_4_24 : zcode 4 24 = some (.iconst 1, 1, (0, 0, 0, 0)) := by decide +kernel
theorem kc_4_25 : zcode 4 25 = some (.isub, 1, (0, 0, 0, 0)) := by decide +kernel
theorem kc_4_26 : zcode 4 26 = some (.iaload, 1, (0, 0, 0, 0)) := by decide +kernel
theorem kc_4_27 : zcode 4 27 = some (.iload_n 1, 1, (0, 0, 0, 0)) := by decide +kernel
theorem kc_4_28 : zcode 4 28 = some (.if_icmp .le 23, 3, (51, 0, 0, 0)) := by decide +kernel
theorem kc_4_31 : zcode 4 31 = some (.aload_n 0, 1, (0, 0, 0, 0)) := by decide +kernel
theorem kc_4_32 : zcode 4 32 = some (.getfield 15, 3, (0, 1, 91, 0)) := by decide +kernel
theorem kc_4_35 : zcode 4 35 = some (.iload_n 2, 1, (0, 0, 0, 0)) := by decide +kernel
theorem kc_4_36 : zcode 4 36 = some (.aload_n 0, 1, (0, 0, 0, 0)) := by decide +kernel
theorem kc_4_37 : zcode 4 37 = some (.getfield 15, 3, (0, 1, 91, 0)) := by decide +kernel
theorem kc_4_40 : zcode 4 40 = some (.iload_n 2, 1, (0, 0, 0, 0)) := by decide +kernel
theorem kc_4_41 : zcode 4 41 = some (.iconst 1, 1, (0, 0, 0, 0)) := by decide +kernel
theorem kc_4_42 : zcode 4 42 = some (.isub, 1, (0, 0, 0, 0)) := by decide +kernel
theorem kc_4_43 : zcode 4 43 = some (.iaload, 1, (0, 0, 0, 0)) := by decide +kernel
theorem kc_4_44 : zcode 4 44 = some (.iastore, 1, (0, 0, 0, 0)) := by decide +kernel
theorem kc_4_45 : zcode 4 45 = some (.iinc 2 (-1), 3, (0, 0, 0, 0)) := by decide +kernel
theorem kc_4_48 : zcode 4 48 = some (.goto (-33), 3, (15, 0, 0, 0)) := by decide +kernel
theorem kc_4_51 : zcode 4 51 = some (.aload_n 0, 1, (0, 0, 0, 0)) := by decide +kernel
theorem kc_4_52 : zcode 4 52 = some (.getfield 15, 3, (0, 1, 91, 0)) := by decide +kernel
theorem kc_4_55 : zcode 4 55 = some (.iload_n 2, 1, (0, 0, 0, 0)) := by decide +kernel
theorem kc_4_56 : zcode 4 56 = some (.iload_n 1, 1, (0, 0, 0, 0)) := by decide +kernel
theorem kc_4_57 : zcode 4 57 = some (.iastore, 1, (0, 0, 0, 0)) := by decide +kernel
theorem kc_4_58 : zcode 4 58 = some (.iconst 1, 1, (0, 0, 0, 0)) := by decide +kernel
theorem kc_4_59 : zcode 4 59 = some (.aload_n 0, 1, (0, 0, 0, 0)) := by decide +kernel
theorem kc_4_60 : zcode 4 60 = some (.getfield 21, 3, (0, 3, 93, 0)) := by decide +kernel
theorem kc_4_63 : zcode 4 63 = some (.ishl, 1, (0, 0, 0, 0)) := by decide +kernel
theorem kc_4_64 : zcode 4 64 = some (.istore_n 3, 1, (0, 0, 0, 0)) := by decide +kernel
theorem kc_4_65 : zcode 4 65 = some (.iconst 0, 1, (0, 0, 0, 0)) := by decide +kernel
theorem kc_4_66 : zcode 4 66 = some (.istore 4, 2, (0, 0, 0, 0)) := by decide +kernel
theorem kc_4_68 : zcode 4 68 = some (.iload 4, 2, (0, 0, 0, 0)) := by decide +kernel
theorem kc_4_70 : zcode 4 70 = some (.iload_n 3, 1, (0, 0, 0, 0)) := by decide +kernel
theorem kc_4_71 : zcode 4 71 = some (.if_icmp .ge 27, 3, (98, 0, 0, 0)) := by decide +kernel
theorem kc_4_74 : zcode 4 74 = some (.aload_n 0, 1, (0, 0, 0, 0)) := by decide +kernel
theorem kc_4_75 : zcode 4 75 = some (.getfield 18, 3, (0, 2, 92, 0)) := by decide +kernel
theorem kc_4_78 : zcode 4 78 = some (.iload_n 3, 1, (0, 0, 0, 0)) := by decide +kernel
theorem kc_4_79 : zcode 4 79 = some (.iload 4, 2, (0, 0, 0, 0)) := by decide +kernel
theorem kc_4_81 : zcode 4 81 = some (.iadd, 1, (0, 0, 0, 0)) := by decide +kernel
theorem kc_4_82 : zcode 4 82 = some (.aload_n 0, 1, (0, 0, 0, 0)) := by decide +kernel
theorem kc_4_83 : zcode 4 83 = some (.getfield 18, 3, (0, 2, 92, 0)) := by decide +kernel
theorem kc_4_86 : zcode 4 86 = some (.iload 4, 2, (0, 0, 0, 0)) := by decide +kernel
theorem kc_4_88 : zcode 4 88 = some (.iaload, 1, (0, 0, 0, 0)) := by decide +kernel
theorem kc_4_89 : zcode 4 89 = some (.iload_n 1, 1, (0, 0, 0, 0)) := by decide +kernel
theorem kc_4_90 : zcode 4 90 = some (.iadd, 1, (0, 0, 0, 0)) := by decide +kernel
theorem kc_4_91 : zcode 4 91 = some (.iastore, 1, (0, 0, 0, 0)) := by decide +kernel
theorem kc_4_92 : zcode 4 92 = some (.iinc 4 1, 3, (0, 0, 0, 0)) := by decide +kernel
theorem kc_4_95 : zcode 4 95 = some (.goto (-27), 3, (68, 0, 0, 0)) := by decide +kernel
theorem kc_4_98 : zcode 4 98 = some (.aload_n 0, 1, (0, 0, 0, 0)) := by decide +kernel
theorem kc_4_99 : zcode 4 99 = some (.getfield 9, 3, (0, 0, 87, 0)) := by decide +kernel
theorem kc_4_102 : zcode 4 102 = some (.aload_n 0, 1, (0, 0, 0, 0)) := by decide +kernel
theorem kc_4_103 : zcode 4 103 = some (.getfield 21, 3, (0, 3, 93, 0)) := by decide +kernel
theorem kc_4_106 : zcode 4 106 = some (.iload_n 1, 1, (0, 0, 0, 0)) := by decide +kernel
theorem kc_4_107 : zcode 4 107 = some (.iastore, 1, (0, 0, 0, 0)) := by decide +kernel
theorem kc_4_108 : zcode 4 108 = some (.aload_n 0, 1, (0, 0, 0, 0)) := by decide +kernel
theorem kc_4_109 : zcode 4 109 = some (.dup, 1, (0, 0, 0, 0)) := by decide +kernel
theorem kc_4_110 : zcode 4 110 = some (.getfield 21, 3, (0, 3, 93, 0)) := by decide +kernel
theorem kc_4_113 : zcode 4 113 = some (.iconst 1, 1, (0, 0, 0, 0)) := by decide +kernel
theorem kc_4_114 : zcode 4 114 = some (.iadd, 1, (0, 0, 0, 0)) := by decide +kernel
theorem kc_4_115 : zcode 4 115 = some (.putfield 21, 3, (0, 3, 93, 0)) := by decide +kernel
theorem kc_4_118 : zcode 4 118 = some (.return_, 1, (0, 0, 0, 0)) := by decide +kernel
theorem kc_5_0 : zcode 5 0 = some (.aload_n 0, 1, (0, 0, 0, 0)) := by decide +kernel
theorem kc_5_1 : zcode 5 1 = some (.iload_n 1, 1, (0, 0, 0, 0)) := by decide +kernel
theorem kc_5_2 : zcode 5 2 = some (.invokevirtual 25, 3, (1, 0, 315, 0)) := by decide +kernel
theorem kc_5_5 : zcode 5 5 = some (.ifCond .ne 4, 3, (9, 0, 0, 0)) := by decide +kernel
theorem kc_5_8 : zcode 5 8 = some (.return_, 1, (0, 0, 0, 0)) := by decide +kernel
theorem kc_5_9 : zcode 5 9 = some (.aload_n 0, 1, (0, 0, 0, 0)) := by decide +kernel
theorem kc_5_10 : zcode 5 10 = some (.getfield 9, 3, (0, 0, 87, 0)) := by decide +kernel
theorem kc_5_13 : zcode 5 13 = some (.iload_n 1, 1, (0, 0, 0, 0)) := by decide +kernel
theorem kc_5_14 : zcode 5 14 = some (.iload_n 2, 1, (0, 0, 0, 0)) := by decide +kernel
theorem kc_5_15 : zcode 5 15 = some (.iastore, 1, (0, 0, 0, 0)) := by decide +kernel
theorem kc_5_16 : zcode 5 16 = some (.aload_n 0, 1, (0, 0, 0, 0)) := by decide +kernel
theorem kc_5_17 : zcode 5 17 = some (.aload_n 0, 1, (0, 0, 0, 0)) := by decide +kernel
theorem kc_5_18 : zcode 5 18 = some (.invokevirtual 29, 3, (6, 0, 316, 0)) := by decide +kernel
theorem kc_5_21 : zcode 5 21 = some (.return_, 1, (0, 0, 0, 0)) := by decide +kernel
theorem kc_6_0 : zcode 6 0 = some (.aload_n 1, 1, (0, 0, 0, 0)) := by decide +kernel
theorem kc_6_1 : zcode 6 1 = some (.getfield 21, 3, (0, 3, 93, 0)) := by decide +kernel
theorem kc_6_4 : zcode 6 4 = some (.istore_n 2, 1, (0, 0, 0, 0)) := by decide +kernel
theorem kc_6_5 : zcode 6 5 = some (.aload_n 0, 1, (0, 0, 0, 0)) := by decide +kernel
theorem kc_6_6 : zcode 6 6 = some (.invokevirtual 33, 3, (3, 0, 320, 0)) := by decide +kernel
theorem kc_6_9 : zcode 6 9 = some (.iconst 0, 1, (0, 0, 0, 0)) := by decide +kernel
theorem kc_6_10 : zcode 6 10 = some (.istore_n 3, 1, (0, 0, 0, 0)) := by decide +kernel
theorem kc_6_11 : zcode 6 11 = some (.iload_n 3, 1, (0, 0, 0, 0)) := by decide +kernel
theorem kc_6_12 : zcode 6 12 = some (.iload_n 2, 1, (0, 0, 0, 0)) := by decide +kernel
theorem kc_6_13 : zcode 6 13 = some (.if_icmp .ge 19, 3, (32, 0, 0, 0)) := by decide +kernel
theorem kc_6_16 : zcode 6 16 = some (.aload_n 0, 1, (0, 0, 0, 0)) := by decide +kernel
theorem kc_6_17 : zcode 6 17 = some (.aload_n 1, 1, (0, 0, 0, 0)) := by decide +kernel
theorem kc_6_18 : zcode 6 18 = some (.getfield 9, 3, (0, 0, 87, 0)) := by decide +kernel
theorem kc_6_21 : zcode 6 21 = some (.iload_n 3, 1, (0, 0, 0, 0)) := by decide +kernel
theorem kc_6_22 : zcode 6 22 = some (.iaload, 1, (0, 0, 0, 0)) := by decide +kernel
theorem kc_6_23 : zcode 6 23 = some (.invokevirtual 36, 3, (4, 0, 324, 0)) := by decide +kernel
theorem kc_6_26 : zcode 6 26 = some (.iinc 3 1, 3, (0, 0, 0, 0)) := by decide +kernel
theorem kc_6_29 : zcode 6 29 = some (.goto (-18), 3, (11, 0, 0, 0)) := by decide +kernel
theorem kc_6_32 : zcode 6 32 = some (.return_, 1, (0, 0, 0, 0)) := by decide +kernel
theorem kc_7_0 : zcode 7 0 = some (.iload_n 1, 1, (0, 0, 0, 0)) := by decide +kernel
theorem kc_7_1 : zcode 7 1 = some (.tableswitch 45 0 4 #[35, 35, 39, 35, 35], 35, (0, 0, 0, 0)) := by decide +kernel
theorem kc_7_36 : zcode 7 36 = some (.ldc2_w 40, 3, (0, 0, 404, 120)) := by decide +kernel
theorem kc_7_39 : zcode 7 39 = some (.lreturn, 1, (0, 0, 0, 0)) := by decide +kernel
theorem kc_7_40 : zcode 7 40 = some (.aload_n 0, 1, (0, 0, 0, 0)) := by decide +kernel
theorem kc_7_41 : zcode 7 41 = some (.invokevirtual 42, 3, (2, 0, 406, 0)) := by decide +kernel
theorem kc_7_44 : zcode 7 44 = some (.i2l, 1, (0, 0, 0, 0)) := by decide +kernel
theorem kc_7_45 : zcode 7 45 = some (.lreturn, 1, (0, 0, 0, 0)) := by decide +kernel
theorem kc_7_46 : zcode 7 46 = some (.getstatic 46, 3, (0, 0, 425, 0)) := by decide +kernel
theorem kc_7_49 : zcode 7 49 = some (.aload_n 0, 1, (0, 0, 0, 0)) := by decide +kernel
theorem kc_7_50 : zcode 7 50 = some (.getfield 21, 3, (0, 3, 93, 0)) := by decide +kernel
theorem kc_7_53 : zcode 7 53 = some (.iaload, 1, (0, 0, 0, 0)) := by decide +kernel
theorem kc_7_54 : zcode 7 54 = some (.i2l, 1, (0, 0, 0, 0)) := by decide +kernel
theorem kc_7_55 : zcode 7 55 = some (.lreturn, 1, (0, 0, 0, 0)) := by decide +kernel
theorem kc_8_0 : zcode 8 0 = some (.aload_n 0, 1, (0, 0, 0, 0)) := by decide +kernel
theorem kc_8_1 : zcode 8 1 = some (.iload_n 2, 1, (0, 0, 0, 0)) := by decide +kernel
theorem kc_8_2 : zcode 8 2 = some (.invokevirtual 25, 3, (1, 0, 315, 0)) := by decide +kernel
theorem kc_8_5 : zcode 8 5 = some (.ifCond .ne 5, 3, (10, 0, 0, 0)) := by decide +kernel
theorem kc_8_8 : zcode 8 8 = some (.lconst 0, 1, (0, 0, 0, 0)) := by decide +kernel
theorem kc_8_9 : zcode 8 9 = some (.lreturn, 1, (0, 0, 0, 0)) := by decide +kernel
theorem kc_8_10 : zcode 8 10 = some (.aload_n 0, 1, (0, 0, 0, 0)) := by decide +kernel
theorem kc_8_11 : zcode 8 11 = some (.getfield 9, 3, (0, 0, 87, 0)) := by decide +kernel
theorem kc_8_14 : zcode 8 14 = some (.iload_n 2, 1, (0, 0, 0, 0)) := by decide +kernel
theorem kc_8_15 : zcode 8 15 = some (.iaload, 1, (0, 0, 0, 0)) := by decide +kernel
theorem kc_8_16 : zcode 8 16 = some (.i2l, 1, (0, 0, 0, 0)) := by decide +kernel
theorem kc_8_17 : zcode 8 17 = some (.lload 5, 2, (0, 0, 0, 0)) := by decide +kernel
theorem kc_8_19 : zcode 8 19 = some (.lmul, 1, (0, 0, 0, 0)) := by decide +kernel
theorem kc_8_20 : zcode 8 20 = some (.ldc2_w 40, 3, (0, 0, 404, 120)) := by decide +kernel
theorem kc_8_23 : zcode 8 23 = some (.lmul, 1, (0, 0, 0, 0)) := by decide +kernel
theorem kc_8_24 : zcode 8 24 = some (.lstore 7, 2, (0, 0, 0, 0)) := by decide +kernel
theorem kc_8_26 : zcode 8 26 = some (.lload 7, 2, (0, 0, 0, 0)) := by decide +kernel
theorem kc_8_28 : zcode 8 28 = some (.ldc2_w 49, 3, (0, 0, 405, 2)) := by decide +kernel
theorem kc_8_31 : zcode 8 31 = some (.ldiv, 1, (0, 0, 0, 0)) := by decide +kernel
theorem kc_8_32 : zcode 8 32 = some (.lstore 9, 2, (0, 0, 0, 0)) := by decide +kernel
theorem kc_8_34 : zcode 8 34 = some (.aload_n 0, 1, (0, 0, 0, 0)) := by decide +kernel
theorem kc_8_35 : zcode 8 35 = some (.invokevirtual 42, 3, (2, 0, 406, 0)) := by decide +kernel
theorem kc_8_38 : zcode 8 38 = some (.i2l, 1, (0, 0, 0, 0)) := by decide +kernel
theorem kc_8_39 : zcode 8 39 = some (.lload 5, 2, (0, 0, 0, 0)) := by decide +kernel
theorem kc_8_41 : zcode 8 41 = some (.lmul, 1, (0, 0, 0, 0)) := by decide +kernel
theorem kc_8_42 : zcode 8 42 = some (.lload_n 3, 1, (0, 0, 0, 0)) := by decide +kernel
theorem kc_8_43 : zcode 8 43 = some (.lsub, 1, (0, 0, 0, 0)) := by decide +kernel
theorem kc_8_44 : zcode 8 44 = some (.lstore 11, 2, (0, 0, 0, 0)) := by decide +kernel
theorem kc_8_46 : zcode 8 46 = some (.iload_n 1, 1, (0, 0, 0, 0)) := by decide +kernel
theorem kc_8_47 : zcode 8 47 = some (.tableswitch 151 0 4 #[33, 46, 63, 73, 112], 33, (0, 0, 0, 0)) := by decide +kernel
theorem kc_8_80 : zcode 8 80 = some (.ldc2_w 49, 3, (0, 0, 405, 2)) := by decide +kernel
theorem kc_8_83 : zcode 8 83 = some (.aload_n 0, 1, (0, 0, 0, 0)) := by decide +kernel
theorem kc_8_84 : zcode 8 84 = some (.iload_n 2, 1, (0, 0, 0, 0)) := by decide +kernel
theorem kc_8_85 : zcode 8 85 = some (.lload_n 3, 1, (0, 0, 0, 0)) := by decide +kernel
theorem kc_8_86 : zcode 8 86 = some (.lload 5, 2, (0, 0, 0, 0)) := by decide +kernel
theorem kc_8_88 : zcode 8 88 = some (.invokevirtual 51, 3, (9, 0, 407, 0)) := by decide +kernel
theorem kc_8_91 : zcode 8 91 = some (.lmul, 1, (0, 0, 0, 0)) := by decide +kernel
theorem kc_8_92 : zcode 8 92 = some (.lreturn, 1, (0, 0, 0, 0)) := by decide +kernel
theorem kc_8_93 : zcode 8 93 = some (.lload 7, 2, (0, 0, 0, 0)) := by decide +kernel
theorem kc_8_95 : zcode 8 95 = some (.ldc2_w 49, 3, (0, 0, 405, 2)) := by decide +kernel
theorem kc_8_98 : zcode 8 98 = some (.aload_n 0, 1, (0, 0, 0, 0)) := by decide +kernel
theorem kc_8_99 : zcode 8 99 = some (.iload_n 2, 1, (0, 0, 0, 0)) := by decide +kernel
theorem kc_8_100 : zcode 8 100 = some (.lload 11, 2, (0, 0, 0, 0)) := by decide +kernel
theorem kc_8_102 : zcode 8 102 = some (.lload 5, 2, (0, 0, 0, 0)) := by decide +kernel
theorem kc_8_104 : zcode 8 104 = some (.invokevirtual 51, 3, (9, 0, 407, 0)) := by decide +kernel
theorem kc_8_107 : zcode 8 107 = some (.lmul, 1, (0, 0, 0, 0)) := by decide +kernel
theorem kc_8_108 : zcode 8 108 = some (.lsub, 1, (0, 0, 0, 0)) := by decide +kernel
theorem kc_8_109 : zcode 8 109 = some (.lreturn, 1, (0, 0, 0, 0)) := by decide +kernel
theorem kc_8_110 : zcode 8 110 = some (.lload_n 3, 1, (0, 0, 0, 0)) := by decide +kernel
theorem kc_8_111 : zcode 8 111 = some (.aload_n 0, 1, (0, 0, 0, 0)) := by decide +kernel
theorem kc_8_112 : zcode 8 112 = some (.getfield 9, 3, (0, 0, 87, 0)) := by decide +kernel
theorem kc_8_115 : zcode 8 115 = some (.iload_n 2, 1, (0, 0, 0, 0)) := by decide +kernel
theorem kc_8_116 : zcode 8 116 = some (.iaload, 1, (0, 0, 0, 0)) := by decide +kernel
theorem kc_8_117 : zcode 8 117 = some (.i2l, 1, (0, 0, 0, 0)) := by decide +kernel
theorem kc_8_118 : zcode 8 118 = some (.lmul, 1, (0, 0, 0, 0)) := by decide +kernel
theorem kc_8_119 : zcode 8 119 = some (.lreturn, 1, (0, 0, 0, 0)) := by decide +kernel
theorem kc_8_120 : zcode 8 120 = some (.lload_n 3, 1, (0, 0, 0, 0)) := by decide +kernel
theorem kc_8_121 : zcode 8 121 = some (.lload 11, 2, (0, 0, 0, 0)) := by decide +kernel
theorem kc_8_123 : zcode 8 123 = some (.lcmp, 1, (0, 0, 0, 0)) := by decide +kernel
theorem kc_8_124 : zcode 8 124 = some (.ifCond .gt 18, 3, (142, 0, 0, 0)) := by decide +kernel
theorem kc_8_127 : zcode 8 127 = some (.aload_n 0, 1, (0, 0, 0, 0)) := by decide +kernel
theorem kc_8_128 : zcode 8 128 = some (.iload_n 2, 1, (0, 0, 0, 0)) := by decide +kernel
theorem kc_8_129 : zcode 8 129 = some (.ldc2_w 49, 3, (0, 0, 405, 2)) := by decide +kernel
theorem kc_8_132 : zcode 8 132 = some (.lload_n 3, 1, (0, 0, 0, 0)) := by decide +kernel
theorem kc_8_133 : zcode 8 133 = some (.lmul, 1, (0, 0, 0, 0)) := by decide +kernel
theorem kc_8_134 : zcode 8 134 = some (.lload 5, 2, (0, 0, 0, 0)) := by decide +kernel
theorem kc_8_136 : zcode 8 136 = some (.invokevirtual 51, 3, (9, 0, 407, 0)) := by decide +kernel
theorem kc_8_139 : zcode 8 139 = some (.goto 19, 3, (158, 0, 0, 0)) := by decide +kernel
theorem kc_8_142 : zcode 8 142 = some (.lload 7, 2, (0, 0, 0, 0)) := by decide +kernel
theorem kc_8_144 : zcode 8 144 = some (.aload_n 0, 1, (0, 0, 0, 0)) := by decide +kernel
theorem kc_8_145 : zcode 8 145 = some (.iload_n 2, 1, (0, 0, 0, 0)) := by decide +kernel
theorem kc_8_146 : zcode 8 146 = some (.ldc2_w 49, 3, (0, 0, 405, 2)) := by decide +kernel
theorem kc_8_149 : zcode 8 149 = some (.lload 11, 2, (0, 0, 0, 0)) := by decide +kernel
theorem kc_8_151 : zcode 8 151 = some (.lmul, 1, (0, 0, 0, 0)) := by decide +kernel
theorem kc_8_152 : zcode 8 152 = some (.lload 5, 2, (0, 0, 0, 0)) := by decide +kernel
theorem kc_8_154 : zcode 8 154 = some (.invokevirtual 51, 3, (9, 0, 407, 0)) := by decide +kernel
theorem kc_8_157 : zcode 8 157 = some (.lsub, 1, (0, 0, 0, 0)) := by decide +kernel
theorem kc_8_158 : zcode 8 158 = some (.lreturn, 1, (0, 0, 0, 0)) := by decide +kernel
theorem kc_8_159 : zcode 8 159 = some (.lload_n 3, 1, (0, 0, 0, 0)) := by decide +kernel
theorem kc_8_160 : zcode 8 160 = some (.lload 11, 2, (0, 0, 0, 0)) := by decide +kernel
theorem kc_8_162 : zcode 8 162 = some (.lcmp, 1, (0, 0, 0, 0)) := by decide +kernel
theorem kc_8_163 : zcode 8 163 = some (.ifCond .gt 20, 3, (183, 0, 0, 0)) := by decide +kernel
theorem kc_8_166 : zcode 8 166 = some (.lload 9, 2, (0, 0, 0, 0)) := by decide +kernel
theorem kc_8_168 : zcode 8 168 = some (.aload_n 0, 1, (0, 0, 0, 0)) := by decide +kernel
theorem kc_8_169 : zcode 8 169 = some (.iload_n 2, 1, (0, 0, 0, 0)) := by decide +kernel
theorem kc_8_170 : zcode 8 170 = some (.lload 11, 2, (0, 0, 0, 0)) := by decide +kernel
theorem kc_8_172 : zcode 8 172 = some (.lload_n 3, 1, (0, 0, 0, 0)) := by decide +kernel
theorem kc_8_173 : zcode 8 173 = some (.lsub, 1, (0, 0, 0, 0)) := by decide +kernel
theorem kc_8_174 : zcode 8 174 = some (.lload 5, 2, (0, 0, 0, 0)) := by decide +kernel
theorem kc_8_176 : zcode 8 176 = some (.invokevirtual 51, 3, (9, 0, 407, 0)) := by decide +kernel
theorem kc_8_179 : zcode 8 179 = some (.lsub, 1, (0, 0, 0, 0)) := by decide +kernel
theorem kc_8_180 : zcode 8 180 = some (.goto 17, 3, (197, 0, 0, 0)) := by decide +kernel
theorem kc_8_183 : zcode 8 183 = some (.lload 9, 2, (0, 0, 0, 0)) := by decide +kernel
theorem kc_8_185 : zcode 8 185 = some (.aload_n 0, 1, (0, 0, 0, 0)) := by decide +kernel
theorem kc_8_186 : zcode 8 186 = some (.iload_n 2, 1, (0, 0, 0, 0)) := by decide +kernel
theorem kc_8_187 : zcode 8 187 = some (.lload_n 3, 1, (0, 0, 0, 0)) := by decide +kernel
theorem kc_8_188 : zcode 8 188 = some (.lload 11, 2, (0, 0, 0, 0)) := by decide +kernel
theorem kc_8_190 : zcode 8 190 = some (.lsub, 1, (0, 0, 0, 0)) := by decide +kernel
theorem kc_8_191 : zcode 8 191 = some (.lload 5, 2, (0, 0, 0, 0)) := by decide +kernel
theorem kc_8_193 : zcode 8 193 = some (.invokevirtual 51, 3, (9, 0, 407, 0)) := by decide +kernel
theorem kc_8_196 : zcode 8 196 = some (.ladd, 1, (0, 0, 0, 0)) := by decide +kernel
theorem kc_8_197 : zcode 8 197 = some (.lreturn, 1, (0, 0, 0, 0)) := by decide +kernel
theorem kc_8_198 : zcode 8 198 = some (.aload_n 0, 1, (0, 0, 0, 0)) := by decide +kernel
theorem kc_8_199 : zcode 8 199 = some (.iload_n 2, 1, (0, 0, 0, 0)) := by decide +kernel
theorem kc_8_200 : zcode 8 200 = some (.lload_n 3, 1, (0, 0, 0, 0)) := by decide +kernel
theorem kc_8_201 : zcode 8 201 = some (.lload 5, 2, (0, 0, 0, 0)) := by decide +kernel
theorem kc_8_203 : zcode 8 203 = some (.invokevirtual 55, 3, (10, 0, 415, 0)) := by decide +kernel
theorem kc_8_206 : zcode 8 206 = some (.lreturn, 1, (0, 0, 0, 0)) := by decide +kernel
theorem kc_9_0 : zcode 9 0 = some (.ldc2_w 58, 3, (0, 0, 411, 60)) := by decide +kernel
theorem kc_9_3 : zcode 9 3 = some (.lstore 6, 2, (0, 0, 0, 0)) := by decide +kernel
theorem kc_9_5 : zcode 9 5 = some (.aload_n 0, 1, (0, 0, 0, 0)) := by decide +kernel
theorem kc_9_6 : zcode 9 6 = some (.getfield 9, 3, (0, 0, 87, 0)) := by decide +kernel
theorem kc_9_9 : zcode 9 9 = some (.iload_n 1, 1, (0, 0, 0, 0)) := by decide +kernel
theorem kc_9_10 : zcode 9 10 = some (.iaload, 1, (0, 0, 0, 0)) := by decide +kernel
theorem kc_9_11 : zcode 9 11 = some (.i2l, 1, (0, 0, 0, 0)) := by decide +kernel
theorem kc_9_12 : zcode 9 12 = some (.lload 4, 2, (0, 0, 0, 0)) := by decide +kernel
theorem kc_9_14 : zcode 9 14 = some (.lmul, 1, (0, 0, 0, 0)) := by decide +kernel
theorem kc_9_15 : zcode 9 15 = some (.lload 6, 2, (0, 0, 0, 0)) := by decide +kernel
theorem kc_9_17 : zcode 9 17 = some (.lmul, 1, (0, 0, 0, 0)) := by decide +kernel
theorem kc_9_18 : zcode 9 18 = some (.lstore 8, 2, (0, 0, 0, 0)) := by decide +kernel
theorem kc_9_20 : zcode 9 20 = some (.lload_n 2, 1, (0, 0, 0, 0)) := by decide +kernel
theorem kc_9_21 : zcode 9 21 = some (.lstore 10, 2, (0, 0, 0, 0)) := by decide +kernel
theorem kc_9_23 : zcode 9 23 = some (.iconst 0, 1, (0, 0, 0, 0)) := by decide +kernel
theorem kc_9_24 : zcode 9 24 = some (.istore 12, 2, (0, 0, 0, 0)) := by decide +kernel
theorem kc_9_26 : zcode 9 26 = some (.iload 12, 2, (0, 0, 0, 0)) := by decide +kernel
theorem kc_9_28 : zcode 9 28 = some (.aload_n 0, 1, (0, 0, 0, 0)) := by decide +kernel
theorem kc_9_29 : zcode 9 29 = some (.getfield 21, 3, (0, 3, 93, 0)) := by decide +kernel
theorem kc_9_32 : zcode 9 32 = some (.if_icmp .ge 70, 3, (102, 0, 0, 0)) := by decide +kernel
theorem kc_9_35 : zcode 9 35 = some (.aload_n 0, 1, (0, 0, 0, 0)) := by decide +kernel
theorem kc_9_36 : zcode 9 36 = some (.getfield 21, 3, (0, 3, 93, 0)) := by decide +kernel
theorem kc_9_39 : zcode 9 39 = some (.iload 12, 2, (0, 0, 0, 0)) := by decide +kernel
theorem kc_9_41 : zcode 9 41 = some (.isub, 1, (0, 0, 0, 0)) := by decide +kernel
theorem kc_9_42 : zcode 9 42 = some (.istore 13, 2, (0, 0, 0, 0)) := by decide +kernel
theorem kc_9_44 : zcode 9 44 = some (.lload 10, 2, (0, 0, 0, 0)) := by decide +kernel
theorem kc_9_46 : zcode 9 46 = some (.aload_n 0, 1, (0, 0, 0, 0)) := by decide +kernel
theorem kc_9_47 : zcode 9 47 = some (.getfield 15, 3, (0, 1, 91, 0)) := by decide +kernel
theorem kc_9_50 : zcode 9 50 = some (.iload 12, 2, (0, 0, 0, 0)) := by decide +kernel
theorem kc_9_52 : zcode 9 52 = some (.iaload, 1, (0, 0, 0, 0)) := by decide +kernel
theorem kc_9_53 : zcode 9 53 = some (.i2l, 1, (0, 0, 0, 0)) := by decide +kernel
theorem kc_9_54 : zcode 9 54 = some (.lload 4, 2, (0, 0, 0, 0)) := by decide +kernel
theorem kc_9_56 : zcode 9 56 = some (.lmul, 1, (0, 0, 0, 0)) := by decide +kernel
theorem kc_9_57 : zcode 9 57 = some (.iload 13, 2, (0, 0, 0, 0)) := by decide +kernel
theorem kc_9_59 : zcode 9 59 = some (.i2l, 1, (0, 0, 0, 0)) := by decide +kernel
theorem kc_9_60 : zcode 9 60 = some (.lmul, 1, (0, 0, 0, 0)) := by decide +kernel
theorem kc_9_61 : zcode 9 61 = some (.lcmp, 1, (0, 0, 0, 0)) := by decide +kernel
theorem kc_9_62 : zcode 9 62 = some (.ifCond .ge 18, 3, (80, 0, 0, 0)) := by decide +kernel
theorem kc_9_65 : zcode 9 65 = some (.lload 8, 2, (0, 0, 0, 0)) := by decide +kernel
theorem kc_9_67 : zcode 9 67 = some (.lload 10, 2, (0, 0, 0, 0)) := by decide +kernel
theorem kc_9_69 : zcode 9 69 = some (.lload 6, 2, (0, 0, 0, 0)) := by decide +kernel
theorem kc_9_71 : zcode 9 71 = some (.lmul, 1, (0, 0, 0, 0)) := by decide +kernel
theorem kc_9_72 : zcode 9 72 = some (.iload 13, 2, (0, 0, 0, 0)) := by decide +kernel
theorem kc_9_74 : zcode 9 74 = some (.i2l, 1, (0, 0, 0, 0)) := by decide +kernel
theorem kc_9_75 : zcode 9 75 = some (.ldiv, 1, (0, 0, 0, 0)) := by decide +kernel
theorem kc_9_76 : zcode 9 76 = some (.invokestatic 60, 3, (182, 0, 412, 0)) := by decide +kernel
theorem kc_9_79 : zcode 9 79 = some (.lreturn, 1, (0, 0, 0, 0)) := by decide +kernel
theorem kc_9_80 : zcode 9 80 = some (.lload 10, 2, (0, 0, 0, 0)) := by decide +kernel
theorem kc_9_82 : zcode 9 82 = some (.aload_n 0, 1, (0, 0, 0, 0)) := by decide +kernel
theorem kc_9_83 : zcode 9 83 = some (.getfield 15, 3, (0, 1, 91, 0)) := by decide +kernel
theorem kc_9_86 : zcode 9 86 = some (.iload 12, 2, (0, 0, 0, 0)) := by decide +kernel
theorem kc_9_88 : zcode 9 88 = some (.iaload, 1, (0, 0, 0, 0)) := by decide +kernel
theorem kc_9_89 : zcode 9 89 = some (.i2l, 1, (0, 0, 0, 0)) := by decide +kernel
theorem kc_9_90 : zcode 9 90 = some (.lload 4, 2, (0, 0, 0, 0)) := by decide +kernel
theorem kc_9_92 : zcode 9 92 = some (.lmul, 1, (0, 0, 0, 0)) := by decide +kernel
theorem kc_9_93 : zcode 9 93 = some (.lsub, 1, (0, 0, 0, 0)) := by decide +kernel
theorem kc_9_94 : zcode 9 94 = some (.lstore 10, 2, (0, 0, 0, 0)) := by decide +kernel
theorem kc_9_96 : zcode 9 96 = some (.iinc 12 1, 3, (0, 0, 0, 0)) := by decide +kernel
theorem kc_9_99 : zcode 9 99 = some (.goto (-73), 3, (26, 0, 0, 0)) := by decide +kernel
theorem kc_9_102 : zcode 9 102 = some (.lload 8, 2, (0, 0, 0, 0)) := by decide +kernel
theorem kc_9_104 : zcode 9 104 = some (.lreturn, 1, (0, 0, 0, 0)) := by decide +kernel
theorem kc_10_0 : zcode 10 0 = some (.aload_n 0, 1, (0, 0, 0, 0)) := by decide +kernel
theorem kc_10_1 : zcode 10 1 = some (.getfield 9, 3, (0, 0, 87, 0)) := by decide +kernel
theorem kc_10_4 : zcode 10 4 = some (.iload_n 1, 1, (0, 0, 0, 0)) := by decide +kernel
theorem kc_10_5 : zcode 10 5 = some (.iaload, 1, (0, 0, 0, 0)) := by decide +kernel
theorem kc_10_6 : zcode 10 6 = some (.i2l, 1, (0, 0, 0, 0)) := by decide +kernel
theorem kc_10_7 : zcode 10 7 = some (.lload 4, 2, (0, 0, 0, 0)) := by decide +kernel
theorem kc_10_9 : zcode 10 9 = some (.lmul, 1, (0, 0, 0, 0)) := by decide +kernel
theorem kc_10_10 : zcode 10 10 = some (.lstore 6, 2, (0, 0, 0, 0)) := by decide +kernel
theorem kc_10_12 : zcode 10 12 = some (.lconst 0, 1, (0, 0, 0, 0)) := by decide +kernel
theorem kc_10_13 : zcode 10 13 = some (.lstore 8, 2, (0, 0, 0, 0)) := by decide +kernel
theorem kc_10_15 : zcode 10 15 = some (.iconst 1, 1, (0, 0, 0, 0)) := by decide +kernel
theorem kc_10_16 : zcode 10 16 = some (.aload_n 0, 1, (0, 0, 0, 0)) := by decide +kernel
theorem kc_10_17 : zcode 10 17 = some (.getfield 21, 3, (0, 3, 93, 0)) := by decide +kernel
theorem kc_10_20 : zcode 10 20 = some (.ishl, 1, (0, 0, 0, 0)) := by decide +kernel
theorem kc_10_21 : zcode 10 21 = some (.istore 10, 2, (0, 0, 0, 0)) := by decide +kernel
theorem kc_10_23 : zcode 10 23 = some (.iconst 0, 1, (0, 0, 0, 0)) := by decide +kernel
theorem kc_10_24 : zcode 10 24 = some (.istore 11, 2, (0, 0, 0, 0)) := by decide +kernel
theorem kc_10_26 : zcode 10 26 = some (.iload 11, 2, (0, 0, 0, 0)) := by decide +kernel
theorem kc_10_28 : zcode 10 28 = some (.iload 10, 2, (0, 0, 0, 0)) := by decide +kernel
theorem kc_10_30 : zcode 10 30 = some (.if_icmp .ge 82, 3, (112, 0, 0, 0)) := by decide +kernel
theorem kc_10_33 : zcode 10 33 = some (.lload_n 2, 1, (0, 0, 0, 0)) := by decide +kernel
theorem kc_10_34 : zcode 10 34 = some (.aload_n 0, 1, (0, 0, 0, 0)) := by decide +kernel
theorem kc_10_35 : zcode 10 35 = some (.getfield 18, 3, (0, 2, 92, 0)) := by decide +kernel
theorem kc_10_38 : zcode 10 38 = some (.iload 11, 2, (0, 0, 0, 0)) := by decide +kernel
theorem kc_10_40 : zcode 10 40 = some (.iaload, 1, (0, 0, 0, 0)) := by decide +kernel
theorem kc_10_41 : zcode 10 41 = some (.i2l, 1, (0, 0, 0, 0)) := by decide +kernel
theorem kc_10_42 : zcode 10 42 = some (.lload 4, 2, (0, 0, 0, 0)) := by decide +kernel
theorem kc_10_44 : zcode 10 44 = some (.lmul, 1, (0, 0, 0, 0)) := by decide +kernel
theorem kc_10_45 : zcode 10 45 = some (.lsub, 1, (0, 0, 0, 0)) := by decide +kernel
theorem kc_10_46 : zcode 10 46 = some (.lstore 12, 2, (0, 0, 0, 0)) := by decide +kernel
theorem kc_10_48 : zcode 10 48 = some (.iload 11, 2, (0, 0, 0, 0)) := by decide +kernel
theorem kc_10_50 : zcode 10 50 = some (.iload_n 1, 1, (0, 0, 0, 0)) := by decide +kernel
theorem kc_10_51 : zcode 10 51 = some (.ishr, 1, (0, 0, 0, 0)) := by decide +kernel
theorem kc_10_52 : zcode 10 52 = some (.iconst 1, 1, (0, 0, 0, 0)) := by decide +kernel
theorem kc_10_53 : zcode 10 53 = some (.iand, 1, (0, 0, 0, 0)) := by decide +kernel
theorem kc_10_54 : zcode 10 54 = some (.ifCond .ne 52, 3, (106, 0, 0, 0)) := by decide +kernel
theorem kc_10_57 : zcode 10 57 = some (.lload 12, 2, (0, 0, 0, 0)) := by decide +kernel
theorem kc_10_59 : zcode 10 59 = some (.lconst 0, 1, (0, 0, 0, 0)) := by decide +kernel
theorem kc_10_60 : zcode 10 60 = some (.lcmp, 1, (0, 0, 0, 0)) := by decide +kernel
theorem kc_10_61 : zcode 10 61 = some (.ifCond .le 45, 3, (106, 0, 0, 0)) := by decide +kernel
theorem kc_10_64 : zcode 10 64 = some (.iload 11, 2, (0, 0, 0, 0)) := by decide +kernel
theorem kc_10_66 : zcode 10 66 = some (.invokestatic 66, 3, (177, 0, 419, 0)) := by decide +kernel
theorem kc_10_69 : zcode 10 69 = some (.istore 14, 2, (0, 0, 0, 0)) := by decide +kernel
theorem kc_10_71 : zcode 10 71 = some (.lload 8, 2, (0, 0, 0, 0)) := by decide +kernel
theorem kc_10_73 : zcode 10 73 = some (.lload 6, 2, (0, 0, 0, 0)) := by decide +kernel
theorem kc_10_75 : zcode 10 75 = some (.lload 12, 2, (0, 0, 0, 0)) := by decide +kernel
theorem kc_10_77 : zcode 10 77 = some (.invokestatic 60, 3, (182, 0, 412, 0)) := by decide +kernel
theorem kc_10_80 : zcode 10 80 = some (.getstatic 46, 3, (0, 0, 425, 0)) := by decide +kernel
theorem kc_10_83 : zcode 10 83 = some (.iload 14, 2, (0, 0, 0, 0)) := by decide +kernel
theorem kc_10_85 : zcode 10 85 = some (.iaload, 1, (0, 0, 0, 0)) := by decide +kernel
theorem kc_10_86 : zcode 10 86 = some (.i2l, 1, (0, 0, 0, 0)) := by decide +kernel
theorem kc_10_87 : zcode 10 87 = some (.lmul, 1, (0, 0, 0, 0)) := by decide +kernel
theorem kc_10_88 : zcode 10 88 = some (.getstatic 46, 3, (0, 0, 425, 0)) := by decide +kernel
theorem kc_10_91 : zcode 10 91 = some (.aload_n 0, 1, (0, 0, 0, 0)) := by decide +kernel
theorem kc_10_92 : zcode 10 92 = some (.getfield 21, 3, (0, 3, 93, 0)) := by decide +kernel
theorem kc_10_95 : zcode 10 95 = some (.iconst 1, 1, (0, 0, 0, 0)) := by decide +kernel
theorem kc_10_96 : zcode 10 96 = some (.isub, 1, (0, 0, 0, 0)) := by decide +kernel
theorem kc_10_97 : zcode 10 97 = some (.iload 14, 2, (0, 0, 0, 0)) := by decide +kernel
theorem kc_10_99 : zcode 10 99 = some (.isub, 1, (0, 0, 0, 0)) := by decide +kernel
theorem kc_10_100 : zcode 10 100 = some (.iaload, 1, (0, 0, 0, 0)) := by decide +kernel
theorem kc_10_101 : zcode 10 101 = some (.i2l, 1, (0, 0, 0, 0)) := by decide +kernel
theorem kc_10_102 : zcode 10 102 = some (.lmul, 1, (0, 0, 0, 0)) := by decide +kernel
theorem kc_10_103 : zcode 10 103 = some (.ladd, 1, (0, 0, 0, 0)) := by decide +kernel
theorem kc_10_104 : zcode 10 104 = some (.lstore 8, 2, (0, 0, 0, 0)) := by decide +kernel
theorem kc_10_106 : zcode 10 106 = some (.iinc 11 1, 3, (0, 0, 0, 0)) := by decide +kernel
theorem kc_10_109 : zcode 10 109 = some (.goto (-83), 3, (26, 0, 0, 0)) := by decide +kernel
theorem kc_10_112 : zcode 10 112 = some (.lload 8, 2, (0, 0, 0, 0)) := by decide +kernel
theorem kc_10_114 : zcode 10 114 = some (.lreturn, 1, (0, 0, 0, 0)) := by decide +kernel
theorem kc_13_0 : zcode 13 0 = some (.aload_n 0, 1, (0, 0, 0, 0)) := by decide +kernel
theorem kc_13_1 : zcode 13 1 = some (.getfield 9, 3, (2, 3, 164, 0)) := by decide +kernel
theorem kc_13_4 : zcode 13 4 = some (.aload_n 0, 1, (0, 0, 0, 0)) := by decide +kernel
theorem kc_13_5 : zcode 13 5 = some (.getfield 15, 3, (2, 2, 163, 0)) := by decide +kernel
theorem kc_13_8 : zcode 13 8 = some (.if_icmp .lt 6, 3, (14, 0, 0, 0)) := by decide +kernel
theorem kc_13_11 : zcode 13 11 = some (.bipush (-4), 2, (0, 0, 0, 0)) := by decide +kernel
theorem kc_13_13 : zcode 13 13 = some (.ireturn, 1, (0, 0, 0, 0)) := by decide +kernel
theorem kc_13_14 : zcode 13 14 = some (.aload_n 0, 1, (0, 0, 0, 0)) := by decide +kernel
theorem kc_13_15 : zcode 13 15 = some (.getfield 18, 3, (2, 0, 159, 0)) := by decide +kernel
theorem kc_13_18 : zcode 13 18 = some (.aload_n 0, 1, (0, 0, 0, 0)) := by decide +kernel
theorem kc_13_19 : zcode 13 19 = some (.getfield 9, 3, (2, 3, 164, 0)) := by decide +kernel
theorem kc_13_22 : zcode 13 22 = some (.iload_n 1, 1, (0, 0, 0, 0)) := by decide +kernel
theorem kc_13_23 : zcode 13 23 = some (.iastore, 1, (0, 0, 0, 0)) := by decide +kernel
theorem kc_13_24 : zcode 13 24 = some (.aload_n 0, 1, (0, 0, 0, 0)) := by decide +kernel
theorem kc_13_25 : zcode 13 25 = some (.getfield 22, 3, (2, 1, 161, 0)) := by decide +kernel
theorem kc_13_28 : zcode 13 28 = some (.aload_n 0, 1, (0, 0, 0, 0)) := by decide +kernel
theorem kc_13_29 : zcode 13 29 = some (.getfield 9, 3, (2, 3, 164, 0)) := by decide +kernel
theorem kc_13_32 : zcode 13 32 = some (.iload_n 2, 1, (0, 0, 0, 0)) := by decide +kernel
theorem kc_13_33 : zcode 13 33 = some (.iastore, 1, (0, 0, 0, 0)) := by decide +kernel
theorem kc_13_34 : zcode 13 34 = some (.aload_n 0, 1, (0, 0, 0, 0)) := by decide +kernel
theorem kc_13_35 : zcode 13 35 = some (.dup, 1, (0, 0, 0, 0)) := by decide +kernel
theorem kc_13_36 : zcode 13 36 = some (.getfield 9, 3, (2, 3, 164, 0)) := by decide +kernel
theorem kc_13_39 : zcode 13 39 = some (.iconst 1, 1, (0, 0, 0, 0)) := by decide +kernel
theorem kc_13_40 : zcode 13 40 = some (.iadd, 1, (0, 0, 0, 0)) := by decide +kernel
theorem kc_13_41 : zcode 13 41 = some (.putfield 9, 3, (2, 3, 164, 0)) := by decide +kernel
theorem kc_13_44 : zcode 13 44 = some (.aload_n 0, 1, (0, 0, 0, 0)) := by decide +kernel
theorem kc_13_45 : zcode 13 45 = some (.getfield 9, 3, (2, 3, 164, 0)) := by decide +kernel
theorem kc_13_48 : zcode 13 48 = some (.ireturn, 1, (0, 0, 0, 0)) := by decide +kernel
theorem kc_14_0 : zcode 14 0 = some (.aload_n 0, 1, (0, 0, 0, 0)) := by decide +kernel
theorem kc_14_1 : zcode 14 1 = some (.iconst 0, 1, (0, 0, 0, 0)) := by decide +kernel
theorem kc_14_2 : zcode 14 2 = some (.putfield 9, 3, (2, 3, 164, 0)) := by decide +kernel
theorem kc_14_5 : zcode 14 5 = some (.iconst 0, 1, (0, 0, 0, 0)) := by decide +kernel
theorem kc_14_6 : zcode 14 6 = some (.istore_n 2, 1, (0, 0, 0, 0)) := by decide +kernel
theorem kc_14_7 : zcode 14 7 = some (.iload_n 2, 1, (0, 0, 0, 0)) := by decide +kernel
theorem kc_14_8 : zcode 14 8 = some (.aload_n 1, 1, (0, 0, 0, 0)) := by decide +kernel
theorem kc_14_9 : zcode 14 9 = some (.getfield 9, 3, (2, 3, 164, 0)) := by decide +kernel
theorem kc_14_12 : zcode 14 12 = some (.if_icmp .ge 26, 3, (38, 0, 0, 0)) := by decide +kernel
theorem kc_14_15 : zcode 14 15 = some (.aload_n 0, 1, (0, 0, 0, 0)) := by decide +kernel
theorem kc_14_16 : zcode 14 16 = some (.aload_n 1, 1, (0, 0, 0, 0)) := by decide +kernel
theorem kc_14_17 : zcode 14 17 = some (.getfield 18, 3, (2, 0, 159, 0)) := by decide +kernel
theorem kc_14_20 : zcode 14 20 = some (.iload_n 2, 1, (0, 0, 0, 0)) := by decide +kernel
theorem kc_14_21 : zcode 14 21 = some (.iaload, 1, (0, 0, 0, 0)) := by decide +kernel
theorem kc_14_22 : zcode 14 22 = some (.aload_n 1, 1, (0, 0, 0, 0)) := by decide +kernel
theorem kc_14_23 : zcode 14 23 = some (.getfield 22, 3, (2, 1, 161, 0)) := by decide +kernel
theorem kc_14_26 : zcode 14 26 = some (.iload_n 2, 1, (0, 0, 0, 0)) := by decide +kernel
theorem kc_14_27 : zcode 14 27 = some (.iaload, 1, (0, 0, 0, 0)) := by decide +kernel
theorem kc_14_28 : zcode 14 28 = some (.invokevirtual 25, 3, (13, 0, 623, 0)) := by decide +kernel
theorem kc_14_31 : zcode 14 31 = some (.pop, 1, (0, 0, 0, 0)) := by decide +kernel
theorem kc_14_32 : zcode 14 32 = some (.iinc 2 1, 3, (0, 0, 0, 0)) := by decide +kernel
theorem kc_14_35 : zcode 14 35 = some (.goto (-28), 3, (7, 0, 0, 0)) := by decide +kernel
theorem kc_14_38 : zcode 14 38 = some (.return_, 1, (0, 0, 0, 0)) := by decide +kernel
theorem kc_16_0 : zcode 16 0 = some (.aload_n 0, 1, (0, 0, 0, 0)) := by decide +kernel
theorem kc_16_1 : zcode 16 1 = some (.getfield 12, 3, (3, 0, 107, 0)) := by decide +kernel
theorem kc_16_4 : zcode 16 4 = some (.getfield 29, 3, (0, 3, 94, 0)) := by decide +kernel
theorem kc_16_7 : zcode 16 7 = some (.ifCond .le 21, 3, (28, 0, 0, 0)) := by decide +kernel
theorem kc_16_10 : zcode 16 10 = some (.aload_n 0, 1, (0, 0, 0, 0)) := by decide +kernel
theorem kc_16_11 : zcode 16 11 = some (.getfield 22, 3, (3, 2, 111, 0)) := by decide +kernel
theorem kc_16_14 : zcode 16 14 = some (.aload_n 0, 1, (0, 0, 0, 0)) := by decide +kernel
theorem kc_16_15 : zcode 16 15 = some (.getfield 12, 3, (3, 0, 107, 0)) := by decide +kernel
theorem kc_16_18 : zcode 16 18 = some (.invokevirtual 32, 3, (2, 0, 355, 0)) := by decide +kernel
theorem kc_16_21 : zcode 16 21 = some (.if_icmp .gt 7, 3, (28, 0, 0, 0)) := by decide +kernel
theorem kc_16_24 : zcode 16 24 = some (.iconst 1, 1, (0, 0, 0, 0)) := by decide +kernel
theorem kc_16_25 : zcode 16 25 = some (.goto 4, 3, (29, 0, 0, 0)) := by decide +kernel
theorem kc_16_28 : zcode 16 28 = some (.iconst 0, 1, (0, 0, 0, 0)) := by decide +kernel
theorem kc_16_29 : zcode 16 29 = some (.ireturn, 1, (1, 0, 0, 0)) := by decide +kernel
theorem kc_17_0 : zcode 17 0 = some (.aload_n 0, 1, (0, 0, 0, 0)) := by decide +kernel
theorem kc_17_1 : zcode 17 1 = some (.getfield 12, 3, (3, 0, 107, 0)) := by decide +kernel
theorem kc_17_4 : zcode 17 4 = some (.aload_n 1, 1, (0, 0, 0, 0)) := by decide +kernel
theorem kc_17_5 : zcode 17 5 = some (.getfield 12, 3, (3, 0, 107, 0)) := by decide +kernel
theorem kc_17_8 : zcode 17 8 = some (.invokevirtual 36, 3, (6, 0, 480, 0)) := by decide +kernel
theorem kc_17_11 : zcode 17 11 = some (.aload_n 0, 1, (0, 0, 0, 0)) := by decide +kernel
theorem kc_17_12 : zcode 17 12 = some (.aload_n 1, 1, (0, 0, 0, 0)) := by decide +kernel
theorem kc_17_13 : zcode 17 13 = some (.getfield 22, 3, (3, 2, 111, 0)) := by decide +kernel
theorem kc_17_16 : zcode 17 16 = some (.putfield 22, 3, (3, 2, 111, 0)) := by decide +kernel
theorem kc_17_19 : zcode 17 19 = some (.aload_n 0, 1, (0, 0, 0, 0)) := by decide +kernel
theorem kc_17_20 : zcode 17 20 = some (.aload_n 1, 1, (0, 0, 0, 0)) := by decide +kernel
theorem kc_17_21 : zcode 17 21 = some (.getfield 26, 3, (3, 3, 114, 0)) := by decide +kernel
theorem kc_17_24 : zcode 17 24 = some (.putfield 26, 3, (3, 3, 114, 0)) := by decide +kernel
theorem kc_17_27 : zcode 17 27 = some (.return_, 1, (0, 0, 0, 0)) := by decide +kernel
theorem kc_18_0 : zcode 18 0 = some (.aload_n 0, 1, (0, 0, 0, 0)) := by decide +kernel
theorem kc_18_1 : zcode 18 1 = some (.getfield 12, 3, (3, 0, 107, 0)) := by decide +kernel
theorem kc_18_4 : zcode 18 4 = some (.iload_n 1, 1, (0, 0, 0, 0)) := by decide +kernel
theorem kc_18_5 : zcode 18 5 = some (.iload_n 2, 1, (0, 0, 0, 0)) := by decide +kernel
theorem kc_18_6 : zcode 18 6 = some (.aload_n 0, 1, (0, 0, 0, 0)) := by decide +kernel
theorem kc_18_7 : zcode 18 7 = some (.getfield 22, 3, (3, 2, 111, 0)) := by decide +kernel
theorem kc_18_10 : zcode 18 10 = some (.i2l, 1, (0, 0, 0, 0)) := by decide +kernel
theorem kc_18_11 : zcode 18 11 = some (.lconst 1, 1, (0, 0, 0, 0)) := by decide +kernel
theorem kc_18_12 : zcode 18 12 = some (.invokevirtual 40, 3, (8, 0, 400, 0)) := by decide +kernel
theorem kc_18_15 : zcode 18 15 = some (.aload_n 0, 1, (0, 0, 0, 0)) := by decide +kernel
theorem kc_18_16 : zcode 18 16 = some (.getfield 12, 3, (3, 0, 107, 0)) := by decide +kernel
theorem kc_18_19 : zcode 18 19 = some (.iload_n 1, 1, (0, 0, 0, 0)) := by decide +kernel
theorem kc_18_20 : zcode 18 20 = some (.invokevirtual 44, 3, (7, 0, 427, 0)) := by decide +kernel
theorem kc_18_23 : zcode 18 23 = some (.iload_n 3, 1, (0, 0, 0, 0)) := by decide +kernel
theorem kc_18_24 : zcode 18 24 = some (.invokestatic 48, 3, (90, 1, 431, 0)) := by decide +kernel
theorem kc_18_27 : zcode 18 27 = some (.lreturn, 1, (0, 0, 0, 0)) := by decide +kernel
theorem kc_19_0 : zcode 19 0 = some (.aload_n 0, 1, (0, 0, 0, 0)) := by decide +kernel
theorem kc_19_1 : zcode 19 1 = some (.getfield 12, 3, (3, 0, 107, 0)) := by decide +kernel
theorem kc_19_4 : zcode 19 4 = some (.iload_n 1, 1, (0, 0, 0, 0)) := by decide +kernel
theorem kc_19_5 : zcode 19 5 = some (.invokevirtual 44, 3, (7, 0, 427, 0)) := by decide +kernel
theorem kc_19_8 : zcode 19 8 = some (.lstore_n 3, 1, (0, 0, 0, 0)) := by decide +kernel
theorem kc_19_9 : zcode 19 9 = some (.lload_n 3, 1, (0, 0, 0, 0)) := by decide +kernel
theorem kc_19_10 : zcode 19 10 = some (.lconst 1, 1, (0, 0, 0, 0)) := by decide +kernel
theorem kc_19_11 : zcode 19 11 = some (.lcmp, 1, (0, 0, 0, 0)) := by decide +kernel
theorem kc_19_12 : zcode 19 12 = some (.ifCond .ge 7, 3, (19, 0, 0, 0)) := by decide +kernel
theorem kc_19_15 : zcode 19 15 = some (.iconst 0, 1, (0, 0, 0, 0)) := by decide +kernel
theorem kc_19_16 : zcode 19 16 = some (.goto 21, 3, (37, 0, 0, 0)) := by decide +kernel
theorem kc_19_19 : zcode 19 19 = some (.aload_n 0, 1, (0, 0, 0, 0)) := by decide +kernel
theorem kc_19_20 : zcode 19 20 = some (.getfield 12, 3, (3, 0, 107, 0)) := by decide +kernel
theorem kc_19_23 : zcode 19 23 = some (.iload_n 1, 1, (0, 0, 0, 0)) := by decide +kernel
theorem kc_19_24 : zcode 19 24 = some (.iload_n 2, 1, (0, 0, 0, 0)) := by decide +kernel
theorem kc_19_25 : zcode 19 25 = some (.aload_n 0, 1, (0, 0, 0, 0)) := by decide +kernel
theorem kc_19_26 : zcode 19 26 = some (.getfield 22, 3, (3, 2, 111, 0)) := by decide +kernel
theorem kc_19_29 : zcode 19 29 = some (.i2l, 1, (0, 0, 0, 0)) := by decide +kernel
theorem kc_19_30 : zcode 19 30 = some (.lconst 1, 1, (0, 0, 0, 0)) := by decide +kernel
theorem kc_19_31 : zcode 19 31 = some (.invokevirtual 40, 3, (8, 0, 400, 0)) := by decide +kernel
theorem kc_19_34 : zcode 19 34 = some (.lload_n 3, 1, (0, 0, 0, 0)) := by decide +kernel
theorem kc_19_35 : zcode 19 35 = some (.ldiv, 1, (0, 0, 0, 0)) := by decide +kernel
theorem kc_19_36 : zcode 19 36 = some (.l2i, 1, (0, 0, 0, 0)) := by decide +kernel
theorem kc_19_37 : zcode 19 37 = some (.ireturn, 1, (0, 0, 0, 0)) := by decide +kernel
theorem kc_20_0 : zcode 20 0 = some (.iconst 0, 1, (0, 0, 0, 0)) := by decide +kernel
theorem kc_20_1 : zcode 20 1 = some (.istore_n 2, 1, (0, 0, 0, 0)) := by decide +kernel
theorem kc_20_2 : zcode 20 2 = some (.iconst 0, 1, (0, 0, 0, 0)) := by decide +kernel
theorem kc_20_3 : zcode 20 3 = some (.istore_n 3, 1, (0, 0, 0, 0)) := by decide +kernel
theorem kc_20_4 : zcode 20 4 = some (.iload_n 3, 1, (0, 0, 0, 0)) := by decide +kernel
theorem kc_20_5 : zcode 20 5 = some (.bipush 6, 2, (0, 0, 0, 0)) := by decide +kernel
theorem kc_20_7 : zcode 20 7 = some (.if_icmp .ge 24, 3, (31, 0, 0, 0)) := by decide +kernel
theorem kc_20_10 : zcode 20 10 = some (.aload_n 0, 1, (0, 0, 0, 0)) := by decide +kernel
theorem kc_20_11 : zcode 20 11 = some (.iload_n 1, 1, (0, 0, 0, 0)) := by decide +kernel
theorem kc_20_12 : zcode 20 12 = some (.iload_n 3, 1, (0, 0, 0, 0)) := by decide +kernel
theorem kc_20_13 : zcode 20 13 = some (.invokevirtual 52, 3, (21, 0, 497, 0)) := by decide +kernel
theorem kc_20_16 : zcode 20 16 = some (.ifCond .eq 9, 3, (25, 0, 0, 0)) := by decide +kernel
theorem kc_20_19 : zcode 20 19 = some (.iload_n 2, 1, (0, 0, 0, 0)) := by decide +kernel
theorem kc_20_20 : zcode 20 20 = some (.iconst 1, 1, (0, 0, 0, 0)) := by decide +kernel
theorem kc_20_21 : zcode 20 21 = some (.iload_n 3, 1, (0, 0, 0, 0)) := by decide +kernel
theorem kc_20_22 : zcode 20 22 = some (.ishl, 1, (0, 0, 0, 0)) := by decide +kernel
theorem kc_20_23 : zcode 20 23 = some (.ior, 1, (0, 0, 0, 0)) := by decide +kernel
theorem kc_20_24 : zcode 20 24 = some (.istore_n 2, 1, (0, 0, 0, 0)) := by decide +kernel
theorem kc_20_25 : zcode 20 25 = some (.iinc 3 1, 3, (0, 0, 0, 0)) := by decide +kernel
theorem kc_20_28 : zcode 20 28 = some (.goto (-24), 3, (4, 0, 0, 0)) := by decide +kernel
theorem kc_20_31 : zcode 20 31 = some (.iload_n 2, 1, (0, 0, 0, 0)) := by decide +kernel
theorem kc_20_32 : zcode 20 32 = some (.ireturn, 1, (0, 0, 0, 0)) := by decide +kernel
theorem kc_21_0 : zcode 21 0 = some (.aload_n 0, 1, (0, 0, 0, 0)) := by decide +kernel
theorem kc_21_1 : zcode 21 1 = some (.getfield 12, 3, (3, 0, 107, 0)) := by decide +kernel
theorem kc_21_4 : zcode 21 4 = some (.iload_n 1, 1, (0, 0, 0, 0)) := by decide +kernel
theorem kc_21_5 : zcode 21 5 = some (.invokevirtual 44, 3, (7, 0, 427, 0)) := by decide +kernel
theorem kc_21_8 : zcode 21 8 = some (.lstore_n 3, 1, (0, 0, 0, 0)) := by decide +kernel
theorem kc_21_9 : zcode 21 9 = some (.aload_n 0, 1, (0, 0, 0, 0)) := by decide +kernel
theorem kc_21_10 : zcode 21 10 = some (.getfield 12, 3, (3, 0, 107, 0)) := by decide +kernel
theorem kc_21_13 : zcode 21 13 = some (.iload_n 2, 1, (0, 0, 0, 0)) := by decide +kernel
theorem kc_21_14 : zcode 21 14 = some (.invokevirtual 44, 3, (7, 0, 427, 0)) := by decide +kernel
theorem kc_21_17 : zcode 21 17 = some (.lstore 5, 2, (0, 0, 0, 0)) := by decide +kernel
theorem kc_21_19 : zcode 21 19 = some (.iconst 0, 1, (0, 0, 0, 0)) := by decide +kernel
theorem kc_21_20 : zcode 21 20 = some (.istore 7, 2, (0, 0, 0, 0)) := by decide +kernel
theorem kc_21_22 : zcode 21 22 = some (.iload 7, 2, (0, 0, 0, 0)) := by decide +kernel
theorem kc_21_24 : zcode 21 24 = some (.aload_n 0, 1, (0, 0, 0, 0)) := by decide +kernel
theorem kc_21_25 : zcode 21 25 = some (.getfield 12, 3, (3, 0, 107, 0)) := by decide +kernel
theorem kc_21_28 : zcode 21 28 = some (.getfield 29, 3, (0, 3, 94, 0)) := by decide +kernel
theorem kc_21_31 : zcode 21 31 = some (.if_icmp .ge 56, 3, (87, 0, 0, 0)) := by decide +kernel
theorem kc_21_34 : zcode 21 34 = some (.aload_n 0, 1, (0, 0, 0, 0)) := by decide +kernel
theorem kc_21_35 : zcode 21 35 = some (.getfield 12, 3, (3, 0, 107, 0)) := by decide +kernel
theorem kc_21_38 : zcode 21 38 = some (.iload_n 1, 1, (0, 0, 0, 0)) := by decide +kernel
theorem kc_21_39 : zcode 21 39 = some (.iload 7, 2, (0, 0, 0, 0)) := by decide +kernel
theorem kc_21_41 : zcode 21 41 = some (.aload_n 0, 1, (0, 0, 0, 0)) := by decide +kernel
theorem kc_21_42 : zcode 21 42 = some (.getfield 22, 3, (3, 2, 111, 0)) := by decide +kernel
theorem kc_21_45 : zcode 21 45 = some (.i2l, 1, (0, 0, 0, 0)) := by decide +kernel
theorem kc_21_46 : zcode 21 46 = some (.lconst 1, 1, (0, 0, 0, 0)) := by decide +kernel
theorem kc_21_47 : zcode 21 47 = some (.invokevirtual 40, 3, (8, 0, 400, 0)) := by decide +kernel
theorem kc_21_50 : zcode 21 50 = some (.lload 5, 2, (0, 0, 0, 0)) := by decide +kernel
theorem kc_21_52 : zcode 21 52 = some (.lmul, 1, (0, 0, 0, 0)) := by decide +kernel
theorem kc_21_53 : zcode 21 53 = some (.lstore 8, 2, (0, 0, 0, 0)) := by decide +kernel
theorem kc_21_55 : zcode 21 55 = some (.lload 8, 2, (0, 0, 0, 0)) := by decide +kernel
theorem kc_21_57 : zcode 21 57 = some (.aload_n 0, 1, (0, 0, 0, 0)) := by decide +kernel
theorem kc_21_58 : zcode 21 58 = some (.getfield 12, 3, (3, 0, 107, 0)) := by decide +kernel
theorem kc_21_61 : zcode 21 61 = some (.iload_n 2, 1, (0, 0, 0, 0)) := by decide +kernel
theorem kc_21_62 : zcode 21 62 = some (.iload 7, 2, (0, 0, 0, 0)) := by decide +kernel
theorem kc_21_64 : zcode 21 64 = some (.aload_n 0, 1, (0, 0, 0, 0)) := by decide +kernel
theorem kc_21_65 : zcode 21 65 = some (.getfield 22, 3, (3, 2, 111, 0)) := by decide +kernel
theorem kc_21_68 : zcode 21 68 = some (.i2l, 1, (0, 0, 0, 0)) := by decide +kernel
theorem kc_21_69 : zcode 21 69 = some (.lconst 1, 1, (0, 0, 0, 0)) := by decide +kernel
theorem kc_21_70 : zcode 21 70 = some (.invokevirtual 40, 3, (8, 0, 400, 0)) := by decide +kernel
theorem kc_21_73 : zcode 21 73 = some (.lload_n 3, 1, (0, 0, 0, 0)) := by decide +kernel
theorem kc_21_74 : zcode 21 74 = some (.lmul, 1, (0, 0, 0, 0)) := by decide +kernel
theorem kc_21_75 : zcode 21 75 = some (.lcmp, 1, (0, 0, 0, 0)) := by decide +kernel
theorem kc_21_76 : zcode 21 76 = some (.ifCond .eq 5, 3, (81, 0, 0, 0)) := by decide +kernel
theorem kc_21_79 : zcode 21 79 = some (.iconst 0, 1, (0, 0, 0, 0)) := by decide +kernel
theorem kc_21_80 : zcode 21 80 = some (.ireturn, 1, (1, 0, 0, 0)) := by decide +kernel
theorem kc_21_81 : zcode 21 81 = some (.iinc 7 1, 3, (0, 0, 0, 0)) := by decide +kernel
theorem kc_21_84 : zcode 21 84 = some (.goto (-62), 3, (22, 0, 0, 0)) := by decide +kernel
theorem kc_21_87 : zcode 21 87 = some (.iconst 1, 1, (0, 0, 0, 0)) := by decide +kernel
theorem kc_21_88 : zcode 21 88 = some (.ireturn, 1, (1, 0, 0, 0)) := by decide +kernel
theorem kc_22_0 : zcode 22 0 = some (.iconst 0, 1, (0, 0, 0, 0)) := by decide +kernel
theorem kc_22_1 : zcode 22 1 = some (.istore_n 3, 1, (0, 0, 0, 0)) := by decide +kernel
theorem kc_22_2 : zcode 22 2 = some (.iload_n 3, 1, (0, 0, 0, 0)) := by decide +kernel
theorem kc_22_3 : zcode 22 3 = some (.aload_n 0, 1, (0, 0, 0, 0)) := by decide +kernel
theorem kc_22_4 : zcode 22 4 = some (.getfield 12, 3, (3, 0, 107, 0)) := by decide +kernel
theorem kc_22_7 : zcode 22 7 = some (.getfield 29, 3, (0, 3, 94, 0)) := by decide +kernel
theorem kc_22_10 : zcode 22 10 = some (.if_icmp .ge 50, 3, (60, 0, 0, 0)) := by decide +kernel
theorem kc_22_13 : zcode 22 13 = some (.aload_n 0, 1, (0, 0, 0, 0)) := by decide +kernel
theorem kc_22_14 : zcode 22 14 = some (.getfield 18, 3, (3, 1, 110, 0)) := by decide +kernel
theorem kc_22_17 : zcode 22 17 = some (.iload_n 3, 1, (0, 0, 0, 0)) := by decide +kernel
theorem kc_22_18 : zcode 22 18 = some (.aload_n 0, 1, (0, 0, 0, 0)) := by decide +kernel
theorem kc_22_19 : zcode 22 19 = some (.getfield 12, 3, (3, 0, 107, 0)) := by decide +kernel
theorem kc_22_22 : zcode 22 22 = some (.getfield 56, 3, (0, 0, 90, 0)) := by decide +kernel
theorem kc_22_25 : zcode 22 25 = some (.iload_n 3, 1, (0, 0, 0, 0)) := by decide +kernel
theorem kc_22_26 : zcode 22 26 = some (.iaload, 1, (0, 0, 0, 0)) := by decide +kernel
theorem kc_22_27 : zcode 22 27 = some (.i2l, 1, (0, 0, 0, 0)) := by decide +kernel
theorem kc_22_28 : zcode 22 28 = some (.aload_n 0, 1, (0, 0, 0, 0)) := by decide +kernel
theorem kc_22_29 : zcode 22 29 = some (.getfield 12, 3, (3, 0, 107, 0)) := by decide +kernel
theorem kc_22_32 : zcode 22 32 = some (.iload_n 1, 1, (0, 0, 0, 0)) := by decide +kernel
theorem kc_22_33 : zcode 22 33 = some (.invokevirtual 44, 3, (7, 0, 427, 0)) := by decide +kernel
theorem kc_22_36 : zcode 22 36 = some (.lmul, 1, (0, 0, 0, 0)) := by decide +kernel
theorem kc_22_37 : zcode 22 37 = some (.aload_n 0, 1, (0, 0, 0, 0)) := by decide +kernel
theorem kc_22_38 : zcode 22 38 = some (.getfield 12, 3, (3, 0, 107, 0)) := by decide +kernel
theorem kc_22_41 : zcode 22 41 = some (.iload_n 1, 1, (0, 0, 0, 0)) := by decide +kernel
theorem kc_22_42 : zcode 22 42 = some (.iload_n 3, 1, (0, 0, 0, 0)) := by decide +kernel
theorem kc_22_43 : zcode 22 43 = some (.aload_n 0, 1, (0, 0, 0, 0)) := by decide +kernel
theorem kc_22_44 : zcode 22 44 = some (.getfield 22, 3, (3, 2, 111, 0)) := by decide +kernel
theorem kc_22_47 : zcode 22 47 = some (.i2l, 1, (0, 0, 0, 0)) := by decide +kernel
theorem kc_22_48 : zcode 22 48 = some (.lconst 1, 1, (0, 0, 0, 0)) := by decide +kernel
theorem kc_22_49 : zcode 22 49 = some (.invokevirtual 40, 3, (8, 0, 400, 0)) := by decide +kernel
theorem kc_22_52 : zcode 22 52 = some (.lsub, 1, (0, 0, 0, 0)) := by decide +kernel
theorem kc_22_53 : zcode 22 53 = some (.lastore, 1, (0, 0, 0, 0)) := by decide +kernel
theorem kc_22_54 : zcode 22 54 = some (.iinc 3 1, 3, (0, 0, 0, 0)) := by decide +kernel
theorem kc_22_57 : zcode 22 57 = some (.goto (-55), 3, (2, 0, 0, 0)) := by decide +kernel
theorem kc_22_60 : zcode 22 60 = some (.iconst 0, 1, (0, 0, 0, 0)) := by decide +kernel
theorem kc_22_61 : zcode 22 61 = some (.istore_n 3, 1, (0, 0, 0, 0)) := by decide +kernel
theorem kc_22_62 : zcode 22 62 = some (.iload_n 3, 1, (0, 0, 0, 0)) := by decide +kernel
theorem kc_22_63 : zcode 22 63 = some (.aload_n 0, 1, (0, 0, 0, 0)) := by decide +kernel
theorem kc_22_64 : zcode 22 64 = some (.getfield 12, 3, (3, 0, 107, 0)) := by decide +kernel
theorem kc_22_67 : zcode 22 67 = some (.getfield 29, 3, (0, 3, 94, 0)) := by decide +kernel
theorem kc_22_70 : zcode 22 70 = some (.if_icmp .ge 61, 3, (131, 0, 0, 0)) := by decide +kernel
theorem kc_22_73 : zcode 22 73 = some (.iconst 0, 1, (0, 0, 0, 0)) := by decide +kernel
theorem kc_22_74 : zcode 22 74 = some (.istore 4, 2, (0, 0, 0, 0)) := by decide +kernel
theorem kc_22_76 : zcode 22 76 = some (.iconst 0, 1, (0, 0, 0, 0)) := by decide +kernel
theorem kc_22_77 : zcode 22 77 = some (.istore 5, 2, (0, 0, 0, 0)) := by decide +kernel
theorem kc_22_79 : zcode 22 79 = some (.iload 5, 2, (0, 0, 0, 0)) := by decide +kernel
theorem kc_22_81 : zcode 22 81 = some (.aload_n 0, 1, (0, 0, 0, 0)) := by decide +kernel
theorem kc_22_82 : zcode 22 82 = some (.getfield 12, 3, (3, 0, 107, 0)) := by decide +kernel
theorem kc_22_85 : zcode 22 85 = some (.getfield 29, 3, (0, 3, 94, 0)) := by decide +kernel
theorem kc_22_88 : zcode 22 88 = some (.if_icmp .ge 29, 3, (117, 0, 0, 0)) := by decide +kernel
theorem kc_22_91 : zcode 22 91 = some (.iload 4, 2, (0, 0, 0, 0)) := by decide +kernel
theorem kc_22_93 : zcode 22 93 = some (.aload_n 0, 1, (0, 0, 0, 0)) := by decide +kernel
theorem kc_22_94 : zcode 22 94 = some (.iload 5, 2, (0, 0, 0, 0)) := by decide +kernel
theorem kc_22_96 : zcode 22 96 = some (.iload_n 3, 1, (0, 0, 0, 0)) := by decide +kernel
theorem kc_22_97 : zcode 22 97 = some (.invokevirtual 60, 3, (23, 0, 509, 0)) := by decide +kernel
theorem kc_22_100 : zcode 22 100 = some (.ifCond .eq 7, 3, (107, 0, 0, 0)) := by decide +kernel
theorem kc_22_103 : zcode 22 103 = some (.iconst 1, 1, (0, 0, 0, 0)) := by decide +kernel
theorem kc_22_104 : zcode 22 104 = some (.goto 4, 3, (108, 0, 0, 0)) := by decide +kernel
theorem kc_22_107 : zcode 22 107 = some (.iconst 0, 1, (0, 0, 0, 0)) := by decide +kernel
theorem kc_22_108 : zcode 22 108 = some (.iadd, 1, (0, 0, 0, 0)) := by decide +kernel
theorem kc_22_109 : zcode 22 109 = some (.istore 4, 2, (0, 0, 0, 0)) := by decide +kernel
theorem kc_22_111 : zcode 22 111 = some (.iinc 5 1, 3, (0, 0, 0, 0)) := by decide +kernel
theorem kc_22_114 : zcode 22 114 = some (.goto (-35), 3, (79, 0, 0, 0)) := by decide +kernel
theorem kc_22_117 : zcode 22 117 = some (.iload 4, 2, (0, 0, 0, 0)) := by decide +kernel
theorem kc_22_119 : zcode 22 119 = some (.iload_n 2, 1, (0, 0, 0, 0)) := by decide +kernel
theorem kc_22_120 : zcode 22 120 = some (.if_icmp .ne 5, 3, (125, 0, 0, 0)) := by decide +kernel
theorem kc_22_123 : zcode 22 123 = some (.iload_n 3, 1, (0, 0, 0, 0)) := by decide +kernel
theorem kc_22_124 : zcode 22 124 = some (.ireturn, 1, (0, 0, 0, 0)) := by decide +kernel
theorem kc_22_125 : zcode 22 125 = some (.iinc 3 1, 3, (0, 0, 0, 0)) := by decide +kernel
theorem kc_22_128 : zcode 22 128 = some (.goto (-66), 3, (62, 0, 0, 0)) := by decide +kernel
theorem kc_22_131 : zcode 22 131 = some (.iconst (-1), 1, (0, 0, 0, 0)) := by decide +kernel
theorem kc_22_132 : zcode 22 132 = some (.ireturn, 1, (0, 0, 0, 0)) := by decide +kernel
theorem kc_23_0 : zcode 23 0 = some (.aload_n 0, 1, (0, 0, 0, 0)) := by decide +kernel
theorem kc_23_1 : zcode 23 1 = some (.getfield 18, 3, (3, 1, 110, 0)) := by decide +kernel
theorem kc_23_4 : zcode 23 4 = some (.iload_n 1, 1, (0, 0, 0, 0)) := by decide +kernel
theorem kc_23_5 : zcode 23 5 = some (.laload, 1, (0, 0, 0, 0)) := by decide +kernel
theorem kc_23_6 : zcode 23 6 = some (.aload_n 0, 1, (0, 0, 0, 0)) := by decide +kernel
theorem kc_23_7 : zcode 23 7 = some (.getfield 18, 3, (3, 1, 110, 0)) := by decide +kernel
theorem kc_23_10 : zcode 23 10 = some (.iload_n 2, 1, (0, 0, 0, 0)) := by decide +kernel
theorem kc_23_11 : zcode 23 11 = some (.laload, 1, (0, 0, 0, 0)) := by decide +kernel
theorem kc_23_12 : zcode 23 12 = some (.lcmp, 1, (0, 0, 0, 0)) := by decide +kernel
theorem kc_23_13 : zcode 23 13 = some (.ifCond .eq 25, 3, (38, 0, 0, 0)) := by decide +kernel
theorem kc_23_16 : zcode 23 16 = some (.aload_n 0, 1, (0, 0, 0, 0)) := by decide +kernel
theorem kc_23_17 : zcode 23 17 = some (.getfield 18, 3, (3, 1, 110, 0)) := by decide +kernel
theorem kc_23_20 : zcode 23 20 = some (.iload_n 1, 1, (0, 0, 0, 0)) := by decide +kernel
theorem kc_23_21 : zcode 23 21 = some (.laload, 1, (0, 0, 0, 0)) := by decide +kernel
theorem kc_23_22 : zcode 23 22 = some (.aload_n 0, 1, (0, 0, 0, 0)) := by decide +kernel
theorem kc_23_23 : zcode 23 23 = some (.getfield 18, 3, (3, 1, 110, 0)) := by decide +kernel
theorem kc_23_26 : zcode 23 26 = some (.iload_n 2, 1, (0, 0, 0, 0)) := by decide +kernel
theorem kc_23_27 : zcode 23 27 = some (.laload, 1, (0, 0, 0, 0)) := by decide +kernel
theorem kc_23_28 : zcode 23 28 = some (.lcmp, 1, (0, 0, 0, 0)) := by decide +kernel
theorem kc_23_29 : zcode 23 29 = some (.ifCond .le 7, 3, (36, 0, 0, 0)) := by decide +kernel
theorem kc_23_32 : zcode 23 32 = some (.iconst 1, 1, (0, 0, 0, 0)) := by decide +kernel
theorem kc_23_33 : zcode 23 33 = some (.goto 4, 3, (37, 0, 0, 0)) := by decide +kernel
theorem kc_23_36 : zcode 23 36 = some (.iconst 0, 1, (0, 0, 0, 0)) := by decide +kernel
theorem kc_23_37 : zcode 23 37 = some (.ireturn, 1, (1, 0, 0, 0)) := by decide +kernel
theorem kc_23_38 : zcode 23 38 = some (.aload_n 0, 1, (0, 0, 0, 0)) := by decide +kernel
theorem kc_23_39 : zcode 23 39 = some (.getfield 12, 3, (3, 0, 107, 0)) := by decide +kernel
theorem kc_23_42 : zcode 23 42 = some (.getfield 56, 3, (0, 0, 90, 0)) := by decide +kernel
theorem kc_23_45 : zcode 23 45 = some (.iload_n 1, 1, (0, 0, 0, 0)) := by decide +kernel
theorem kc_23_46 : zcode 23 46 = some (.iaload, 1, (0, 0, 0, 0)) := by decide +kernel
theorem kc_23_47 : zcode 23 47 = some (.aload_n 0, 1, (0, 0, 0, 0)) := by decide +kernel
theorem kc_23_48 : zcode 23 48 = some (.getfield 12, 3, (3, 0, 107, 0)) := by decide +kernel
theorem kc_23_51 : zcode 23 51 = some (.getfield 56, 3, (0, 0, 90, 0)) := by decide +kernel
theorem kc_23_54 : zcode 23 54 = some (.iload_n 2, 1, (0, 0, 0, 0)) := by decide +kernel
theorem kc_23_55 : zcode 23 55 = some (.iaload, 1, (0, 0, 0, 0)) := by decide +kernel
theorem kc_23_56 : zcode 23 56 = some (.if_icmp .eq 30, 3, (86, 0, 0, 0)) := by decide +kernel
theorem kc_23_59 : zcode 23 59 = some (.aload_n 0, 1, (0, 0, 0, 0)) := by decide +kernel
theorem kc_23_60 : zcode 23 60 = some (.getfield 12, 3, (3, 0, 107, 0)) := by decide +kernel
theorem kc_23_63 : zcode 23 63 = some (.getfield 56, 3, (0, 0, 90, 0)) := by decide +kernel
theorem kc_23_66 : zcode 23 66 = some (.iload_n 1, 1, (0, 0, 0, 0)) := by decide +kernel
theorem kc_23_67 : zcode 23 67 = some (.iaload, 1, (0, 0, 0, 0)) := by decide +kernel
theorem kc_23_68 : zcode 23 68 = some (.aload_n 0, 1, (0, 0, 0, 0)) := by decide +kernel
theorem kc_23_69 : zcode 23 69 = some (.getfield 12, 3, (3, 0, 107, 0)) := by decide +kernel
theorem kc_23_72 : zcode 23 72 = some (.getfield 56, 3, (0, 0, 90, 0)) := by decide +kernel
theorem kc_23_75 : zcode 23 75 = some (.iload_n 2, 1, (0, 0, 0, 0)) := by decide +kernel
theorem kc_23_76 : zcode 23 76 = some (.iaload, 1, (0, 0, 0, 0)) := by decide +kernel
theorem kc_23_77 : zcode 23 77 = some (.if_icmp .le 7, 3, (84, 0, 0, 0)) := by decide +kernel
theorem kc_23_80 : zcode 23 80 = some (.iconst 1, 1, (0, 0, 0, 0)) := by decide +kernel
theorem kc_23_81 : zcode 23 81 = some (.goto 4, 3, (85, 0, 0, 0)) := by decide +kernel
theorem kc_23_84 : zcode 23 84 = some (.iconst 0, 1, (0, 0, 0, 0)) := by decide +kernel
theorem kc_23_85 : zcode 23 85 = some (.ireturn, 1, (1, 0, 0, 0)) := by decide +kernel
theorem kc_23_86 : zcode 23 86 = some (.iload_n 1, 1, (0, 0, 0, 0)) := by decide +kernel
theorem kc_23_87 : zcode 23 87 = some (.iload_n 2, 1, (0, 0, 0, 0)) := by decide +kernel
theorem kc_23_88 : zcode 23 88 = some (.if_icmp .ge 7, 3, (95, 0, 0, 0)) := by decide +kernel
theorem kc_23_91 : zcode 23 91 = some (.iconst 1, 1, (0, 0, 0, 0)) := by decide +kernel
theorem kc_23_92 : zcode 23 92 = some (.goto 4, 3, (96, 0, 0, 0)) := by decide +kernel
theorem kc_23_95 : zcode 23 95 = some (.iconst 0, 1, (0, 0, 0, 0)) := by decide +kernel
theorem kc_23_96 : zcode 23 96 = some (.ireturn, 1, (1, 0, 0, 0)) := by decide +kernel
theorem kc_24_0 : zcode 24 0 = some (.iload_n 1, 1, (0, 0, 0, 0)) := by decide +kernel
theorem kc_24_1 : zcode 24 1 = some (.tableswitch 85 0 2 #[27, 65, 77], 27, (0, 0, 0, 0)) := by decide +kernel
theorem kc_24_28 : zcode 24 28 = some (.aload_n 0, 1, (0, 0, 0, 0)) := by decide +kernel
theorem kc_24_29 : zcode 24 29 = some (.getfield 12, 3, (3, 0, 107, 0)) := by decide +kernel
theorem kc_24_32 : zcode 24 32 = some (.iload_n 2, 1, (0, 0, 0, 0)) := by decide +kernel
theorem kc_24_33 : zcode 24 33 = some (.invokevirtual 63, 3, (1, 0, 595, 0)) := by decide +kernel
theorem kc_24_36 : zcode 24 36 = some (.ifCond .eq 66, 3, (102, 0, 0, 0)) := by decide +kernel
theorem kc_24_39 : zcode 24 39 = some (.aload_n 0, 1, (0, 0, 0, 0)) := by decide +kernel
theorem kc_24_40 : zcode 24 40 = some (.getfield 12, 3, (3, 0, 107, 0)) := by decide +kernel
theorem kc_24_43 : zcode 24 43 = some (.iload_n 2, 1, (0, 0, 0, 0)) := by decide +kernel
theorem kc_24_44 : zcode 24 44 = some (.bipush 60, 2, (0, 0, 0, 0)) := by decide +kernel
theorem kc_24_46 : zcode 24 46 = some (.aload_n 0, 1, (0, 0, 0, 0)) := by decide +kernel
theorem kc_24_47 : zcode 24 47 = some (.getfield 12, 3, (3, 0, 107, 0)) := by decide +kernel
theorem kc_24_50 : zcode 24 50 = some (.getfield 56, 3, (0, 0, 90, 0)) := by decide +kernel
theorem kc_24_53 : zcode 24 53 = some (.iload_n 2, 1, (0, 0, 0, 0)) := by decide +kernel
theorem kc_24_54 : zcode 24 54 = some (.iaload, 1, (0, 0, 0, 0)) := by decide +kernel
theorem kc_24_55 : zcode 24 55 = some (.iconst 5, 1, (0, 0, 0, 0)) := by decide +kernel
theorem kc_24_56 : zcode 24 56 = some (.iadd, 1, (0, 0, 0, 0)) := by decide +kernel
theorem kc_24_57 : zcode 24 57 = some (.invokestatic 67, 3, (181, 0, 596, 0)) := by decide +kernel
theorem kc_24_60 : zcode 24 60 = some (.invokevirtual 73, 3, (5, 0, 599, 0)) := by decide +kernel
theorem kc_24_63 : zcode 24 63 = some (.goto 39, 3, (102, 0, 0, 0)) := by decide +kernel
theorem kc_24_66 : zcode 24 66 = some (.aload_n 0, 1, (0, 0, 0, 0)) := by decide +kernel
theorem kc_24_67 : zcode 24 67 = some (.getfield 12, 3, (3, 0, 107, 0)) := by decide +kernel
theorem kc_24_70 : zcode 24 70 = some (.iload_n 2, 1, (0, 0, 0, 0)) := by decide +kernel
theorem kc_24_71 : zcode 24 71 = some (.iconst 1, 1, (0, 0, 0, 0)) := by decide +kernel
theorem kc_24_72 : zcode 24 72 = some (.invokevirtual 73, 3, (5, 0, 599, 0)) := by decide +kernel
theorem kc_24_75 : zcode 24 75 = some (.goto 27, 3, (102, 0, 0, 0)) := by decide +kernel
theorem kc_24_78 : zcode 24 78 = some (.aload_n 0, 1, (0, 0, 0, 0)) := by decide +kernel
theorem kc_24_79 : zcode 24 79 = some (.iload_n 2, 1, (0, 0, 0, 0)) := by decide +kernel
theorem kc_24_80 : zcode 24 80 = some (.putfield 26, 3, (3, 3, 114, 0)) := by decide +kernel
theorem kc_24_83 : zcode 24 83 = some (.goto 19, 3, (102, 0, 0, 0)) := by decide +kernel
theorem kc_24_86 : zcode 24 86 = some (.aload_n 0, 1, (0, 0, 0, 0)) := by decide +kernel
theorem kc_24_87 : zcode 24 87 = some (.sipush 360, 3, (0, 0, 0, 0)) := by decide +kernel
theorem kc_24_90 : zcode 24 90 = some (.aload_n 0, 1, (0, 0, 0, 0)) := by decide +kernel
theorem kc_24_91 : zcode 24 91 = some (.getfield 22, 3, (3, 2, 111, 0)) := by decide +kernel
theorem kc_24_94 : zcode 24 94 = some (.iload_n 2, 1, (0, 0, 0, 0)) := by decide +kernel
theorem kc_24_95 : zcode 24 95 = some (.iadd, 1, (0, 0, 0, 0)) := by decide +kernel
theorem kc_24_96 : zcode 24 96 = some (.invokestatic 67, 3, (181, 0, 596, 0)) := by decide +kernel
theorem kc_24_99 : zcode 24 99 = some (.putfield 22, 3, (3, 2, 111, 0)) := by decide +kernel
theorem kc_24_102 : zcode 24 102 = some (.return_, 1, (0, 0, 0, 0)) := by decide +kernel
theorem kc_26_0 : zcode 26 0 = some (.aload_n 0, 1, (0, 0, 0, 0)) := by decide +kernel
theorem kc_26_1 : zcode 26 1 = some (.iload_n 1, 1, (0, 0, 0, 0)) := by decide +kernel
theorem kc_26_2 : zcode 26 2 = some (.putfield 15, 3, (4, 1, 250, 0)) := by decide +kernel
theorem kc_26_5 : zcode 26 5 = some (.aload_n 0, 1, (0, 0, 0, 0)) := by decide +kernel
theorem kc_26_6 : zcode 26 6 = some (.iload_n 2, 1, (0, 0, 0, 0)) := by decide +kernel
theorem kc_26_7 : zcode 26 7 = some (.putfield 19, 3, (4, 2, 252, 0)) := by decide +kernel
theorem kc_26_10 : zcode 26 10 = some (.aload_n 0, 1, (0, 0, 0, 0)) := by decide +kernel
theorem kc_26_11 : zcode 26 11 = some (.getfield 9, 3, (4, 0, 248, 0)) := by decide +kernel
theorem kc_26_14 : zcode 26 14 = some (.lconst 0, 1, (0, 0, 0, 0)) := by decide +kernel
theorem kc_26_15 : zcode 26 15 = some (.invokestatic 22, 3, (183, 0, 640, 0)) := by decide +kernel
theorem kc_26_18 : zcode 26 18 = some (.return_, 1, (0, 0, 0, 0)) := by decide +kernel
theorem kc_27_0 : zcode 27 0 = some (.iload_n 1, 1, (0, 0, 0, 0)) := by decide +kernel
theorem kc_27_1 : zcode 27 1 = some (.ifCond .lt 15, 3, (16, 0, 0, 0)) := by decide +kernel
theorem kc_27_4 : zcode 27 4 = some (.iload_n 1, 1, (0, 0, 0, 0)) := by decide +kernel
theorem kc_27_5 : zcode 27 5 = some (.aload_n 0, 1, (0, 0, 0, 0)) := by decide +kernel
theorem kc_27_6 : zcode 27 6 = some (.getfield 19, 3, (4, 2, 252, 0)) := by decide +kernel
theorem kc_27_9 : zcode 27 9 = some (.if_icmp .ge 7, 3, (16, 0, 0, 0)) := by decide +kernel
theorem kc_27_12 : zcode 27 12 = some (.iconst 1, 1, (0, 0, 0, 0)) := by decide +kernel
theorem kc_27_13 : zcode 27 13 = some (.goto 4, 3, (17, 0, 0, 0)) := by decide +kernel
theorem kc_27_16 : zcode 27 16 = some (.iconst 0, 1, (0, 0, 0, 0)) := by decide +kernel
theorem kc_27_17 : zcode 27 17 = some (.ireturn, 1, (1, 0, 0, 0)) := by decide +kernel
theorem kc_28_0 : zcode 28 0 = some (.iload_n 2, 1, (0, 0, 0, 0)) := by decide +kernel
theorem kc_28_1 : zcode 28 1 = some (.ifCond .lt 29, 3, (30, 0, 0, 0)) := by decide +kernel
theorem kc_28_4 : zcode 28 4 = some (.iload_n 1, 1, (0, 0, 0, 0)) := by decide +kernel
theorem kc_28_5 : zcode 28 5 = some (.ifCond .lt 25, 3, (30, 0, 0, 0)) := by decide +kernel
theorem kc_28_8 : zcode 28 8 = some (.iload_n 1, 1, (0, 0, 0, 0)) := by decide +kernel
theorem kc_28_9 : zcode 28 9 = some (.aload_n 0, 1, (0, 0, 0, 0)) := by decide +kernel
theorem kc_28_10 : zcode 28 10 = some (.getfield 19, 3, (4, 2, 252, 0)) := by decide +kernel
theorem kc_28_13 : zcode 28 13 = some (.if_icmp .gt 17, 3, (30, 0, 0, 0)) := by decide +kernel
theorem kc_28_16 : zcode 28 16 = some (.iload_n 2, 1, (0, 0, 0, 0)) := by decide +kernel
theorem kc_28_17 : zcode 28 17 = some (.aload_n 0, 1, (0, 0, 0, 0)) := by decide +kernel
theorem kc_28_18 : zcode 28 18 = some (.getfield 19, 3, (4, 2, 252, 0)) := by decide +kernel
theorem kc_28_21 : zcode 28 21 = some (.iload_n 1, 1, (0, 0, 0, 0)) := by decide +kernel
theorem kc_28_22 : zcode 28 22 = some (.isub, 1, (0, 0, 0, 0)) := by decide +kernel
theorem kc_28_23 : zcode 28 23 = some (.if_icmp .gt 7, 3, (30, 0, 0, 0)) := by decide +kernel
theorem kc_28_26 : zcode 28 26 = some (.iconst 1, 1, (0, 0, 0, 0)) := by decide +kernel
theorem kc_28_27 : zcode 28 27 = some (.goto 4, 3, (31, 0, 0, 0)) := by decide +kernel
theorem kc_28_30 : zcode 28 30 = some (.iconst 0, 1, (0, 0, 0, 0)) := by decide +kernel
theorem kc_28_31 : zcode 28 31 = some (.ireturn, 1, (1, 0, 0, 0)) := by decide +kernel
theorem kc_29_0 : zcode 29 0 = some (.aload_n 0, 1, (0, 0, 0, 0)) := by decide +kernel
theorem kc_29_1 : zcode 29 1 = some (.getfield 15, 3, (4, 1, 250, 0)) := by decide +kernel
theorem kc_29_4 : zcode 29 4 = some (.tableswitch 48 0 3 #[32, 37, 42, 46], 32, (0, 0, 0, 0)) := by decide +kernel
theorem kc_29_36 : zcode 29 36 = some (.lload_n 1, 1, (0, 0, 0, 0)) := by decide +kernel
theorem kc_29_37 : zcode 29 37 = some (.l2i, 1, (0, 0, 0, 0)) := by decide +kernel
theorem kc_29_38 : zcode 29 38 = some (.i2b, 1, (0, 0, 0, 0)) := by decide +kernel
theorem kc_29_39 : zcode 29 39 = some (.i2l, 1, (0, 0, 0, 0)) := by decide +kernel
theorem kc_29_40 : zcode 29 40 = some (.lreturn, 1, (0, 0, 0, 0)) := by decide +kernel
theorem kc_29_41 : zcode 29 41 = some (.lload_n 1, 1, (0, 0, 0, 0)) := by decide +kernel
theorem kc_29_42 : zcode 29 42 = some (.l2i, 1, (0, 0, 0, 0)) := by decide +kernel
theorem kc_29_43 : zcode 29 43 = some (.i2s, 1, (0, 0, 0, 0)) := by decide +kernel
theorem kc_29_44 : zcode 29 44 = some (.i2l, 1, (0, 0, 0, 0)) := by decide +kernel
theorem kc_29_45 : zcode 29 45 = some (.lreturn, 1, (0, 0, 0, 0)) := by decide +kernel
theorem kc_29_46 : zcode 29 46 = some (.lload_n 1, 1, (0, 0, 0, 0)) := by decide +kernel
theorem kc_29_47 : zcode 29 47 = some (.l2i, 1, (0, 0, 0, 0)) := by decide +kernel
theorem kc_29_48 : zcode 29 48 = some (.i2l, 1, (0, 0, 0, 0)) := by decide +kernel
theorem kc_29_49 : zcode 29 49 = some (.lreturn, 1, (0, 0, 0, 0)) := by decide +kernel
theorem kc_29_50 : zcode 29 50 = some (.lload_n 1, 1, (0, 0, 0, 0)) := by decide +kernel
theorem kc_29_51 : zcode 29 51 = some (.lreturn, 1, (0, 0, 0, 0)) := by decide +kernel
theorem kc_29_52 : zcode 29 52 = some (.lload_n 1, 1, (0, 0, 0, 0)) := by decide +kernel
theorem kc_29_53 : zcode 29 53 = some (.lconst 0, 1, (0, 0, 0, 0)) := by decide +kernel
theorem kc_29_54 : zcode 29 54 = some (.lcmp, 1, (0, 0, 0, 0)) := by decide +kernel
theorem kc_29_55 : zcode 29 55 = some (.ifCond .eq 7, 3, (62, 0, 0, 0)) := by decide +kernel
theorem kc_29_58 : zcode 29 58 = some (.lconst 1, 1, (0, 0, 0, 0)) := by decide +kernel
theorem kc_29_59 : zcode 29 59 = some (.goto 4, 3, (63, 0, 0, 0)) := by decide +kernel
theorem kc_29_62 : zcode 29 62 = some (.lconst 0, 1, (0, 0, 0, 0)) := by decide +kernel
theorem kc_29_63 : zcode 29 63 = some (.lreturn, 1, (0, 0, 0, 0)) := by decide +kernel
theorem kc_31_0 : zcode 31 0 = some (.aload_n 0, 1, (0, 0, 0, 0)) := by decide +kernel
theorem kc_31_1 : zcode 31 1 = some (.iconst 0, 1, (0, 0, 0, 0)) := by decide +kernel
theorem kc_31_2 : zcode 31 2 = some (.putfield 32, 3, (5, 6, 193, 0)) := by decide +kernel
theorem kc_31_5 : zcode 31 5 = some (.aload_n 0, 1, (0, 0, 0, 0)) := by decide +kernel
theorem kc_31_6 : zcode 31 6 = some (.iconst 0, 1, (0, 0, 0, 0)) := by decide +kernel
theorem kc_31_7 : zcode 31 7 = some (.putfield 29, 3, (5, 5, 191, 0)) := by decide +kernel
theorem kc_31_10 : zcode 31 10 = some (.iconst 0, 1, (0, 0, 0, 0)) := by decide +kernel
theorem kc_31_11 : zcode 31 11 = some (.istore_n 1, 1, (0, 0, 0, 0)) := by decide +kernel
theorem kc_31_12 : zcode 31 12 = some (.iload_n 1, 1, (0, 0, 0, 0)) := by decide +kernel
theorem kc_31_13 : zcode 31 13 = some (.bipush 12, 2, (0, 0, 0, 0)) := by decide +kernel
theorem kc_31_15 : zcode 31 15 = some (.if_icmp .ge 60, 3, (75, 0, 0, 0)) := by decide +kernel
theorem kc_31_18 : zcode 31 18 = some (.iload_n 1, 1, (0, 0, 0, 0)) := by decide +kernel
theorem kc_31_19 : zcode 31 19 = some (.ifCond .le 17, 3, (36, 0, 0, 0)) := by decide +kernel
theorem kc_31_22 : zcode 31 22 = some (.aload_n 0, 1, (0, 0, 0, 0)) := by decide +kernel
theorem kc_31_23 : zcode 31 23 = some (.bipush 59, 2, (0, 0, 0, 0)) := by decide +kernel
theorem kc_31_25 : zcode 31 25 = some (.invokevirtual 35, 3, (32, 0, 368, 0)) := by decide +kernel
theorem kc_31_28 : zcode 31 28 = some (.ifCond .ne 8, 3, (36, 0, 0, 0)) := by decide +kernel
theorem kc_31_31 : zcode 31 31 = some (.aload_n 0, 1, (0, 0, 0, 0)) := by decide +kernel
theorem kc_31_32 : zcode 31 32 = some (.getfield 32, 3, (5, 6, 193, 0)) := by decide +kernel
theorem kc_31_35 : zcode 31 35 = some (.ireturn, 1, (0, 0, 0, 0)) := by decide +kernel
theorem kc_31_36 : zcode 31 36 = some (.aload_n 0, 1, (0, 0, 0, 0)) := by decide +kernel
theorem kc_31_37 : zcode 31 37 = some (.iload_n 1, 1, (0, 0, 0, 0)) := by decide +kernel
theorem kc_31_38 : zcode 31 38 = some (.invokevirtual 39, 3, (33, 0, 372, 0)) := by decide +kernel
theorem kc_31_41 : zcode 31 41 = some (.ifCond .ne 8, 3, (49, 0, 0, 0)) := by decide +kernel
theorem kc_31_44 : zcode 31 44 = some (.aload_n 0, 1, (0, 0, 0, 0)) := by decide +kernel
theorem kc_31_45 : zcode 31 45 = some (.getfield 32, 3, (5, 6, 193, 0)) := by decide +kernel
theorem kc_31_48 : zcode 31 48 = some (.ireturn, 1, (0, 0, 0, 0)) := by decide +kernel
theorem kc_31_49 : zcode 31 49 = some (.aload_n 0, 1, (0, 0, 0, 0)) := by decide +kernel
theorem kc_31_50 : zcode 31 50 = some (.getfield 32, 3, (5, 6, 193, 0)) := by decide +kernel
theorem kc_31_53 : zcode 31 53 = some (.aload_n 0, 1, (0, 0, 0, 0)) := by decide +kernel
theorem kc_31_54 : zcode 31 54 = some (.getfield 15, 3, (5, 1, 183, 0)) := by decide +kernel
theorem kc_31_57 : zcode 31 57 = some (.if_icmp .lt 12, 3, (69, 0, 0, 0)) := by decide +kernel
theorem kc_31_60 : zcode 31 60 = some (.aload_n 0, 1, (0, 0, 0, 0)) := by decide +kernel
theorem kc_31_61 : zcode 31 61 = some (.iload_n 1, 1, (0, 0, 0, 0)) := by decide +kernel
theorem kc_31_62 : zcode 31 62 = some (.iconst 1, 1, (0, 0, 0, 0)) := by decide +kernel
theorem kc_31_63 : zcode 31 63 = some (.iadd, 1, (0, 0, 0, 0)) := by decide +kernel
theorem kc_31_64 : zcode 31 64 = some (.putfield 29, 3, (5, 5, 191, 0)) := by decide +kernel
theorem kc_31_67 : zcode 31 67 = some (.iconst (-1), 1, (0, 0, 0, 0)) := by decide +kernel
theorem kc_31_68 : zcode 31 68 = some (.ireturn, 1, (0, 0, 0, 0)) := by decide +kernel
theorem kc_31_69 : zcode 31 69 = some (.iinc 1 1, 3, (0, 0, 0, 0)) := by decide +kernel
theorem kc_31_72 : zcode 31 72 = some (.goto (-60), 3, (12, 0, 0, 0)) := by decide +kernel
theorem kc_31_75 : zcode 31 75 = some (.aload_n 0, 1, (0, 0, 0, 0)) := by decide +kernel
theorem kc_31_76 : zcode 31 76 = some (.getfield 32, 3, (5, 6, 193, 0)) := by decide +kernel
theorem kc_31_79 : zcode 31 79 = some (.ireturn, 1, (0, 0, 0, 0)) := by decide +kernel
theorem kc_32_0 : zcode 32 0 = some (.aload_n 0, 1, (0, 0, 0, 0)) := by decide +kernel
theorem kc_32_1 : zcode 32 1 = some (.getfield 32, 3, (5, 6, 193, 0)) := by decide +kernel
theorem kc_32_4 : zcode 32 4 = some (.aload_n 0, 1, (0, 0, 0, 0)) := by decide +kernel
theorem kc_32_5 : zcode 32 5 = some (.getfield 15, 3, (5, 1, 183, 0)) := by decide +kernel
theorem kc_32_8 : zcode 32 8 = some (.if_icmp .ge 16, 3, (24, 0, 0, 0)) := by decide +kernel
theorem kc_32_11 : zcode 32 11 = some (.aload_n 0, 1, (0, 0, 0, 0)) := by decide +kernel
theorem kc_32_12 : zcode 32 12 = some (.getfield 9, 3, (5, 0, 181, 0)) := by decide +kernel
theorem kc_32_15 : zcode 32 15 = some (.aload_n 0, 1, (0, 0, 0, 0)) := by decide +kernel
theorem kc_32_16 : zcode 32 16 = some (.getfield 32, 3, (5, 6, 193, 0)) := by decide +kernel
theorem kc_32_19 : zcode 32 19 = some (.baload, 1, (0, 0, 0, 0)) := by decide +kernel
theorem kc_32_20 : zcode 32 20 = some (.iload_n 1, 1, (0, 0, 0, 0)) := by decide +kernel
theorem kc_32_21 : zcode 32 21 = some (.if_icmp .eq 5, 3, (26, 0, 0, 0)) := by decide +kernel
theorem kc_32_24 : zcode 32 24 = some (.iconst 0, 1, (0, 0, 0, 0)) := by decide +kernel
theorem kc_32_25 : zcode 32 25 = some (.ireturn, 1, (1, 0, 0, 0)) := by decide +kernel
theorem kc_32_26 : zcode 32 26 = some (.aload_n 0, 1, (0, 0, 0, 0)) := by decide +kernel
theorem kc_32_27 : zcode 32 27 = some (.dup, 1, (0, 0, 0, 0)) := by decide +kernel
theorem kc_32_28 : zcode 32 28 = some (.getfield 32, 3, (5, 6, 193, 0)) := by decide +kernel
theorem kc_32_31 : zcode 32 31 = some (.iconst 1, 1, (0, 0, 0, 0)) := by decide +kernel
theorem kc_32_32 : zcode 32 32 = some (.iadd, 1, (0, 0, 0, 0)) := by decide +kernel
theorem kc_32_33 : zcode 32 33 = some (.putfield 32, 3, (5, 6, 193, 0)) := by decide +kernel
theorem kc_32_36 : zcode 32 36 = some (.iconst 1, 1, (0, 0, 0, 0)) := by decide +kernel
theorem kc_32_37 : zcode 32 37 = some (.ireturn, 1, (1, 0, 0, 0)) := by decide +kernel
theorem kc_33_0 : zcode 33 0 = some (.aload_n 0, 1, (0, 0, 0, 0)) := by decide +kernel
theorem kc_33_1 : zcode 33 1 = some (.getfield 32, 3, (5, 6, 193, 0)) := by decide +kernel
theorem kc_33_4 : zcode 33 4 = some (.aload_n 0, 1, (0, 0, 0, 0)) := by decide +kernel
theorem kc_33_5 : zcode 33 5 = some (.getfield 15, 3, (5, 1, 183, 0)) := by decide +kernel
theorem kc_33_8 : zcode 33 8 = some (.if_icmp .ge 15, 3, (23, 0, 0, 0)) := by decide +kernel
theorem kc_33_11 : zcode 33 11 = some (.aload_n 0, 1, (0, 0, 0, 0)) := by decide +kernel
theorem kc_33_12 : zcode 33 12 = some (.getfield 9, 3, (5, 0, 181, 0)) := by decide +kernel
theorem kc_33_15 : zcode 33 15 = some (.aload_n 0, 1, (0, 0, 0, 0)) := by decide +kernel
theorem kc_33_16 : zcode 33 16 = some (.getfield 32, 3, (5, 6, 193, 0)) := by decide +kernel
theorem kc_33_19 : zcode 33 19 = some (.baload, 1, (0, 0, 0, 0)) := by decide +kernel
theorem kc_33_20 : zcode 33 20 = some (.goto 4, 3, (24, 0, 0, 0)) := by decide +kernel
theorem kc_33_23 : zcode 33 23 = some (.iconst 0, 1, (0, 0, 0, 0)) := by decide +kernel
theorem kc_33_24 : zcode 33 24 = some (.istore_n 2, 1, (0, 0, 0, 0)) := by decide +kernel
theorem kc_33_25 : zcode 33 25 = some (.iload_n 2, 1, (0, 0, 0, 0)) := by decide +kernel
theorem kc_33_26 : zcode 33 26 = some (.bipush 99, 2, (0, 0, 0, 0)) := by decide +kernel
theorem kc_33_28 : zcode 33 28 = some (.if_icmp .eq 23, 3, (51, 0, 0, 0)) := by decide +kernel
theorem kc_33_31 : zcode 33 31 = some (.iload_n 2, 1, (0, 0, 0, 0)) := by decide +kernel
theorem kc_33_32 : zcode 33 32 = some (.bipush 110, 2, (0, 0, 0, 0)) := by decide +kernel
theorem kc_33_34 : zcode 33 34 = some (.if_icmp .eq 17, 3, (51, 0, 0, 0)) := by decide +kernel
theorem kc_33_37 : zcode 33 37 = some (.iload_n 2, 1, (0, 0, 0, 0)) := by decide +kernel
theorem kc_33_38 : zcode 33 38 = some (.bipush 101, 2, (0, 0, 0, 0)) := by decide +kernel
theorem kc_33_40 : zcode 33 40 = some (.if_icmp .eq 11, 3, (51, 0, 0, 0)) := by decide +kernel
theorem kc_33_43 : zcode 33 43 = some (.iload_n 2, 1, (0, 0, 0, 0)) := by decide +kernel
theorem kc_33_44 : zcode 33 44 = some (.bipush 114, 2, (0, 0, 0, 0)) := by decide +kernel
theorem kc_33_46 : zcode 33 46 = some (.if_icmp .eq 5, 3, (51, 0, 0, 0)) := by decide +kernel
theorem kc_33_49 : zcode 33 49 = some (.iconst 0, 1, (0, 0, 0, 0)) := by decide +kernel
theorem kc_33_50 : zcode 33 50 = some (.ireturn, 1, (1, 0, 0, 0)) := by decide +kernel
theorem kc_33_51 : zcode 33 51 = some (.aload_n 0, 1, (0, 0, 0, 0)) := by decide +kernel
theorem kc_33_52 : zcode 33 52 = some (.dup, 1, (0, 0, 0, 0)) := by decide +kernel
theorem kc_33_53 : zcode 33 53 = some (.getfield 32, 3, (5, 6, 193, 0)) := by decide +kernel
theorem kc_33_56 : zcode 33 56 = some (.iconst 1, 1, (0, 0, 0, 0)) := by decide +kernel
theorem kc_33_57 : zcode 33 57 = some (.iadd, 1, (0, 0, 0, 0)) := by decide +kernel
theorem kc_33_58 : zcode 33 58 = some (.putfield 32, 3, (5, 6, 193, 0)) := by decide +kernel
theorem kc_33_61 : zcode 33 61 = some (.iload_n 2, 1, (0, 0, 0, 0)) := by decide +kernel
theorem kc_33_62 : zcode 33 62 = some (.bipush 110, 2, (0, 0, 0, 0)) := by decide +kernel
theorem kc_33_64 : zcode 33 64 = some (.if_icmp .ne 11, 3, (75, 0, 0, 0)) := by decide +kernel
theorem kc_33_67 : zcode 33 67 = some (.aload_n 0, 1, (0, 0, 0, 0)) := by decide +kernel
theorem kc_33_68 : zcode 33 68 = some (.iconst 1, 1, (0, 0, 0, 0)) := by decide +kernel
theorem kc_33_69 : zcode 33 69 = some (.invokevirtual 42, 3, (34, 0, 376, 0)) := by decide +kernel
theorem kc_33_72 : zcode 33 72 = some (.goto 4, 3, (76, 0, 0, 0)) := by decide +kernel
theorem kc_33_75 : zcode 33 75 = some (.iconst 0, 1, (0, 0, 0, 0)) := by decide +kernel
theorem kc_33_76 : zcode 33 76 = some (.istore_n 3, 1, (0, 0, 0, 0)) := by decide +kernel
theorem kc_33_77 : zcode 33 77 = some (.iload_n 3, 1, (0, 0, 0, 0)) := by decide +kernel
theorem kc_33_78 : zcode 33 78 = some (.ifCond .ge 5, 3, (83, 0, 0, 0)) := by decide +kernel
theorem kc_33_81 : zcode 33 81 = some (.iconst 0, 1, (0, 0, 0, 0)) := by decide +kernel
theorem kc_33_82 : zcode 33 82 = some (.ireturn, 1, (1, 0, 0, 0)) := by decide +kernel
theorem kc_33_83 : zcode 33 83 = some (.aload_n 0, 1, (0, 0, 0, 0)) := by decide +kernel
theorem kc_33_84 : zcode 33 84 = some (.iload_n 2, 1, (0, 0, 0, 0)) := by decide +kernel
theorem kc_33_85 : zcode 33 85 = some (.bipush 114, 2, (0, 0, 0, 0)) := by decide +kernel
theorem kc_33_87 : zcode 33 87 = some (.if_icmp .ne 7, 3, (94, 0, 0, 0)) := by decide +kernel
theorem kc_33_90 : zcode 33 90 = some (.iconst 1, 1, (0, 0, 0, 0)) := by decide +kernel
theorem kc_33_91 : zcode 33 91 = some (.goto 14, 3, (105, 0, 0, 0)) := by decide +kernel
theorem kc_33_94 : zcode 33 94 = some (.iload_n 2, 1, (0, 0, 0, 0)) := by decide +kernel
theorem kc_33_95 : zcode 33 95 = some (.bipush 101, 2, (0, 0, 0, 0)) := by decide +kernel
theorem kc_33_97 : zcode 33 97 = some (.if_icmp .ne 7, 3, (104, 0, 0, 0)) := by decide +kernel
theorem kc_33_100 : zcode 33 100 = some (.iconst 3, 1, (0, 0, 0, 0)) := by decide +kernel
theorem kc_33_101 : zcode 33 101 = some (.goto 4, 3, (105, 0, 0, 0)) := by decide +kernel
theorem kc_33_104 : zcode 33 104 = some (.iconst 2, 1, (0, 0, 0, 0)) := by decide +kernel
theorem kc_33_105 : zcode 33 105 = some (.invokevirtual 42, 3, (34, 0, 376, 0)) := by decide +kernel
theorem kc_33_108 : zcode 33 108 = some (.istore 4, 2, (0, 0, 0, 0)) := by decide +kernel
theorem kc_33_110 : zcode 33 110 = some (.iload 4, 2, (0, 0, 0, 0)) := by decide +kernel
theorem kc_33_112 : zcode 33 112 = some (.ifCond .ge 5, 3, (117, 0, 0, 0)) := by decide +kernel
theorem kc_33_115 : zcode 33 115 = some (.iconst 0, 1, (0, 0, 0, 0)) := by decide +kernel
theorem kc_33_116 : zcode 33 116 = some (.ireturn, 1, (1, 0, 0, 0)) := by decide +kernel
theorem kc_33_117 : zcode 33 117 = some (.aload_n 0, 1, (0, 0, 0, 0)) := by decide +kernel
theorem kc_33_118 : zcode 33 118 = some (.getfield 19, 3, (5, 2, 185, 0)) := by decide +kernel
theorem kc_33_121 : zcode 33 121 = some (.iload_n 1, 1, (0, 0, 0, 0)) := by decide +kernel
theorem kc_33_122 : zcode 33 122 = some (.iload_n 2, 1, (0, 0, 0, 0)) := by decide +kernel
theorem kc_33_123 : zcode 33 123 = some (.iastore, 1, (0, 0, 0, 0)) := by decide +kernel
theorem kc_33_124 : zcode 33 124 = some (.aload_n 0, 1, (0, 0, 0, 0)) := by decide +kernel
theorem kc_33_125 : zcode 33 125 = some (.getfield 23, 3, (5, 3, 187, 0)) := by decide +kernel
theorem kc_33_128 : zcode 33 128 = some (.iload_n 1, 1, (0, 0, 0, 0)) := by decide +kernel
theorem kc_33_129 : zcode 33 129 = some (.iload_n 3, 1, (0, 0, 0, 0)) := by decide +kernel
theorem kc_33_130 : zcode 33 130 = some (.iastore, 1, (0, 0, 0, 0)) := by decide +kernel
theorem kc_33_131 : zcode 33 131 = some (.aload_n 0, 1, (0, 0, 0, 0)) := by decide +kernel
theorem kc_33_132 : zcode 33 132 = some (.getfield 26, 3, (5, 4, 189, 0)) := by decide +kernel
theorem kc_33_135 : zcode 33 135 = some (.iload_n 1, 1, (0, 0, 0, 0)) := by decide +kernel
theorem kc_33_136 : zcode 33 136 = some (.iload 4, 2, (0, 0, 0, 0)) := by decide +kernel
theorem kc_33_138 : zcode 33 138 = some (.iastore, 1, (0, 0, 0, 0)) := by decide +kernel
theorem kc_33_139 : zcode 33 139 = some (.iconst 1, 1, (0, 0, 0, 0)) := by decide +kernel
theorem kc_33_140 : zcode 33 140 = some (.ireturn, 1, (1, 0, 0, 0)) := by decide +kernel
theorem kc_34_0 : zcode 34 0 = some (.iconst (-1), 1, (0, 0, 0, 0)) := by decide +kernel
theorem kc_34_1 : zcode 34 1 = some (.istore_n 2, 1, (0, 0, 0, 0)) := by decide +kernel
theorem kc_34_2 : zcode 34 2 = some (.iconst 0, 1, (0, 0, 0, 0)) := by decide +kernel
theorem kc_34_3 : zcode 34 3 = some (.istore_n 3, 1, (0, 0, 0, 0)) := by decide +kernel
theorem kc_34_4 : zcode 34 4 = some (.iload_n 3, 1, (0, 0, 0, 0)) := by decide +kernel
theorem kc_34_5 : zcode 34 5 = some (.iload_n 1, 1, (0, 0, 0, 0)) := by decide +kernel
theorem kc_34_6 : zcode 34 6 = some (.if_icmp .ge 75, 3, (81, 0, 0, 0)) := by decide +kernel
theorem kc_34_9 : zcode 34 9 = some (.aload_n 0, 1, (0, 0, 0, 0)) := by decide +kernel
theorem kc_34_10 : zcode 34 10 = some (.getfield 32, 3, (5, 6, 193, 0)) := by decide +kernel
theorem kc_34_13 : zcode 34 13 = some (.aload_n 0, 1, (0, 0, 0, 0)) := by decide +kernel
theorem kc_34_14 : zcode 34 14 = some (.getfield 15, 3, (5, 1, 183, 0)) := by decide +kernel
theorem kc_34_17 : zcode 34 17 = some (.if_icmp .ge 64, 3, (81, 0, 0, 0)) := by decide +kernel
theorem kc_34_20 : zcode 34 20 = some (.aload_n 0, 1, (0, 0, 0, 0)) := by decide +kernel
theorem kc_34_21 : zcode 34 21 = some (.getfield 9, 3, (5, 0, 181, 0)) := by decide +kernel
theorem kc_34_24 : zcode 34 24 = some (.aload_n 0, 1, (0, 0, 0, 0)) := by decide +kernel
theorem kc_34_25 : zcode 34 25 = some (.getfield 32, 3, (5, 6, 193, 0)) := by decide +kernel
theorem kc_34_28 : zcode 34 28 = some (.baload, 1, (0, 0, 0, 0)) := by decide +kernel
theorem kc_34_29 : zcode 34 29 = some (.bipush 48, 2, (0, 0, 0, 0)) := by decide +kernel
theorem kc_34_31 : zcode 34 31 = some (.isub, 1, (0, 0, 0, 0)) := by decide +kernel
theorem kc_34_32 : zcode 34 32 = some (.istore 4, 2, (0, 0, 0, 0)) := by decide +kernel
theorem kc_34_34 : zcode 34 34 = some (.iload 4, 2, (0, 0, 0, 0)) := by decide +kernel
theorem kc_34_36 : zcode 34 36 = some (.ifCond .lt 10, 3, (46, 0, 0, 0)) := by decide +kernel
theorem kc_34_39 : zcode 34 39 = some (.iload 4, 2, (0, 0, 0, 0)) := by decide +kernel
theorem kc_34_41 : zcode 34 41 = some (.bipush 9, 2, (0, 0, 0, 0)) := by decide +kernel
theorem kc_34_43 : zcode 34 43 = some (.if_icmp .le 5, 3, (48, 0, 0, 0)) := by decide +kernel
theorem kc_34_46 : zcode 34 46 = some (.iload_n 2, 1, (0, 0, 0, 0)) := by decide +kernel
theorem kc_34_47 : zcode 34 47 = some (.ireturn, 1, (0, 0, 0, 0)) := by decide +kernel
theorem kc_34_48 : zcode 34 48 = some (.iload_n 3, 1, (0, 0, 0, 0)) := by decide +kernel
theorem kc_34_49 : zcode 34 49 = some (.ifCond .ne 8, 3, (57, 0, 0, 0)) := by decide +kernel
theorem kc_34_52 : zcode 34 52 = some (.iload 4, 2, (0, 0, 0, 0)) := by decide +kernel
theorem kc_34_54 : zcode 34 54 = some (.goto 10, 3, (64, 0, 0, 0)) := by decide +kernel
theorem kc_34_57 : zcode 34 57 = some (.bipush 10, 2, (0, 0, 0, 0)) := by decide +kernel
theorem kc_34_59 : zcode 34 59 = some (.iload_n 2, 1, (0, 0, 0, 0)) := by decide +kernel
theorem kc_34_60 : zcode 34 60 = some (.imul, 1, (0, 0, 0, 0)) := by decide +kernel
theorem kc_34_61 : zcode 34 61 = some (.iload 4, 2, (0, 0, 0, 0)) := by decide +kernel
theorem kc_34_63 : zcode 34 63 = some (.iadd, 1, (0, 0, 0, 0)) := by decide +kernel
theorem kc_34_64 : zcode 34 64 = some (.istore_n 2, 1, (0, 0, 0, 0)) := by decide +kernel
theorem kc_34_65 : zcode 34 65 = some (.aload_n 0, 1, (0, 0, 0, 0)) := by decide +kernel
theorem kc_34_66 : zcode 34 66 = some (.dup, 1, (0, 0, 0, 0)) := by decide +kernel
theorem kc_34_67 : zcode 34 67 = some (.getfield 32, 3, (5, 6, 193, 0)) := by decide +kernel
theorem kc_34_70 : zcode 34 70 = some (.iconst 1, 1, (0, 0, 0, 0)) := by decide +kernel
theorem kc_34_71 : zcode 34 71 = some (.iadd, 1, (0, 0, 0, 0)) := by decide +kernel
theorem kc_34_72 : zcode 34 72 = some (.putfield 32, 3, (5, 6, 193, 0)) := by decide +kernel
theorem kc_34_75 : zcode 34 75 = some (.iinc 3 1, 3, (0, 0, 0, 0)) := by decide +kernel
theorem kc_34_78 : zcode 34 78 = some (.goto (-74), 3, (4, 0, 0, 0)) := by decide +kernel
theorem kc_34_81 : zcode 34 81 = some (.iload_n 2, 1, (0, 0, 0, 0)) := by decide +kernel
theorem kc_34_82 : zcode 34 82 = some (.ireturn, 1, (0, 0, 0, 0)) := by decide +kernel
theorem kc_36_0 : zcode 36 0 = some (.iload_n 3, 1, (0, 0, 0, 0)) := by decide +kernel
theorem kc_36_1 : zcode 36 1 = some (.iconst 1, 1, (0, 0, 0, 0)) := by decide +kernel
theorem kc_36_2 : zcode 36 2 = some (.if_icmp .ge 4, 3, (6, 0, 0, 0)) := by decide +kernel
theorem kc_36_5 : zcode 36 5 = some (.return_, 1, (0, 0, 0, 0)) := by decide +kernel
theorem kc_36_6 : zcode 36 6 = some (.aload_n 0, 1, (0, 0, 0, 0)) := by decide +kernel
theorem kc_36_7 : zcode 36 7 = some (.aload_n 1, 1, (0, 0, 0, 0)) := by decide +kernel
theorem kc_36_8 : zcode 36 8 = some (.getfield 29, 3, (3, 0, 108, 0)) := by decide +kernel
theorem kc_36_11 : zcode 36 11 = some (.invokevirtual 35, 3, (37, 0, 524, 0)) := by decide +kernel
theorem kc_36_14 : zcode 36 14 = some (.aload_n 1, 1, (0, 0, 0, 0)) := by decide +kernel
theorem kc_36_15 : zcode 36 15 = some (.getfield 39, 3, (3, 2, 112, 0)) := by decide +kernel
theorem kc_36_18 : zcode 36 18 = some (.i2f, 1, (0, 0, 0, 0)) := by decide +kernel
theorem kc_36_19 : zcode 36 19 = some (.iload_n 3, 1, (0, 0, 0, 0)) := by decide +kernel
theorem kc_36_20 : zcode 36 20 = some (.i2f, 1, (0, 0, 0, 0)) := by decide +kernel
theorem kc_36_21 : zcode 36 21 = some (.fdiv, 1, (0, 0, 0, 0)) := by decide +kernel
theorem kc_36_22 : zcode 36 22 = some (.fstore 4, 2, (0, 0, 0, 0)) := by decide +kernel
theorem kc_36_24 : zcode 36 24 = some (.iconst 0, 1, (0, 0, 0, 0)) := by decide +kernel
theorem kc_36_25 : zcode 36 25 = some (.istore 5, 2, (0, 0, 0, 0)) := by decide +kernel
theorem kc_36_27 : zcode 36 27 = some (.iload 5, 2, (0, 0, 0, 0)) := by decide +kernel
theorem kc_36_29 : zcode 36 29 = some (.iload_n 3, 1, (0, 0, 0, 0)) := by decide +kernel
theorem kc_36_30 : zcode 36 30 = some (.if_icmp .ge 20, 3, (50, 0, 0, 0)) := by decide +kernel
theorem kc_36_33 : zcode 36 33 = some (.aload_n 0, 1, (0, 0, 0, 0)) := by decide +kernel
theorem kc_36_34 : zcode 36 34 = some (.aload_n 0, 1, (0, 0, 0, 0)) := by decide +kernel
theorem kc_36_35 : zcode 36 35 = some (.iload_n 2, 1, (0, 0, 0, 0)) := by decide +kernel
theorem kc_36_36 : zcode 36 36 = some (.invokevirtual 42, 3, (39, 0, 528, 0)) := by decide +kernel
theorem kc_36_39 : zcode 36 39 = some (.fload 4, 2, (0, 0, 0, 0)) := by decide +kernel
theorem kc_36_41 : zcode 36 41 = some (.invokevirtual 46, 3, (38, 0, 537, 0)) := by decide +kernel
theorem kc_36_44 : zcode 36 44 = some (.iinc 5 1, 3, (0, 0, 0, 0)) := by decide +kernel
theorem kc_36_47 : zcode 36 47 = some (.goto (-20), 3, (27, 0, 0, 0)) := by decide +kernel
theorem kc_36_50 : zcode 36 50 = some (.return_, 1, (0, 0, 0, 0)) := by decide +kernel
theorem kc_37_0 : zcode 37 0 = some (.aload_n 0, 1, (0, 0, 0, 0)) := by decide +kernel
theorem kc_37_1 : zcode 37 1 = some (.aload_n 1, 1, (0, 0, 0, 0)) := by decide +kernel
theorem kc_37_2 : zcode 37 2 = some (.getfield 50, 3, (0, 3, 96, 0)) := by decide +kernel
theorem kc_37_5 : zcode 37 5 = some (.putfield 22, 3, (6, 3, 138, 0)) := by decide +kernel
theorem kc_37_8 : zcode 37 8 = some (.aload_n 0, 1, (0, 0, 0, 0)) := by decide +kernel
theorem kc_37_9 : zcode 37 9 = some (.fconst 0, 1, (0, 0, 0, 0)) := by decide +kernel
theorem kc_37_10 : zcode 37 10 = some (.putfield 26, 3, (6, 4, 139, 0)) := by decide +kernel
theorem kc_37_13 : zcode 37 13 = some (.aload_n 0, 1, (0, 0, 0, 0)) := by decide +kernel
theorem kc_37_14 : zcode 37 14 = some (.fconst 0, 1, (0, 0, 0, 0)) := by decide +kernel
theorem kc_37_15 : zcode 37 15 = some (.putfield 18, 3, (6, 2, 137, 0)) := by decide +kernel
theorem kc_37_18 : zcode 37 18 = some (.iconst 0, 1, (0, 0, 0, 0)) := by decide +kernel
theorem kc_37_19 : zcode 37 19 = some (.istore_n 2, 1, (0, 0, 0, 0)) := by decide +kernel
theorem kc_37_20 : zcode 37 20 = some (.iload_n 2, 1, (0, 0, 0, 0)) := by decide +kernel
theorem kc_37_21 : zcode 37 21 = some (.aload_n 0, 1, (0, 0, 0, 0)) := by decide +kernel
theorem kc_37_22 : zcode 37 22 = some (.getfield 22, 3, (6, 3, 138, 0)) := by decide +kernel
theorem kc_37_25 : zcode 37 25 = some (.if_icmp .ge 60, 3, (85, 0, 0, 0)) := by decide +kernel
theorem kc_37_28 : zcode 37 28 = some (.aload_n 0, 1, (0, 0, 0, 0)) := by decide +kernel
theorem kc_37_29 : zcode 37 29 = some (.getfield 9, 3, (6, 0, 134, 0)) := by decide +kernel
theorem kc_37_32 : zcode 37 32 = some (.iload_n 2, 1, (0, 0, 0, 0)) := by decide +kernel
theorem kc_37_33 : zcode 37 33 = some (.fconst 0, 1, (0, 0, 0, 0)) := by decide +kernel
theorem kc_37_34 : zcode 37 34 = some (.fastore, 1, (0, 0, 0, 0)) := by decide +kernel
theorem kc_37_35 : zcode 37 35 = some (.aload_n 0, 1, (0, 0, 0, 0)) := by decide +kernel
theorem kc_37_36 : zcode 37 36 = some (.getfield 15, 3, (6, 1, 136, 0)) := by decide +kernel
theorem kc_37_39 : zcode 37 39 = some (.iload_n 2, 1, (0, 0, 0, 0)) := by decide +kernel
theorem kc_37_40 : zcode 37 40 = some (.aload_n 1, 1, (0, 0, 0, 0)) := by decide +kernel
theorem kc_37_41 : zcode 37 41 = some (.getfield 53, 3, (0, 0, 89, 0)) := by decide +kernel
theorem kc_37_44 : zcode 37 44 = some (.iload_n 2, 1, (0, 0, 0, 0)) := by decide +kernel
theorem kc_37_45 : zcode 37 45 = some (.iaload, 1, (0, 0, 0, 0)) := by decide +kernel
theorem kc_37_46 : zcode 37 46 = some (.i2f, 1, (0, 0, 0, 0)) := by decide +kernel
theorem kc_37_47 : zcode 37 47 = some (.fastore, 1, (0, 0, 0, 0)) := by decide +kernel
theorem kc_37_48 : zcode 37 48 = some (.aload_n 0, 1, (0, 0, 0, 0)) := by decide +kernel
theorem kc_37_49 : zcode 37 49 = some (.aload_n 0, 1, (0, 0, 0, 0)) := by decide +kernel
theorem kc_37_50 : zcode 37 50 = some (.getfield 15, 3, (6, 1, 136, 0)) := by decide +kernel
theorem kc_37_53 : zcode 37 53 = some (.iload_n 2, 1, (0, 0, 0, 0)) := by decide +kernel
theorem kc_37_54 : zcode 37 54 = some (.faload, 1, (0, 0, 0, 0)) := by decide +kernel
theorem kc_37_55 : zcode 37 55 = some (.aload_n 0, 1, (0, 0, 0, 0)) := by decide +kernel
theorem kc_37_56 : zcode 37 56 = some (.getfield 18, 3, (6, 2, 137, 0)) := by decide +kernel
theorem kc_37_59 : zcode 37 59 = some (.fcmp .l, 1, (0, 0, 0, 0)) := by decide +kernel
theorem kc_37_60 : zcode 37 60 = some (.ifCond .le 12, 3, (72, 0, 0, 0)) := by decide +kernel
theorem kc_37_63 : zcode 37 63 = some (.aload_n 0, 1, (0, 0, 0, 0)) := by decide +kernel
theorem kc_37_64 : zcode 37 64 = some (.getfield 15, 3, (6, 1, 136, 0)) := by decide +kernel
theorem kc_37_67 : zcode 37 67 = some (.iload_n 2, 1, (0, 0, 0, 0)) := by decide +kernel
theorem kc_37_68 : zcode 37 68 = some (.faload, 1, (0, 0, 0, 0)) := by decide +kernel
theorem kc_37_69 : zcode 37 69 = some (.goto 7, 3, (76, 0, 0, 0)) := by decide +kernel
theorem kc_37_72 : zcode 37 72 = some (.aload_n 0, 1, (0, 0, 0, 0)) := by decide +kernel
theorem kc_37_73 : zcode 37 73 = some (.getfield 18, 3, (6, 2, 137, 0)) := by decide +kernel
theorem kc_37_76 : zcode 37 76 = some (.putfield 18, 3, (6, 2, 137, 0)) := by decide +kernel
theorem kc_37_79 : zcode 37 79 = some (.iinc 2 1, 3, (0, 0, 0, 0)) := by decide +kernel
theorem kc_37_82 : zcode 37 82 = some (.goto (-62), 3, (20, 0, 0, 0)) := by decide +kernel
theorem kc_37_85 : zcode 37 85 = some (.return_, 1, (0, 0, 0, 0)) := by decide +kernel
theorem kc_38_0 : zcode 38 0 = some (.iload_n 1, 1, (0, 0, 0, 0)) := by decide +kernel
theorem kc_38_1 : zcode 38 1 = some (.ifCond .ge 14, 3, (15, 0, 0, 0)) := by decide +kernel
theorem kc_38_4 : zcode 38 4 = some (.aload_n 0, 1, (0, 0, 0, 0)) := by decide +kernel
theorem kc_38_5 : zcode 38 5 = some (.aload_n 0, 1, (0, 0, 0, 0)) := by decide +kernel
theorem kc_38_6 : zcode 38 6 = some (.getfield 26, 3, (6, 4, 139, 0)) := by decide +kernel
theorem kc_38_9 : zcode 38 9 = some (.fload_n 2, 1, (0, 0, 0, 0)) := by decide +kernel
theorem kc_38_10 : zcode 38 10 = some (.fadd, 1, (0, 0, 0, 0)) := by decide +kernel
theorem kc_38_11 : zcode 38 11 = some (.putfield 26, 3, (6, 4, 139, 0)) := by decide +kernel
theorem kc_38_14 : zcode 38 14 = some (.return_, 1, (0, 0, 0, 0)) := by decide +kernel
theorem kc_38_15 : zcode 38 15 = some (.aload_n 0, 1, (0, 0, 0, 0)) := by decide +kernel
theorem kc_38_16 : zcode 38 16 = some (.getfield 9, 3, (6, 0, 134, 0)) := by decide +kernel
theorem kc_38_19 : zcode 38 19 = some (.iload_n 1, 1, (0, 0, 0, 0)) := by decide +kernel
theorem kc_38_20 : zcode 38 20 = some (.faload, 1, (0, 0, 0, 0)) := by decide +kernel
theorem kc_38_21 : zcode 38 21 = some (.fload_n 2, 1, (0, 0, 0, 0)) := by decide +kernel
theorem kc_38_22 : zcode 38 22 = some (.fadd, 1, (0, 0, 0, 0)) := by decide +kernel
theorem kc_38_23 : zcode 38 23 = some (.fstore_n 3, 1, (0, 0, 0, 0)) := by decide +kernel
theorem kc_38_24 : zcode 38 24 = some (.fload_n 3, 1, (0, 0, 0, 0)) := by decide +kernel
theorem kc_38_25 : zcode 38 25 = some (.aload_n 0, 1, (0, 0, 0, 0)) := by decide +kernel
theorem kc_38_26 : zcode 38 26 = some (.getfield 15, 3, (6, 1, 136, 0)) := by decide +kernel
theorem kc_38_29 : zcode 38 29 = some (.iload_n 1, 1, (0, 0, 0, 0)) := by decide +kernel
theorem kc_38_30 : zcode 38 30 = some (.faload, 1, (0, 0, 0, 0)) := by decide +kernel
theorem kc_38_31 : zcode 38 31 = some (.fcmp .l, 1, (0, 0, 0, 0)) := by decide +kernel
theorem kc_38_32 : zcode 38 32 = some (.ifCond .le 35, 3, (67, 0, 0, 0)) := by decide +kernel
theorem kc_38_35 : zcode 38 35 = some (.aload_n 0, 1, (0, 0, 0, 0)) := by decide +kernel
theorem kc_38_36 : zcode 38 36 = some (.getfield 9, 3, (6, 0, 134, 0)) := by decide +kernel
theorem kc_38_39 : zcode 38 39 = some (.iload_n 1, 1, (0, 0, 0, 0)) := by decide +kernel
theorem kc_38_40 : zcode 38 40 = some (.aload_n 0, 1, (0, 0, 0, 0)) := by decide +kernel
theorem kc_38_41 : zcode 38 41 = some (.getfield 15, 3, (6, 1, 136, 0)) := by decide +kernel
theorem kc_38_44 : zcode 38 44 = some (.iload_n 1, 1, (0, 0, 0, 0)) := by decide +kernel
theorem kc_38_45 : zcode 38 45 = some (.faload, 1, (0, 0, 0, 0)) := by decide +kernel
theorem kc_38_46 : zcode 38 46 = some (.fastore, 1, (0, 0, 0, 0)) := by decide +kernel
theorem kc_38_47 : zcode 38 47 = some (.aload_n 0, 1, (0, 0, 0, 0)) := by decide +kernel
theorem kc_38_48 : zcode 38 48 = some (.aload_n 0, 1, (0, 0, 0, 0)) := by decide +kernel
theorem kc_38_49 : zcode 38 49 = some (.getfield 26, 3, (6, 4, 139, 0)) := by decide +kernel
theorem kc_38_52 : zcode 38 52 = some (.fload_n 3, 1, (0, 0, 0, 0)) := by decide +kernel
theorem kc_38_53 : zcode 38 53 = some (.aload_n 0, 1, (0, 0, 0, 0)) := by decide +kernel
theorem kc_38_54 : zcode 38 54 = some (.getfield 15, 3, (6, 1, 136, 0)) := by decide +kernel
theorem kc_38_57 : zcode 38 57 = some (.iload_n 1, 1, (0, 0, 0, 0)) := by decide +kernel
theorem kc_38_58 : zcode 38 58 = some (.faload, 1, (0, 0, 0, 0)) := by decide +kernel
theorem kc_38_59 : zcode 38 59 = some (.fsub, 1, (0, 0, 0, 0)) := by decide +kernel
theorem kc_38_60 : zcode 38 60 = some (.fadd, 1, (0, 0, 0, 0)) := by decide +kernel
theorem kc_38_61 : zcode 38 61 = some (.putfield 26, 3, (6, 4, 139, 0)) := by decide +kernel
theorem kc_38_64 : zcode 38 64 = some (.goto 10, 3, (74, 0, 0, 0)) := by decide +kernel
theorem kc_38_67 : zcode 38 67 = some (.aload_n 0, 1, (0, 0, 0, 0)) := by decide +kernel
theorem kc_38_68 : zcode 38 68 = some (.getfield 9, 3, (6, 0, 134, 0)) := by decide +kernel
theorem kc_38_71 : zcode 38 71 = some (.iload_n 1, 1, (0, 0, 0, 0)) := by decide +kernel
theorem kc_38_72 : zcode 38 72 = some (.fload_n 3, 1, (0, 0, 0, 0)) := by decide +kernel
theorem kc_38_73 : zcode 38 73 = some (.fastore, 1, (0, 0, 0, 0)) := by decide +kernel
theorem kc_38_74 : zcode 38 74 = some (.return_, 1, (0, 0, 0, 0)) := by decide +kernel
theorem kc_39_0 : zcode 39 0 = some (.iconst (-1), 1, (0, 0, 0, 0)) := by decide +kernel
theorem kc_39_1 : zcode 39 1 = some (.istore_n 2, 1, (0, 0, 0, 0)) := by decide +kernel
theorem kc_39_2 : zcode 39 2 = some (.fconst 0, 1, (0, 0, 0, 0)) := by decide +kernel
theorem kc_39_3 : zcode 39 3 = some (.fstore_n 3, 1, (0, 0, 0, 0)) := by decide +kernel
theorem kc_39_4 : zcode 39 4 = some (.iconst 0, 1, (0, 0, 0, 0)) := by decide +kernel
theorem kc_39_5 : zcode 39 5 = some (.istore 4, 2, (0, 0, 0, 0)) := by decide +kernel
theorem kc_39_7 : zcode 39 7 = some (.iload 4, 2, (0, 0, 0, 0)) := by decide +kernel
theorem kc_39_9 : zcode 39 9 = some (.aload_n 0, 1, (0, 0, 0, 0)) := by decide +kernel
theorem kc_39_10 : zcode 39 10 = some (.getfield 22, 3, (6, 3, 138, 0)) := by decide +kernel
theorem kc_39_13 : zcode 39 13 = some (.if_icmp .ge 53, 3, (66, 0, 0, 0)) := by decide +kernel
theorem kc_39_16 : zcode 39 16 = some (.aload_n 0, 1, (0, 0, 0, 0)) := by decide +kernel
theorem kc_39_17 : zcode 39 17 = some (.getfield 9, 3, (6, 0, 134, 0)) := by decide +kernel
theorem kc_39_20 : zcode 39 20 = some (.iload 4, 2, (0, 0, 0, 0)) := by decide +kernel
theorem kc_39_22 : zcode 39 22 = some (.faload, 1, (0, 0, 0, 0)) := by decide +kernel
theorem kc_39_23 : zcode 39 23 = some (.aload_n 0, 1, (0, 0, 0, 0)) := by decide +kernel
theorem kc_39_24 : zcode 39 24 = some (.getfield 15, 3, (6, 1, 136, 0)) := by decide +kernel
theorem kc_39_27 : zcode 39 27 = some (.iload 4, 2, (0, 0, 0, 0)) := by decide +kernel
theorem kc_39_29 : zcode 39 29 = some (.faload, 1, (0, 0, 0, 0)) := by decide +kernel
theorem kc_39_30 : zcode 39 30 = some (.fcmp .g, 1, (0, 0, 0, 0)) := by decide +kernel
theorem kc_39_31 : zcode 39 31 = some (.ifCond .ge 29, 3, (60, 0, 0, 0)) := by decide +kernel
theorem kc_39_34 : zcode 39 34 = some (.aload_n 0, 1, (0, 0, 0, 0)) := by decide +kernel
theorem kc_39_35 : zcode 39 35 = some (.iload_n 1, 1, (0, 0, 0, 0)) := by decide +kernel
theorem kc_39_36 : zcode 39 36 = some (.iload 4, 2, (0, 0, 0, 0)) := by decide +kernel
theorem kc_39_38 : zcode 39 38 = some (.invokevirtual 56, 3, (40, 0, 532, 0)) := by decide +kernel
theorem kc_39_41 : zcode 39 41 = some (.fstore 5, 2, (0, 0, 0, 0)) := by decide +kernel
theorem kc_39_43 : zcode 39 43 = some (.iload_n 2, 1, (0, 0, 0, 0)) := by decide +kernel
theorem kc_39_44 : zcode 39 44 = some (.ifCond .lt 10, 3, (54, 0, 0, 0)) := by decide +kernel
theorem kc_39_47 : zcode 39 47 = some (.fload 5, 2, (0, 0, 0, 0)) := by decide +kernel
theorem kc_39_49 : zcode 39 49 = some (.fload_n 3, 1, (0, 0, 0, 0)) := by decide +kernel
theorem kc_39_50 : zcode 39 50 = some (.fcmp .g, 1, (0, 0, 0, 0)) := by decide +kernel
theorem kc_39_51 : zcode 39 51 = some (.ifCond .ge 9, 3, (60, 0, 0, 0)) := by decide +kernel
theorem kc_39_54 : zcode 39 54 = some (.iload 4, 2, (0, 0, 0, 0)) := by decide +kernel
theorem kc_39_56 : zcode 39 56 = some (.istore_n 2, 1, (0, 0, 0, 0)) := by decide +kernel
theorem kc_39_57 : zcode 39 57 = some (.fload 5, 2, (0, 0, 0, 0)) := by decide +kernel
theorem kc_39_59 : zcode 39 59 = some (.fstore_n 3, 1, (0, 0, 0, 0)) := by decide +kernel
theorem kc_39_60 : zcode 39 60 = some (.iinc 4 1, 3, (0, 0, 0, 0)) := by decide +kernel
theorem kc_39_63 : zcode 39 63 = some (.goto (-56), 3, (7, 0, 0, 0)) := by decide +kernel
theorem kc_39_66 : zcode 39 66 = some (.iload_n 2, 1, (0, 0, 0, 0)) := by decide +kernel
theorem kc_39_67 : zcode 39 67 = some (.ireturn, 1, (0, 0, 0, 0)) := by decide +kernel
theorem kc_40_0 : zcode 40 0 = some (.aload_n 0, 1, (0, 0, 0, 0)) := by decide +kernel
theorem kc_40_1 : zcode 40 1 = some (.getfield 9, 3, (6, 0, 134, 0)) := by decide +kernel
theorem kc_40_4 : zcode 40 4 = some (.iload_n 2, 1, (0, 0, 0, 0)) := by decide +kernel
theorem kc_40_5 : zcode 40 5 = some (.faload, 1, (0, 0, 0, 0)) := by decide +kernel
theorem kc_40_6 : zcode 40 6 = some (.fstore_n 3, 1, (0, 0, 0, 0)) := by decide +kernel
theorem kc_40_7 : zcode 40 7 = some (.iload_n 1, 1, (0, 0, 0, 0)) := by decide +kernel
theorem kc_40_8 : zcode 40 8 = some (.tableswitch 83 0 3 #[32, 34, 43, 52], 32, (0, 0, 0, 0)) := by decide +kernel
theorem kc_40_40 : zcode 40 40 = some (.fload_n 3, 1, (0, 0, 0, 0)) := by decide +kernel
theorem kc_40_41 : zcode 40 41 = some (.freturn, 1, (0, 0, 0, 0)) := by decide +kernel
theorem kc_40_42 : zcode 40 42 = some (.fload_n 3, 1, (0, 0, 0, 0)) := by decide +kernel
theorem kc_40_43 : zcode 40 43 = some (.aload_n 0, 1, (0, 0, 0, 0)) := by decide +kernel
theorem kc_40_44 : zcode 40 44 = some (.getfield 15, 3, (6, 1, 136, 0)) := by decide +kernel
theorem kc_40_47 : zcode 40 47 = some (.iload_n 2, 1, (0, 0, 0, 0)) := by decide +kernel
theorem kc_40_48 : zcode 40 48 = some (.faload, 1, (0, 0, 0, 0)) := by decide +kernel
theorem kc_40_49 : zcode 40 49 = some (.fsub, 1, (0, 0, 0, 0)) := by decide +kernel
theorem kc_40_50 : zcode 40 50 = some (.freturn, 1, (0, 0, 0, 0)) := by decide +kernel
theorem kc_40_51 : zcode 40 51 = some (.fload_n 3, 1, (0, 0, 0, 0)) := by decide +kernel
theorem kc_40_52 : zcode 40 52 = some (.aload_n 0, 1, (0, 0, 0, 0)) := by decide +kernel
theorem kc_40_53 : zcode 40 53 = some (.getfield 15, 3, (6, 1, 136, 0)) := by decide +kernel
theorem kc_40_56 : zcode 40 56 = some (.iload_n 2, 1, (0, 0, 0, 0)) := by decide +kernel
theorem kc_40_57 : zcode 40 57 = some (.faload, 1, (0, 0, 0, 0)) := by decide +kernel
theorem kc_40_58 : zcode 40 58 = some (.fdiv, 1, (0, 0, 0, 0)) := by decide +kernel
theorem kc_40_59 : zcode 40 59 = some (.freturn, 1, (0, 0, 0, 0)) := by decide +kernel
theorem kc_40_60 : zcode 40 60 = some (.fconst 2, 1, (0, 0, 0, 0)) := by decide +kernel
theorem kc_40_61 : zcode 40 61 = some (.fload_n 3, 1, (0, 0, 0, 0)) := by decide +kernel
theorem kc_40_62 : zcode 40 62 = some (.fmul, 1, (0, 0, 0, 0)) := by decide +kernel
theorem kc_40_63 : zcode 40 63 = some (.aload_n 0, 1, (0, 0, 0, 0)) := by decide +kernel
theorem kc_40_64 : zcode 40 64 = some (.getfield 15, 3, (6, 1, 136, 0)) := by decide +kernel
theorem kc_40_67 : zcode 40 67 = some (.iload_n 2, 1, (0, 0, 0, 0)) := by decide +kernel
theorem kc_40_68 : zcode 40 68 = some (.faload, 1, (0, 0, 0, 0)) := by decide +kernel
theorem kc_40_69 : zcode 40 69 = some (.fcmp .g, 1, (0, 0, 0, 0)) := by decide +kernel
theorem kc_40_70 : zcode 40 70 = some (.ifCond .ge 7, 3, (77, 0, 0, 0)) := by decide +kernel
theorem kc_40_73 : zcode 40 73 = some (.fload_n 3, 1, (0, 0, 0, 0)) := by decide +kernel
theorem kc_40_74 : zcode 40 74 = some (.goto 16, 3, (90, 0, 0, 0)) := by decide +kernel
theorem kc_40_77 : zcode 40 77 = some (.aload_n 0, 1, (0, 0, 0, 0)) := by decide +kernel
theorem kc_40_78 : zcode 40 78 = some (.getfield 18, 3, (6, 2, 137, 0)) := by decide +kernel
theorem kc_40_81 : zcode 40 81 = some (.aload_n 0, 1, (0, 0, 0, 0)) := by decide +kernel
theorem kc_40_82 : zcode 40 82 = some (.getfield 15, 3, (6, 1, 136, 0)) := by decide +kernel
theorem kc_40_85 : zcode 40 85 = some (.iload_n 2, 1, (0, 0, 0, 0)) := by decide +kernel
theorem kc_40_86 : zcode 40 86 = some (.faload, 1, (0, 0, 0, 0)) := by decide +kernel
theorem kc_40_87 : zcode 40 87 = some (.fload_n 3, 1, (0, 0, 0, 0)) := by decide +kernel
theorem kc_40_88 : zcode 40 88 = some (.fsub, 1, (0, 0, 0, 0)) := by decide +kernel
theorem kc_40_89 : zcode 40 89 = some (.fsub, 1, (0, 0, 0, 0)) := by decide +kernel
theorem kc_40_90 : zcode 40 90 = some (.freturn, 1, (0, 0, 0, 0)) := by decide +kernel
theorem kc_40_91 : zcode 40 91 = some (.fload_n 3, 1, (0, 0, 0, 0)) := by decide +kernel
theorem kc_40_92 : zcode 40 92 = some (.aload_n 0, 1, (0, 0, 0, 0)) := by decide +kernel
theorem kc_40_93 : zcode 40 93 = some (.getfield 15, 3, (6, 1, 136, 0)) := by decide +kernel
theorem kc_40_96 : zcode 40 96 = some (.iload_n 2, 1, (0, 0, 0, 0)) := by decide +kernel
theorem kc_40_97 : zcode 40 97 = some (.faload, 1, (0, 0, 0, 0)) := by decide +kernel
theorem kc_40_98 : zcode 40 98 = some (.ldc 60, 2, (1, 0, 536, 1056964608)) := by decide +kernel
theorem kc_40_100 : zcode 40 100 = some (.fmul, 1, (0, 0, 0, 0)) := by decide +kernel
theorem kc_40_101 : zcode 40 101 = some (.fsub, 1, (0, 0, 0, 0)) := by decide +kernel
theorem kc_40_102 : zcode 40 102 = some (.freturn, 1, (0, 0, 0, 0)) := by decide +kernel
theorem kc_42_0 : zcode 42 0 = some (.iload_n 1, 1, (0, 0, 0, 0)) := by decide +kernel
theorem kc_42_1 : zcode 42 1 = some (.invokestatic 71, 3, (84, 0, 296, 0)) := by decide +kernel
theorem kc_42_4 : zcode 42 4 = some (.ifCond .ne 6, 3, (10, 0, 0, 0)) := by decide +kernel
theorem kc_42_7 : zcode 42 7 = some (.bipush (-2), 2, (0, 0, 0, 0)) := by decide +kernel
theorem kc_42_9 : zcode 42 9 = some (.ireturn, 1, (0, 0, 0, 0)) := by decide +kernel
theorem kc_42_10 : zcode 42 10 = some (.aload_n 0, 1, (0, 0, 0, 0)) := by decide +kernel
theorem kc_42_11 : zcode 42 11 = some (.getfield 12, 3, (7, 0, 261, 0)) := by decide +kernel
theorem kc_42_14 : zcode 42 14 = some (.getfield 75, 3, (3, 0, 109, 0)) := by decide +kernel
theorem kc_42_17 : zcode 42 17 = some (.getfield 78, 3, (0, 3, 95, 0)) := by decide +kernel
theorem kc_42_20 : zcode 42 20 = some (.bipush 6, 2, (0, 0, 0, 0)) := by decide +kernel
theorem kc_42_22 : zcode 42 22 = some (.if_icmp .lt 6, 3, (28, 0, 0, 0)) := by decide +kernel
theorem kc_42_25 : zcode 42 25 = some (.bipush (-4), 2, (0, 0, 0, 0)) := by decide +kernel
theorem kc_42_27 : zcode 42 27 = some (.ireturn, 1, (0, 0, 0, 0)) := by decide +kernel
theorem kc_42_28 : zcode 42 28 = some (.aload_n 0, 1, (0, 0, 0, 0)) := by decide +kernel
theorem kc_42_29 : zcode 42 29 = some (.getfield 12, 3, (7, 0, 261, 0)) := by decide +kernel
theorem kc_42_32 : zcode 42 32 = some (.getfield 75, 3, (3, 0, 109, 0)) := by decide +kernel
theorem kc_42_35 : zcode 42 35 = some (.iload_n 1, 1, (0, 0, 0, 0)) := by decide +kernel
theorem kc_42_36 : zcode 42 36 = some (.invokevirtual 82, 3, (4, 0, 299, 0)) := by decide +kernel
theorem kc_42_39 : zcode 42 39 = some (.aload_n 0, 1, (0, 0, 0, 0)) := by decide +kernel
theorem kc_42_40 : zcode 42 40 = some (.getfield 12, 3, (7, 0, 261, 0)) := by decide +kernel
theorem kc_42_43 : zcode 42 43 = some (.getfield 75, 3, (3, 0, 109, 0)) := by decide +kernel
theorem kc_42_46 : zcode 42 46 = some (.getfield 78, 3, (0, 3, 95, 0)) := by decide +kernel
theorem kc_42_49 : zcode 42 49 = some (.iconst 1, 1, (0, 0, 0, 0)) := by decide +kernel
theorem kc_42_50 : zcode 42 50 = some (.isub, 1, (0, 0, 0, 0)) := by decide +kernel
theorem kc_42_51 : zcode 42 51 = some (.ireturn, 1, (0, 0, 0, 0)) := by decide +kernel
theorem kc_43_0 : zcode 43 0 = some (.aload_n 0, 1, (0, 0, 0, 0)) := by decide +kernel
theorem kc_43_1 : zcode 43 1 = some (.getfield 12, 3, (7, 0, 261, 0)) := by decide +kernel
theorem kc_43_4 : zcode 43 4 = some (.getfield 75, 3, (3, 0, 109, 0)) := by decide +kernel
theorem kc_43_7 : zcode 43 7 = some (.iload_n 1, 1, (0, 0, 0, 0)) := by decide +kernel
theorem kc_43_8 : zcode 43 8 = some (.invokevirtual 85, 3, (1, 0, 307, 0)) := by decide +kernel
theorem kc_43_11 : zcode 43 11 = some (.ifCond .ne 5, 3, (16, 0, 0, 0)) := by decide +kernel
theorem kc_43_14 : zcode 43 14 = some (.iconst (-1), 1, (0, 0, 0, 0)) := by decide +kernel
theorem kc_43_15 : zcode 43 15 = some (.ireturn, 1, (0, 0, 0, 0)) := by decide +kernel
theorem kc_43_16 : zcode 43 16 = some (.iload_n 2, 1, (0, 0, 0, 0)) := by decide +kernel
theorem kc_43_17 : zcode 43 17 = some (.invokestatic 71, 3, (84, 0, 296, 0)) := by decide +kernel
theorem kc_43_20 : zcode 43 20 = some (.ifCond .ne 6, 3, (26, 0, 0, 0)) := by decide +kernel
theorem kc_43_23 : zcode 43 23 = some (.bipush (-2), 2, (0, 0, 0, 0)) := by decide +kernel
theorem kc_43_25 : zcode 43 25 = some (.ireturn, 1, (0, 0, 0, 0)) := by decide +kernel
theorem kc_43_26 : zcode 43 26 = some (.aload_n 0, 1, (0, 0, 0, 0)) := by decide +kernel
theorem kc_43_27 : zcode 43 27 = some (.getfield 12, 3, (7, 0, 261, 0)) := by decide +kernel
theorem kc_43_30 : zcode 43 30 = some (.getfield 75, 3, (3, 0, 109, 0)) := by decide +kernel
theorem kc_43_33 : zcode 43 33 = some (.getfield 88, 3, (0, 0, 88, 0)) := by decide +kernel
theorem kc_43_36 : zcode 43 36 = some (.iload_n 1, 1, (0, 0, 0, 0)) := by decide +kernel
theorem kc_43_37 : zcode 43 37 = some (.iaload, 1, (0, 0, 0, 0)) := by decide +kernel
theorem kc_43_38 : zcode 43 38 = some (.istore_n 3, 1, (0, 0, 0, 0)) := by decide +kernel
theorem kc_43_39 : zcode 43 39 = some (.aload_n 0, 1, (0, 0, 0, 0)) := by decide +kernel
theorem kc_43_40 : zcode 43 40 = some (.getfield 12, 3, (7, 0, 261, 0)) := by decide +kernel
theorem kc_43_43 : zcode 43 43 = some (.getfield 75, 3, (3, 0, 109, 0)) := by decide +kernel
theorem kc_43_46 : zcode 43 46 = some (.iload_n 1, 1, (0, 0, 0, 0)) := by decide +kernel
theorem kc_43_47 : zcode 43 47 = some (.iload_n 2, 1, (0, 0, 0, 0)) := by decide +kernel
theorem kc_43_48 : zcode 43 48 = some (.invokevirtual 92, 3, (5, 0, 311, 0)) := by decide +kernel
theorem kc_43_51 : zcode 43 51 = some (.iload_n 3, 1, (0, 0, 0, 0)) := by decide +kernel
theorem kc_43_52 : zcode 43 52 = some (.ireturn, 1, (0, 0, 0, 0)) := by decide +kernel
theorem kc_44_0 : zcode 44 0 = some (.iload_n 1, 1, (0, 0, 0, 0)) := by decide +kernel
theorem kc_44_1 : zcode 44 1 = some (.invokestatic 96, 3, (85, 0, 329, 0)) := by decide +kernel
theorem kc_44_4 : zcode 44 4 = some (.ifCond .ne 6, 3, (10, 0, 0, 0)) := by decide +kernel
theorem kc_44_7 : zcode 44 7 = some (.bipush (-2), 2, (0, 0, 0, 0)) := by decide +kernel
theorem kc_44_9 : zcode 44 9 = some (.ireturn, 1, (0, 0, 0, 0)) := by decide +kernel
theorem kc_44_10 : zcode 44 10 = some (.aload_n 0, 1, (0, 0, 0, 0)) := by decide +kernel
theorem kc_44_11 : zcode 44 11 = some (.getfield 12, 3, (7, 0, 261, 0)) := by decide +kernel
theorem kc_44_14 : zcode 44 14 = some (.getfield 99, 3, (3, 2, 113, 0)) := by decide +kernel
theorem kc_44_17 : zcode 44 17 = some (.istore_n 2, 1, (0, 0, 0, 0)) := by decide +kernel
theorem kc_44_18 : zcode 44 18 = some (.aload_n 0, 1, (0, 0, 0, 0)) := by decide +kernel
theorem kc_44_19 : zcode 44 19 = some (.getfield 12, 3, (7, 0, 261, 0)) := by decide +kernel
theorem kc_44_22 : zcode 44 22 = some (.iload_n 1, 1, (0, 0, 0, 0)) := by decide +kernel
theorem kc_44_23 : zcode 44 23 = some (.putfield 99, 3, (3, 2, 113, 0)) := by decide +kernel
theorem kc_44_26 : zcode 44 26 = some (.iload_n 2, 1, (0, 0, 0, 0)) := by decide +kernel
theorem kc_44_27 : zcode 44 27 = some (.ireturn, 1, (0, 0, 0, 0)) := by decide +kernel
theorem kc_45_0 : zcode 45 0 = some (.iload_n 1, 1, (0, 0, 0, 0)) := by decide +kernel
theorem kc_45_1 : zcode 45 1 = some (.invokestatic 102, 3, (86, 0, 336, 0)) := by decide +kernel
theorem kc_45_4 : zcode 45 4 = some (.ifCond .ne 6, 3, (10, 0, 0, 0)) := by decide +kernel
theorem kc_45_7 : zcode 45 7 = some (.bipush (-2), 2, (0, 0, 0, 0)) := by decide +kernel
theorem kc_45_9 : zcode 45 9 = some (.ireturn, 1, (0, 0, 0, 0)) := by decide +kernel
theorem kc_45_10 : zcode 45 10 = some (.aload_n 0, 1, (0, 0, 0, 0)) := by decide +kernel
theorem kc_45_11 : zcode 45 11 = some (.getfield 12, 3, (7, 0, 261, 0)) := by decide +kernel
theorem kc_45_14 : zcode 45 14 = some (.getfield 105, 3, (3, 3, 115, 0)) := by decide +kernel
theorem kc_45_17 : zcode 45 17 = some (.istore_n 2, 1, (0, 0, 0, 0)) := by decide +kernel
theorem kc_45_18 : zcode 45 18 = some (.aload_n 0, 1, (0, 0, 0, 0)) := by decide +kernel
theorem kc_45_19 : zcode 45 19 = some (.getfield 12, 3, (7, 0, 261, 0)) := by decide +kernel
theorem kc_45_22 : zcode 45 22 = some (.iload_n 1, 1, (0, 0, 0, 0)) := by decide +kernel
theorem kc_45_23 : zcode 45 23 = some (.putfield 105, 3, (3, 3, 115, 0)) := by decide +kernel
theorem kc_45_26 : zcode 45 26 = some (.iload_n 2, 1, (0, 0, 0, 0)) := by decide +kernel
theorem kc_45_27 : zcode 45 27 = some (.ireturn, 1, (0, 0, 0, 0)) := by decide +kernel
theorem kc_46_0 : zcode 46 0 = some (.aload_n 0, 1, (0, 0, 0, 0)) := by decide +kernel
theorem kc_46_1 : zcode 46 1 = some (.getfield 12, 3, (7, 0, 261, 0)) := by decide +kernel
theorem kc_46_4 : zcode 46 4 = some (.getfield 75, 3, (3, 0, 109, 0)) := by decide +kernel
theorem kc_46_7 : zcode 46 7 = some (.iload_n 1, 1, (0, 0, 0, 0)) := by decide +kernel
theorem kc_46_8 : zcode 46 8 = some (.invokevirtual 85, 3, (1, 0, 307, 0)) := by decide +kernel
theorem kc_46_11 : zcode 46 11 = some (.ifCond .eq 18, 3, (29, 0, 0, 0)) := by decide +kernel
theorem kc_46_14 : zcode 46 14 = some (.aload_n 0, 1, (0, 0, 0, 0)) := by decide +kernel
theorem kc_46_15 : zcode 46 15 = some (.getfield 12, 3, (7, 0, 261, 0)) := by decide +kernel
theorem kc_46_18 : zcode 46 18 = some (.getfield 75, 3, (3, 0, 109, 0)) := by decide +kernel
theorem kc_46_21 : zcode 46 21 = some (.getfield 88, 3, (0, 0, 88, 0)) := by decide +kernel
theorem kc_46_24 : zcode 46 24 = some (.iload_n 1, 1, (0, 0, 0, 0)) := by decide +kernel
theorem kc_46_25 : zcode 46 25 = some (.iaload, 1, (0, 0, 0, 0)) := by decide +kernel
theorem kc_46_26 : zcode 46 26 = some (.goto 4, 3, (30, 0, 0, 0)) := by decide +kernel
theorem kc_46_29 : zcode 46 29 = some (.iconst (-1), 1, (0, 0, 0, 0)) := by decide +kernel
theorem kc_46_30 : zcode 46 30 = some (.ireturn, 1, (0, 0, 0, 0)) := by decide +kernel
theorem kc_47_0 : zcode 47 0 = some (.iload_n 1, 1, (0, 0, 0, 0)) := by decide +kernel
theorem kc_47_1 : zcode 47 1 = some (.tableswitch 89 0 4 #[35, 46, 57, 65, 73], 35, (0, 0, 0, 0)) := by decide +kernel
theorem kc_47_36 : zcode 47 36 = some (.aload_n 0, 1, (0, 0, 0, 0)) := by decide +kernel
theorem kc_47_37 : zcode 47 37 = some (.getfield 12, 3, (7, 0, 261, 0)) := by decide +kernel
theorem kc_47_40 : zcode 47 40 = some (.getfield 75, 3, (3, 0, 109, 0)) := by decide +kernel
theorem kc_47_43 : zcode 47 43 = some (.getfield 78, 3, (0, 3, 95, 0)) := by decide +kernel
theorem kc_47_46 : zcode 47 46 = some (.ireturn, 1, (0, 0, 0, 0)) := by decide +kernel
theorem kc_47_47 : zcode 47 47 = some (.aload_n 0, 1, (0, 0, 0, 0)) := by decide +kernel
theorem kc_47_48 : zcode 47 48 = some (.getfield 12, 3, (7, 0, 261, 0)) := by decide +kernel
theorem kc_47_51 : zcode 47 51 = some (.getfield 75, 3, (3, 0, 109, 0)) := by decide +kernel
theorem kc_47_54 : zcode 47 54 = some (.invokevirtual 108, 3, (2, 0, 347, 0)) := by decide +kernel
theorem kc_47_57 : zcode 47 57 = some (.ireturn, 1, (0, 0, 0, 0)) := by decide +kernel
theorem kc_47_58 : zcode 47 58 = some (.aload_n 0, 1, (0, 0, 0, 0)) := by decide +kernel
theorem kc_47_59 : zcode 47 59 = some (.getfield 12, 3, (7, 0, 261, 0)) := by decide +kernel
theorem kc_47_62 : zcode 47 62 = some (.getfield 99, 3, (3, 2, 113, 0)) := by decide +kernel
theorem kc_47_65 : zcode 47 65 = some (.ireturn, 1, (0, 0, 0, 0)) := by decide +kernel
theorem kc_47_66 : zcode 47 66 = some (.aload_n 0, 1, (0, 0, 0, 0)) := by decide +kernel
theorem kc_47_67 : zcode 47 67 = some (.getfield 12, 3, (7, 0, 261, 0)) := by decide +kernel
theorem kc_47_70 : zcode 47 70 = some (.getfield 105, 3, (3, 3, 115, 0)) := by decide +kernel
theorem kc_47_73 : zcode 47 73 = some (.ireturn, 1, (0, 0, 0, 0)) := by decide +kernel
theorem kc_47_74 : zcode 47 74 = some (.aload_n 0, 1, (0, 0, 0, 0)) := by decide +kernel
theorem kc_47_75 : zcode 47 75 = some (.getfield 12, 3, (7, 0, 261, 0)) := by decide +kernel
theorem kc_47_78 : zcode 47 78 = some (.invokevirtual 112, 3, (16, 0, 351, 0)) := by decide +kernel
theorem kc_47_81 : zcode 47 81 = some (.ifCond .eq 7, 3, (88, 0, 0, 0)) := by decide +kernel
theorem kc_47_84 : zcode 47 84 = some (.iconst 1, 1, (0, 0, 0, 0)) := by decide +kernel
theorem kc_47_85 : zcode 47 85 = some (.goto 4, 3, (89, 0, 0, 0)) := by decide +kernel
theorem kc_47_88 : zcode 47 88 = some (.iconst 0, 1, (0, 0, 0, 0)) := by decide +kernel
theorem kc_47_89 : zcode 47 89 = some (.ireturn, 1, (0, 0, 0, 0)) := by decide +kernel
theorem kc_47_90 : zcode 47 90 = some (.iconst (-1), 1, (0, 0, 0, 0)) := by decide +kernel
theorem kc_47_91 : zcode 47 91 = some (.ireturn, 1, (0, 0, 0, 0)) := by decide +kernel
theorem kc_48_0 : zcode 48 0 = some (.iload_n 1, 1, (0, 0, 0, 0)) := by decide +kernel
theorem kc_48_1 : zcode 48 1 = some (.ifCond .lt 9, 3, (10, 0, 0, 0)) := by decide +kernel
theorem kc_48_4 : zcode 48 4 = some (.iload_n 1, 1, (0, 0, 0, 0)) := by decide +kernel
theorem kc_48_5 : zcode 48 5 = some (.bipush 127, 2, (0, 0, 0, 0)) := by decide +kernel
theorem kc_48_7 : zcode 48 7 = some (.if_icmp .le 6, 3, (13, 0, 0, 0)) := by decide +kernel
theorem kc_48_10 : zcode 48 10 = some (.bipush (-2), 2, (0, 0, 0, 0)) := by decide +kernel
theorem kc_48_12 : zcode 48 12 = some (.ireturn, 1, (0, 0, 0, 0)) := by decide +kernel
theorem kc_48_13 : zcode 48 13 = some (.aload_n 0, 1, (0, 0, 0, 0)) := by decide +kernel
theorem kc_48_14 : zcode 48 14 = some (.getfield 53, 3, (7, 7, 268, 0)) := by decide +kernel
theorem kc_48_17 : zcode 48 17 = some (.getfield 116, 3, (5, 1, 184, 0)) := by decide +kernel
theorem kc_48_20 : zcode 48 20 = some (.bipush 100, 2, (0, 0, 0, 0)) := by decide +kernel
theorem kc_48_22 : zcode 48 22 = some (.if_icmp .lt 6, 3, (28, 0, 0, 0)) := by decide +kernel
theorem kc_48_25 : zcode 48 25 = some (.bipush (-4), 2, (0, 0, 0, 0)) := by decide +kernel
theorem kc_48_27 : zcode 48 27 = some (.ireturn, 1, (0, 0, 0, 0)) := by decide +kernel
theorem kc_48_28 : zcode 48 28 = some (.aload_n 0, 1, (0, 0, 0, 0)) := by decide +kernel
theorem kc_48_29 : zcode 48 29 = some (.getfield 53, 3, (7, 7, 268, 0)) := by decide +kernel
theorem kc_48_32 : zcode 48 32 = some (.getfield 119, 3, (5, 0, 182, 0)) := by decide +kernel
theorem kc_48_35 : zcode 48 35 = some (.aload_n 0, 1, (0, 0, 0, 0)) := by decide +kernel
theorem kc_48_36 : zcode 48 36 = some (.getfield 53, 3, (7, 7, 268, 0)) := by decide +kernel
theorem kc_48_39 : zcode 48 39 = some (.getfield 116, 3, (5, 1, 184, 0)) := by decide +kernel
theorem kc_48_42 : zcode 48 42 = some (.iload_n 1, 1, (0, 0, 0, 0)) := by decide +kernel
theorem kc_48_43 : zcode 48 43 = some (.i2b, 1, (0, 0, 0, 0)) := by decide +kernel
theorem kc_48_44 : zcode 48 44 = some (.bastore, 1, (0, 0, 0, 0)) := by decide +kernel
theorem kc_48_45 : zcode 48 45 = some (.aload_n 0, 1, (0, 0, 0, 0)) := by decide +kernel
theorem kc_48_46 : zcode 48 46 = some (.getfield 53, 3, (7, 7, 268, 0)) := by decide +kernel
theorem kc_48_49 : zcode 48 49 = some (.dup, 1, (0, 0, 0, 0)) := by decide +kernel
theorem kc_48_50 : zcode 48 50 = some (.getfield 116, 3, (5, 1, 184, 0)) := by decide +kernel
theorem kc_48_53 : zcode 48 53 = some (.iconst 1, 1, (0, 0, 0, 0)) := by decide +kernel
theorem kc_48_54 : zcode 48 54 = some (.iadd, 1, (0, 0, 0, 0)) := by decide +kernel
theorem kc_48_55 : zcode 48 55 = some (.putfield 116, 3, (5, 1, 184, 0)) := by decide +kernel
theorem kc_48_58 : zcode 48 58 = some (.aload_n 0, 1, (0, 0, 0, 0)) := by decide +kernel
theorem kc_48_59 : zcode 48 59 = some (.getfield 53, 3, (7, 7, 268, 0)) := by decide +kernel
theorem kc_48_62 : zcode 48 62 = some (.getfield 116, 3, (5, 1, 184, 0)) := by decide +kernel
theorem kc_48_65 : zcode 48 65 = some (.ireturn, 1, (0, 0, 0, 0)) := by decide +kernel
theorem kc_49_0 : zcode 49 0 = some (.aload_n 0, 1, (0, 0, 0, 0)) := by decide +kernel
theorem kc_49_1 : zcode 49 1 = some (.getfield 53, 3, (7, 7, 268, 0)) := by decide +kernel
theorem kc_49_4 : zcode 49 4 = some (.invokevirtual 123, 3, (31, 0, 364, 0)) := by decide +kernel
theorem kc_49_7 : zcode 49 7 = some (.istore_n 1, 1, (0, 0, 0, 0)) := by decide +kernel
theorem kc_49_8 : zcode 49 8 = some (.aload_n 0, 1, (0, 0, 0, 0)) := by decide +kernel
theorem kc_49_9 : zcode 49 9 = some (.getfield 53, 3, (7, 7, 268, 0)) := by decide +kernel
theorem kc_49_12 : zcode 49 12 = some (.iconst 0, 1, (0, 0, 0, 0)) := by decide +kernel
theorem kc_49_13 : zcode 49 13 = some (.putfield 116, 3, (5, 1, 184, 0)) := by decide +kernel
theorem kc_49_16 : zcode 49 16 = some (.iload_n 1, 1, (0, 0, 0, 0)) := by decide +kernel
theorem kc_49_17 : zcode 49 17 = some (.ifCond .lt 8, 3, (25, 0, 0, 0)) := by decide +kernel
theorem kc_49_20 : zcode 49 20 = some (.bipush (-10), 2, (0, 0, 0, 0)) := by decide +kernel
theorem kc_49_22 : zcode 49 22 = some (.iload_n 1, 1, (0, 0, 0, 0)) := by decide +kernel
theorem kc_49_23 : zcode 49 23 = some (.isub, 1, (0, 0, 0, 0)) := by decide +kernel
theorem kc_49_24 : zcode 49 24 = some (.ireturn, 1, (0, 0, 0, 0)) := by decide +kernel
theorem kc_49_25 : zcode 49 25 = some (.iconst 0, 1, (0, 0, 0, 0)) := by decide +kernel
theorem kc_49_26 : zcode 49 26 = some (.istore_n 2, 1, (0, 0, 0, 0)) := by decide +kernel
theorem kc_49_27 : zcode 49 27 = some (.iconst 0, 1, (0, 0, 0, 0)) := by decide +kernel
theorem kc_49_28 : zcode 49 28 = some (.istore_n 3, 1, (0, 0, 0, 0)) := by decide +kernel
theorem kc_49_29 : zcode 49 29 = some (.iload_n 3, 1, (0, 0, 0, 0)) := by decide +kernel
theorem kc_49_30 : zcode 49 30 = some (.aload_n 0, 1, (0, 0, 0, 0)) := by decide +kernel
theorem kc_49_31 : zcode 49 31 = some (.getfield 53, 3, (7, 7, 268, 0)) := by decide +kernel
theorem kc_49_34 : zcode 49 34 = some (.getfield 126, 3, (5, 5, 192, 0)) := by decide +kernel
theorem kc_49_37 : zcode 49 37 = some (.if_icmp .ge 46, 3, (83, 0, 0, 0)) := by decide +kernel
theorem kc_49_40 : zcode 49 40 = some (.aload_n 0, 1, (0, 0, 0, 0)) := by decide +kernel
theorem kc_49_41 : zcode 49 41 = some (.aload_n 0, 1, (0, 0, 0, 0)) := by decide +kernel
theorem kc_49_42 : zcode 49 42 = some (.getfield 53, 3, (7, 7, 268, 0)) := by decide +kernel
theorem kc_49_45 : zcode 49 45 = some (.getfield 129, 3, (5, 2, 186, 0)) := by decide +kernel
theorem kc_49_48 : zcode 49 48 = some (.iload_n 3, 1, (0, 0, 0, 0)) := by decide +kernel
theorem kc_49_49 : zcode 49 49 = some (.iaload, 1, (0, 0, 0, 0)) := by decide +kernel
theorem kc_49_50 : zcode 49 50 = some (.aload_n 0, 1, (0, 0, 0, 0)) := by decide +kernel
theorem kc_49_51 : zcode 49 51 = some (.getfield 53, 3, (7, 7, 268, 0)) := by decide +kernel
theorem kc_49_54 : zcode 49 54 = some (.getfield 132, 3, (5, 3, 188, 0)) := by decide +kernel
theorem kc_49_57 : zcode 49 57 = some (.iload_n 3, 1, (0, 0, 0, 0)) := by decide +kernel
theorem kc_49_58 : zcode 49 58 = some (.iaload, 1, (0, 0, 0, 0)) := by decide +kernel
theorem kc_49_59 : zcode 49 59 = some (.aload_n 0, 1, (0, 0, 0, 0)) := by decide +kernel
theorem kc_49_60 : zcode 49 60 = some (.getfield 53, 3, (7, 7, 268, 0)) := by decide +kernel
theorem kc_49_63 : zcode 49 63 = some (.getfield 135, 3, (5, 4, 190, 0)) := by decide +kernel
theorem kc_49_66 : zcode 49 66 = some (.iload_n 3, 1, (0, 0, 0, 0)) := by decide +kernel
theorem kc_49_67 : zcode 49 67 = some (.iaload, 1, (0, 0, 0, 0)) := by decide +kernel
theorem kc_49_68 : zcode 49 68 = some (.invokevirtual 138, 3, (50, 0, 380, 0)) := by decide +kernel
theorem kc_49_71 : zcode 49 71 = some (.ifCond .lt 6, 3, (77, 0, 0, 0)) := by decide +kernel
theorem kc_49_74 : zcode 49 74 = some (.iinc 2 1, 3, (0, 0, 0, 0)) := by decide +kernel
theorem kc_49_77 : zcode 49 77 = some (.iinc 3 1, 3, (0, 0, 0, 0)) := by decide +kernel
theorem kc_49_80 : zcode 49 80 = some (.goto (-51), 3, (29, 0, 0, 0)) := by decide +kernel
theorem kc_49_83 : zcode 49 83 = some (.iload_n 2, 1, (0, 0, 0, 0)) := by decide +kernel
theorem kc_49_84 : zcode 49 84 = some (.ireturn, 1, (0, 0, 0, 0)) := by decide +kernel
theorem kc_50_0 : zcode 50 0 = some (.iload_n 1, 1, (0, 0, 0, 0)) := by decide +kernel
theorem kc_50_1 : zcode 50 1 = some (.lookupswitch 54 #[(99, 35), (101, 48), (110, 41)], 35, (0, 0, 0, 0)) := by decide +kernel
theorem kc_50_36 : zcode 50 36 = some (.aload_n 0, 1, (0, 0, 0, 0)) := by decide +kernel
theorem kc_50_37 : zcode 50 37 = some (.iload_n 3, 1, (0, 0, 0, 0)) := by decide +kernel
theorem kc_50_38 : zcode 50 38 = some (.invokevirtual 142, 3, (42, 0, 384, 0)) := by decide +kernel
theorem kc_50_41 : zcode 50 41 = some (.ireturn, 1, (0, 0, 0, 0)) := by decide +kernel
theorem kc_50_42 : zcode 50 42 = some (.aload_n 0, 1, (0, 0, 0, 0)) := by decide +kernel
theorem kc_50_43 : zcode 50 43 = some (.iload_n 2, 1, (0, 0, 0, 0)) := by decide +kernel
theorem kc_50_44 : zcode 50 44 = some (.iload_n 3, 1, (0, 0, 0, 0)) := by decide +kernel
theorem kc_50_45 : zcode 50 45 = some (.invokevirtual 146, 3, (43, 0, 385, 0)) := by decide +kernel
theorem kc_50_48 : zcode 50 48 = some (.ireturn, 1, (0, 0, 0, 0)) := by decide +kernel
theorem kc_50_49 : zcode 50 49 = some (.aload_n 0, 1, (0, 0, 0, 0)) := by decide +kernel
theorem kc_50_50 : zcode 50 50 = some (.iload_n 3, 1, (0, 0, 0, 0)) := by decide +kernel
theorem kc_50_51 : zcode 50 51 = some (.invokevirtual 150, 3, (44, 0, 386, 0)) := by decide +kernel
theorem kc_50_54 : zcode 50 54 = some (.ireturn, 1, (0, 0, 0, 0)) := by decide +kernel
theorem kc_50_55 : zcode 50 55 = some (.aload_n 0, 1, (0, 0, 0, 0)) := by decide +kernel
theorem kc_50_56 : zcode 50 56 = some (.iload_n 3, 1, (0, 0, 0, 0)) := by decide +kernel
theorem kc_50_57 : zcode 50 57 = some (.invokevirtual 152, 3, (45, 0, 387, 0)) := by decide +kernel
theorem kc_50_60 : zcode 50 60 = some (.ireturn, 1, (0, 0, 0, 0)) := by decide +kernel
theorem kc_51_0 : zcode 51 0 = some (.iload_n 1, 1, (0, 0, 0, 0)) := by decide +kernel
theorem kc_51_1 : zcode 51 1 = some (.invokestatic 102, 3, (86, 0, 336, 0)) := by decide +kernel
theorem kc_51_4 : zcode 51 4 = some (.ifCond .eq 34, 3, (38, 0, 0, 0)) := by decide +kernel
theorem kc_51_7 : zcode 51 7 = some (.aload_n 0, 1, (0, 0, 0, 0)) := by decide +kernel
theorem kc_51_8 : zcode 51 8 = some (.getfield 12, 3, (7, 0, 261, 0)) := by decide +kernel
theorem kc_51_11 : zcode 51 11 = some (.getfield 75, 3, (3, 0, 109, 0)) := by decide +kernel
theorem kc_51_14 : zcode 51 14 = some (.iload_n 2, 1, (0, 0, 0, 0)) := by decide +kernel
theorem kc_51_15 : zcode 51 15 = some (.invokevirtual 85, 3, (1, 0, 307, 0)) := by decide +kernel
theorem kc_51_18 : zcode 51 18 = some (.ifCond .eq 20, 3, (38, 0, 0, 0)) := by decide +kernel
theorem kc_51_21 : zcode 51 21 = some (.iload_n 3, 1, (0, 0, 0, 0)) := by decide +kernel
theorem kc_51_22 : zcode 51 22 = some (.invokestatic 154, 3, (87, 0, 392, 0)) := by decide +kernel
theorem kc_51_25 : zcode 51 25 = some (.ifCond .eq 13, 3, (38, 0, 0, 0)) := by decide +kernel
theorem kc_51_28 : zcode 51 28 = some (.aload_n 0, 1, (0, 0, 0, 0)) := by decide +kernel
theorem kc_51_29 : zcode 51 29 = some (.getfield 12, 3, (7, 0, 261, 0)) := by decide +kernel
theorem kc_51_32 : zcode 51 32 = some (.invokevirtual 112, 3, (16, 0, 351, 0)) := by decide +kernel
theorem kc_51_35 : zcode 51 35 = some (.ifCond .ne 7, 3, (42, 0, 0, 0)) := by decide +kernel
theorem kc_51_38 : zcode 51 38 = some (.ldc2_w 157, 3, (0, 0, 395, -9223372036854775808)) := by decide +kernel
theorem kc_51_41 : zcode 51 41 = some (.lreturn, 1, (0, 0, 0, 0)) := by decide +kernel
theorem kc_51_42 : zcode 51 42 = some (.aload_n 0, 1, (0, 0, 0, 0)) := by decide +kernel
theorem kc_51_43 : zcode 51 43 = some (.getfield 12, 3, (7, 0, 261, 0)) := by decide +kernel
theorem kc_51_46 : zcode 51 46 = some (.iload_n 1, 1, (0, 0, 0, 0)) := by decide +kernel
theorem kc_51_47 : zcode 51 47 = some (.iload_n 2, 1, (0, 0, 0, 0)) := by decide +kernel
theorem kc_51_48 : zcode 51 48 = some (.iload_n 3, 1, (0, 0, 0, 0)) := by decide +kernel
theorem kc_51_49 : zcode 51 49 = some (.invokevirtual 159, 3, (18, 0, 396, 0)) := by decide +kernel
theorem kc_51_52 : zcode 51 52 = some (.lreturn, 1, (0, 0, 0, 0)) := by decide +kernel
theorem kc_52_0 : zcode 52 0 = some (.iload_n 1, 1, (0, 0, 0, 0)) := by decide +kernel
theorem kc_52_1 : zcode 52 1 = some (.invokestatic 102, 3, (86, 0, 336, 0)) := by decide +kernel
theorem kc_52_4 : zcode 52 4 = some (.ifCond .ne 6, 3, (10, 0, 0, 0)) := by decide +kernel
theorem kc_52_7 : zcode 52 7 = some (.bipush (-2), 2, (0, 0, 0, 0)) := by decide +kernel
theorem kc_52_9 : zcode 52 9 = some (.ireturn, 1, (0, 0, 0, 0)) := by decide +kernel
theorem kc_52_10 : zcode 52 10 = some (.aload_n 0, 1, (0, 0, 0, 0)) := by decide +kernel
theorem kc_52_11 : zcode 52 11 = some (.getfield 12, 3, (7, 0, 261, 0)) := by decide +kernel
theorem kc_52_14 : zcode 52 14 = some (.getfield 75, 3, (3, 0, 109, 0)) := by decide +kernel
theorem kc_52_17 : zcode 52 17 = some (.iload_n 2, 1, (0, 0, 0, 0)) := by decide +kernel
theorem kc_52_18 : zcode 52 18 = some (.invokevirtual 85, 3, (1, 0, 307, 0)) := by decide +kernel
theorem kc_52_21 : zcode 52 21 = some (.ifCond .ne 5, 3, (26, 0, 0, 0)) := by decide +kernel
theorem kc_52_24 : zcode 52 24 = some (.iconst (-1), 1, (0, 0, 0, 0)) := by decide +kernel
theorem kc_52_25 : zcode 52 25 = some (.ireturn, 1, (0, 0, 0, 0)) := by decide +kernel
theorem kc_52_26 : zcode 52 26 = some (.aload_n 0, 1, (0, 0, 0, 0)) := by decide +kernel
theorem kc_52_27 : zcode 52 27 = some (.getfield 12, 3, (7, 0, 261, 0)) := by decide +kernel
theorem kc_52_30 : zcode 52 30 = some (.invokevirtual 112, 3, (16, 0, 351, 0)) := by decide +kernel
theorem kc_52_33 : zcode 52 33 = some (.ifCond .eq 15, 3, (48, 0, 0, 0)) := by decide +kernel
theorem kc_52_36 : zcode 52 36 = some (.aload_n 0, 1, (0, 0, 0, 0)) := by decide +kernel
theorem kc_52_37 : zcode 52 37 = some (.getfield 12, 3, (7, 0, 261, 0)) := by decide +kernel
theorem kc_52_40 : zcode 52 40 = some (.iload_n 1, 1, (0, 0, 0, 0)) := by decide +kernel
theorem kc_52_41 : zcode 52 41 = some (.iload_n 2, 1, (0, 0, 0, 0)) := by decide +kernel
theorem kc_52_42 : zcode 52 42 = some (.invokevirtual 163, 3, (19, 0, 444, 0)) := by decide +kernel
theorem kc_52_45 : zcode 52 45 = some (.goto 5, 3, (50, 0, 0, 0)) := by decide +kernel
theorem kc_52_48 : zcode 52 48 = some (.bipush (-3), 2, (0, 0, 0, 0)) := by decide +kernel
theorem kc_52_50 : zcode 52 50 = some (.ireturn, 1, (0, 0, 0, 0)) := by decide +kernel
theorem kc_53_0 : zcode 53 0 = some (.iload_n 1, 1, (0, 0, 0, 0)) := by decide +kernel
theorem kc_53_1 : zcode 53 1 = some (.invokestatic 102, 3, (86, 0, 336, 0)) := by decide +kernel
theorem kc_53_4 : zcode 53 4 = some (.ifCond .eq 34, 3, (38, 0, 0, 0)) := by decide +kernel
theorem kc_53_7 : zcode 53 7 = some (.aload_n 0, 1, (0, 0, 0, 0)) := by decide +kernel
theorem kc_53_8 : zcode 53 8 = some (.getfield 12, 3, (7, 0, 261, 0)) := by decide +kernel
theorem kc_53_11 : zcode 53 11 = some (.getfield 75, 3, (3, 0, 109, 0)) := by decide +kernel
theorem kc_53_14 : zcode 53 14 = some (.iload_n 2, 1, (0, 0, 0, 0)) := by decide +kernel
theorem kc_53_15 : zcode 53 15 = some (.invokevirtual 85, 3, (1, 0, 307, 0)) := by decide +kernel
theorem kc_53_18 : zcode 53 18 = some (.ifCond .eq 20, 3, (38, 0, 0, 0)) := by decide +kernel
theorem kc_53_21 : zcode 53 21 = some (.iload_n 3, 1, (0, 0, 0, 0)) := by decide +kernel
theorem kc_53_22 : zcode 53 22 = some (.invokestatic 154, 3, (87, 0, 392, 0)) := by decide +kernel
theorem kc_53_25 : zcode 53 25 = some (.ifCond .eq 13, 3, (38, 0, 0, 0)) := by decide +kernel
theorem kc_53_28 : zcode 53 28 = some (.aload_n 0, 1, (0, 0, 0, 0)) := by decide +kernel
theorem kc_53_29 : zcode 53 29 = some (.getfield 12, 3, (7, 0, 261, 0)) := by decide +kernel
theorem kc_53_32 : zcode 53 32 = some (.invokevirtual 112, 3, (16, 0, 351, 0)) := by decide +kernel
theorem kc_53_35 : zcode 53 35 = some (.ifCond .ne 7, 3, (42, 0, 0, 0)) := by decide +kernel
theorem kc_53_38 : zcode 53 38 = some (.ldc2_w 157, 3, (0, 0, 395, -9223372036854775808)) := by decide +kernel
theorem kc_53_41 : zcode 53 41 = some (.lreturn, 1, (0, 0, 0, 0)) := by decide +kernel
theorem kc_53_42 : zcode 53 42 = some (.aload_n 0, 1, (0, 0, 0, 0)) := by decide +kernel
theorem kc_53_43 : zcode 53 43 = some (.getfield 12, 3, (7, 0, 261, 0)) := by decide +kernel
theorem kc_53_46 : zcode 53 46 = some (.getfield 75, 3, (3, 0, 109, 0)) := by decide +kernel
theorem kc_53_49 : zcode 53 49 = some (.astore 4, 2, (0, 0, 0, 0)) := by decide +kernel
theorem kc_53_51 : zcode 53 51 = some (.aload 4, 2, (0, 0, 0, 0)) := by decide +kernel
theorem kc_53_53 : zcode 53 53 = some (.iload_n 1, 1, (0, 0, 0, 0)) := by decide +kernel
theorem kc_53_54 : zcode 53 54 = some (.invokevirtual 166, 3, (7, 0, 452, 0)) := by decide +kernel
theorem kc_53_57 : zcode 53 57 = some (.lstore 5, 2, (0, 0, 0, 0)) := by decide +kernel
theorem kc_53_59 : zcode 53 59 = some (.aload 4, 2, (0, 0, 0, 0)) := by decide +kernel
theorem kc_53_61 : zcode 53 61 = some (.iload_n 1, 1, (0, 0, 0, 0)) := by decide +kernel
theorem kc_53_62 : zcode 53 62 = some (.iload_n 2, 1, (0, 0, 0, 0)) := by decide +kernel
theorem kc_53_63 : zcode 53 63 = some (.aload 4, 2, (0, 0, 0, 0)) := by decide +kernel
theorem kc_53_65 : zcode 53 65 = some (.invokevirtual 108, 3, (2, 0, 347, 0)) := by decide +kernel
theorem kc_53_68 : zcode 53 68 = some (.aload_n 0, 1, (0, 0, 0, 0)) := by decide +kernel
theorem kc_53_69 : zcode 53 69 = some (.getfield 12, 3, (7, 0, 261, 0)) := by decide +kernel
theorem kc_53_72 : zcode 53 72 = some (.getfield 99, 3, (3, 2, 113, 0)) := by decide +kernel
theorem kc_53_75 : zcode 53 75 = some (.isub, 1, (0, 0, 0, 0)) := by decide +kernel
theorem kc_53_76 : zcode 53 76 = some (.i2l, 1, (0, 0, 0, 0)) := by decide +kernel
theorem kc_53_77 : zcode 53 77 = some (.lconst 1, 1, (0, 0, 0, 0)) := by decide +kernel
theorem kc_53_78 : zcode 53 78 = some (.invokevirtual 170, 3, (8, 0, 453, 0)) := by decide +kernel
theorem kc_53_81 : zcode 53 81 = some (.lstore 7, 2, (0, 0, 0, 0)) := by decide +kernel
theorem kc_53_83 : zcode 53 83 = some (.aload 4, 2, (0, 0, 0, 0)) := by decide +kernel
theorem kc_53_85 : zcode 53 85 = some (.getfield 88, 3, (0, 0, 88, 0)) := by decide +kernel
theorem kc_53_88 : zcode 53 88 = some (.iload_n 2, 1, (0, 0, 0, 0)) := by decide +kernel
theorem kc_53_89 : zcode 53 89 = some (.iaload, 1, (0, 0, 0, 0)) := by decide +kernel
theorem kc_53_90 : zcode 53 90 = some (.i2l, 1, (0, 0, 0, 0)) := by decide +kernel
theorem kc_53_91 : zcode 53 91 = some (.lload 5, 2, (0, 0, 0, 0)) := by decide +kernel
theorem kc_53_93 : zcode 53 93 = some (.lmul, 1, (0, 0, 0, 0)) := by decide +kernel
theorem kc_53_94 : zcode 53 94 = some (.lload 7, 2, (0, 0, 0, 0)) := by decide +kernel
theorem kc_53_96 : zcode 53 96 = some (.lsub, 1, (0, 0, 0, 0)) := by decide +kernel
theorem kc_53_97 : zcode 53 97 = some (.lload 5, 2, (0, 0, 0, 0)) := by decide +kernel
theorem kc_53_99 : zcode 53 99 = some (.iload_n 3, 1, (0, 0, 0, 0)) := by decide +kernel
theorem kc_53_100 : zcode 53 100 = some (.invokestatic 174, 3, (90, 0, 454, 0)) := by decide +kernel
theorem kc_53_103 : zcode 53 103 = some (.lreturn, 1, (0, 0, 0, 0)) := by decide +kernel
theorem kc_54_0 : zcode 54 0 = some (.iload_n 1, 1, (0, 0, 0, 0)) := by decide +kernel
theorem kc_54_1 : zcode 54 1 = some (.invokestatic 102, 3, (86, 0, 336, 0)) := by decide +kernel
theorem kc_54_4 : zcode 54 4 = some (.ifCond .eq 36, 3, (40, 0, 0, 0)) := by decide +kernel
theorem kc_54_7 : zcode 54 7 = some (.aload_n 0, 1, (0, 0, 0, 0)) := by decide +kernel
theorem kc_54_8 : zcode 54 8 = some (.getfield 12, 3, (7, 0, 261, 0)) := by decide +kernel
theorem kc_54_11 : zcode 54 11 = some (.getfield 75, 3, (3, 0, 109, 0)) := by decide +kernel
theorem kc_54_14 : zcode 54 14 = some (.iload_n 2, 1, (0, 0, 0, 0)) := by decide +kernel
theorem kc_54_15 : zcode 54 15 = some (.invokevirtual 85, 3, (1, 0, 307, 0)) := by decide +kernel
theorem kc_54_18 : zcode 54 18 = some (.ifCond .eq 22, 3, (40, 0, 0, 0)) := by decide +kernel
theorem kc_54_21 : zcode 54 21 = some (.aload_n 0, 1, (0, 0, 0, 0)) := by decide +kernel
theorem kc_54_22 : zcode 54 22 = some (.getfield 12, 3, (7, 0, 261, 0)) := by decide +kernel
theorem kc_54_25 : zcode 54 25 = some (.getfield 75, 3, (3, 0, 109, 0)) := by decide +kernel
theorem kc_54_28 : zcode 54 28 = some (.iload_n 3, 1, (0, 0, 0, 0)) := by decide +kernel
theorem kc_54_29 : zcode 54 29 = some (.invokevirtual 85, 3, (1, 0, 307, 0)) := by decide +kernel
theorem kc_54_32 : zcode 54 32 = some (.ifCond .eq 8, 3, (40, 0, 0, 0)) := by decide +kernel
theorem kc_54_35 : zcode 54 35 = some (.iload_n 2, 1, (0, 0, 0, 0)) := by decide +kernel
theorem kc_54_36 : zcode 54 36 = some (.iload_n 3, 1, (0, 0, 0, 0)) := by decide +kernel
theorem kc_54_37 : zcode 54 37 = some (.if_icmp .ne 7, 3, (44, 0, 0, 0)) := by decide +kernel
theorem kc_54_40 : zcode 54 40 = some (.ldc2_w 157, 3, (0, 0, 395, -9223372036854775808)) := by decide +kernel
theorem kc_54_43 : zcode 54 43 = some (.lreturn, 1, (0, 0, 0, 0)) := by decide +kernel
theorem kc_54_44 : zcode 54 44 = some (.iload 4, 2, (0, 0, 0, 0)) := by decide +kernel
theorem kc_54_46 : zcode 54 46 = some (.invokestatic 154, 3, (87, 0, 392, 0)) := by decide +kernel
theorem kc_54_49 : zcode 54 49 = some (.ifCond .eq 13, 3, (62, 0, 0, 0)) := by decide +kernel
theorem kc_54_52 : zcode 54 52 = some (.aload_n 0, 1, (0, 0, 0, 0)) := by decide +kernel
theorem kc_54_53 : zcode 54 53 = some (.getfield 12, 3, (7, 0, 261, 0)) := by decide +kernel
theorem kc_54_56 : zcode 54 56 = some (.invokevirtual 112, 3, (16, 0, 351, 0)) := by decide +kernel
theorem kc_54_59 : zcode 54 59 = some (.ifCond .ne 7, 3, (66, 0, 0, 0)) := by decide +kernel
theorem kc_54_62 : zcode 54 62 = some (.ldc2_w 157, 3, (0, 0, 395, -9223372036854775808)) := by decide +kernel
theorem kc_54_65 : zcode 54 65 = some (.lreturn, 1, (0, 0, 0, 0)) := by decide +kernel
theorem kc_54_66 : zcode 54 66 = some (.aload_n 0, 1, (0, 0, 0, 0)) := by decide +kernel
theorem kc_54_67 : zcode 54 67 = some (.iload_n 1, 1, (0, 0, 0, 0)) := by decide +kernel
theorem kc_54_68 : zcode 54 68 = some (.iload_n 2, 1, (0, 0, 0, 0)) := by decide +kernel
theorem kc_54_69 : zcode 54 69 = some (.iload_n 3, 1, (0, 0, 0, 0)) := by decide +kernel
theorem kc_54_70 : zcode 54 70 = some (.invokevirtual 178, 3, (55, 0, 459, 0)) := by decide +kernel
theorem kc_54_73 : zcode 54 73 = some (.lstore 5, 2, (0, 0, 0, 0)) := by decide +kernel
theorem kc_54_75 : zcode 54 75 = some (.lload 5, 2, (0, 0, 0, 0)) := by decide +kernel
theorem kc_54_77 : zcode 54 77 = some (.aload_n 0, 1, (0, 0, 0, 0)) := by decide +kernel
theorem kc_54_78 : zcode 54 78 = some (.getfield 24, 3, (7, 2, 263, 0)) := by decide +kernel
theorem kc_54_81 : zcode 54 81 = some (.iload_n 1, 1, (0, 0, 0, 0)) := by decide +kernel
theorem kc_54_82 : zcode 54 82 = some (.invokevirtual 166, 3, (7, 0, 452, 0)) := by decide +kernel
theorem kc_54_85 : zcode 54 85 = some (.aload_n 0, 1, (0, 0, 0, 0)) := by decide +kernel
theorem kc_54_86 : zcode 54 86 = some (.getfield 12, 3, (7, 0, 261, 0)) := by decide +kernel
theorem kc_54_89 : zcode 54 89 = some (.getfield 75, 3, (3, 0, 109, 0)) := by decide +kernel
theorem kc_54_92 : zcode 54 92 = some (.iload_n 1, 1, (0, 0, 0, 0)) := by decide +kernel
theorem kc_54_93 : zcode 54 93 = some (.invokevirtual 166, 3, (7, 0, 452, 0)) := by decide +kernel
theorem kc_54_96 : zcode 54 96 = some (.lmul, 1, (0, 0, 0, 0)) := by decide +kernel
theorem kc_54_97 : zcode 54 97 = some (.iload 4, 2, (0, 0, 0, 0)) := by decide +kernel
theorem kc_54_99 : zcode 54 99 = some (.invokestatic 174, 3, (90, 0, 454, 0)) := by decide +kernel
theorem kc_54_102 : zcode 54 102 = some (.lreturn, 1, (0, 0, 0, 0)) := by decide +kernel
theorem kc_55_0 : zcode 55 0 = some (.aload_n 0, 1, (0, 0, 0, 0)) := by decide +kernel
theorem kc_55_1 : zcode 55 1 = some (.getfield 12, 3, (7, 0, 261, 0)) := by decide +kernel
theorem kc_55_4 : zcode 55 4 = some (.getfield 75, 3, (3, 0, 109, 0)) := by decide +kernel
theorem kc_55_7 : zcode 55 7 = some (.astore 4, 2, (0, 0, 0, 0)) := by decide +kernel
theorem kc_55_9 : zcode 55 9 = some (.aload_n 0, 1, (0, 0, 0, 0)) := by decide +kernel
theorem kc_55_10 : zcode 55 10 = some (.getfield 24, 3, (7, 2, 263, 0)) := by decide +kernel
theorem kc_55_13 : zcode 55 13 = some (.invokevirtual 181, 3, (3, 0, 463, 0)) := by decide +kernel
theorem kc_55_16 : zcode 55 16 = some (.aload_n 0, 1, (0, 0, 0, 0)) := by decide +kernel
theorem kc_55_17 : zcode 55 17 = some (.getfield 24, 3, (7, 2, 263, 0)) := by decide +kernel
theorem kc_55_20 : zcode 55 20 = some (.aload 4, 2, (0, 0, 0, 0)) := by decide +kernel
theorem kc_55_22 : zcode 55 22 = some (.getfield 88, 3, (0, 0, 88, 0)) := by decide +kernel
theorem kc_55_25 : zcode 55 25 = some (.iload_n 2, 1, (0, 0, 0, 0)) := by decide +kernel
theorem kc_55_26 : zcode 55 26 = some (.iaload, 1, (0, 0, 0, 0)) := by decide +kernel
theorem kc_55_27 : zcode 55 27 = some (.invokevirtual 82, 3, (4, 0, 299, 0)) := by decide +kernel
theorem kc_55_30 : zcode 55 30 = some (.aload_n 0, 1, (0, 0, 0, 0)) := by decide +kernel
theorem kc_55_31 : zcode 55 31 = some (.getfield 24, 3, (7, 2, 263, 0)) := by decide +kernel
theorem kc_55_34 : zcode 55 34 = some (.aload 4, 2, (0, 0, 0, 0)) := by decide +kernel
theorem kc_55_36 : zcode 55 36 = some (.getfield 88, 3, (0, 0, 88, 0)) := by decide +kernel
theorem kc_55_39 : zcode 55 39 = some (.iload_n 3, 1, (0, 0, 0, 0)) := by decide +kernel
theorem kc_55_40 : zcode 55 40 = some (.iaload, 1, (0, 0, 0, 0)) := by decide +kernel
theorem kc_55_41 : zcode 55 41 = some (.invokevirtual 82, 3, (4, 0, 299, 0)) := by decide +kernel
theorem kc_55_44 : zcode 55 44 = some (.aload 4, 2, (0, 0, 0, 0)) := by decide +kernel
theorem kc_55_46 : zcode 55 46 = some (.iload_n 1, 1, (0, 0, 0, 0)) := by decide +kernel
theorem kc_55_47 : zcode 55 47 = some (.iload_n 2, 1, (0, 0, 0, 0)) := by decide +kernel
theorem kc_55_48 : zcode 55 48 = some (.aload_n 0, 1, (0, 0, 0, 0)) := by decide +kernel
theorem kc_55_49 : zcode 55 49 = some (.getfield 12, 3, (7, 0, 261, 0)) := by decide +kernel
theorem kc_55_52 : zcode 55 52 = some (.getfield 99, 3, (3, 2, 113, 0)) := by decide +kernel
theorem kc_55_55 : zcode 55 55 = some (.i2l, 1, (0, 0, 0, 0)) := by decide +kernel
theorem kc_55_56 : zcode 55 56 = some (.lconst 1, 1, (0, 0, 0, 0)) := by decide +kernel
theorem kc_55_57 : zcode 55 57 = some (.invokevirtual 170, 3, (8, 0, 453, 0)) := by decide +kernel
theorem kc_55_60 : zcode 55 60 = some (.aload 4, 2, (0, 0, 0, 0)) := by decide +kernel
theorem kc_55_62 : zcode 55 62 = some (.iload_n 1, 1, (0, 0, 0, 0)) := by decide +kernel
theorem kc_55_63 : zcode 55 63 = some (.iload_n 3, 1, (0, 0, 0, 0)) := by decide +kernel
theorem kc_55_64 : zcode 55 64 = some (.aload_n 0, 1, (0, 0, 0, 0)) := by decide +kernel
theorem kc_55_65 : zcode 55 65 = some (.getfield 12, 3, (7, 0, 261, 0)) := by decide +kernel
theorem kc_55_68 : zcode 55 68 = some (.getfield 99, 3, (3, 2, 113, 0)) := by decide +kernel
theorem kc_55_71 : zcode 55 71 = some (.i2l, 1, (0, 0, 0, 0)) := by decide +kernel
theorem kc_55_72 : zcode 55 72 = some (.lconst 1, 1, (0, 0, 0, 0)) := by decide +kernel
theorem kc_55_73 : zcode 55 73 = some (.invokevirtual 170, 3, (8, 0, 453, 0)) := by decide +kernel
theorem kc_55_76 : zcode 55 76 = some (.ladd, 1, (0, 0, 0, 0)) := by decide +kernel
theorem kc_55_77 : zcode 55 77 = some (.lstore 5, 2, (0, 0, 0, 0)) := by decide +kernel
theorem kc_55_79 : zcode 55 79 = some (.aload_n 0, 1, (0, 0, 0, 0)) := by decide +kernel
theorem kc_55_80 : zcode 55 80 = some (.getfield 24, 3, (7, 2, 263, 0)) := by decide +kernel
theorem kc_55_83 : zcode 55 83 = some (.iload_n 1, 1, (0, 0, 0, 0)) := by decide +kernel
theorem kc_55_84 : zcode 55 84 = some (.iconst 0, 1, (0, 0, 0, 0)) := by decide +kernel
theorem kc_55_85 : zcode 55 85 = some (.lload 5, 2, (0, 0, 0, 0)) := by decide +kernel
theorem kc_55_87 : zcode 55 87 = some (.aload 4, 2, (0, 0, 0, 0)) := by decide +kernel
theorem kc_55_89 : zcode 55 89 = some (.iload_n 1, 1, (0, 0, 0, 0)) := by decide +kernel
theorem kc_55_90 : zcode 55 90 = some (.invokevirtual 166, 3, (7, 0, 452, 0)) := by decide +kernel
theorem kc_55_93 : zcode 55 93 = some (.invokevirtual 170, 3, (8, 0, 453, 0)) := by decide +kernel
theorem kc_55_96 : zcode 55 96 = some (.lreturn, 1, (0, 0, 0, 0)) := by decide +kernel
theorem kc_56_0 : zcode 56 0 = some (.iload_n 1, 1, (0, 0, 0, 0)) := by decide +kernel
theorem kc_56_1 : zcode 56 1 = some (.invokestatic 102, 3, (86, 0, 336, 0)) := by decide +kernel
theorem kc_56_4 : zcode 56 4 = some (.ifCond .ne 6, 3, (10, 0, 0, 0)) := by decide +kernel
theorem kc_56_7 : zcode 56 7 = some (.bipush (-2), 2, (0, 0, 0, 0)) := by decide +kernel
theorem kc_56_9 : zcode 56 9 = some (.ireturn, 1, (0, 0, 0, 0)) := by decide +kernel
theorem kc_56_10 : zcode 56 10 = some (.aload_n 0, 1, (0, 0, 0, 0)) := by decide +kernel
theorem kc_56_11 : zcode 56 11 = some (.getfield 12, 3, (7, 0, 261, 0)) := by decide +kernel
theorem kc_56_14 : zcode 56 14 = some (.invokevirtual 112, 3, (16, 0, 351, 0)) := by decide +kernel
theorem kc_56_17 : zcode 56 17 = some (.ifCond .ne 6, 3, (23, 0, 0, 0)) := by decide +kernel
theorem kc_56_20 : zcode 56 20 = some (.bipush (-3), 2, (0, 0, 0, 0)) := by decide +kernel
theorem kc_56_22 : zcode 56 22 = some (.ireturn, 1, (0, 0, 0, 0)) := by decide +kernel
theorem kc_56_23 : zcode 56 23 = some (.iconst 0, 1, (0, 0, 0, 0)) := by decide +kernel
theorem kc_56_24 : zcode 56 24 = some (.istore_n 2, 1, (0, 0, 0, 0)) := by decide +kernel
theorem kc_56_25 : zcode 56 25 = some (.iload_n 2, 1, (0, 0, 0, 0)) := by decide +kernel
theorem kc_56_26 : zcode 56 26 = some (.aload_n 0, 1, (0, 0, 0, 0)) := by decide +kernel
theorem kc_56_27 : zcode 56 27 = some (.getfield 12, 3, (7, 0, 261, 0)) := by decide +kernel
theorem kc_56_30 : zcode 56 30 = some (.getfield 75, 3, (3, 0, 109, 0)) := by decide +kernel
theorem kc_56_33 : zcode 56 33 = some (.getfield 78, 3, (0, 3, 95, 0)) := by decide +kernel
theorem kc_56_36 : zcode 56 36 = some (.if_icmp .ge 50, 3, (86, 0, 0, 0)) := by decide +kernel
theorem kc_56_39 : zcode 56 39 = some (.iload_n 2, 1, (0, 0, 0, 0)) := by decide +kernel
theorem kc_56_40 : zcode 56 40 = some (.iconst 1, 1, (0, 0, 0, 0)) := by decide +kernel
theorem kc_56_41 : zcode 56 41 = some (.iadd, 1, (0, 0, 0, 0)) := by decide +kernel
theorem kc_56_42 : zcode 56 42 = some (.istore_n 3, 1, (0, 0, 0, 0)) := by decide +kernel
theorem kc_56_43 : zcode 56 43 = some (.iload_n 3, 1, (0, 0, 0, 0)) := by decide +kernel
theorem kc_56_44 : zcode 56 44 = some (.aload_n 0, 1, (0, 0, 0, 0)) := by decide +kernel
theorem kc_56_45 : zcode 56 45 = some (.getfield 12, 3, (7, 0, 261, 0)) := by decide +kernel
theorem kc_56_48 : zcode 56 48 = some (.getfield 75, 3, (3, 0, 109, 0)) := by decide +kernel
theorem kc_56_51 : zcode 56 51 = some (.getfield 78, 3, (0, 3, 95, 0)) := by decide +kernel
theorem kc_56_54 : zcode 56 54 = some (.if_icmp .ge 26, 3, (80, 0, 0, 0)) := by decide +kernel
theorem kc_56_57 : zcode 56 57 = some (.aload_n 0, 1, (0, 0, 0, 0)) := by decide +kernel
theorem kc_56_58 : zcode 56 58 = some (.iload_n 1, 1, (0, 0, 0, 0)) := by decide +kernel
theorem kc_56_59 : zcode 56 59 = some (.iload_n 2, 1, (0, 0, 0, 0)) := by decide +kernel
theorem kc_56_60 : zcode 56 60 = some (.iload_n 3, 1, (0, 0, 0, 0)) := by decide +kernel
theorem kc_56_61 : zcode 56 61 = some (.invokevirtual 184, 3, (57, 0, 468, 0)) := by decide +kernel
theorem kc_56_64 : zcode 56 64 = some (.ifCond .ne 10, 3, (74, 0, 0, 0)) := by decide +kernel
theorem kc_56_67 : zcode 56 67 = some (.bipush 10, 2, (0, 0, 0, 0)) := by decide +kernel
theorem kc_56_69 : zcode 56 69 = some (.iload_n 2, 1, (0, 0, 0, 0)) := by decide +kernel
theorem kc_56_70 : zcode 56 70 = some (.imul, 1, (0, 0, 0, 0)) := by decide +kernel
theorem kc_56_71 : zcode 56 71 = some (.iload_n 3, 1, (0, 0, 0, 0)) := by decide +kernel
theorem kc_56_72 : zcode 56 72 = some (.iadd, 1, (0, 0, 0, 0)) := by decide +kernel
theorem kc_56_73 : zcode 56 73 = some (.ireturn, 1, (0, 0, 0, 0)) := by decide +kernel
theorem kc_56_74 : zcode 56 74 = some (.iinc 3 1, 3, (0, 0, 0, 0)) := by decide +kernel
theorem kc_56_77 : zcode 56 77 = some (.goto (-34), 3, (43, 0, 0, 0)) := by decide +kernel
theorem kc_56_80 : zcode 56 80 = some (.iinc 2 1, 3, (0, 0, 0, 0)) := by decide +kernel
theorem kc_56_83 : zcode 56 83 = some (.goto (-58), 3, (25, 0, 0, 0)) := by decide +kernel
theorem kc_56_86 : zcode 56 86 = some (.bipush (-5), 2, (0, 0, 0, 0)) := by decide +kernel
theorem kc_56_88 : zcode 56 88 = some (.ireturn, 1, (0, 0, 0, 0)) := by decide +kernel
theorem kc_57_0 : zcode 57 0 = some (.aload_n 0, 1, (0, 0, 0, 0)) := by decide +kernel
theorem kc_57_1 : zcode 57 1 = some (.iload_n 1, 1, (0, 0, 0, 0)) := by decide +kernel
theorem kc_57_2 : zcode 57 2 = some (.iload_n 2, 1, (0, 0, 0, 0)) := by decide +kernel
theorem kc_57_3 : zcode 57 3 = some (.iload_n 3, 1, (0, 0, 0, 0)) := by decide +kernel
theorem kc_57_4 : zcode 57 4 = some (.invokevirtual 178, 3, (55, 0, 459, 0)) := by decide +kernel
theorem kc_57_7 : zcode 57 7 = some (.lstore 4, 2, (0, 0, 0, 0)) := by decide +kernel
theorem kc_57_9 : zcode 57 9 = some (.lload 4, 2, (0, 0, 0, 0)) := by decide +kernel
theorem kc_57_11 : zcode 57 11 = some (.aload_n 0, 1, (0, 0, 0, 0)) := by decide +kernel
theorem kc_57_12 : zcode 57 12 = some (.getfield 12, 3, (7, 0, 261, 0)) := by decide +kernel
theorem kc_57_15 : zcode 57 15 = some (.getfield 75, 3, (3, 0, 109, 0)) := by decide +kernel
theorem kc_57_18 : zcode 57 18 = some (.iload_n 1, 1, (0, 0, 0, 0)) := by decide +kernel
theorem kc_57_19 : zcode 57 19 = some (.iload_n 2, 1, (0, 0, 0, 0)) := by decide +kernel
theorem kc_57_20 : zcode 57 20 = some (.aload_n 0, 1, (0, 0, 0, 0)) := by decide +kernel
theorem kc_57_21 : zcode 57 21 = some (.getfield 12, 3, (7, 0, 261, 0)) := by decide +kernel
theorem kc_57_24 : zcode 57 24 = some (.getfield 99, 3, (3, 2, 113, 0)) := by decide +kernel
theorem kc_57_27 : zcode 57 27 = some (.i2l, 1, (0, 0, 0, 0)) := by decide +kernel
theorem kc_57_28 : zcode 57 28 = some (.lconst 1, 1, (0, 0, 0, 0)) := by decide +kernel
theorem kc_57_29 : zcode 57 29 = some (.invokevirtual 170, 3, (8, 0, 453, 0)) := by decide +kernel
theorem kc_57_32 : zcode 57 32 = some (.aload_n 0, 1, (0, 0, 0, 0)) := by decide +kernel
theorem kc_57_33 : zcode 57 33 = some (.getfield 24, 3, (7, 2, 263, 0)) := by decide +kernel
theorem kc_57_36 : zcode 57 36 = some (.iload_n 1, 1, (0, 0, 0, 0)) := by decide +kernel
theorem kc_57_37 : zcode 57 37 = some (.invokevirtual 166, 3, (7, 0, 452, 0)) := by decide +kernel
theorem kc_57_40 : zcode 57 40 = some (.lmul, 1, (0, 0, 0, 0)) := by decide +kernel
theorem kc_57_41 : zcode 57 41 = some (.lcmp, 1, (0, 0, 0, 0)) := by decide +kernel
theorem kc_57_42 : zcode 57 42 = some (.ifCond .ne 7, 3, (49, 0, 0, 0)) := by decide +kernel
theorem kc_57_45 : zcode 57 45 = some (.iconst 1, 1, (0, 0, 0, 0)) := by decide +kernel
theorem kc_57_46 : zcode 57 46 = some (.goto 4, 3, (50, 0, 0, 0)) := by decide +kernel
theorem kc_57_49 : zcode 57 49 = some (.iconst 0, 1, (0, 0, 0, 0)) := by decide +kernel
theorem kc_57_50 : zcode 57 50 = some (.ireturn, 1, (1, 0, 0, 0)) := by decide +kernel
theorem kc_58_0 : zcode 58 0 = some (.iload_n 1, 1, (0, 0, 0, 0)) := by decide +kernel
theorem kc_58_1 : zcode 58 1 = some (.invokestatic 102, 3, (86, 0, 336, 0)) := by decide +kernel
theorem kc_58_4 : zcode 58 4 = some (.ifCond .eq 39, 3, (43, 0, 0, 0)) := by decide +kernel
theorem kc_58_7 : zcode 58 7 = some (.aload_n 0, 1, (0, 0, 0, 0)) := by decide +kernel
theorem kc_58_8 : zcode 58 8 = some (.getfield 12, 3, (7, 0, 261, 0)) := by decide +kernel
theorem kc_58_11 : zcode 58 11 = some (.getfield 75, 3, (3, 0, 109, 0)) := by decide +kernel
theorem kc_58_14 : zcode 58 14 = some (.iload_n 2, 1, (0, 0, 0, 0)) := by decide +kernel
theorem kc_58_15 : zcode 58 15 = some (.invokevirtual 85, 3, (1, 0, 307, 0)) := by decide +kernel
theorem kc_58_18 : zcode 58 18 = some (.ifCond .eq 25, 3, (43, 0, 0, 0)) := by decide +kernel
theorem kc_58_21 : zcode 58 21 = some (.iload_n 3, 1, (0, 0, 0, 0)) := by decide +kernel
theorem kc_58_22 : zcode 58 22 = some (.invokestatic 71, 3, (84, 0, 296, 0)) := by decide +kernel
theorem kc_58_25 : zcode 58 25 = some (.ifCond .eq 18, 3, (43, 0, 0, 0)) := by decide +kernel
theorem kc_58_28 : zcode 58 28 = some (.aload_n 0, 1, (0, 0, 0, 0)) := by decide +kernel
theorem kc_58_29 : zcode 58 29 = some (.getfield 12, 3, (7, 0, 261, 0)) := by decide +kernel
theorem kc_58_32 : zcode 58 32 = some (.getfield 75, 3, (3, 0, 109, 0)) := by decide +kernel
theorem kc_58_35 : zcode 58 35 = some (.iload 4, 2, (0, 0, 0, 0)) := by decide +kernel
theorem kc_58_37 : zcode 58 37 = some (.invokevirtual 85, 3, (1, 0, 307, 0)) := by decide +kernel
theorem kc_58_40 : zcode 58 40 = some (.ifCond .ne 7, 3, (47, 0, 0, 0)) := by decide +kernel
theorem kc_58_43 : zcode 58 43 = some (.ldc2_w 157, 3, (0, 0, 395, -9223372036854775808)) := by decide +kernel
theorem kc_58_46 : zcode 58 46 = some (.lreturn, 1, (0, 0, 0, 0)) := by decide +kernel
theorem kc_58_47 : zcode 58 47 = some (.iload 5, 2, (0, 0, 0, 0)) := by decide +kernel
theorem kc_58_49 : zcode 58 49 = some (.invokestatic 154, 3, (87, 0, 392, 0)) := by decide +kernel
theorem kc_58_52 : zcode 58 52 = some (.ifCond .eq 13, 3, (65, 0, 0, 0)) := by decide +kernel
theorem kc_58_55 : zcode 58 55 = some (.aload_n 0, 1, (0, 0, 0, 0)) := by decide +kernel
theorem kc_58_56 : zcode 58 56 = some (.getfield 12, 3, (7, 0, 261, 0)) := by decide +kernel
theorem kc_58_59 : zcode 58 59 = some (.invokevirtual 112, 3, (16, 0, 351, 0)) := by decide +kernel
theorem kc_58_62 : zcode 58 62 = some (.ifCond .ne 7, 3, (69, 0, 0, 0)) := by decide +kernel
theorem kc_58_65 : zcode 58 65 = some (.ldc2_w 157, 3, (0, 0, 395, -9223372036854775808)) := by decide +kernel
theorem kc_58_68 : zcode 58 68 = some (.lreturn, 1, (0, 0, 0, 0)) := by decide +kernel
theorem kc_58_69 : zcode 58 69 = some (.aload_n 0, 1, (0, 0, 0, 0)) := by decide +kernel
theorem kc_58_70 : zcode 58 70 = some (.getfield 18, 3, (7, 1, 262, 0)) := by decide +kernel
theorem kc_58_73 : zcode 58 73 = some (.aload_n 0, 1, (0, 0, 0, 0)) := by decide +kernel
theorem kc_58_74 : zcode 58 74 = some (.getfield 12, 3, (7, 0, 261, 0)) := by decide +kernel
theorem kc_58_77 : zcode 58 77 = some (.invokevirtual 188, 3, (17, 0, 476, 0)) := by decide +kernel
theorem kc_58_80 : zcode 58 80 = some (.aload_n 0, 1, (0, 0, 0, 0)) := by decide +kernel
theorem kc_58_81 : zcode 58 81 = some (.getfield 18, 3, (7, 1, 262, 0)) := by decide +kernel
theorem kc_58_84 : zcode 58 84 = some (.getfield 75, 3, (3, 0, 109, 0)) := by decide +kernel
theorem kc_58_87 : zcode 58 87 = some (.iload_n 2, 1, (0, 0, 0, 0)) := by decide +kernel
theorem kc_58_88 : zcode 58 88 = some (.iload_n 3, 1, (0, 0, 0, 0)) := by decide +kernel
theorem kc_58_89 : zcode 58 89 = some (.invokevirtual 92, 3, (5, 0, 311, 0)) := by decide +kernel
theorem kc_58_92 : zcode 58 92 = some (.aload_n 0, 1, (0, 0, 0, 0)) := by decide +kernel
theorem kc_58_93 : zcode 58 93 = some (.getfield 18, 3, (7, 1, 262, 0)) := by decide +kernel
theorem kc_58_96 : zcode 58 96 = some (.invokevirtual 112, 3, (16, 0, 351, 0)) := by decide +kernel
theorem kc_58_99 : zcode 58 99 = some (.ifCond .ne 7, 3, (106, 0, 0, 0)) := by decide +kernel
theorem kc_58_102 : zcode 58 102 = some (.ldc2_w 157, 3, (0, 0, 395, -9223372036854775808)) := by decide +kernel
theorem kc_58_105 : zcode 58 105 = some (.lreturn, 1, (0, 0, 0, 0)) := by decide +kernel
theorem kc_58_106 : zcode 58 106 = some (.aload_n 0, 1, (0, 0, 0, 0)) := by decide +kernel
theorem kc_58_107 : zcode 58 107 = some (.getfield 12, 3, (7, 0, 261, 0)) := by decide +kernel
theorem kc_58_110 : zcode 58 110 = some (.getfield 75, 3, (3, 0, 109, 0)) := by decide +kernel
theorem kc_58_113 : zcode 58 113 = some (.iload_n 1, 1, (0, 0, 0, 0)) := by decide +kernel
theorem kc_58_114 : zcode 58 114 = some (.invokevirtual 166, 3, (7, 0, 452, 0)) := by decide +kernel
theorem kc_58_117 : zcode 58 117 = some (.lstore 6, 2, (0, 0, 0, 0)) := by decide +kernel
theorem kc_58_119 : zcode 58 119 = some (.aload_n 0, 1, (0, 0, 0, 0)) := by decide +kernel
theorem kc_58_120 : zcode 58 120 = some (.getfield 18, 3, (7, 1, 262, 0)) := by decide +kernel
theorem kc_58_123 : zcode 58 123 = some (.getfield 75, 3, (3, 0, 109, 0)) := by decide +kernel
theorem kc_58_126 : zcode 58 126 = some (.iload_n 1, 1, (0, 0, 0, 0)) := by decide +kernel
theorem kc_58_127 : zcode 58 127 = some (.invokevirtual 166, 3, (7, 0, 452, 0)) := by decide +kernel
theorem kc_58_130 : zcode 58 130 = some (.lstore 8, 2, (0, 0, 0, 0)) := by decide +kernel
theorem kc_58_132 : zcode 58 132 = some (.aload_n 0, 1, (0, 0, 0, 0)) := by decide +kernel
theorem kc_58_133 : zcode 58 133 = some (.getfield 12, 3, (7, 0, 261, 0)) := by decide +kernel
theorem kc_58_136 : zcode 58 136 = some (.getfield 75, 3, (3, 0, 109, 0)) := by decide +kernel
theorem kc_58_139 : zcode 58 139 = some (.iload_n 1, 1, (0, 0, 0, 0)) := by decide +kernel
theorem kc_58_140 : zcode 58 140 = some (.iload 4, 2, (0, 0, 0, 0)) := by decide +kernel
theorem kc_58_142 : zcode 58 142 = some (.aload_n 0, 1, (0, 0, 0, 0)) := by decide +kernel
theorem kc_58_143 : zcode 58 143 = some (.getfield 12, 3, (7, 0, 261, 0)) := by decide +kernel
theorem kc_58_146 : zcode 58 146 = some (.getfield 99, 3, (3, 2, 113, 0)) := by decide +kernel
theorem kc_58_149 : zcode 58 149 = some (.i2l, 1, (0, 0, 0, 0)) := by decide +kernel
theorem kc_58_150 : zcode 58 150 = some (.lconst 1, 1, (0, 0, 0, 0)) := by decide +kernel
theorem kc_58_151 : zcode 58 151 = some (.invokevirtual 170, 3, (8, 0, 453, 0)) := by decide +kernel
theorem kc_58_154 : zcode 58 154 = some (.lstore 10, 2, (0, 0, 0, 0)) := by decide +kernel
theorem kc_58_156 : zcode 58 156 = some (.aload_n 0, 1, (0, 0, 0, 0)) := by decide +kernel
theorem kc_58_157 : zcode 58 157 = some (.getfield 18, 3, (7, 1, 262, 0)) := by decide +kernel
theorem kc_58_160 : zcode 58 160 = some (.getfield 75, 3, (3, 0, 109, 0)) := by decide +kernel
theorem kc_58_163 : zcode 58 163 = some (.iload_n 1, 1, (0, 0, 0, 0)) := by decide +kernel
theorem kc_58_164 : zcode 58 164 = some (.iload 4, 2, (0, 0, 0, 0)) := by decide +kernel
theorem kc_58_166 : zcode 58 166 = some (.aload_n 0, 1, (0, 0, 0, 0)) := by decide +kernel
theorem kc_58_167 : zcode 58 167 = some (.getfield 18, 3, (7, 1, 262, 0)) := by decide +kernel
theorem kc_58_170 : zcode 58 170 = some (.getfield 99, 3, (3, 2, 113, 0)) := by decide +kernel
theorem kc_58_173 : zcode 58 173 = some (.i2l, 1, (0, 0, 0, 0)) := by decide +kernel
theorem kc_58_174 : zcode 58 174 = some (.lconst 1, 1, (0, 0, 0, 0)) := by decide +kernel
theorem kc_58_175 : zcode 58 175 = some (.invokevirtual 170, 3, (8, 0, 453, 0)) := by decide +kernel
theorem kc_58_178 : zcode 58 178 = some (.lstore 12, 2, (0, 0, 0, 0)) := by decide +kernel
theorem kc_58_180 : zcode 58 180 = some (.lload 12, 2, (0, 0, 0, 0)) := by decide +kernel
theorem kc_58_182 : zcode 58 182 = some (.lload 6, 2, (0, 0, 0, 0)) := by decide +kernel
theorem kc_58_184 : zcode 58 184 = some (.lmul, 1, (0, 0, 0, 0)) := by decide +kernel
theorem kc_58_185 : zcode 58 185 = some (.lload 10, 2, (0, 0, 0, 0)) := by decide +kernel
theorem kc_58_187 : zcode 58 187 = some (.lload 8, 2, (0, 0, 0, 0)) := by decide +kernel
theorem kc_58_189 : zcode 58 189 = some (.lmul, 1, (0, 0, 0, 0)) := by decide +kernel
theorem kc_58_190 : zcode 58 190 = some (.lsub, 1, (0, 0, 0, 0)) := by decide +kernel
theorem kc_58_191 : zcode 58 191 = some (.lload 6, 2, (0, 0, 0, 0)) := by decide +kernel
theorem kc_58_193 : zcode 58 193 = some (.lload 8, 2, (0, 0, 0, 0)) := by decide +kernel
theorem kc_58_195 : zcode 58 195 = some (.lmul, 1, (0, 0, 0, 0)) := by decide +kernel
theorem kc_58_196 : zcode 58 196 = some (.iload 5, 2, (0, 0, 0, 0)) := by decide +kernel
theorem kc_58_198 : zcode 58 198 = some (.invokestatic 174, 3, (90, 0, 454, 0)) := by decide +kernel
theorem kc_58_201 : zcode 58 201 = some (.lreturn, 1, (0, 0, 0, 0)) := by decide +kernel
theorem kc_59_0 : zcode 59 0 = some (.iload_n 1, 1, (0, 0, 0, 0)) := by decide +kernel
theorem kc_59_1 : zcode 59 1 = some (.invokestatic 102, 3, (86, 0, 336, 0)) := by decide +kernel
theorem kc_59_4 : zcode 59 4 = some (.ifCond .ne 6, 3, (10, 0, 0, 0)) := by decide +kernel
theorem kc_59_7 : zcode 59 7 = some (.bipush (-2), 2, (0, 0, 0, 0)) := by decide +kernel
theorem kc_59_9 : zcode 59 9 = some (.ireturn, 1, (0, 0, 0, 0)) := by decide +kernel
theorem kc_59_10 : zcode 59 10 = some (.aload_n 0, 1, (0, 0, 0, 0)) := by decide +kernel
theorem kc_59_11 : zcode 59 11 = some (.getfield 12, 3, (7, 0, 261, 0)) := by decide +kernel
theorem kc_59_14 : zcode 59 14 = some (.getfield 75, 3, (3, 0, 109, 0)) := by decide +kernel
theorem kc_59_17 : zcode 59 17 = some (.iload_n 2, 1, (0, 0, 0, 0)) := by decide +kernel
theorem kc_59_18 : zcode 59 18 = some (.invokevirtual 85, 3, (1, 0, 307, 0)) := by decide +kernel
theorem kc_59_21 : zcode 59 21 = some (.ifCond .ne 5, 3, (26, 0, 0, 0)) := by decide +kernel
theorem kc_59_24 : zcode 59 24 = some (.iconst (-1), 1, (0, 0, 0, 0)) := by decide +kernel
theorem kc_59_25 : zcode 59 25 = some (.ireturn, 1, (0, 0, 0, 0)) := by decide +kernel
theorem kc_59_26 : zcode 59 26 = some (.iload_n 3, 1, (0, 0, 0, 0)) := by decide +kernel
theorem kc_59_27 : zcode 59 27 = some (.ifCond .lt 9, 3, (36, 0, 0, 0)) := by decide +kernel
theorem kc_59_30 : zcode 59 30 = some (.iload_n 3, 1, (0, 0, 0, 0)) := by decide +kernel
theorem kc_59_31 : zcode 59 31 = some (.bipush 60, 2, (0, 0, 0, 0)) := by decide +kernel
theorem kc_59_33 : zcode 59 33 = some (.if_icmp .le 6, 3, (39, 0, 0, 0)) := by decide +kernel
theorem kc_59_36 : zcode 59 36 = some (.bipush (-2), 2, (0, 0, 0, 0)) := by decide +kernel
theorem kc_59_38 : zcode 59 38 = some (.ireturn, 1, (0, 0, 0, 0)) := by decide +kernel
theorem kc_59_39 : zcode 59 39 = some (.aload_n 0, 1, (0, 0, 0, 0)) := by decide +kernel
theorem kc_59_40 : zcode 59 40 = some (.getfield 12, 3, (7, 0, 261, 0)) := by decide +kernel
theorem kc_59_43 : zcode 59 43 = some (.getfield 75, 3, (3, 0, 109, 0)) := by decide +kernel
theorem kc_59_46 : zcode 59 46 = some (.astore 4, 2, (0, 0, 0, 0)) := by decide +kernel
theorem kc_59_48 : zcode 59 48 = some (.aload 4, 2, (0, 0, 0, 0)) := by decide +kernel
theorem kc_59_50 : zcode 59 50 = some (.invokevirtual 108, 3, (2, 0, 347, 0)) := by decide +kernel
theorem kc_59_53 : zcode 59 53 = some (.istore 5, 2, (0, 0, 0, 0)) := by decide +kernel
theorem kc_59_55 : zcode 59 55 = some (.iload_n 3, 1, (0, 0, 0, 0)) := by decide +kernel
theorem kc_59_56 : zcode 59 56 = some (.i2l, 1, (0, 0, 0, 0)) := by decide +kernel
theorem kc_59_57 : zcode 59 57 = some (.aload 4, 2, (0, 0, 0, 0)) := by decide +kernel
theorem kc_59_59 : zcode 59 59 = some (.iload_n 1, 1, (0, 0, 0, 0)) := by decide +kernel
theorem kc_59_60 : zcode 59 60 = some (.invokevirtual 166, 3, (7, 0, 452, 0)) := by decide +kernel
theorem kc_59_63 : zcode 59 63 = some (.lmul, 1, (0, 0, 0, 0)) := by decide +kernel
theorem kc_59_64 : zcode 59 64 = some (.lstore 6, 2, (0, 0, 0, 0)) := by decide +kernel
theorem kc_59_66 : zcode 59 66 = some (.iconst 0, 1, (0, 0, 0, 0)) := by decide +kernel
theorem kc_59_67 : zcode 59 67 = some (.istore 8, 2, (0, 0, 0, 0)) := by decide +kernel
theorem kc_59_69 : zcode 59 69 = some (.iload 8, 2, (0, 0, 0, 0)) := by decide +kernel
theorem kc_59_71 : zcode 59 71 = some (.iload 5, 2, (0, 0, 0, 0)) := by decide +kernel
theorem kc_59_73 : zcode 59 73 = some (.if_icmp .gt 29, 3, (102, 0, 0, 0)) := by decide +kernel
theorem kc_59_76 : zcode 59 76 = some (.aload 4, 2, (0, 0, 0, 0)) := by decide +kernel
theorem kc_59_78 : zcode 59 78 = some (.iload_n 1, 1, (0, 0, 0, 0)) := by decide +kernel
theorem kc_59_79 : zcode 59 79 = some (.iload_n 2, 1, (0, 0, 0, 0)) := by decide +kernel
theorem kc_59_80 : zcode 59 80 = some (.iload 8, 2, (0, 0, 0, 0)) := by decide +kernel
theorem kc_59_82 : zcode 59 82 = some (.i2l, 1, (0, 0, 0, 0)) := by decide +kernel
theorem kc_59_83 : zcode 59 83 = some (.lconst 1, 1, (0, 0, 0, 0)) := by decide +kernel
theorem kc_59_84 : zcode 59 84 = some (.invokevirtual 170, 3, (8, 0, 453, 0)) := by decide +kernel
theorem kc_59_87 : zcode 59 87 = some (.lload 6, 2, (0, 0, 0, 0)) := by decide +kernel
theorem kc_59_89 : zcode 59 89 = some (.lcmp, 1, (0, 0, 0, 0)) := by decide +kernel
theorem kc_59_90 : zcode 59 90 = some (.ifCond .lt 6, 3, (96, 0, 0, 0)) := by decide +kernel
theorem kc_59_93 : zcode 59 93 = some (.iload 8, 2, (0, 0, 0, 0)) := by decide +kernel
theorem kc_59_95 : zcode 59 95 = some (.ireturn, 1, (0, 0, 0, 0)) := by decide +kernel
theorem kc_59_96 : zcode 59 96 = some (.iinc 8 1, 3, (0, 0, 0, 0)) := by decide +kernel
theorem kc_59_99 : zcode 59 99 = some (.goto (-30), 3, (69, 0, 0, 0)) := by decide +kernel
theorem kc_59_102 : zcode 59 102 = some (.bipush (-5), 2, (0, 0, 0, 0)) := by decide +kernel
theorem kc_59_104 : zcode 59 104 = some (.ireturn, 1, (0, 0, 0, 0)) := by decide +kernel
theorem kc_60_0 : zcode 60 0 = some (.iload_n 1, 1, (0, 0, 0, 0)) := by decide +kernel
theorem kc_60_1 : zcode 60 1 = some (.invokestatic 102, 3, (86, 0, 336, 0)) := by decide +kernel
theorem kc_60_4 : zcode 60 4 = some (.ifCond .ne 6, 3, (10, 0, 0, 0)) := by decide +kernel
theorem kc_60_7 : zcode 60 7 = some (.bipush (-2), 2, (0, 0, 0, 0)) := by decide +kernel
theorem kc_60_9 : zcode 60 9 = some (.ireturn, 1, (0, 0, 0, 0)) := by decide +kernel
theorem kc_60_10 : zcode 60 10 = some (.aload_n 0, 1, (0, 0, 0, 0)) := by decide +kernel
theorem kc_60_11 : zcode 60 11 = some (.getfield 12, 3, (7, 0, 261, 0)) := by decide +kernel
theorem kc_60_14 : zcode 60 14 = some (.getfield 75, 3, (3, 0, 109, 0)) := by decide +kernel
theorem kc_60_17 : zcode 60 17 = some (.iload_n 2, 1, (0, 0, 0, 0)) := by decide +kernel
theorem kc_60_18 : zcode 60 18 = some (.invokevirtual 85, 3, (1, 0, 307, 0)) := by decide +kernel
theorem kc_60_21 : zcode 60 21 = some (.ifCond .ne 5, 3, (26, 0, 0, 0)) := by decide +kernel
theorem kc_60_24 : zcode 60 24 = some (.iconst (-1), 1, (0, 0, 0, 0)) := by decide +kernel
theorem kc_60_25 : zcode 60 25 = some (.ireturn, 1, (0, 0, 0, 0)) := by decide +kernel
theorem kc_60_26 : zcode 60 26 = some (.aload_n 0, 1, (0, 0, 0, 0)) := by decide +kernel
theorem kc_60_27 : zcode 60 27 = some (.getfield 12, 3, (7, 0, 261, 0)) := by decide +kernel
theorem kc_60_30 : zcode 60 30 = some (.getfield 75, 3, (3, 0, 109, 0)) := by decide +kernel
theorem kc_60_33 : zcode 60 33 = some (.astore_n 3, 1, (0, 0, 0, 0)) := by decide +kernel
theorem kc_60_34 : zcode 60 34 = some (.aload_n 3, 1, (0, 0, 0, 0)) := by decide +kernel
theorem kc_60_35 : zcode 60 35 = some (.invokevirtual 108, 3, (2, 0, 347, 0)) := by decide +kernel
theorem kc_60_38 : zcode 60 38 = some (.istore 4, 2, (0, 0, 0, 0)) := by decide +kernel
theorem kc_60_40 : zcode 60 40 = some (.iconst 0, 1, (0, 0, 0, 0)) := by decide +kernel
theorem kc_60_41 : zcode 60 41 = some (.istore 5, 2, (0, 0, 0, 0)) := by decide +kernel
theorem kc_60_43 : zcode 60 43 = some (.aload_n 3, 1, (0, 0, 0, 0)) := by decide +kernel
theorem kc_60_44 : zcode 60 44 = some (.iload_n 1, 1, (0, 0, 0, 0)) := by decide +kernel
theorem kc_60_45 : zcode 60 45 = some (.iload_n 2, 1, (0, 0, 0, 0)) := by decide +kernel
theorem kc_60_46 : zcode 60 46 = some (.lconst 0, 1, (0, 0, 0, 0)) := by decide +kernel
theorem kc_60_47 : zcode 60 47 = some (.lconst 1, 1, (0, 0, 0, 0)) := by decide +kernel
theorem kc_60_48 : zcode 60 48 = some (.invokevirtual 170, 3, (8, 0, 453, 0)) := by decide +kernel
theorem kc_60_51 : zcode 60 51 = some (.lstore 6, 2, (0, 0, 0, 0)) := by decide +kernel
theorem kc_60_53 : zcode 60 53 = some (.aload_n 3, 1, (0, 0, 0, 0)) := by decide +kernel
theorem kc_60_54 : zcode 60 54 = some (.iload_n 1, 1, (0, 0, 0, 0)) := by decide +kernel
theorem kc_60_55 : zcode 60 55 = some (.iload_n 2, 1, (0, 0, 0, 0)) := by decide +kernel
theorem kc_60_56 : zcode 60 56 = some (.lconst 1, 1, (0, 0, 0, 0)) := by decide +kernel
theorem kc_60_57 : zcode 60 57 = some (.lconst 1, 1, (0, 0, 0, 0)) := by decide +kernel
theorem kc_60_58 : zcode 60 58 = some (.invokevirtual 170, 3, (8, 0, 453, 0)) := by decide +kernel
theorem kc_60_61 : zcode 60 61 = some (.lstore 8, 2, (0, 0, 0, 0)) := by decide +kernel
theorem kc_60_63 : zcode 60 63 = some (.iconst 1, 1, (0, 0, 0, 0)) := by decide +kernel
theorem kc_60_64 : zcode 60 64 = some (.istore 10, 2, (0, 0, 0, 0)) := by decide +kernel
theorem kc_60_66 : zcode 60 66 = some (.iload 10, 2, (0, 0, 0, 0)) := by decide +kernel
theorem kc_60_68 : zcode 60 68 = some (.iload 4, 2, (0, 0, 0, 0)) := by decide +kernel
theorem kc_60_70 : zcode 60 70 = some (.if_icmp .ge 48, 3, (118, 0, 0, 0)) := by decide +kernel
theorem kc_60_73 : zcode 60 73 = some (.aload_n 3, 1, (0, 0, 0, 0)) := by decide +kernel
theorem kc_60_74 : zcode 60 74 = some (.iload_n 1, 1, (0, 0, 0, 0)) := by decide +kernel
theorem kc_60_75 : zcode 60 75 = some (.iload_n 2, 1, (0, 0, 0, 0)) := by decide +kernel
theorem kc_60_76 : zcode 60 76 = some (.iload 10, 2, (0, 0, 0, 0)) := by decide +kernel
theorem kc_60_78 : zcode 60 78 = some (.iconst 1, 1, (0, 0, 0, 0)) := by decide +kernel
theorem kc_60_79 : zcode 60 79 = some (.iadd, 1, (0, 0, 0, 0)) := by decide +kernel
theorem kc_60_80 : zcode 60 80 = some (.i2l, 1, (0, 0, 0, 0)) := by decide +kernel
theorem kc_60_81 : zcode 60 81 = some (.lconst 1, 1, (0, 0, 0, 0)) := by decide +kernel
theorem kc_60_82 : zcode 60 82 = some (.invokevirtual 170, 3, (8, 0, 453, 0)) := by decide +kernel
theorem kc_60_85 : zcode 60 85 = some (.lstore 11, 2, (0, 0, 0, 0)) := by decide +kernel
theorem kc_60_87 : zcode 60 87 = some (.lload 11, 2, (0, 0, 0, 0)) := by decide +kernel
theorem kc_60_89 : zcode 60 89 = some (.lload 8, 2, (0, 0, 0, 0)) := by decide +kernel
theorem kc_60_91 : zcode 60 91 = some (.lsub, 1, (0, 0, 0, 0)) := by decide +kernel
theorem kc_60_92 : zcode 60 92 = some (.lload 8, 2, (0, 0, 0, 0)) := by decide +kernel
theorem kc_60_94 : zcode 60 94 = some (.lload 6, 2, (0, 0, 0, 0)) := by decide +kernel
theorem kc_60_96 : zcode 60 96 = some (.lsub, 1, (0, 0, 0, 0)) := by decide +kernel
theorem kc_60_97 : zcode 60 97 = some (.lcmp, 1, (0, 0, 0, 0)) := by decide +kernel
theorem kc_60_98 : zcode 60 98 = some (.ifCond .eq 6, 3, (104, 0, 0, 0)) := by decide +kernel
theorem kc_60_101 : zcode 60 101 = some (.iinc 5 1, 3, (0, 0, 0, 0)) := by decide +kernel
theorem kc_60_104 : zcode 60 104 = some (.lload 8, 2, (0, 0, 0, 0)) := by decide +kernel
theorem kc_60_106 : zcode 60 106 = some (.lstore 6, 2, (0, 0, 0, 0)) := by decide +kernel
theorem kc_60_108 : zcode 60 108 = some (.lload 11, 2, (0, 0, 0, 0)) := by decide +kernel
theorem kc_60_110 : zcode 60 110 = some (.lstore 8, 2, (0, 0, 0, 0)) := by decide +kernel
theorem kc_60_112 : zcode 60 112 = some (.iinc 10 1, 3, (0, 0, 0, 0)) := by decide +kernel
theorem kc_60_115 : zcode 60 115 = some (.goto (-49), 3, (66, 0, 0, 0)) := by decide +kernel
theorem kc_60_118 : zcode 60 118 = some (.iload 5, 2, (0, 0, 0, 0)) := by decide +kernel
theorem kc_60_120 : zcode 60 120 = some (.ireturn, 1, (0, 0, 0, 0)) := by decide +kernel
theorem kc_61_0 : zcode 61 0 = some (.iload_n 1, 1, (0, 0, 0, 0)) := by decide +kernel
theorem kc_61_1 : zcode 61 1 = some (.invokestatic 102, 3, (86, 0, 336, 0)) := by decide +kernel
theorem kc_61_4 : zcode 61 4 = some (.ifCond .ne 6, 3, (10, 0, 0, 0)) := by decide +kernel
theorem kc_61_7 : zcode 61 7 = some (.bipush (-2), 2, (0, 0, 0, 0)) := by decide +kernel
theorem kc_61_9 : zcode 61 9 = some (.ireturn, 1, (0, 0, 0, 0)) := by decide +kernel
theorem kc_61_10 : zcode 61 10 = some (.aload_n 0, 1, (0, 0, 0, 0)) := by decide +kernel
theorem kc_61_11 : zcode 61 11 = some (.getfield 12, 3, (7, 0, 261, 0)) := by decide +kernel
theorem kc_61_14 : zcode 61 14 = some (.invokevirtual 112, 3, (16, 0, 351, 0)) := by decide +kernel
theorem kc_61_17 : zcode 61 17 = some (.ifCond .eq 14, 3, (31, 0, 0, 0)) := by decide +kernel
theorem kc_61_20 : zcode 61 20 = some (.aload_n 0, 1, (0, 0, 0, 0)) := by decide +kernel
theorem kc_61_21 : zcode 61 21 = some (.getfield 12, 3, (7, 0, 261, 0)) := by decide +kernel
theorem kc_61_24 : zcode 61 24 = some (.iload_n 1, 1, (0, 0, 0, 0)) := by decide +kernel
theorem kc_61_25 : zcode 61 25 = some (.invokevirtual 192, 3, (20, 0, 493, 0)) := by decide +kernel
theorem kc_61_28 : zcode 61 28 = some (.goto 5, 3, (33, 0, 0, 0)) := by decide +kernel
theorem kc_61_31 : zcode 61 31 = some (.bipush (-3), 2, (0, 0, 0, 0)) := by decide +kernel
theorem kc_61_33 : zcode 61 33 = some (.ireturn, 1, (0, 0, 0, 0)) := by decide +kernel
theorem kc_62_0 : zcode 62 0 = some (.iload_n 1, 1, (0, 0, 0, 0)) := by decide +kernel
theorem kc_62_1 : zcode 62 1 = some (.invokestatic 102, 3, (86, 0, 336, 0)) := by decide +kernel
theorem kc_62_4 : zcode 62 4 = some (.ifCond .ne 6, 3, (10, 0, 0, 0)) := by decide +kernel
theorem kc_62_7 : zcode 62 7 = some (.bipush (-2), 2, (0, 0, 0, 0)) := by decide +kernel
theorem kc_62_9 : zcode 62 9 = some (.ireturn, 1, (0, 0, 0, 0)) := by decide +kernel
theorem kc_62_10 : zcode 62 10 = some (.aload_n 0, 1, (0, 0, 0, 0)) := by decide +kernel
theorem kc_62_11 : zcode 62 11 = some (.getfield 12, 3, (7, 0, 261, 0)) := by decide +kernel
theorem kc_62_14 : zcode 62 14 = some (.getfield 75, 3, (3, 0, 109, 0)) := by decide +kernel
theorem kc_62_17 : zcode 62 17 = some (.iload_n 2, 1, (0, 0, 0, 0)) := by decide +kernel
theorem kc_62_18 : zcode 62 18 = some (.invokevirtual 85, 3, (1, 0, 307, 0)) := by decide +kernel
theorem kc_62_21 : zcode 62 21 = some (.ifCond .ne 5, 3, (26, 0, 0, 0)) := by decide +kernel
theorem kc_62_24 : zcode 62 24 = some (.iconst (-1), 1, (0, 0, 0, 0)) := by decide +kernel
theorem kc_62_25 : zcode 62 25 = some (.ireturn, 1, (0, 0, 0, 0)) := by decide +kernel
theorem kc_62_26 : zcode 62 26 = some (.aload_n 0, 1, (0, 0, 0, 0)) := by decide +kernel
theorem kc_62_27 : zcode 62 27 = some (.getfield 12, 3, (7, 0, 261, 0)) := by decide +kernel
theorem kc_62_30 : zcode 62 30 = some (.invokevirtual 112, 3, (16, 0, 351, 0)) := by decide +kernel
theorem kc_62_33 : zcode 62 33 = some (.ifCond .eq 15, 3, (48, 0, 0, 0)) := by decide +kernel
theorem kc_62_36 : zcode 62 36 = some (.aload_n 0, 1, (0, 0, 0, 0)) := by decide +kernel
theorem kc_62_37 : zcode 62 37 = some (.getfield 12, 3, (7, 0, 261, 0)) := by decide +kernel
theorem kc_62_40 : zcode 62 40 = some (.iload_n 1, 1, (0, 0, 0, 0)) := by decide +kernel
theorem kc_62_41 : zcode 62 41 = some (.iload_n 2, 1, (0, 0, 0, 0)) := by decide +kernel
theorem kc_62_42 : zcode 62 42 = some (.invokevirtual 195, 3, (22, 0, 505, 0)) := by decide +kernel
theorem kc_62_45 : zcode 62 45 = some (.goto 5, 3, (50, 0, 0, 0)) := by decide +kernel
theorem kc_62_48 : zcode 62 48 = some (.bipush (-3), 2, (0, 0, 0, 0)) := by decide +kernel
theorem kc_62_50 : zcode 62 50 = some (.ireturn, 1, (0, 0, 0, 0)) := by decide +kernel
theorem kc_63_0 : zcode 63 0 = some (.iload_n 1, 1, (0, 0, 0, 0)) := by decide +kernel
theorem kc_63_1 : zcode 63 1 = some (.iload_n 2, 1, (0, 0, 0, 0)) := by decide +kernel
theorem kc_63_2 : zcode 63 2 = some (.invokestatic 198, 3, (88, 0, 517, 0)) := by decide +kernel
theorem kc_63_5 : zcode 63 5 = some (.ifCond .eq 13, 3, (18, 0, 0, 0)) := by decide +kernel
theorem kc_63_8 : zcode 63 8 = some (.aload_n 0, 1, (0, 0, 0, 0)) := by decide +kernel
theorem kc_63_9 : zcode 63 9 = some (.getfield 12, 3, (7, 0, 261, 0)) := by decide +kernel
theorem kc_63_12 : zcode 63 12 = some (.invokevirtual 112, 3, (16, 0, 351, 0)) := by decide +kernel
theorem kc_63_15 : zcode 63 15 = some (.ifCond .ne 7, 3, (22, 0, 0, 0)) := by decide +kernel
theorem kc_63_18 : zcode 63 18 = some (.ldc2_w 157, 3, (0, 0, 395, -9223372036854775808)) := by decide +kernel
theorem kc_63_21 : zcode 63 21 = some (.lreturn, 1, (0, 0, 0, 0)) := by decide +kernel
theorem kc_63_22 : zcode 63 22 = some (.iload_n 3, 1, (0, 0, 0, 0)) := by decide +kernel
theorem kc_63_23 : zcode 63 23 = some (.iconst (-1), 1, (0, 0, 0, 0)) := by decide +kernel
theorem kc_63_24 : zcode 63 24 = some (.if_icmp .eq 21, 3, (45, 0, 0, 0)) := by decide +kernel
theorem kc_63_27 : zcode 63 27 = some (.aload_n 0, 1, (0, 0, 0, 0)) := by decide +kernel
theorem kc_63_28 : zcode 63 28 = some (.getfield 12, 3, (7, 0, 261, 0)) := by decide +kernel
theorem kc_63_31 : zcode 63 31 = some (.getfield 75, 3, (3, 0, 109, 0)) := by decide +kernel
theorem kc_63_34 : zcode 63 34 = some (.iload_n 3, 1, (0, 0, 0, 0)) := by decide +kernel
theorem kc_63_35 : zcode 63 35 = some (.invokevirtual 85, 3, (1, 0, 307, 0)) := by decide +kernel
theorem kc_63_38 : zcode 63 38 = some (.ifCond .ne 7, 3, (45, 0, 0, 0)) := by decide +kernel
theorem kc_63_41 : zcode 63 41 = some (.ldc2_w 157, 3, (0, 0, 395, -9223372036854775808)) := by decide +kernel
theorem kc_63_44 : zcode 63 44 = some (.lreturn, 1, (0, 0, 0, 0)) := by decide +kernel
theorem kc_63_45 : zcode 63 45 = some (.aload_n 0, 1, (0, 0, 0, 0)) := by decide +kernel
theorem kc_63_46 : zcode 63 46 = some (.getfield 31, 3, (7, 3, 264, 0)) := by decide +kernel
theorem kc_63_49 : zcode 63 49 = some (.aload_n 0, 1, (0, 0, 0, 0)) := by decide +kernel
theorem kc_63_50 : zcode 63 50 = some (.getfield 12, 3, (7, 0, 261, 0)) := by decide +kernel
theorem kc_63_53 : zcode 63 53 = some (.iload_n 1, 1, (0, 0, 0, 0)) := by decide +kernel
theorem kc_63_54 : zcode 63 54 = some (.iload_n 2, 1, (0, 0, 0, 0)) := by decide +kernel
theorem kc_63_55 : zcode 63 55 = some (.invokevirtual 202, 3, (36, 0, 520, 0)) := by decide +kernel
theorem kc_63_58 : zcode 63 58 = some (.iload_n 3, 1, (0, 0, 0, 0)) := by decide +kernel
theorem kc_63_59 : zcode 63 59 = some (.iconst (-1), 1, (0, 0, 0, 0)) := by decide +kernel
theorem kc_63_60 : zcode 63 60 = some (.if_icmp .ne 13, 3, (73, 0, 0, 0)) := by decide +kernel
theorem kc_63_63 : zcode 63 63 = some (.aload_n 0, 1, (0, 0, 0, 0)) := by decide +kernel
theorem kc_63_64 : zcode 63 64 = some (.getfield 31, 3, (7, 3, 264, 0)) := by decide +kernel
theorem kc_63_67 : zcode 63 67 = some (.getfield 206, 3, (6, 4, 140, 0)) := by decide +kernel
theorem kc_63_70 : zcode 63 70 = some (.goto 12, 3, (82, 0, 0, 0)) := by decide +kernel
theorem kc_63_73 : zcode 63 73 = some (.aload_n 0, 1, (0, 0, 0, 0)) := by decide +kernel
theorem kc_63_74 : zcode 63 74 = some (.getfield 31, 3, (7, 3, 264, 0)) := by decide +kernel
theorem kc_63_77 : zcode 63 77 = some (.getfield 210, 3, (6, 0, 135, 0)) := by decide +kernel
theorem kc_63_80 : zcode 63 80 = some (.iload_n 3, 1, (0, 0, 0, 0)) := by decide +kernel
theorem kc_63_81 : zcode 63 81 = some (.faload, 1, (0, 0, 0, 0)) := by decide +kernel
theorem kc_63_82 : zcode 63 82 = some (.fstore 4, 2, (0, 0, 0, 0)) := by decide +kernel
theorem kc_63_84 : zcode 63 84 = some (.fload 4, 2, (0, 0, 0, 0)) := by decide +kernel
theorem kc_63_86 : zcode 63 86 = some (.f2d, 1, (0, 0, 0, 0)) := by decide +kernel
theorem kc_63_87 : zcode 63 87 = some (.bipush 127, 2, (0, 0, 0, 0)) := by decide +kernel
theorem kc_63_89 : zcode 63 89 = some (.bipush 23, 2, (0, 0, 0, 0)) := by decide +kernel
theorem kc_63_91 : zcode 63 91 = some (.invokestatic 214, 3, (92, 0, 541, 0)) := by decide +kernel
theorem kc_63_94 : zcode 63 94 = some (.lreturn, 1, (0, 0, 0, 0)) := by decide +kernel
theorem kc_64_0 : zcode 64 0 = some (.iload_n 1, 1, (0, 0, 0, 0)) := by decide +kernel
theorem kc_64_1 : zcode 64 1 = some (.iload_n 2, 1, (0, 0, 0, 0)) := by decide +kernel
theorem kc_64_2 : zcode 64 2 = some (.invokestatic 198, 3, (88, 0, 517, 0)) := by decide +kernel
theorem kc_64_5 : zcode 64 5 = some (.ifCond .eq 20, 3, (25, 0, 0, 0)) := by decide +kernel
theorem kc_64_8 : zcode 64 8 = some (.iload_n 3, 1, (0, 0, 0, 0)) := by decide +kernel
theorem kc_64_9 : zcode 64 9 = some (.invokestatic 154, 3, (87, 0, 392, 0)) := by decide +kernel
theorem kc_64_12 : zcode 64 12 = some (.ifCond .eq 13, 3, (25, 0, 0, 0)) := by decide +kernel
theorem kc_64_15 : zcode 64 15 = some (.aload_n 0, 1, (0, 0, 0, 0)) := by decide +kernel
theorem kc_64_16 : zcode 64 16 = some (.getfield 12, 3, (7, 0, 261, 0)) := by decide +kernel
theorem kc_64_19 : zcode 64 19 = some (.invokevirtual 112, 3, (16, 0, 351, 0)) := by decide +kernel
theorem kc_64_22 : zcode 64 22 = some (.ifCond .ne 7, 3, (29, 0, 0, 0)) := by decide +kernel
theorem kc_64_25 : zcode 64 25 = some (.ldc2_w 157, 3, (0, 0, 395, -9223372036854775808)) := by decide +kernel
theorem kc_64_28 : zcode 64 28 = some (.lreturn, 1, (0, 0, 0, 0)) := by decide +kernel
theorem kc_64_29 : zcode 64 29 = some (.aload_n 0, 1, (0, 0, 0, 0)) := by decide +kernel
theorem kc_64_30 : zcode 64 30 = some (.getfield 31, 3, (7, 3, 264, 0)) := by decide +kernel
theorem kc_64_33 : zcode 64 33 = some (.aload_n 0, 1, (0, 0, 0, 0)) := by decide +kernel
theorem kc_64_34 : zcode 64 34 = some (.getfield 12, 3, (7, 0, 261, 0)) := by decide +kernel
theorem kc_64_37 : zcode 64 37 = some (.iload_n 1, 1, (0, 0, 0, 0)) := by decide +kernel
theorem kc_64_38 : zcode 64 38 = some (.iload_n 2, 1, (0, 0, 0, 0)) := by decide +kernel
theorem kc_64_39 : zcode 64 39 = some (.invokevirtual 202, 3, (36, 0, 520, 0)) := by decide +kernel
theorem kc_64_42 : zcode 64 42 = some (.aload_n 0, 1, (0, 0, 0, 0)) := by decide +kernel
theorem kc_64_43 : zcode 64 43 = some (.iload_n 1, 1, (0, 0, 0, 0)) := by decide +kernel
theorem kc_64_44 : zcode 64 44 = some (.invokevirtual 218, 3, (65, 0, 550, 0)) := by decide +kernel
theorem kc_64_47 : zcode 64 47 = some (.sipush 1023, 3, (0, 0, 0, 0)) := by decide +kernel
theorem kc_64_50 : zcode 64 50 = some (.bipush 52, 2, (0, 0, 0, 0)) := by decide +kernel
theorem kc_64_52 : zcode 64 52 = some (.invokestatic 214, 3, (92, 0, 541, 0)) := by decide +kernel
theorem kc_64_55 : zcode 64 55 = some (.lstore 4, 2, (0, 0, 0, 0)) := by decide +kernel
theorem kc_64_57 : zcode 64 57 = some (.iload_n 3, 1, (0, 0, 0, 0)) := by decide +kernel
theorem kc_64_58 : zcode 64 58 = some (.ifCond .ne 11, 3, (69, 0, 0, 0)) := by decide +kernel
theorem kc_64_61 : zcode 64 61 = some (.lload 4, 2, (0, 0, 0, 0)) := by decide +kernel
theorem kc_64_63 : zcode 64 63 = some (.bipush 32, 2, (0, 0, 0, 0)) := by decide +kernel
theorem kc_64_65 : zcode 64 65 = some (.lushr, 1, (0, 0, 0, 0)) := by decide +kernel
theorem kc_64_66 : zcode 64 66 = some (.goto 9, 3, (75, 0, 0, 0)) := by decide +kernel
theorem kc_64_69 : zcode 64 69 = some (.lload 4, 2, (0, 0, 0, 0)) := by decide +kernel
theorem kc_64_71 : zcode 64 71 = some (.ldc2_w 222, 3, (0, 0, 554, 4294967295)) := by decide +kernel
theorem kc_64_74 : zcode 64 74 = some (.land, 1, (0, 0, 0, 0)) := by decide +kernel
theorem kc_64_75 : zcode 64 75 = some (.lreturn, 1, (0, 0, 0, 0)) := by decide +kernel
theorem kc_65_0 : zcode 65 0 = some (.dconst 0, 1, (0, 0, 0, 0)) := by decide +kernel
theorem kc_65_1 : zcode 65 1 = some (.dstore_n 2, 1, (0, 0, 0, 0)) := by decide +kernel
theorem kc_65_2 : zcode 65 2 = some (.aload_n 0, 1, (0, 0, 0, 0)) := by decide +kernel
theorem kc_65_3 : zcode 65 3 = some (.getfield 12, 3, (7, 0, 261, 0)) := by decide +kernel
theorem kc_65_6 : zcode 65 6 = some (.getfield 75, 3, (3, 0, 109, 0)) := by decide +kernel
theorem kc_65_9 : zcode 65 9 = some (.iload_n 1, 1, (0, 0, 0, 0)) := by decide +kernel
theorem kc_65_10 : zcode 65 10 = some (.invokevirtual 166, 3, (7, 0, 452, 0)) := by decide +kernel
theorem kc_65_13 : zcode 65 13 = some (.l2d, 1, (0, 0, 0, 0)) := by decide +kernel
theorem kc_65_14 : zcode 65 14 = some (.dstore 4, 2, (0, 0, 0, 0)) := by decide +kernel
theorem kc_65_16 : zcode 65 16 = some (.iconst 0, 1, (0, 0, 0, 0)) := by decide +kernel
theorem kc_65_17 : zcode 65 17 = some (.istore 6, 2, (0, 0, 0, 0)) := by decide +kernel
theorem kc_65_19 : zcode 65 19 = some (.iload 6, 2, (0, 0, 0, 0)) := by decide +kernel
theorem kc_65_21 : zcode 65 21 = some (.aload_n 0, 1, (0, 0, 0, 0)) := by decide +kernel
theorem kc_65_22 : zcode 65 22 = some (.getfield 12, 3, (7, 0, 261, 0)) := by decide +kernel
theorem kc_65_25 : zcode 65 25 = some (.getfield 75, 3, (3, 0, 109, 0)) := by decide +kernel
theorem kc_65_28 : zcode 65 28 = some (.getfield 78, 3, (0, 3, 95, 0)) := by decide +kernel
theorem kc_65_31 : zcode 65 31 = some (.if_icmp .ge 84, 3, (115, 0, 0, 0)) := by decide +kernel
theorem kc_65_34 : zcode 65 34 = some (.aload_n 0, 1, (0, 0, 0, 0)) := by decide +kernel
theorem kc_65_35 : zcode 65 35 = some (.getfield 12, 3, (7, 0, 261, 0)) := by decide +kernel
theorem kc_65_38 : zcode 65 38 = some (.getfield 75, 3, (3, 0, 109, 0)) := by decide +kernel
theorem kc_65_41 : zcode 65 41 = some (.iload_n 1, 1, (0, 0, 0, 0)) := by decide +kernel
theorem kc_65_42 : zcode 65 42 = some (.iload 6, 2, (0, 0, 0, 0)) := by decide +kernel
theorem kc_65_44 : zcode 65 44 = some (.aload_n 0, 1, (0, 0, 0, 0)) := by decide +kernel
theorem kc_65_45 : zcode 65 45 = some (.getfield 12, 3, (7, 0, 261, 0)) := by decide +kernel
theorem kc_65_48 : zcode 65 48 = some (.getfield 99, 3, (3, 2, 113, 0)) := by decide +kernel
theorem kc_65_51 : zcode 65 51 = some (.i2l, 1, (0, 0, 0, 0)) := by decide +kernel
theorem kc_65_52 : zcode 65 52 = some (.lconst 1, 1, (0, 0, 0, 0)) := by decide +kernel
theorem kc_65_53 : zcode 65 53 = some (.invokevirtual 170, 3, (8, 0, 453, 0)) := by decide +kernel
theorem kc_65_56 : zcode 65 56 = some (.l2d, 1, (0, 0, 0, 0)) := by decide +kernel
theorem kc_65_57 : zcode 65 57 = some (.dload 4, 2, (0, 0, 0, 0)) := by decide +kernel
theorem kc_65_59 : zcode 65 59 = some (.ddiv, 1, (0, 0, 0, 0)) := by decide +kernel
theorem kc_65_60 : zcode 65 60 = some (.dstore 7, 2, (0, 0, 0, 0)) := by decide +kernel
theorem kc_65_62 : zcode 65 62 = some (.aload_n 0, 1, (0, 0, 0, 0)) := by decide +kernel
theorem kc_65_63 : zcode 65 63 = some (.getfield 31, 3, (7, 3, 264, 0)) := by decide +kernel
theorem kc_65_66 : zcode 65 66 = some (.getfield 210, 3, (6, 0, 135, 0)) := by decide +kernel
theorem kc_65_69 : zcode 65 69 = some (.iload 6, 2, (0, 0, 0, 0)) := by decide +kernel
theorem kc_65_71 : zcode 65 71 = some (.faload, 1, (0, 0, 0, 0)) := by decide +kernel
theorem kc_65_72 : zcode 65 72 = some (.f2d, 1, (0, 0, 0, 0)) := by decide +kernel
theorem kc_65_73 : zcode 65 73 = some (.dload 7, 2, (0, 0, 0, 0)) := by decide +kernel
theorem kc_65_75 : zcode 65 75 = some (.dsub, 1, (0, 0, 0, 0)) := by decide +kernel
theorem kc_65_76 : zcode 65 76 = some (.dstore 9, 2, (0, 0, 0, 0)) := by decide +kernel
theorem kc_65_78 : zcode 65 78 = some (.dload 9, 2, (0, 0, 0, 0)) := by decide +kernel
theorem kc_65_80 : zcode 65 80 = some (.dconst 0, 1, (0, 0, 0, 0)) := by decide +kernel
theorem kc_65_81 : zcode 65 81 = some (.dcmp .g, 1, (0, 0, 0, 0)) := by decide +kernel
theorem kc_65_82 : zcode 65 82 = some (.ifCond .ge 9, 3, (91, 0, 0, 0)) := by decide +kernel
theorem kc_65_85 : zcode 65 85 = some (.dload 9, 2, (0, 0, 0, 0)) := by decide +kernel
theorem kc_65_87 : zcode 65 87 = some (.dneg, 1, (0, 0, 0, 0)) := by decide +kernel
theorem kc_65_88 : zcode 65 88 = some (.goto 5, 3, (93, 0, 0, 0)) := by decide +kernel
theorem kc_65_91 : zcode 65 91 = some (.dload 9, 2, (0, 0, 0, 0)) := by decide +kernel
theorem kc_65_93 : zcode 65 93 = some (.dstore 11, 2, (0, 0, 0, 0)) := by decide +kernel
theorem kc_65_95 : zcode 65 95 = some (.dload 11, 2, (0, 0, 0, 0)) := by decide +kernel
theorem kc_65_97 : zcode 65 97 = some (.dload_n 2, 1, (0, 0, 0, 0)) := by decide +kernel
theorem kc_65_98 : zcode 65 98 = some (.dcmp .l, 1, (0, 0, 0, 0)) := by decide +kernel
theorem kc_65_99 : zcode 65 99 = some (.ifCond .le 8, 3, (107, 0, 0, 0)) := by decide +kernel
theorem kc_65_102 : zcode 65 102 = some (.dload 11, 2, (0, 0, 0, 0)) := by decide +kernel
theorem kc_65_104 : zcode 65 104 = some (.goto 4, 3, (108, 0, 0, 0)) := by decide +kernel
theorem kc_65_107 : zcode 65 107 = some (.dload_n 2, 1, (0, 0, 0, 0)) := by decide +kernel
theorem kc_65_108 : zcode 65 108 = some (.dstore_n 2, 1, (0, 0, 0, 0)) := by decide +kernel
theorem kc_65_109 : zcode 65 109 = some (.iinc 6 1, 3, (0, 0, 0, 0)) := by decide +kernel
theorem kc_65_112 : zcode 65 112 = some (.goto (-93), 3, (19, 0, 0, 0)) := by decide +kernel
theorem kc_65_115 : zcode 65 115 = some (.dload_n 2, 1, (0, 0, 0, 0)) := by decide +kernel
theorem kc_65_116 : zcode 65 116 = some (.dreturn, 1, (0, 0, 0, 0)) := by decide +kernel
theorem kc_66_0 : zcode 66 0 = some (.aload_n 0, 1, (0, 0, 0, 0)) := by decide +kernel
theorem kc_66_1 : zcode 66 1 = some (.aload_n 0, 1, (0, 0, 0, 0)) := by decide +kernel
theorem kc_66_2 : zcode 66 2 = some (.getfield 40, 3, (7, 4, 265, 0)) := by decide +kernel
theorem kc_66_5 : zcode 66 5 = some (.iload_n 1, 1, (0, 0, 0, 0)) := by decide +kernel
theorem kc_66_6 : zcode 66 6 = some (.iload_n 2, 1, (0, 0, 0, 0)) := by decide +kernel
theorem kc_66_7 : zcode 66 7 = some (.invokevirtual 224, 3, (67, 0, 559, 0)) := by decide +kernel
theorem kc_66_10 : zcode 66 10 = some (.ireturn, 1, (0, 0, 0, 0)) := by decide +kernel
theorem kc_67_0 : zcode 67 0 = some (.iload_n 2, 1, (0, 0, 0, 0)) := by decide +kernel
theorem kc_67_1 : zcode 67 1 = some (.iconst (-1), 1, (0, 0, 0, 0)) := by decide +kernel
theorem kc_67_2 : zcode 67 2 = some (.if_icmp .ne 10, 3, (12, 0, 0, 0)) := by decide +kernel
theorem kc_67_5 : zcode 67 5 = some (.aload_n 1, 1, (0, 0, 0, 0)) := by decide +kernel
theorem kc_67_6 : zcode 67 6 = some (.iconst 0, 1, (0, 0, 0, 0)) := by decide +kernel
theorem kc_67_7 : zcode 67 7 = some (.putfield 228, 3, (2, 3, 165, 0)) := by decide +kernel
theorem kc_67_10 : zcode 67 10 = some (.iconst 0, 1, (0, 0, 0, 0)) := by decide +kernel
theorem kc_67_11 : zcode 67 11 = some (.ireturn, 1, (0, 0, 0, 0)) := by decide +kernel
theorem kc_67_12 : zcode 67 12 = some (.aload_n 0, 1, (0, 0, 0, 0)) := by decide +kernel
theorem kc_67_13 : zcode 67 13 = some (.getfield 12, 3, (7, 0, 261, 0)) := by decide +kernel
theorem kc_67_16 : zcode 67 16 = some (.getfield 75, 3, (3, 0, 109, 0)) := by decide +kernel
theorem kc_67_19 : zcode 67 19 = some (.iload_n 2, 1, (0, 0, 0, 0)) := by decide +kernel
theorem kc_67_20 : zcode 67 20 = some (.invokevirtual 85, 3, (1, 0, 307, 0)) := by decide +kernel
theorem kc_67_23 : zcode 67 23 = some (.ifCond .ne 5, 3, (28, 0, 0, 0)) := by decide +kernel
theorem kc_67_26 : zcode 67 26 = some (.iconst (-1), 1, (0, 0, 0, 0)) := by decide +kernel
theorem kc_67_27 : zcode 67 27 = some (.ireturn, 1, (0, 0, 0, 0)) := by decide +kernel
theorem kc_67_28 : zcode 67 28 = some (.iload_n 3, 1, (0, 0, 0, 0)) := by decide +kernel
theorem kc_67_29 : zcode 67 29 = some (.ifCond .lt 9, 3, (38, 0, 0, 0)) := by decide +kernel
theorem kc_67_32 : zcode 67 32 = some (.iload_n 3, 1, (0, 0, 0, 0)) := by decide +kernel
theorem kc_67_33 : zcode 67 33 = some (.bipush 60, 2, (0, 0, 0, 0)) := by decide +kernel
theorem kc_67_35 : zcode 67 35 = some (.if_icmp .le 8, 3, (43, 0, 0, 0)) := by decide +kernel
theorem kc_67_38 : zcode 67 38 = some (.bipush (-2), 2, (0, 0, 0, 0)) := by decide +kernel
theorem kc_67_40 : zcode 67 40 = some (.goto 9, 3, (49, 0, 0, 0)) := by decide +kernel
theorem kc_67_43 : zcode 67 43 = some (.aload_n 1, 1, (0, 0, 0, 0)) := by decide +kernel
theorem kc_67_44 : zcode 67 44 = some (.iload_n 2, 1, (0, 0, 0, 0)) := by decide +kernel
theorem kc_67_45 : zcode 67 45 = some (.iload_n 3, 1, (0, 0, 0, 0)) := by decide +kernel
theorem kc_67_46 : zcode 67 46 = some (.invokevirtual 229, 3, (13, 0, 563, 0)) := by decide +kernel
theorem kc_67_49 : zcode 67 49 = some (.ireturn, 1, (0, 0, 0, 0)) := by decide +kernel
theorem kc_68_0 : zcode 68 0 = some (.aload_n 0, 1, (0, 0, 0, 0)) := by decide +kernel
theorem kc_68_1 : zcode 68 1 = some (.getfield 12, 3, (7, 0, 261, 0)) := by decide +kernel
theorem kc_68_4 : zcode 68 4 = some (.getfield 75, 3, (3, 0, 109, 0)) := by decide +kernel
theorem kc_68_7 : zcode 68 7 = some (.iload_n 1, 1, (0, 0, 0, 0)) := by decide +kernel
theorem kc_68_8 : zcode 68 8 = some (.invokevirtual 85, 3, (1, 0, 307, 0)) := by decide +kernel
theorem kc_68_11 : zcode 68 11 = some (.ifCond .eq 12, 3, (23, 0, 0, 0)) := by decide +kernel
theorem kc_68_14 : zcode 68 14 = some (.iload_n 2, 1, (0, 0, 0, 0)) := by decide +kernel
theorem kc_68_15 : zcode 68 15 = some (.ifCond .eq 10, 3, (25, 0, 0, 0)) := by decide +kernel
theorem kc_68_18 : zcode 68 18 = some (.iload_n 2, 1, (0, 0, 0, 0)) := by decide +kernel
theorem kc_68_19 : zcode 68 19 = some (.iconst 1, 1, (0, 0, 0, 0)) := by decide +kernel
theorem kc_68_20 : zcode 68 20 = some (.if_icmp .eq 5, 3, (25, 0, 0, 0)) := by decide +kernel
theorem kc_68_23 : zcode 68 23 = some (.iconst (-1), 1, (0, 0, 0, 0)) := by decide +kernel
theorem kc_68_24 : zcode 68 24 = some (.ireturn, 1, (0, 0, 0, 0)) := by decide +kernel
theorem kc_68_25 : zcode 68 25 = some (.iconst 0, 1, (0, 0, 0, 0)) := by decide +kernel
theorem kc_68_26 : zcode 68 26 = some (.istore_n 3, 1, (0, 0, 0, 0)) := by decide +kernel
theorem kc_68_27 : zcode 68 27 = some (.bipush (-5), 2, (0, 0, 0, 0)) := by decide +kernel
theorem kc_68_29 : zcode 68 29 = some (.istore 4, 2, (0, 0, 0, 0)) := by decide +kernel
theorem kc_68_31 : zcode 68 31 = some (.aload_n 0, 1, (0, 0, 0, 0)) := by decide +kernel
theorem kc_68_32 : zcode 68 32 = some (.getfield 18, 3, (7, 1, 262, 0)) := by decide +kernel
theorem kc_68_35 : zcode 68 35 = some (.aload_n 0, 1, (0, 0, 0, 0)) := by decide +kernel
theorem kc_68_36 : zcode 68 36 = some (.getfield 12, 3, (7, 0, 261, 0)) := by decide +kernel
theorem kc_68_39 : zcode 68 39 = some (.invokevirtual 188, 3, (17, 0, 476, 0)) := by decide +kernel
theorem kc_68_42 : zcode 68 42 = some (.iconst 1, 1, (0, 0, 0, 0)) := by decide +kernel
theorem kc_68_43 : zcode 68 43 = some (.istore 5, 2, (0, 0, 0, 0)) := by decide +kernel
theorem kc_68_45 : zcode 68 45 = some (.iload 5, 2, (0, 0, 0, 0)) := by decide +kernel
theorem kc_68_47 : zcode 68 47 = some (.bipush 30, 2, (0, 0, 0, 0)) := by decide +kernel
theorem kc_68_49 : zcode 68 49 = some (.if_icmp .gt 62, 3, (111, 0, 0, 0)) := by decide +kernel
theorem kc_68_52 : zcode 68 52 = some (.aload_n 0, 1, (0, 0, 0, 0)) := by decide +kernel
theorem kc_68_53 : zcode 68 53 = some (.getfield 18, 3, (7, 1, 262, 0)) := by decide +kernel
theorem kc_68_56 : zcode 68 56 = some (.getfield 75, 3, (3, 0, 109, 0)) := by decide +kernel
theorem kc_68_59 : zcode 68 59 = some (.iload_n 1, 1, (0, 0, 0, 0)) := by decide +kernel
theorem kc_68_60 : zcode 68 60 = some (.iload 5, 2, (0, 0, 0, 0)) := by decide +kernel
theorem kc_68_62 : zcode 68 62 = some (.invokevirtual 92, 3, (5, 0, 311, 0)) := by decide +kernel
theorem kc_68_65 : zcode 68 65 = some (.aload_n 0, 1, (0, 0, 0, 0)) := by decide +kernel
theorem kc_68_66 : zcode 68 66 = some (.getfield 18, 3, (7, 1, 262, 0)) := by decide +kernel
theorem kc_68_69 : zcode 68 69 = some (.invokevirtual 112, 3, (16, 0, 351, 0)) := by decide +kernel
theorem kc_68_72 : zcode 68 72 = some (.ifCond .eq 33, 3, (105, 0, 0, 0)) := by decide +kernel
theorem kc_68_75 : zcode 68 75 = some (.aload_n 0, 1, (0, 0, 0, 0)) := by decide +kernel
theorem kc_68_76 : zcode 68 76 = some (.getfield 18, 3, (7, 1, 262, 0)) := by decide +kernel
theorem kc_68_79 : zcode 68 79 = some (.aload_n 0, 1, (0, 0, 0, 0)) := by decide +kernel
theorem kc_68_80 : zcode 68 80 = some (.getfield 40, 3, (7, 4, 265, 0)) := by decide +kernel
theorem kc_68_83 : zcode 68 83 = some (.invokestatic 231, 3, (69, 0, 571, 0)) := by decide +kernel
theorem kc_68_86 : zcode 68 86 = some (.ifCond .ge 19, 3, (105, 0, 0, 0)) := by decide +kernel
theorem kc_68_89 : zcode 68 89 = some (.iload_n 3, 1, (0, 0, 0, 0)) := by decide +kernel
theorem kc_68_90 : zcode 68 90 = some (.ifCond .ne 8, 3, (98, 0, 0, 0)) := by decide +kernel
theorem kc_68_93 : zcode 68 93 = some (.iload 5, 2, (0, 0, 0, 0)) := by decide +kernel
theorem kc_68_95 : zcode 68 95 = some (.goto 5, 3, (100, 0, 0, 0)) := by decide +kernel
theorem kc_68_98 : zcode 68 98 = some (.iload 4, 2, (0, 0, 0, 0)) := by decide +kernel
theorem kc_68_100 : zcode 68 100 = some (.istore 4, 2, (0, 0, 0, 0)) := by decide +kernel
theorem kc_68_102 : zcode 68 102 = some (.iinc 3 1, 3, (0, 0, 0, 0)) := by decide +kernel
theorem kc_68_105 : zcode 68 105 = some (.iinc 5 1, 3, (0, 0, 0, 0)) := by decide +kernel
theorem kc_68_108 : zcode 68 108 = some (.goto (-63), 3, (45, 0, 0, 0)) := by decide +kernel
theorem kc_68_111 : zcode 68 111 = some (.iload_n 2, 1, (0, 0, 0, 0)) := by decide +kernel
theorem kc_68_112 : zcode 68 112 = some (.ifCond .ne 7, 3, (119, 0, 0, 0)) := by decide +kernel
theorem kc_68_115 : zcode 68 115 = some (.iload_n 3, 1, (0, 0, 0, 0)) := by decide +kernel
theorem kc_68_116 : zcode 68 116 = some (.goto 5, 3, (121, 0, 0, 0)) := by decide +kernel
theorem kc_68_119 : zcode 68 119 = some (.iload 4, 2, (0, 0, 0, 0)) := by decide +kernel
theorem kc_68_121 : zcode 68 121 = some (.ireturn, 1, (0, 0, 0, 0)) := by decide +kernel
theorem kc_69_0 : zcode 69 0 = some (.iconst 0, 1, (0, 0, 0, 0)) := by decide +kernel
theorem kc_69_1 : zcode 69 1 = some (.istore_n 2, 1, (0, 0, 0, 0)) := by decide +kernel
theorem kc_69_2 : zcode 69 2 = some (.iload_n 2, 1, (0, 0, 0, 0)) := by decide +kernel
theorem kc_69_3 : zcode 69 3 = some (.aload_n 1, 1, (0, 0, 0, 0)) := by decide +kernel
theorem kc_69_4 : zcode 69 4 = some (.getfield 228, 3, (2, 3, 165, 0)) := by decide +kernel
theorem kc_69_7 : zcode 69 7 = some (.if_icmp .ge 34, 3, (41, 0, 0, 0)) := by decide +kernel
theorem kc_69_10 : zcode 69 10 = some (.aload_n 0, 1, (0, 0, 0, 0)) := by decide +kernel
theorem kc_69_11 : zcode 69 11 = some (.aload_n 0, 1, (0, 0, 0, 0)) := by decide +kernel
theorem kc_69_12 : zcode 69 12 = some (.getfield 105, 3, (3, 3, 115, 0)) := by decide +kernel
theorem kc_69_15 : zcode 69 15 = some (.aload_n 1, 1, (0, 0, 0, 0)) := by decide +kernel
theorem kc_69_16 : zcode 69 16 = some (.getfield 235, 3, (2, 0, 160, 0)) := by decide +kernel
theorem kc_69_19 : zcode 69 19 = some (.iload_n 2, 1, (0, 0, 0, 0)) := by decide +kernel
theorem kc_69_20 : zcode 69 20 = some (.iaload, 1, (0, 0, 0, 0)) := by decide +kernel
theorem kc_69_21 : zcode 69 21 = some (.invokevirtual 163, 3, (19, 0, 444, 0)) := by decide +kernel
theorem kc_69_24 : zcode 69 24 = some (.aload_n 1, 1, (0, 0, 0, 0)) := by decide +kernel
theorem kc_69_25 : zcode 69 25 = some (.getfield 238, 3, (2, 1, 162, 0)) := by decide +kernel
theorem kc_69_28 : zcode 69 28 = some (.iload_n 2, 1, (0, 0, 0, 0)) := by decide +kernel
theorem kc_69_29 : zcode 69 29 = some (.iaload, 1, (0, 0, 0, 0)) := by decide +kernel
theorem kc_69_30 : zcode 69 30 = some (.if_icmp .eq 5, 3, (35, 0, 0, 0)) := by decide +kernel
theorem kc_69_33 : zcode 69 33 = some (.iload_n 2, 1, (0, 0, 0, 0)) := by decide +kernel
theorem kc_69_34 : zcode 69 34 = some (.ireturn, 1, (0, 0, 0, 0)) := by decide +kernel
theorem kc_69_35 : zcode 69 35 = some (.iinc 2 1, 3, (0, 0, 0, 0)) := by decide +kernel
theorem kc_69_38 : zcode 69 38 = some (.goto (-36), 3, (2, 0, 0, 0)) := by decide +kernel
theorem kc_69_41 : zcode 69 41 = some (.bipush (-5), 2, (0, 0, 0, 0)) := by decide +kernel
theorem kc_69_43 : zcode 69 43 = some (.ireturn, 1, (0, 0, 0, 0)) := by decide +kernel
theorem kc_70_0 : zcode 70 0 = some (.iload_n 1, 1, (0, 0, 0, 0)) := by decide +kernel
theorem kc_70_1 : zcode 70 1 = some (.invokestatic 102, 3, (86, 0, 336, 0)) := by decide +kernel
theorem kc_70_4 : zcode 70 4 = some (.ifCond .eq 24, 3, (28, 0, 0, 0)) := by decide +kernel
theorem kc_70_7 : zcode 70 7 = some (.aload_n 0, 1, (0, 0, 0, 0)) := by decide +kernel
theorem kc_70_8 : zcode 70 8 = some (.getfield 12, 3, (7, 0, 261, 0)) := by decide +kernel
theorem kc_70_11 : zcode 70 11 = some (.getfield 75, 3, (3, 0, 109, 0)) := by decide +kernel
theorem kc_70_14 : zcode 70 14 = some (.iload_n 2, 1, (0, 0, 0, 0)) := by decide +kernel
theorem kc_70_15 : zcode 70 15 = some (.invokevirtual 85, 3, (1, 0, 307, 0)) := by decide +kernel
theorem kc_70_18 : zcode 70 18 = some (.ifCond .eq 10, 3, (28, 0, 0, 0)) := by decide +kernel
theorem kc_70_21 : zcode 70 21 = some (.iload_n 3, 1, (0, 0, 0, 0)) := by decide +kernel
theorem kc_70_22 : zcode 70 22 = some (.invokestatic 154, 3, (87, 0, 392, 0)) := by decide +kernel
theorem kc_70_25 : zcode 70 25 = some (.ifCond .ne 7, 3, (32, 0, 0, 0)) := by decide +kernel
theorem kc_70_28 : zcode 70 28 = some (.ldc2_w 157, 3, (0, 0, 395, -9223372036854775808)) := by decide +kernel
theorem kc_70_31 : zcode 70 31 = some (.lreturn, 1, (0, 0, 0, 0)) := by decide +kernel
theorem kc_70_32 : zcode 70 32 = some (.aload_n 0, 1, (0, 0, 0, 0)) := by decide +kernel
theorem kc_70_33 : zcode 70 33 = some (.getfield 12, 3, (7, 0, 261, 0)) := by decide +kernel
theorem kc_70_36 : zcode 70 36 = some (.getfield 75, 3, (3, 0, 109, 0)) := by decide +kernel
theorem kc_70_39 : zcode 70 39 = some (.astore 4, 2, (0, 0, 0, 0)) := by decide +kernel
theorem kc_70_41 : zcode 70 41 = some (.aload 4, 2, (0, 0, 0, 0)) := by decide +kernel
theorem kc_70_43 : zcode 70 43 = some (.invokevirtual 108, 3, (2, 0, 347, 0)) := by decide +kernel
theorem kc_70_46 : zcode 70 46 = some (.istore 5, 2, (0, 0, 0, 0)) := by decide +kernel
theorem kc_70_48 : zcode 70 48 = some (.aload 4, 2, (0, 0, 0, 0)) := by decide +kernel
theorem kc_70_50 : zcode 70 50 = some (.getfield 88, 3, (0, 0, 88, 0)) := by decide +kernel
theorem kc_70_53 : zcode 70 53 = some (.iload_n 2, 1, (0, 0, 0, 0)) := by decide +kernel
theorem kc_70_54 : zcode 70 54 = some (.iaload, 1, (0, 0, 0, 0)) := by decide +kernel
theorem kc_70_55 : zcode 70 55 = some (.i2l, 1, (0, 0, 0, 0)) := by decide +kernel
theorem kc_70_56 : zcode 70 56 = some (.aload 4, 2, (0, 0, 0, 0)) := by decide +kernel
theorem kc_70_58 : zcode 70 58 = some (.iload_n 1, 1, (0, 0, 0, 0)) := by decide +kernel
theorem kc_70_59 : zcode 70 59 = some (.invokevirtual 166, 3, (7, 0, 452, 0)) := by decide +kernel
theorem kc_70_62 : zcode 70 62 = some (.lmul, 1, (0, 0, 0, 0)) := by decide +kernel
theorem kc_70_63 : zcode 70 63 = some (.lstore 6, 2, (0, 0, 0, 0)) := by decide +kernel
theorem kc_70_65 : zcode 70 65 = some (.iconst 0, 1, (0, 0, 0, 0)) := by decide +kernel
theorem kc_70_66 : zcode 70 66 = some (.istore 8, 2, (0, 0, 0, 0)) := by decide +kernel
theorem kc_70_68 : zcode 70 68 = some (.iconst 0, 1, (0, 0, 0, 0)) := by decide +kernel
theorem kc_70_69 : zcode 70 69 = some (.istore 9, 2, (0, 0, 0, 0)) := by decide +kernel
theorem kc_70_71 : zcode 70 71 = some (.iload 9, 2, (0, 0, 0, 0)) := by decide +kernel
theorem kc_70_73 : zcode 70 73 = some (.iload 5, 2, (0, 0, 0, 0)) := by decide +kernel
theorem kc_70_75 : zcode 70 75 = some (.if_icmp .gt 33, 3, (108, 0, 0, 0)) := by decide +kernel
theorem kc_70_78 : zcode 70 78 = some (.ldc2_w 241, 3, (0, 0, 578, 2)) := by decide +kernel
theorem kc_70_81 : zcode 70 81 = some (.aload 4, 2, (0, 0, 0, 0)) := by decide +kernel
theorem kc_70_83 : zcode 70 83 = some (.iload_n 1, 1, (0, 0, 0, 0)) := by decide +kernel
theorem kc_70_84 : zcode 70 84 = some (.iload_n 2, 1, (0, 0, 0, 0)) := by decide +kernel
theorem kc_70_85 : zcode 70 85 = some (.iload 9, 2, (0, 0, 0, 0)) := by decide +kernel
theorem kc_70_87 : zcode 70 87 = some (.i2l, 1, (0, 0, 0, 0)) := by decide +kernel
theorem kc_70_88 : zcode 70 88 = some (.lconst 1, 1, (0, 0, 0, 0)) := by decide +kernel
theorem kc_70_89 : zcode 70 89 = some (.invokevirtual 170, 3, (8, 0, 453, 0)) := by decide +kernel
theorem kc_70_92 : zcode 70 92 = some (.lmul, 1, (0, 0, 0, 0)) := by decide +kernel
theorem kc_70_93 : zcode 70 93 = some (.lload 6, 2, (0, 0, 0, 0)) := by decide +kernel
theorem kc_70_95 : zcode 70 95 = some (.lcmp, 1, (0, 0, 0, 0)) := by decide +kernel
theorem kc_70_96 : zcode 70 96 = some (.ifCond .lt 6, 3, (102, 0, 0, 0)) := by decide +kernel
theorem kc_70_99 : zcode 70 99 = some (.iinc 8 1, 3, (0, 0, 0, 0)) := by decide +kernel
theorem kc_70_102 : zcode 70 102 = some (.iinc 9 1, 3, (0, 0, 0, 0)) := by decide +kernel
theorem kc_70_105 : zcode 70 105 = some (.goto (-34), 3, (71, 0, 0, 0)) := by decide +kernel
theorem kc_70_108 : zcode 70 108 = some (.iload 8, 2, (0, 0, 0, 0)) := by decide +kernel
theorem kc_70_110 : zcode 70 110 = some (.i2l, 1, (0, 0, 0, 0)) := by decide +kernel
theorem kc_70_111 : zcode 70 111 = some (.iload 5, 2, (0, 0, 0, 0)) := by decide +kernel
theorem kc_70_113 : zcode 70 113 = some (.iconst 1, 1, (0, 0, 0, 0)) := by decide +kernel
theorem kc_70_114 : zcode 70 114 = some (.iadd, 1, (0, 0, 0, 0)) := by decide +kernel
theorem kc_70_115 : zcode 70 115 = some (.i2l, 1, (0, 0, 0, 0)) := by decide +kernel
theorem kc_70_116 : zcode 70 116 = some (.iload_n 3, 1, (0, 0, 0, 0)) := by decide +kernel
theorem kc_70_117 : zcode 70 117 = some (.invokestatic 174, 3, (90, 0, 454, 0)) := by decide +kernel
theorem kc_70_120 : zcode 70 120 = some (.lreturn, 1, (0, 0, 0, 0)) := by decide +kernel
theorem kc_71_0 : zcode 71 0 = some (.iload_n 1, 1, (0, 0, 0, 0)) := by decide +kernel
theorem kc_71_1 : zcode 71 1 = some (.invokestatic 154, 3, (87, 0, 392, 0)) := by decide +kernel
theorem kc_71_4 : zcode 71 4 = some (.ifCond .eq 17, 3, (21, 0, 0, 0)) := by decide +kernel
theorem kc_71_7 : zcode 71 7 = some (.aload_n 0, 1, (0, 0, 0, 0)) := by decide +kernel
theorem kc_71_8 : zcode 71 8 = some (.getfield 12, 3, (7, 0, 261, 0)) := by decide +kernel
theorem kc_71_11 : zcode 71 11 = some (.getfield 75, 3, (3, 0, 109, 0)) := by decide +kernel
theorem kc_71_14 : zcode 71 14 = some (.getfield 78, 3, (0, 3, 95, 0)) := by decide +kernel
theorem kc_71_17 : zcode 71 17 = some (.iconst 1, 1, (0, 0, 0, 0)) := by decide +kernel
theorem kc_71_18 : zcode 71 18 = some (.if_icmp .ge 7, 3, (25, 0, 0, 0)) := by decide +kernel
theorem kc_71_21 : zcode 71 21 = some (.ldc2_w 157, 3, (0, 0, 395, -9223372036854775808)) := by decide +kernel
theorem kc_71_24 : zcode 71 24 = some (.lreturn, 1, (0, 0, 0, 0)) := by decide +kernel
theorem kc_71_25 : zcode 71 25 = some (.aload_n 0, 1, (0, 0, 0, 0)) := by decide +kernel
theorem kc_71_26 : zcode 71 26 = some (.getfield 12, 3, (7, 0, 261, 0)) := by decide +kernel
theorem kc_71_29 : zcode 71 29 = some (.getfield 99, 3, (3, 2, 113, 0)) := by decide +kernel
theorem kc_71_32 : zcode 71 32 = some (.i2l, 1, (0, 0, 0, 0)) := by decide +kernel
theorem kc_71_33 : zcode 71 33 = some (.aload_n 0, 1, (0, 0, 0, 0)) := by decide +kernel
theorem kc_71_34 : zcode 71 34 = some (.getfield 12, 3, (7, 0, 261, 0)) := by decide +kernel
theorem kc_71_37 : zcode 71 37 = some (.getfield 75, 3, (3, 0, 109, 0)) := by decide +kernel
theorem kc_71_40 : zcode 71 40 = some (.getfield 78, 3, (0, 3, 95, 0)) := by decide +kernel
theorem kc_71_43 : zcode 71 43 = some (.i2l, 1, (0, 0, 0, 0)) := by decide +kernel
theorem kc_71_44 : zcode 71 44 = some (.iload_n 1, 1, (0, 0, 0, 0)) := by decide +kernel
theorem kc_71_45 : zcode 71 45 = some (.invokestatic 174, 3, (90, 0, 454, 0)) := by decide +kernel
theorem kc_71_48 : zcode 71 48 = some (.lreturn, 1, (0, 0, 0, 0)) := by decide +kernel
theorem kc_72_0 : zcode 72 0 = some (.iload_n 1, 1, (0, 0, 0, 0)) := by decide +kernel
theorem kc_72_1 : zcode 72 1 = some (.iconst (-1), 1, (0, 0, 0, 0)) := by decide +kernel
theorem kc_72_2 : zcode 72 2 = some (.if_icmp .ne 13, 3, (15, 0, 0, 0)) := by decide +kernel
theorem kc_72_5 : zcode 72 5 = some (.aload_n 0, 1, (0, 0, 0, 0)) := by decide +kernel
theorem kc_72_6 : zcode 72 6 = some (.getfield 44, 3, (7, 5, 266, 0)) := by decide +kernel
theorem kc_72_9 : zcode 72 9 = some (.iconst 0, 1, (0, 0, 0, 0)) := by decide +kernel
theorem kc_72_10 : zcode 72 10 = some (.putfield 228, 3, (2, 3, 165, 0)) := by decide +kernel
theorem kc_72_13 : zcode 72 13 = some (.iconst 0, 1, (0, 0, 0, 0)) := by decide +kernel
theorem kc_72_14 : zcode 72 14 = some (.ireturn, 1, (0, 0, 0, 0)) := by decide +kernel
theorem kc_72_15 : zcode 72 15 = some (.iload_n 1, 1, (0, 0, 0, 0)) := by decide +kernel
theorem kc_72_16 : zcode 72 16 = some (.ifCond .lt 27, 3, (43, 0, 0, 0)) := by decide +kernel
theorem kc_72_19 : zcode 72 19 = some (.iload_n 1, 1, (0, 0, 0, 0)) := by decide +kernel
theorem kc_72_20 : zcode 72 20 = some (.iconst 3, 1, (0, 0, 0, 0)) := by decide +kernel
theorem kc_72_21 : zcode 72 21 = some (.if_icmp .gt 22, 3, (43, 0, 0, 0)) := by decide +kernel
theorem kc_72_24 : zcode 72 24 = some (.iload_n 1, 1, (0, 0, 0, 0)) := by decide +kernel
theorem kc_72_25 : zcode 72 25 = some (.iconst 2, 1, (0, 0, 0, 0)) := by decide +kernel
theorem kc_72_26 : zcode 72 26 = some (.if_icmp .ge 19, 3, (45, 0, 0, 0)) := by decide +kernel
theorem kc_72_29 : zcode 72 29 = some (.aload_n 0, 1, (0, 0, 0, 0)) := by decide +kernel
theorem kc_72_30 : zcode 72 30 = some (.getfield 12, 3, (7, 0, 261, 0)) := by decide +kernel
theorem kc_72_33 : zcode 72 33 = some (.getfield 75, 3, (3, 0, 109, 0)) := by decide +kernel
theorem kc_72_36 : zcode 72 36 = some (.iload_n 2, 1, (0, 0, 0, 0)) := by decide +kernel
theorem kc_72_37 : zcode 72 37 = some (.invokevirtual 85, 3, (1, 0, 307, 0)) := by decide +kernel
theorem kc_72_40 : zcode 72 40 = some (.ifCond .ne 5, 3, (45, 0, 0, 0)) := by decide +kernel
theorem kc_72_43 : zcode 72 43 = some (.iconst (-1), 1, (0, 0, 0, 0)) := by decide +kernel
theorem kc_72_44 : zcode 72 44 = some (.ireturn, 1, (0, 0, 0, 0)) := by decide +kernel
theorem kc_72_45 : zcode 72 45 = some (.iload_n 1, 1, (0, 0, 0, 0)) := by decide +kernel
theorem kc_72_46 : zcode 72 46 = some (.iconst 2, 1, (0, 0, 0, 0)) := by decide +kernel
theorem kc_72_47 : zcode 72 47 = some (.if_icmp .ne 10, 3, (57, 0, 0, 0)) := by decide +kernel
theorem kc_72_50 : zcode 72 50 = some (.iload_n 2, 1, (0, 0, 0, 0)) := by decide +kernel
theorem kc_72_51 : zcode 72 51 = some (.invokestatic 102, 3, (86, 0, 336, 0)) := by decide +kernel
theorem kc_72_54 : zcode 72 54 = some (.ifCond .eq 15, 3, (69, 0, 0, 0)) := by decide +kernel
theorem kc_72_57 : zcode 72 57 = some (.iload_n 1, 1, (0, 0, 0, 0)) := by decide +kernel
theorem kc_72_58 : zcode 72 58 = some (.iconst 3, 1, (0, 0, 0, 0)) := by decide +kernel
theorem kc_72_59 : zcode 72 59 = some (.if_icmp .ne 13, 3, (72, 0, 0, 0)) := by decide +kernel
theorem kc_72_62 : zcode 72 62 = some (.iload_n 2, 1, (0, 0, 0, 0)) := by decide +kernel
theorem kc_72_63 : zcode 72 63 = some (.invokestatic 96, 3, (85, 0, 329, 0)) := by decide +kernel
theorem kc_72_66 : zcode 72 66 = some (.ifCond .ne 6, 3, (72, 0, 0, 0)) := by decide +kernel
theorem kc_72_69 : zcode 72 69 = some (.bipush (-2), 2, (0, 0, 0, 0)) := by decide +kernel
theorem kc_72_71 : zcode 72 71 = some (.ireturn, 1, (0, 0, 0, 0)) := by decide +kernel
theorem kc_72_72 : zcode 72 72 = some (.aload_n 0, 1, (0, 0, 0, 0)) := by decide +kernel
theorem kc_72_73 : zcode 72 73 = some (.getfield 44, 3, (7, 5, 266, 0)) := by decide +kernel
theorem kc_72_76 : zcode 72 76 = some (.iload_n 1, 1, (0, 0, 0, 0)) := by decide +kernel
theorem kc_72_77 : zcode 72 77 = some (.iload_n 2, 1, (0, 0, 0, 0)) := by decide +kernel
theorem kc_72_78 : zcode 72 78 = some (.invokevirtual 229, 3, (13, 0, 563, 0)) := by decide +kernel
theorem kc_72_81 : zcode 72 81 = some (.ireturn, 1, (0, 0, 0, 0)) := by decide +kernel
theorem kc_73_0 : zcode 73 0 = some (.iload_n 1, 1, (0, 0, 0, 0)) := by decide +kernel
theorem kc_73_1 : zcode 73 1 = some (.ifCond .lt 8, 3, (9, 0, 0, 0)) := by decide +kernel
theorem kc_73_4 : zcode 73 4 = some (.iload_n 1, 1, (0, 0, 0, 0)) := by decide +kernel
theorem kc_73_5 : zcode 73 5 = some (.iconst 2, 1, (0, 0, 0, 0)) := by decide +kernel
theorem kc_73_6 : zcode 73 6 = some (.if_icmp .le 7, 3, (13, 0, 0, 0)) := by decide +kernel
theorem kc_73_9 : zcode 73 9 = some (.ldc2_w 157, 3, (0, 0, 395, -9223372036854775808)) := by decide +kernel
theorem kc_73_12 : zcode 73 12 = some (.lreturn, 1, (0, 0, 0, 0)) := by decide +kernel
theorem kc_73_13 : zcode 73 13 = some (.aload_n 0, 1, (0, 0, 0, 0)) := by decide +kernel
theorem kc_73_14 : zcode 73 14 = some (.getfield 18, 3, (7, 1, 262, 0)) := by decide +kernel
theorem kc_73_17 : zcode 73 17 = some (.aload_n 0, 1, (0, 0, 0, 0)) := by decide +kernel
theorem kc_73_18 : zcode 73 18 = some (.getfield 12, 3, (7, 0, 261, 0)) := by decide +kernel
theorem kc_73_21 : zcode 73 21 = some (.invokevirtual 188, 3, (17, 0, 476, 0)) := by decide +kernel
theorem kc_73_24 : zcode 73 24 = some (.iconst 0, 1, (0, 0, 0, 0)) := by decide +kernel
theorem kc_73_25 : zcode 73 25 = some (.istore_n 2, 1, (0, 0, 0, 0)) := by decide +kernel
theorem kc_73_26 : zcode 73 26 = some (.iload_n 2, 1, (0, 0, 0, 0)) := by decide +kernel
theorem kc_73_27 : zcode 73 27 = some (.aload_n 0, 1, (0, 0, 0, 0)) := by decide +kernel
theorem kc_73_28 : zcode 73 28 = some (.getfield 44, 3, (7, 5, 266, 0)) := by decide +kernel
theorem kc_73_31 : zcode 73 31 = some (.getfield 228, 3, (2, 3, 165, 0)) := by decide +kernel
theorem kc_73_34 : zcode 73 34 = some (.if_icmp .ge 34, 3, (68, 0, 0, 0)) := by decide +kernel
theorem kc_73_37 : zcode 73 37 = some (.aload_n 0, 1, (0, 0, 0, 0)) := by decide +kernel
theorem kc_73_38 : zcode 73 38 = some (.getfield 18, 3, (7, 1, 262, 0)) := by decide +kernel
theorem kc_73_41 : zcode 73 41 = some (.aload_n 0, 1, (0, 0, 0, 0)) := by decide +kernel
theorem kc_73_42 : zcode 73 42 = some (.getfield 44, 3, (7, 5, 266, 0)) := by decide +kernel
theorem kc_73_45 : zcode 73 45 = some (.getfield 235, 3, (2, 0, 160, 0)) := by decide +kernel
theorem kc_73_48 : zcode 73 48 = some (.iload_n 2, 1, (0, 0, 0, 0)) := by decide +kernel
theorem kc_73_49 : zcode 73 49 = some (.iaload, 1, (0, 0, 0, 0)) := by decide +kernel
theorem kc_73_50 : zcode 73 50 = some (.aload_n 0, 1, (0, 0, 0, 0)) := by decide +kernel
theorem kc_73_51 : zcode 73 51 = some (.getfield 44, 3, (7, 5, 266, 0)) := by decide +kernel
theorem kc_73_54 : zcode 73 54 = some (.getfield 238, 3, (2, 1, 162, 0)) := by decide +kernel
theorem kc_73_57 : zcode 73 57 = some (.iload_n 2, 1, (0, 0, 0, 0)) := by decide +kernel
theorem kc_73_58 : zcode 73 58 = some (.iaload, 1, (0, 0, 0, 0)) := by decide +kernel
theorem kc_73_59 : zcode 73 59 = some (.invokevirtual 243, 3, (24, 0, 591, 0)) := by decide +kernel
theorem kc_73_62 : zcode 73 62 = some (.iinc 2 1, 3, (0, 0, 0, 0)) := by decide +kernel
theorem kc_73_65 : zcode 73 65 = some (.goto (-39), 3, (26, 0, 0, 0)) := by decide +kernel
theorem kc_73_68 : zcode 73 68 = some (.aload_n 0, 1, (0, 0, 0, 0)) := by decide +kernel
theorem kc_73_69 : zcode 73 69 = some (.getfield 18, 3, (7, 1, 262, 0)) := by decide +kernel
theorem kc_73_72 : zcode 73 72 = some (.invokevirtual 112, 3, (16, 0, 351, 0)) := by decide +kernel
theorem kc_73_75 : zcode 73 75 = some (.ifCond .ne 7, 3, (82, 0, 0, 0)) := by decide +kernel
theorem kc_73_78 : zcode 73 78 = some (.ldc2_w 157, 3, (0, 0, 395, -9223372036854775808)) := by decide +kernel
theorem kc_73_81 : zcode 73 81 = some (.lreturn, 1, (0, 0, 0, 0)) := by decide +kernel
theorem kc_73_82 : zcode 73 82 = some (.iload_n 1, 1, (0, 0, 0, 0)) := by decide +kernel
theorem kc_73_83 : zcode 73 83 = some (.iconst 2, 1, (0, 0, 0, 0)) := by decide +kernel
theorem kc_73_84 : zcode 73 84 = some (.if_icmp .ne 21, 3, (105, 0, 0, 0)) := by decide +kernel
theorem kc_73_87 : zcode 73 87 = some (.aload_n 0, 1, (0, 0, 0, 0)) := by decide +kernel
theorem kc_73_88 : zcode 73 88 = some (.getfield 18, 3, (7, 1, 262, 0)) := by decide +kernel
theorem kc_73_91 : zcode 73 91 = some (.aload_n 0, 1, (0, 0, 0, 0)) := by decide +kernel
theorem kc_73_92 : zcode 73 92 = some (.getfield 18, 3, (7, 1, 262, 0)) := by decide +kernel
theorem kc_73_95 : zcode 73 95 = some (.getfield 105, 3, (3, 3, 115, 0)) := by decide +kernel
theorem kc_73_98 : zcode 73 98 = some (.invokevirtual 192, 3, (20, 0, 493, 0)) := by decide +kernel
theorem kc_73_101 : zcode 73 101 = some (.i2l, 1, (0, 0, 0, 0)) := by decide +kernel
theorem kc_73_102 : zcode 73 102 = some (.goto 19, 3, (121, 0, 0, 0)) := by decide +kernel
theorem kc_73_105 : zcode 73 105 = some (.aload_n 0, 1, (0, 0, 0, 0)) := by decide +kernel
theorem kc_73_106 : zcode 73 106 = some (.getfield 18, 3, (7, 1, 262, 0)) := by decide +kernel
theorem kc_73_109 : zcode 73 109 = some (.aload_n 0, 1, (0, 0, 0, 0)) := by decide +kernel
theorem kc_73_110 : zcode 73 110 = some (.getfield 18, 3, (7, 1, 262, 0)) := by decide +kernel
theorem kc_73_113 : zcode 73 113 = some (.getfield 105, 3, (3, 3, 115, 0)) := by decide +kernel
theorem kc_73_116 : zcode 73 116 = some (.iconst 0, 1, (0, 0, 0, 0)) := by decide +kernel
theorem kc_73_117 : zcode 73 117 = some (.iload_n 1, 1, (0, 0, 0, 0)) := by decide +kernel
theorem kc_73_118 : zcode 73 118 = some (.invokevirtual 159, 3, (18, 0, 396, 0)) := by decide +kernel
theorem kc_73_121 : zcode 73 121 = some (.lreturn, 1, (0, 0, 0, 0)) := by decide +kernel
theorem kc_74_0 : zcode 74 0 = some (.aload_n 0, 1, (0, 0, 0, 0)) := by decide +kernel
theorem kc_74_1 : zcode 74 1 = some (.aload_n 0, 1, (0, 0, 0, 0)) := by decide +kernel
theorem kc_74_2 : zcode 74 2 = some (.getfield 47, 3, (7, 6, 267, 0)) := by decide +kernel
theorem kc_74_5 : zcode 74 5 = some (.iload_n 1, 1, (0, 0, 0, 0)) := by decide +kernel
theorem kc_74_6 : zcode 74 6 = some (.iload_n 2, 1, (0, 0, 0, 0)) := by decide +kernel
theorem kc_74_7 : zcode 74 7 = some (.invokevirtual 224, 3, (67, 0, 559, 0)) := by decide +kernel
theorem kc_74_10 : zcode 74 10 = some (.ireturn, 1, (0, 0, 0, 0)) := by decide +kernel
theorem kc_75_0 : zcode 75 0 = some (.aload_n 0, 1, (0, 0, 0, 0)) := by decide +kernel
theorem kc_75_1 : zcode 75 1 = some (.getfield 12, 3, (7, 0, 261, 0)) := by decide +kernel
theorem kc_75_4 : zcode 75 4 = some (.invokevirtual 112, 3, (16, 0, 351, 0)) := by decide +kernel
theorem kc_75_7 : zcode 75 7 = some (.ifCond .eq 17, 3, (24, 0, 0, 0)) := by decide +kernel
theorem kc_75_10 : zcode 75 10 = some (.aload_n 0, 1, (0, 0, 0, 0)) := by decide +kernel
theorem kc_75_11 : zcode 75 11 = some (.getfield 12, 3, (7, 0, 261, 0)) := by decide +kernel
theorem kc_75_14 : zcode 75 14 = some (.aload_n 0, 1, (0, 0, 0, 0)) := by decide +kernel
theorem kc_75_15 : zcode 75 15 = some (.getfield 47, 3, (7, 6, 267, 0)) := by decide +kernel
theorem kc_75_18 : zcode 75 18 = some (.invokestatic 231, 3, (69, 0, 571, 0)) := by decide +kernel
theorem kc_75_21 : zcode 75 21 = some (.goto 5, 3, (26, 0, 0, 0)) := by decide +kernel
theorem kc_75_24 : zcode 75 24 = some (.bipush (-3), 2, (0, 0, 0, 0)) := by decide +kernel
theorem kc_75_26 : zcode 75 26 = some (.ireturn, 1, (0, 0, 0, 0)) := by decide +kernel
theorem kc_76_0 : zcode 76 0 = some (.iload_n 1, 1, (0, 0, 0, 0)) := by decide +kernel
theorem kc_76_1 : zcode 76 1 = some (.invokestatic 246, 3, (89, 0, 612, 0)) := by decide +kernel
theorem kc_76_4 : zcode 76 4 = some (.ifCond .ne 5, 3, (9, 0, 0, 0)) := by decide +kernel
theorem kc_76_7 : zcode 76 7 = some (.iconst (-1), 1, (0, 0, 0, 0)) := by decide +kernel
theorem kc_76_8 : zcode 76 8 = some (.ireturn, 1, (0, 0, 0, 0)) := by decide +kernel
theorem kc_76_9 : zcode 76 9 = some (.aload_n 0, 1, (0, 0, 0, 0)) := by decide +kernel
theorem kc_76_10 : zcode 76 10 = some (.getfield 12, 3, (7, 0, 261, 0)) := by decide +kernel
theorem kc_76_13 : zcode 76 13 = some (.invokevirtual 112, 3, (16, 0, 351, 0)) := by decide +kernel
theorem kc_76_16 : zcode 76 16 = some (.ifCond .ne 6, 3, (22, 0, 0, 0)) := by decide +kernel
theorem kc_76_19 : zcode 76 19 = some (.bipush (-3), 2, (0, 0, 0, 0)) := by decide +kernel
theorem kc_76_21 : zcode 76 21 = some (.ireturn, 1, (0, 0, 0, 0)) := by decide +kernel
theorem kc_76_22 : zcode 76 22 = some (.aload_n 0, 1, (0, 0, 0, 0)) := by decide +kernel
theorem kc_76_23 : zcode 76 23 = some (.getfield 59, 3, (7, 8, 269, 0)) := by decide +kernel
theorem kc_76_26 : zcode 76 26 = some (.iload_n 1, 1, (0, 0, 0, 0)) := by decide +kernel
theorem kc_76_27 : zcode 76 27 = some (.aaload, 1, (0, 0, 0, 0)) := by decide +kernel
theorem kc_76_28 : zcode 76 28 = some (.astore_n 3, 1, (0, 0, 0, 0)) := by decide +kernel
theorem kc_76_29 : zcode 76 29 = some (.aload_n 3, 1, (0, 0, 0, 0)) := by decide +kernel
theorem kc_76_30 : zcode 76 30 = some (.getfield 249, 3, (4, 1, 251, 0)) := by decide +kernel
theorem kc_76_33 : zcode 76 33 = some (.iconst 3, 1, (0, 0, 0, 0)) := by decide +kernel
theorem kc_76_34 : zcode 76 34 = some (.if_icmp .eq 14, 3, (48, 0, 0, 0)) := by decide +kernel
theorem kc_76_37 : zcode 76 37 = some (.aload_n 3, 1, (0, 0, 0, 0)) := by decide +kernel
theorem kc_76_38 : zcode 76 38 = some (.getfield 249, 3, (4, 1, 251, 0)) := by decide +kernel
theorem kc_76_41 : zcode 76 41 = some (.iconst (-1), 1, (0, 0, 0, 0)) := by decide +kernel
theorem kc_76_42 : zcode 76 42 = some (.if_icmp .eq 6, 3, (48, 0, 0, 0)) := by decide +kernel
theorem kc_76_45 : zcode 76 45 = some (.bipush (-12), 2, (0, 0, 0, 0)) := by decide +kernel
theorem kc_76_47 : zcode 76 47 = some (.ireturn, 1, (0, 0, 0, 0)) := by decide +kernel
theorem kc_76_48 : zcode 76 48 = some (.aload_n 3, 1, (0, 0, 0, 0)) := by decide +kernel
theorem kc_76_49 : zcode 76 49 = some (.getfield 249, 3, (4, 1, 251, 0)) := by decide +kernel
theorem kc_76_52 : zcode 76 52 = some (.iconst (-1), 1, (0, 0, 0, 0)) := by decide +kernel
theorem kc_76_53 : zcode 76 53 = some (.if_icmp .eq 7, 3, (60, 0, 0, 0)) := by decide +kernel
theorem kc_76_56 : zcode 76 56 = some (.iload_n 2, 1, (0, 0, 0, 0)) := by decide +kernel
theorem kc_76_57 : zcode 76 57 = some (.ifCond .ge 6, 3, (63, 0, 0, 0)) := by decide +kernel
theorem kc_76_60 : zcode 76 60 = some (.bipush 100, 2, (0, 0, 0, 0)) := by decide +kernel
theorem kc_76_62 : zcode 76 62 = some (.ireturn, 1, (0, 0, 0, 0)) := by decide +kernel
theorem kc_76_63 : zcode 76 63 = some (.iconst 0, 1, (0, 0, 0, 0)) := by decide +kernel
theorem kc_76_64 : zcode 76 64 = some (.istore 4, 2, (0, 0, 0, 0)) := by decide +kernel
theorem kc_76_66 : zcode 76 66 = some (.iload 4, 2, (0, 0, 0, 0)) := by decide +kernel
theorem kc_76_68 : zcode 76 68 = some (.aload_n 0, 1, (0, 0, 0, 0)) := by decide +kernel
theorem kc_76_69 : zcode 76 69 = some (.getfield 12, 3, (7, 0, 261, 0)) := by decide +kernel
theorem kc_76_72 : zcode 76 72 = some (.getfield 75, 3, (3, 0, 109, 0)) := by decide +kernel
theorem kc_76_75 : zcode 76 75 = some (.getfield 78, 3, (0, 3, 95, 0)) := by decide +kernel
theorem kc_76_78 : zcode 76 78 = some (.if_icmp .ge 59, 3, (137, 0, 0, 0)) := by decide +kernel
theorem kc_76_81 : zcode 76 81 = some (.iload 4, 2, (0, 0, 0, 0)) := by decide +kernel
theorem kc_76_83 : zcode 76 83 = some (.aload_n 3, 1, (0, 0, 0, 0)) := by decide +kernel
theorem kc_76_84 : zcode 76 84 = some (.getfield 252, 3, (4, 2, 253, 0)) := by decide +kernel
theorem kc_76_87 : zcode 76 87 = some (.iload_n 2, 1, (0, 0, 0, 0)) := by decide +kernel
theorem kc_76_88 : zcode 76 88 = some (.isub, 1, (0, 0, 0, 0)) := by decide +kernel
theorem kc_76_89 : zcode 76 89 = some (.if_icmp .lt 9, 3, (98, 0, 0, 0)) := by decide +kernel
theorem kc_76_92 : zcode 76 92 = some (.bipush 100, 2, (0, 0, 0, 0)) := by decide +kernel
theorem kc_76_94 : zcode 76 94 = some (.iload 4, 2, (0, 0, 0, 0)) := by decide +kernel
theorem kc_76_96 : zcode 76 96 = some (.iadd, 1, (0, 0, 0, 0)) := by decide +kernel
theorem kc_76_97 : zcode 76 97 = some (.ireturn, 1, (0, 0, 0, 0)) := by decide +kernel
theorem kc_76_98 : zcode 76 98 = some (.aload_n 3, 1, (0, 0, 0, 0)) := by decide +kernel
theorem kc_76_99 : zcode 76 99 = some (.getfield 253, 3, (4, 0, 249, 0)) := by decide +kernel
theorem kc_76_102 : zcode 76 102 = some (.iload_n 2, 1, (0, 0, 0, 0)) := by decide +kernel
theorem kc_76_103 : zcode 76 103 = some (.iload 4, 2, (0, 0, 0, 0)) := by decide +kernel
theorem kc_76_105 : zcode 76 105 = some (.iadd, 1, (0, 0, 0, 0)) := by decide +kernel
theorem kc_76_106 : zcode 76 106 = some (.laload, 1, (0, 0, 0, 0)) := by decide +kernel
theorem kc_76_107 : zcode 76 107 = some (.aload_n 0, 1, (0, 0, 0, 0)) := by decide +kernel
theorem kc_76_108 : zcode 76 108 = some (.getfield 12, 3, (7, 0, 261, 0)) := by decide +kernel
theorem kc_76_111 : zcode 76 111 = some (.aload_n 0, 1, (0, 0, 0, 0)) := by decide +kernel
theorem kc_76_112 : zcode 76 112 = some (.getfield 12, 3, (7, 0, 261, 0)) := by decide +kernel
theorem kc_76_115 : zcode 76 115 = some (.getfield 105, 3, (3, 3, 115, 0)) := by decide +kernel
theorem kc_76_118 : zcode 76 118 = some (.iload 4, 2, (0, 0, 0, 0)) := by decide +kernel
theorem kc_76_120 : zcode 76 120 = some (.invokevirtual 163, 3, (19, 0, 444, 0)) := by decide +kernel
theorem kc_76_123 : zcode 76 123 = some (.i2l, 1, (0, 0, 0, 0)) := by decide +kernel
theorem kc_76_124 : zcode 76 124 = some (.lcmp, 1, (0, 0, 0, 0)) := by decide +kernel
theorem kc_76_125 : zcode 76 125 = some (.ifCond .eq 6, 3, (131, 0, 0, 0)) := by decide +kernel
theorem kc_76_128 : zcode 76 128 = some (.iload 4, 2, (0, 0, 0, 0)) := by decide +kernel
theorem kc_76_130 : zcode 76 130 = some (.ireturn, 1, (0, 0, 0, 0)) := by decide +kernel
theorem kc_76_131 : zcode 76 131 = some (.iinc 4 1, 3, (0, 0, 0, 0)) := by decide +kernel
theorem kc_76_134 : zcode 76 134 = some (.goto (-68), 3, (66, 0, 0, 0)) := by decide +kernel
theorem kc_76_137 : zcode 76 137 = some (.bipush (-5), 2, (0, 0, 0, 0)) := by decide +kernel
theorem kc_76_139 : zcode 76 139 = some (.ireturn, 1, (0, 0, 0, 0)) := by decide +kernel
theorem kc_77_0 : zcode 77 0 = some (.aload_n 0, 1, (0, 0, 0, 0)) := by decide +kernel
theorem kc_77_1 : zcode 77 1 = some (.getfield 66, 3, (7, 9, 270, 0)) := by decide +kernel
theorem kc_77_4 : zcode 77 4 = some (.iconst 1, 1, (0, 0, 0, 0)) := by decide +kernel
theorem kc_77_5 : zcode 77 5 = some (.putfield 257, 3, (1, 4, 231, 0)) := by decide +kernel
theorem kc_77_8 : zcode 77 8 = some (.aload_n 0, 1, (0, 0, 0, 0)) := by decide +kernel
theorem kc_77_9 : zcode 77 9 = some (.getfield 66, 3, (7, 9, 270, 0)) := by decide +kernel
theorem kc_77_12 : zcode 77 12 = some (.getfield 261, 3, (1, 0, 223, 0)) := by decide +kernel
theorem kc_77_15 : zcode 77 15 = some (.aload_n 0, 1, (0, 0, 0, 0)) := by decide +kernel
theorem kc_77_16 : zcode 77 16 = some (.getfield 12, 3, (7, 0, 261, 0)) := by decide +kernel
theorem kc_77_19 : zcode 77 19 = some (.invokevirtual 188, 3, (17, 0, 476, 0)) := by decide +kernel
theorem kc_77_22 : zcode 77 22 = some (.aload_n 0, 1, (0, 0, 0, 0)) := by decide +kernel
theorem kc_77_23 : zcode 77 23 = some (.getfield 66, 3, (7, 9, 270, 0)) := by decide +kernel
theorem kc_77_26 : zcode 77 26 = some (.getfield 262, 3, (1, 1, 225, 0)) := by decide +kernel
theorem kc_77_29 : zcode 77 29 = some (.aload_n 0, 1, (0, 0, 0, 0)) := by decide +kernel
theorem kc_77_30 : zcode 77 30 = some (.getfield 40, 3, (7, 4, 265, 0)) := by decide +kernel
theorem kc_77_33 : zcode 77 33 = some (.invokevirtual 263, 3, (14, 0, 619, 0)) := by decide +kernel
theorem kc_77_36 : zcode 77 36 = some (.aload_n 0, 1, (0, 0, 0, 0)) := by decide +kernel
theorem kc_77_37 : zcode 77 37 = some (.getfield 66, 3, (7, 9, 270, 0)) := by decide +kernel
theorem kc_77_40 : zcode 77 40 = some (.getfield 266, 3, (1, 2, 227, 0)) := by decide +kernel
theorem kc_77_43 : zcode 77 43 = some (.aload_n 0, 1, (0, 0, 0, 0)) := by decide +kernel
theorem kc_77_44 : zcode 77 44 = some (.getfield 44, 3, (7, 5, 266, 0)) := by decide +kernel
theorem kc_77_47 : zcode 77 47 = some (.invokevirtual 263, 3, (14, 0, 619, 0)) := by decide +kernel
theorem kc_77_50 : zcode 77 50 = some (.aload_n 0, 1, (0, 0, 0, 0)) := by decide +kernel
theorem kc_77_51 : zcode 77 51 = some (.getfield 66, 3, (7, 9, 270, 0)) := by decide +kernel
theorem kc_77_54 : zcode 77 54 = some (.getfield 267, 3, (1, 3, 229, 0)) := by decide +kernel
theorem kc_77_57 : zcode 77 57 = some (.aload_n 0, 1, (0, 0, 0, 0)) := by decide +kernel
theorem kc_77_58 : zcode 77 58 = some (.getfield 47, 3, (7, 6, 267, 0)) := by decide +kernel
theorem kc_77_61 : zcode 77 61 = some (.invokevirtual 263, 3, (14, 0, 619, 0)) := by decide +kernel
theorem kc_77_64 : zcode 77 64 = some (.aload_n 0, 1, (0, 0, 0, 0)) := by decide +kernel
theorem kc_77_65 : zcode 77 65 = some (.getfield 12, 3, (7, 0, 261, 0)) := by decide +kernel
theorem kc_77_68 : zcode 77 68 = some (.getfield 75, 3, (3, 0, 109, 0)) := by decide +kernel
theorem kc_77_71 : zcode 77 71 = some (.getfield 78, 3, (0, 3, 95, 0)) := by decide +kernel
theorem kc_77_74 : zcode 77 74 = some (.ireturn, 1, (0, 0, 0, 0)) := by decide +kernel
theorem kc_78_0 : zcode 78 0 = some (.aload_n 0, 1, (0, 0, 0, 0)) := by decide +kernel
theorem kc_78_1 : zcode 78 1 = some (.getfield 66, 3, (7, 9, 270, 0)) := by decide +kernel
theorem kc_78_4 : zcode 78 4 = some (.getfield 257, 3, (1, 4, 231, 0)) := by decide +kernel
theorem kc_78_7 : zcode 78 7 = some (.ifCond .ne 6, 3, (13, 0, 0, 0)) := by decide +kernel
theorem kc_78_10 : zcode 78 10 = some (.bipush (-3), 2, (0, 0, 0, 0)) := by decide +kernel
theorem kc_78_12 : zcode 78 12 = some (.ireturn, 1, (0, 0, 0, 0)) := by decide +kernel
theorem kc_78_13 : zcode 78 13 = some (.aload_n 0, 1, (0, 0, 0, 0)) := by decide +kernel
theorem kc_78_14 : zcode 78 14 = some (.getfield 12, 3, (7, 0, 261, 0)) := by decide +kernel
theorem kc_78_17 : zcode 78 17 = some (.aload_n 0, 1, (0, 0, 0, 0)) := by decide +kernel
theorem kc_78_18 : zcode 78 18 = some (.getfield 66, 3, (7, 9, 270, 0)) := by decide +kernel
theorem kc_78_21 : zcode 78 21 = some (.getfield 261, 3, (1, 0, 223, 0)) := by decide +kernel
theorem kc_78_24 : zcode 78 24 = some (.invokevirtual 188, 3, (17, 0, 476, 0)) := by decide +kernel
theorem kc_78_27 : zcode 78 27 = some (.aload_n 0, 1, (0, 0, 0, 0)) := by decide +kernel
theorem kc_78_28 : zcode 78 28 = some (.getfield 40, 3, (7, 4, 265, 0)) := by decide +kernel
theorem kc_78_31 : zcode 78 31 = some (.aload_n 0, 1, (0, 0, 0, 0)) := by decide +kernel
theorem kc_78_32 : zcode 78 32 = some (.getfield 66, 3, (7, 9, 270, 0)) := by decide +kernel
theorem kc_78_35 : zcode 78 35 = some (.getfield 262, 3, (1, 1, 225, 0)) := by decide +kernel
theorem kc_78_38 : zcode 78 38 = some (.invokevirtual 263, 3, (14, 0, 619, 0)) := by decide +kernel
theorem kc_78_41 : zcode 78 41 = some (.aload_n 0, 1, (0, 0, 0, 0)) := by decide +kernel
theorem kc_78_42 : zcode 78 42 = some (.getfield 44, 3, (7, 5, 266, 0)) := by decide +kernel
theorem kc_78_45 : zcode 78 45 = some (.aload_n 0, 1, (0, 0, 0, 0)) := by decide +kernel
theorem kc_78_46 : zcode 78 46 = some (.getfield 66, 3, (7, 9, 270, 0)) := by decide +kernel
theorem kc_78_49 : zcode 78 49 = some (.getfield 266, 3, (1, 2, 227, 0)) := by decide +kernel
theorem kc_78_52 : zcode 78 52 = some (.invokevirtual 263, 3, (14, 0, 619, 0)) := by decide +kernel
theorem kc_78_55 : zcode 78 55 = some (.aload_n 0, 1, (0, 0, 0, 0)) := by decide +kernel
theorem kc_78_56 : zcode 78 56 = some (.getfield 47, 3, (7, 6, 267, 0)) := by decide +kernel
theorem kc_78_59 : zcode 78 59 = some (.aload_n 0, 1, (0, 0, 0, 0)) := by decide +kernel
theorem kc_78_60 : zcode 78 60 = some (.getfield 66, 3, (7, 9, 270, 0)) := by decide +kernel
theorem kc_78_63 : zcode 78 63 = some (.getfield 267, 3, (1, 3, 229, 0)) := by decide +kernel
theorem kc_78_66 : zcode 78 66 = some (.invokevirtual 263, 3, (14, 0, 619, 0)) := by decide +kernel
theorem kc_78_69 : zcode 78 69 = some (.aload_n 0, 1, (0, 0, 0, 0)) := by decide +kernel
theorem kc_78_70 : zcode 78 70 = some (.getfield 12, 3, (7, 0, 261, 0)) := by decide +kernel
theorem kc_78_73 : zcode 78 73 = some (.getfield 75, 3, (3, 0, 109, 0)) := by decide +kernel
theorem kc_78_76 : zcode 78 76 = some (.getfield 78, 3, (0, 3, 95, 0)) := by decide +kernel
theorem kc_78_79 : zcode 78 79 = some (.ireturn, 1, (0, 0, 0, 0)) := by decide +kernel
theorem kc_79_0 : zcode 79 0 = some (.iload_n 1, 1, (0, 0, 0, 0)) := by decide +kernel
theorem kc_79_1 : zcode 79 1 = some (.tableswitch 63 0 3 #[31, 39, 47, 55], 31, (0, 0, 0, 0)) := by decide +kernel
theorem kc_79_32 : zcode 79 32 = some (.aload_n 0, 1, (0, 0, 0, 0)) := by decide +kernel
theorem kc_79_33 : zcode 79 33 = some (.getfield 40, 3, (7, 4, 265, 0)) := by decide +kernel
theorem kc_79_36 : zcode 79 36 = some (.getfield 228, 3, (2, 3, 165, 0)) := by decide +kernel
theorem kc_79_39 : zcode 79 39 = some (.ireturn, 1, (0, 0, 0, 0)) := by decide +kernel
theorem kc_79_40 : zcode 79 40 = some (.aload_n 0, 1, (0, 0, 0, 0)) := by decide +kernel
theorem kc_79_41 : zcode 79 41 = some (.getfield 44, 3, (7, 5, 266, 0)) := by decide +kernel
theorem kc_79_44 : zcode 79 44 = some (.getfield 228, 3, (2, 3, 165, 0)) := by decide +kernel
theorem kc_79_47 : zcode 79 47 = some (.ireturn, 1, (0, 0, 0, 0)) := by decide +kernel
theorem kc_79_48 : zcode 79 48 = some (.aload_n 0, 1, (0, 0, 0, 0)) := by decide +kernel
theorem kc_79_49 : zcode 79 49 = some (.getfield 47, 3, (7, 6, 267, 0)) := by decide +kernel
theorem kc_79_52 : zcode 79 52 = some (.getfield 228, 3, (2, 3, 165, 0)) := by decide +kernel
theorem kc_79_55 : zcode 79 55 = some (.ireturn, 1, (0, 0, 0, 0)) := by decide +kernel
theorem kc_79_56 : zcode 79 56 = some (.aload_n 0, 1, (0, 0, 0, 0)) := by decide +kernel
theorem kc_79_57 : zcode 79 57 = some (.getfield 53, 3, (7, 7, 268, 0)) := by decide +kernel
theorem kc_79_60 : zcode 79 60 = some (.getfield 116, 3, (5, 1, 184, 0)) := by decide +kernel
theorem kc_79_63 : zcode 79 63 = some (.ireturn, 1, (0, 0, 0, 0)) := by decide +kernel
theorem kc_79_64 : zcode 79 64 = some (.bipush (-2), 2, (0, 0, 0, 0)) := by decide +kernel
theorem kc_79_66 : zcode 79 66 = some (.ireturn, 1, (0, 0, 0, 0)) := by decide +kernel
theorem kc_80_0 : zcode 80 0 = some (.iload_n 1, 1, (0, 0, 0, 0)) := by decide +kernel
theorem kc_80_1 : zcode 80 1 = some (.invokestatic 246, 3, (89, 0, 612, 0)) := by decide +kernel
theorem kc_80_4 : zcode 80 4 = some (.ifCond .ne 5, 3, (9, 0, 0, 0)) := by decide +kernel
theorem kc_80_7 : zcode 80 7 = some (.iconst (-1), 1, (0, 0, 0, 0)) := by decide +kernel
theorem kc_80_8 : zcode 80 8 = some (.ireturn, 1, (0, 0, 0, 0)) := by decide +kernel
theorem kc_80_9 : zcode 80 9 = some (.iload_n 2, 1, (0, 0, 0, 0)) := by decide +kernel
theorem kc_80_10 : zcode 80 10 = some (.iconst (-1), 1, (0, 0, 0, 0)) := by decide +kernel
theorem kc_80_11 : zcode 80 11 = some (.if_icmp .ne 16, 3, (27, 0, 0, 0)) := by decide +kernel
theorem kc_80_14 : zcode 80 14 = some (.aload_n 0, 1, (0, 0, 0, 0)) := by decide +kernel
theorem kc_80_15 : zcode 80 15 = some (.getfield 59, 3, (7, 8, 269, 0)) := by decide +kernel
theorem kc_80_18 : zcode 80 18 = some (.iload_n 1, 1, (0, 0, 0, 0)) := by decide +kernel
theorem kc_80_19 : zcode 80 19 = some (.aaload, 1, (0, 0, 0, 0)) := by decide +kernel
theorem kc_80_20 : zcode 80 20 = some (.iconst (-1), 1, (0, 0, 0, 0)) := by decide +kernel
theorem kc_80_21 : zcode 80 21 = some (.iconst 0, 1, (0, 0, 0, 0)) := by decide +kernel
theorem kc_80_22 : zcode 80 22 = some (.invokevirtual 268, 3, (26, 0, 636, 0)) := by decide +kernel
theorem kc_80_25 : zcode 80 25 = some (.iconst 1, 1, (0, 0, 0, 0)) := by decide +kernel
theorem kc_80_26 : zcode 80 26 = some (.ireturn, 1, (0, 0, 0, 0)) := by decide +kernel
theorem kc_80_27 : zcode 80 27 = some (.iload_n 2, 1, (0, 0, 0, 0)) := by decide +kernel
theorem kc_80_28 : zcode 80 28 = some (.ifCond .lt 14, 3, (42, 0, 0, 0)) := by decide +kernel
theorem kc_80_31 : zcode 80 31 = some (.iload_n 2, 1, (0, 0, 0, 0)) := by decide +kernel
theorem kc_80_32 : zcode 80 32 = some (.iconst 5, 1, (0, 0, 0, 0)) := by decide +kernel
theorem kc_80_33 : zcode 80 33 = some (.if_icmp .ge 9, 3, (42, 0, 0, 0)) := by decide +kernel
theorem kc_80_36 : zcode 80 36 = some (.iload_n 3, 1, (0, 0, 0, 0)) := by decide +kernel
theorem kc_80_37 : zcode 80 37 = some (.bipush 60, 2, (0, 0, 0, 0)) := by decide +kernel
theorem kc_80_39 : zcode 80 39 = some (.if_icmp .le 6, 3, (45, 0, 0, 0)) := by decide +kernel
theorem kc_80_42 : zcode 80 42 = some (.bipush (-2), 2, (0, 0, 0, 0)) := by decide +kernel
theorem kc_80_44 : zcode 80 44 = some (.ireturn, 1, (0, 0, 0, 0)) := by decide +kernel
theorem kc_80_45 : zcode 80 45 = some (.iload_n 3, 1, (0, 0, 0, 0)) := by decide +kernel
theorem kc_80_46 : zcode 80 46 = some (.ifCond .ge 6, 3, (52, 0, 0, 0)) := by decide +kernel
theorem kc_80_49 : zcode 80 49 = some (.bipush (-14), 2, (0, 0, 0, 0)) := by decide +kernel
theorem kc_80_51 : zcode 80 51 = some (.ireturn, 1, (0, 0, 0, 0)) := by decide +kernel
theorem kc_80_52 : zcode 80 52 = some (.aload_n 0, 1, (0, 0, 0, 0)) := by decide +kernel
theorem kc_80_53 : zcode 80 53 = some (.getfield 59, 3, (7, 8, 269, 0)) := by decide +kernel
theorem kc_80_56 : zcode 80 56 = some (.iload_n 1, 1, (0, 0, 0, 0)) := by decide +kernel
theorem kc_80_57 : zcode 80 57 = some (.aaload, 1, (0, 0, 0, 0)) := by decide +kernel
theorem kc_80_58 : zcode 80 58 = some (.iload_n 2, 1, (0, 0, 0, 0)) := by decide +kernel
theorem kc_80_59 : zcode 80 59 = some (.iload_n 3, 1, (0, 0, 0, 0)) := by decide +kernel
theorem kc_80_60 : zcode 80 60 = some (.invokevirtual 268, 3, (26, 0, 636, 0)) := by decide +kernel
theorem kc_80_63 : zcode 80 63 = some (.iconst 1, 1, (0, 0, 0, 0)) := by decide +kernel
theorem kc_80_64 : zcode 80 64 = some (.ireturn, 1, (0, 0, 0, 0)) := by decide +kernel
theorem kc_81_0 : zcode 81 0 = some (.iload_n 1, 1, (0, 0, 0, 0)) := by decide +kernel
theorem kc_81_1 : zcode 81 1 = some (.invokestatic 246, 3, (89, 0, 612, 0)) := by decide +kernel
theorem kc_81_4 : zcode 81 4 = some (.ifCond .ne 5, 3, (9, 0, 0, 0)) := by decide +kernel
theorem kc_81_7 : zcode 81 7 = some (.iconst (-1), 1, (0, 0, 0, 0)) := by decide +kernel
theorem kc_81_8 : zcode 81 8 = some (.ireturn, 1, (0, 0, 0, 0)) := by decide +kernel
theorem kc_81_9 : zcode 81 9 = some (.aload_n 0, 1, (0, 0, 0, 0)) := by decide +kernel
theorem kc_81_10 : zcode 81 10 = some (.getfield 59, 3, (7, 8, 269, 0)) := by decide +kernel
theorem kc_81_13 : zcode 81 13 = some (.iload_n 1, 1, (0, 0, 0, 0)) := by decide +kernel
theorem kc_81_14 : zcode 81 14 = some (.aaload, 1, (0, 0, 0, 0)) := by decide +kernel
theorem kc_81_15 : zcode 81 15 = some (.astore 5, 2, (0, 0, 0, 0)) := by decide +kernel
theorem kc_81_17 : zcode 81 17 = some (.aload 5, 2, (0, 0, 0, 0)) := by decide +kernel
theorem kc_81_19 : zcode 81 19 = some (.getfield 249, 3, (4, 1, 251, 0)) := by decide +kernel
theorem kc_81_22 : zcode 81 22 = some (.iconst (-1), 1, (0, 0, 0, 0)) := by decide +kernel
theorem kc_81_23 : zcode 81 23 = some (.if_icmp .ne 6, 3, (29, 0, 0, 0)) := by decide +kernel
theorem kc_81_26 : zcode 81 26 = some (.bipush (-11), 2, (0, 0, 0, 0)) := by decide +kernel
theorem kc_81_28 : zcode 81 28 = some (.ireturn, 1, (0, 0, 0, 0)) := by decide +kernel
theorem kc_81_29 : zcode 81 29 = some (.aload 5, 2, (0, 0, 0, 0)) := by decide +kernel
theorem kc_81_31 : zcode 81 31 = some (.iload_n 2, 1, (0, 0, 0, 0)) := by decide +kernel
theorem kc_81_32 : zcode 81 32 = some (.invokevirtual 271, 3, (27, 0, 647, 0)) := by decide +kernel
theorem kc_81_35 : zcode 81 35 = some (.ifCond .ne 6, 3, (41, 0, 0, 0)) := by decide +kernel
theorem kc_81_38 : zcode 81 38 = some (.bipush (-13), 2, (0, 0, 0, 0)) := by decide +kernel
theorem kc_81_40 : zcode 81 40 = some (.ireturn, 1, (0, 0, 0, 0)) := by decide +kernel
theorem kc_81_41 : zcode 81 41 = some (.aload 5, 2, (0, 0, 0, 0)) := by decide +kernel
theorem kc_81_43 : zcode 81 43 = some (.getfield 253, 3, (4, 0, 249, 0)) := by decide +kernel
theorem kc_81_46 : zcode 81 46 = some (.iload_n 2, 1, (0, 0, 0, 0)) := by decide +kernel
theorem kc_81_47 : zcode 81 47 = some (.aload 5, 2, (0, 0, 0, 0)) := by decide +kernel
theorem kc_81_49 : zcode 81 49 = some (.lload_n 3, 1, (0, 0, 0, 0)) := by decide +kernel
theorem kc_81_50 : zcode 81 50 = some (.invokevirtual 272, 3, (29, 0, 651, 0)) := by decide +kernel
theorem kc_81_53 : zcode 81 53 = some (.lastore, 1, (0, 0, 0, 0)) := by decide +kernel
theorem kc_81_54 : zcode 81 54 = some (.iconst 1, 1, (0, 0, 0, 0)) := by decide +kernel
theorem kc_81_55 : zcode 81 55 = some (.ireturn, 1, (0, 0, 0, 0)) := by decide +kernel
theorem kc_82_0 : zcode 82 0 = some (.iload_n 1, 1, (0, 0, 0, 0)) := by decide +kernel
theorem kc_82_1 : zcode 82 1 = some (.invokestatic 246, 3, (89, 0, 612, 0)) := by decide +kernel
theorem kc_82_4 : zcode 82 4 = some (.ifCond .eq 30, 3, (34, 0, 0, 0)) := by decide +kernel
theorem kc_82_7 : zcode 82 7 = some (.aload_n 0, 1, (0, 0, 0, 0)) := by decide +kernel
theorem kc_82_8 : zcode 82 8 = some (.getfield 59, 3, (7, 8, 269, 0)) := by decide +kernel
theorem kc_82_11 : zcode 82 11 = some (.iload_n 1, 1, (0, 0, 0, 0)) := by decide +kernel
theorem kc_82_12 : zcode 82 12 = some (.aaload, 1, (0, 0, 0, 0)) := by decide +kernel
theorem kc_82_13 : zcode 82 13 = some (.iload_n 2, 1, (0, 0, 0, 0)) := by decide +kernel
theorem kc_82_14 : zcode 82 14 = some (.invokevirtual 271, 3, (27, 0, 647, 0)) := by decide +kernel
theorem kc_82_17 : zcode 82 17 = some (.ifCond .eq 17, 3, (34, 0, 0, 0)) := by decide +kernel
theorem kc_82_20 : zcode 82 20 = some (.aload_n 0, 1, (0, 0, 0, 0)) := by decide +kernel
theorem kc_82_21 : zcode 82 21 = some (.getfield 59, 3, (7, 8, 269, 0)) := by decide +kernel
theorem kc_82_24 : zcode 82 24 = some (.iload_n 1, 1, (0, 0, 0, 0)) := by decide +kernel
theorem kc_82_25 : zcode 82 25 = some (.aaload, 1, (0, 0, 0, 0)) := by decide +kernel
theorem kc_82_26 : zcode 82 26 = some (.getfield 253, 3, (4, 0, 249, 0)) := by decide +kernel
theorem kc_82_29 : zcode 82 29 = some (.iload_n 2, 1, (0, 0, 0, 0)) := by decide +kernel
theorem kc_82_30 : zcode 82 30 = some (.laload, 1, (0, 0, 0, 0)) := by decide +kernel
theorem kc_82_31 : zcode 82 31 = some (.goto 6, 3, (37, 0, 0, 0)) := by decide +kernel
theorem kc_82_34 : zcode 82 34 = some (.ldc2_w 157, 3, (0, 0, 395, -9223372036854775808)) := by decide +kernel
theorem kc_82_37 : zcode 82 37 = some (.lreturn, 1, (0, 0, 0, 0)) := by decide +kernel
theorem kc_83_0 : zcode 83 0 = some (.iload_n 1, 1, (0, 0, 0, 0)) := by decide +kernel
theorem kc_83_1 : zcode 83 1 = some (.invokestatic 246, 3, (89, 0, 612, 0)) := by decide +kernel
theorem kc_83_4 : zcode 83 4 = some (.ifCond .eq 10, 3, (14, 0, 0, 0)) := by decide +kernel
theorem kc_83_7 : zcode 83 7 = some (.iload_n 3, 1, (0, 0, 0, 0)) := by decide +kernel
theorem kc_83_8 : zcode 83 8 = some (.invokestatic 246, 3, (89, 0, 612, 0)) := by decide +kernel
theorem kc_83_11 : zcode 83 11 = some (.ifCond .ne 5, 3, (16, 0, 0, 0)) := by decide +kernel
theorem kc_83_14 : zcode 83 14 = some (.iconst (-1), 1, (0, 0, 0, 0)) := by decide +kernel
theorem kc_83_15 : zcode 83 15 = some (.ireturn, 1, (0, 0, 0, 0)) := by decide +kernel
theorem kc_83_16 : zcode 83 16 = some (.aload_n 0, 1, (0, 0, 0, 0)) := by decide +kernel
theorem kc_83_17 : zcode 83 17 = some (.getfield 59, 3, (7, 8, 269, 0)) := by decide +kernel
theorem kc_83_20 : zcode 83 20 = some (.iload_n 1, 1, (0, 0, 0, 0)) := by decide +kernel
theorem kc_83_21 : zcode 83 21 = some (.aaload, 1, (0, 0, 0, 0)) := by decide +kernel
theorem kc_83_22 : zcode 83 22 = some (.astore 6, 2, (0, 0, 0, 0)) := by decide +kernel
theorem kc_83_24 : zcode 83 24 = some (.aload_n 0, 1, (0, 0, 0, 0)) := by decide +kernel
theorem kc_83_25 : zcode 83 25 = some (.getfield 59, 3, (7, 8, 269, 0)) := by decide +kernel
theorem kc_83_28 : zcode 83 28 = some (.iload_n 3, 1, (0, 0, 0, 0)) := by decide +kernel
theorem kc_83_29 : zcode 83 29 = some (.aaload, 1, (0, 0, 0, 0)) := by decide +kernel
theorem kc_83_30 : zcode 83 30 = some (.astore 7, 2, (0, 0, 0, 0)) := by decide +kernel
theorem kc_83_32 : zcode 83 32 = some (.aload 6, 2, (0, 0, 0, 0)) := by decide +kernel
theorem kc_83_34 : zcode 83 34 = some (.getfield 249, 3, (4, 1, 251, 0)) := by decide +kernel
theorem kc_83_37 : zcode 83 37 = some (.iconst (-1), 1, (0, 0, 0, 0)) := by decide +kernel
theorem kc_83_38 : zcode 83 38 = some (.if_icmp .eq 12, 3, (50, 0, 0, 0)) := by decide +kernel
theorem kc_83_41 : zcode 83 41 = some (.aload 7, 2, (0, 0, 0, 0)) := by decide +kernel
theorem kc_83_43 : zcode 83 43 = some (.getfield 249, 3, (4, 1, 251, 0)) := by decide +kernel
theorem kc_83_46 : zcode 83 46 = some (.iconst (-1), 1, (0, 0, 0, 0)) := by decide +kernel
theorem kc_83_47 : zcode 83 47 = some (.if_icmp .ne 6, 3, (53, 0, 0, 0)) := by decide +kernel
theorem kc_83_50 : zcode 83 50 = some (.bipush (-11), 2, (0, 0, 0, 0)) := by decide +kernel
theorem kc_83_52 : zcode 83 52 = some (.ireturn, 1, (0, 0, 0, 0)) := by decide +kernel
theorem kc_83_53 : zcode 83 53 = some (.aload 6, 2, (0, 0, 0, 0)) := by decide +kernel
theorem kc_83_55 : zcode 83 55 = some (.getfield 249, 3, (4, 1, 251, 0)) := by decide +kernel
theorem kc_83_58 : zcode 83 58 = some (.aload 7, 2, (0, 0, 0, 0)) := by decide +kernel
theorem kc_83_60 : zcode 83 60 = some (.getfield 249, 3, (4, 1, 251, 0)) := by decide +kernel
theorem kc_83_63 : zcode 83 63 = some (.if_icmp .eq 6, 3, (69, 0, 0, 0)) := by decide +kernel
theorem kc_83_66 : zcode 83 66 = some (.bipush (-12), 2, (0, 0, 0, 0)) := by decide +kernel
theorem kc_83_68 : zcode 83 68 = some (.ireturn, 1, (0, 0, 0, 0)) := by decide +kernel
theorem kc_83_69 : zcode 83 69 = some (.aload 6, 2, (0, 0, 0, 0)) := by decide +kernel
theorem kc_83_71 : zcode 83 71 = some (.iload_n 2, 1, (0, 0, 0, 0)) := by decide +kernel
theorem kc_83_72 : zcode 83 72 = some (.iload 5, 2, (0, 0, 0, 0)) := by decide +kernel
theorem kc_83_74 : zcode 83 74 = some (.invokevirtual 276, 3, (28, 0, 663, 0)) := by decide +kernel
theorem kc_83_77 : zcode 83 77 = some (.ifCond .eq 15, 3, (92, 0, 0, 0)) := by decide +kernel
theorem kc_83_80 : zcode 83 80 = some (.aload 7, 2, (0, 0, 0, 0)) := by decide +kernel
theorem kc_83_82 : zcode 83 82 = some (.iload 4, 2, (0, 0, 0, 0)) := by decide +kernel
theorem kc_83_84 : zcode 83 84 = some (.iload 5, 2, (0, 0, 0, 0)) := by decide +kernel
theorem kc_83_86 : zcode 83 86 = some (.invokevirtual 276, 3, (28, 0, 663, 0)) := by decide +kernel
theorem kc_83_89 : zcode 83 89 = some (.ifCond .ne 6, 3, (95, 0, 0, 0)) := by decide +kernel
theorem kc_83_92 : zcode 83 92 = some (.bipush (-13), 2, (0, 0, 0, 0)) := by decide +kernel
theorem kc_83_94 : zcode 83 94 = some (.ireturn, 1, (0, 0, 0, 0)) := by decide +kernel
theorem kc_83_95 : zcode 83 95 = some (.aload 6, 2, (0, 0, 0, 0)) := by decide +kernel
theorem kc_83_97 : zcode 83 97 = some (.getfield 253, 3, (4, 0, 249, 0)) := by decide +kernel
theorem kc_83_100 : zcode 83 100 = some (.iload_n 2, 1, (0, 0, 0, 0)) := by decide +kernel
theorem kc_83_101 : zcode 83 101 = some (.aload 7, 2, (0, 0, 0, 0)) := by decide +kernel
theorem kc_83_103 : zcode 83 103 = some (.getfield 253, 3, (4, 0, 249, 0)) := by decide +kernel
theorem kc_83_106 : zcode 83 106 = some (.iload 4, 2, (0, 0, 0, 0)) := by decide +kernel
theorem kc_83_108 : zcode 83 108 = some (.iload 5, 2, (0, 0, 0, 0)) := by decide +kernel
theorem kc_83_110 : zcode 83 110 = some (.invokestatic 279, 3, (1000, 0, 667, 0)) := by decide +kernel
theorem kc_83_113 : zcode 83 113 = some (.iload 5, 2, (0, 0, 0, 0)) := by decide +kernel
theorem kc_83_115 : zcode 83 115 = some (.ireturn, 1, (0, 0, 0, 0)) := by decide +kernel
theorem kc_84_0 : zcode 84 0 = some (.iload_n 0, 1, (0, 0, 0, 0)) := by decide +kernel
theorem kc_84_1 : zcode 84 1 = some (.iconst 1, 1, (0, 0, 0, 0)) := by decide +kernel
theorem kc_84_2 : zcode 84 2 = some (.if_icmp .lt 13, 3, (15, 0, 0, 0)) := by decide +kernel
theorem kc_84_5 : zcode 84 5 = some (.iload_n 0, 1, (0, 0, 0, 0)) := by decide +kernel
theorem kc_84_6 : zcode 84 6 = some (.bipush 60, 2, (0, 0, 0, 0)) := by decide +kernel
theorem kc_84_8 : zcode 84 8 = some (.if_icmp .gt 7, 3, (15, 0, 0, 0)) := by decide +kernel
theorem kc_84_11 : zcode 84 11 = some (.iconst 1, 1, (0, 0, 0, 0)) := by decide +kernel
theorem kc_84_12 : zcode 84 12 = some (.goto 4, 3, (16, 0, 0, 0)) := by decide +kernel
theorem kc_84_15 : zcode 84 15 = some (.iconst 0, 1, (0, 0, 0, 0)) := by decide +kernel
theorem kc_84_16 : zcode 84 16 = some (.ireturn, 1, (1, 0, 0, 0)) := by decide +kernel
theorem kc_85_0 : zcode 85 0 = some (.iload_n 0, 1, (0, 0, 0, 0)) := by decide +kernel
theorem kc_85_1 : zcode 85 1 = some (.ifCond .lt 14, 3, (15, 0, 0, 0)) := by decide +kernel
theorem kc_85_4 : zcode 85 4 = some (.iload_n 0, 1, (0, 0, 0, 0)) := by decide +kernel
theorem kc_85_5 : zcode 85 5 = some (.sipush 360, 3, (0, 0, 0, 0)) := by decide +kernel
theorem kc_85_8 : zcode 85 8 = some (.if_icmp .gt 7, 3, (15, 0, 0, 0)) := by decide +kernel
theorem kc_85_11 : zcode 85 11 = some (.iconst 1, 1, (0, 0, 0, 0)) := by decide +kernel
theorem kc_85_12 : zcode 85 12 = some (.goto 4, 3, (16, 0, 0, 0)) := by decide +kernel
theorem kc_85_15 : zcode 85 15 = some (.iconst 0, 1, (0, 0, 0, 0)) := by decide +kernel
theorem kc_85_16 : zcode 85 16 = some (.ireturn, 1, (1, 0, 0, 0)) := by decide +kernel
theorem kc_86_0 : zcode 86 0 = some (.iload_n 0, 1, (0, 0, 0, 0)) := by decide +kernel
theorem kc_86_1 : zcode 86 1 = some (.ifCond .lt 13, 3, (14, 0, 0, 0)) := by decide +kernel
theorem kc_86_4 : zcode 86 4 = some (.iload_n 0, 1, (0, 0, 0, 0)) := by decide +kernel
theorem kc_86_5 : zcode 86 5 = some (.bipush 6, 2, (0, 0, 0, 0)) := by decide +kernel
theorem kc_86_7 : zcode 86 7 = some (.if_icmp .ge 7, 3, (14, 0, 0, 0)) := by decide +kernel
theorem kc_86_10 : zcode 86 10 = some (.iconst 1, 1, (0, 0, 0, 0)) := by decide +kernel
theorem kc_86_11 : zcode 86 11 = some (.goto 4, 3, (15, 0, 0, 0)) := by decide +kernel
theorem kc_86_14 : zcode 86 14 = some (.iconst 0, 1, (0, 0, 0, 0)) := by decide +kernel
theorem kc_86_15 : zcode 86 15 = some (.ireturn, 1, (1, 0, 0, 0)) := by decide +kernel
theorem kc_87_0 : zcode 87 0 = some (.iload_n 0, 1, (0, 0, 0, 0)) := by decide +kernel
theorem kc_87_1 : zcode 87 1 = some (.ifCond .eq 8, 3, (9, 0, 0, 0)) := by decide +kernel
theorem kc_87_4 : zcode 87 4 = some (.iload_n 0, 1, (0, 0, 0, 0)) := by decide +kernel
theorem kc_87_5 : zcode 87 5 = some (.iconst 1, 1, (0, 0, 0, 0)) := by decide +kernel
theorem kc_87_6 : zcode 87 6 = some (.if_icmp .ne 7, 3, (13, 0, 0, 0)) := by decide +kernel
theorem kc_87_9 : zcode 87 9 = some (.iconst 1, 1, (0, 0, 0, 0)) := by decide +kernel
theorem kc_87_10 : zcode 87 10 = some (.goto 4, 3, (14, 0, 0, 0)) := by decide +kernel
theorem kc_87_13 : zcode 87 13 = some (.iconst 0, 1, (0, 0, 0, 0)) := by decide +kernel
theorem kc_87_14 : zcode 87 14 = some (.ireturn, 1, (1, 0, 0, 0)) := by decide +kernel
theorem kc_88_0 : zcode 88 0 = some (.iload_n 0, 1, (0, 0, 0, 0)) := by decide +kernel
theorem kc_88_1 : zcode 88 1 = some (.ifCond .lt 23, 3, (24, 0, 0, 0)) := by decide +kernel
theorem kc_88_4 : zcode 88 4 = some (.iload_n 0, 1, (0, 0, 0, 0)) := by decide +kernel
theorem kc_88_5 : zcode 88 5 = some (.iconst 4, 1, (0, 0, 0, 0)) := by decide +kernel
theorem kc_88_6 : zcode 88 6 = some (.if_icmp .gt 18, 3, (24, 0, 0, 0)) := by decide +kernel
theorem kc_88_9 : zcode 88 9 = some (.iload_n 1, 1, (0, 0, 0, 0)) := by decide +kernel
theorem kc_88_10 : zcode 88 10 = some (.iconst 1, 1, (0, 0, 0, 0)) := by decide +kernel
theorem kc_88_11 : zcode 88 11 = some (.if_icmp .lt 13, 3, (24, 0, 0, 0)) := by decide +kernel
theorem kc_88_14 : zcode 88 14 = some (.iload_n 1, 1, (0, 0, 0, 0)) := by decide +kernel
theorem kc_88_15 : zcode 88 15 = some (.bipush 60, 2, (0, 0, 0, 0)) := by decide +kernel
theorem kc_88_17 : zcode 88 17 = some (.if_icmp .gt 7, 3, (24, 0, 0, 0)) := by decide +kernel
theorem kc_88_20 : zcode 88 20 = some (.iconst 1, 1, (0, 0, 0, 0)) := by decide +kernel
theorem kc_88_21 : zcode 88 21 = some (.goto 4, 3, (25, 0, 0, 0)) := by decide +kernel
theorem kc_88_24 : zcode 88 24 = some (.iconst 0, 1, (0, 0, 0, 0)) := by decide +kernel
theorem kc_88_25 : zcode 88 25 = some (.ireturn, 1, (1, 0, 0, 0)) := by decide +kernel
theorem kc_89_0 : zcode 89 0 = some (.iload_n 0, 1, (0, 0, 0, 0)) := by decide +kernel
theorem kc_89_1 : zcode 89 1 = some (.ifCond .lt 13, 3, (14, 0, 0, 0)) := by decide +kernel
theorem kc_89_4 : zcode 89 4 = some (.iload_n 0, 1, (0, 0, 0, 0)) := by decide +kernel
theorem kc_89_5 : zcode 89 5 = some (.bipush 6, 2, (0, 0, 0, 0)) := by decide +kernel
theorem kc_89_7 : zcode 89 7 = some (.if_icmp .ge 7, 3, (14, 0, 0, 0)) := by decide +kernel
theorem kc_89_10 : zcode 89 10 = some (.iconst 1, 1, (0, 0, 0, 0)) := by decide +kernel
theorem kc_89_11 : zcode 89 11 = some (.goto 4, 3, (15, 0, 0, 0)) := by decide +kernel
theorem kc_89_14 : zcode 89 14 = some (.iconst 0, 1, (0, 0, 0, 0)) := by decide +kernel
theorem kc_89_15 : zcode 89 15 = some (.ireturn, 1, (1, 0, 0, 0)) := by decide +kernel
theorem kc_90_0 : zcode 90 0 = some (.lload_n 0, 1, (0, 0, 0, 0)) := by decide +kernel
theorem kc_90_1 : zcode 90 1 = some (.invokestatic 285, 3, (178, 0, 434, 0)) := by decide +kernel
theorem kc_90_4 : zcode 90 4 = some (.lload_n 2, 1, (0, 0, 0, 0)) := by decide +kernel
theorem kc_90_5 : zcode 90 5 = some (.invokestatic 290, 3, (91, 0, 437, 0)) := by decide +kernel
theorem kc_90_8 : zcode 90 8 = some (.lstore 5, 2, (0, 0, 0, 0)) := by decide +kernel
theorem kc_90_10 : zcode 90 10 = some (.lload 5, 2, (0, 0, 0, 0)) := by decide +kernel
theorem kc_90_12 : zcode 90 12 = some (.lconst 1, 1, (0, 0, 0, 0)) := by decide +kernel
theorem kc_90_13 : zcode 90 13 = some (.lcmp, 1, (0, 0, 0, 0)) := by decide +kernel
theorem kc_90_14 : zcode 90 14 = some (.ifCond .ge 7, 3, (21, 0, 0, 0)) := by decide +kernel
theorem kc_90_17 : zcode 90 17 = some (.ldc2_w 157, 3, (0, 0, 395, -9223372036854775808)) := by decide +kernel
theorem kc_90_20 : zcode 90 20 = some (.lreturn, 1, (0, 0, 0, 0)) := by decide +kernel
theorem kc_90_21 : zcode 90 21 = some (.iload 4, 2, (0, 0, 0, 0)) := by decide +kernel
theorem kc_90_23 : zcode 90 23 = some (.ifCond .ne 7, 3, (30, 0, 0, 0)) := by decide +kernel
theorem kc_90_26 : zcode 90 26 = some (.lload_n 0, 1, (0, 0, 0, 0)) := by decide +kernel
theorem kc_90_27 : zcode 90 27 = some (.goto 4, 3, (31, 0, 0, 0)) := by decide +kernel
theorem kc_90_30 : zcode 90 30 = some (.lload_n 2, 1, (0, 0, 0, 0)) := by decide +kernel
theorem kc_90_31 : zcode 90 31 = some (.lload 5, 2, (0, 0, 0, 0)) := by decide +kernel
theorem kc_90_33 : zcode 90 33 = some (.ldiv, 1, (0, 0, 0, 0)) := by decide +kernel
theorem kc_90_34 : zcode 90 34 = some (.lreturn, 1, (0, 0, 0, 0)) := by decide +kernel
theorem kc_91_0 : zcode 91 0 = some (.lload_n 0, 1, (0, 0, 0, 0)) := by decide +kernel
theorem kc_91_1 : zcode 91 1 = some (.lstore 4, 2, (0, 0, 0, 0)) := by decide +kernel
theorem kc_91_3 : zcode 91 3 = some (.lload_n 2, 1, (0, 0, 0, 0)) := by decide +kernel
theorem kc_91_4 : zcode 91 4 = some (.lstore 6, 2, (0, 0, 0, 0)) := by decide +kernel
theorem kc_91_6 : zcode 91 6 = some (.iconst 0, 1, (0, 0, 0, 0)) := by decide +kernel
theorem kc_91_7 : zcode 91 7 = some (.istore 8, 2, (0, 0, 0, 0)) := by decide +kernel
theorem kc_91_9 : zcode 91 9 = some (.iload 8, 2, (0, 0, 0, 0)) := by decide +kernel
theorem kc_91_11 : zcode 91 11 = some (.bipush 100, 2, (0, 0, 0, 0)) := by decide +kernel
theorem kc_91_13 : zcode 91 13 = some (.if_icmp .ge 31, 3, (44, 0, 0, 0)) := by decide +kernel
theorem kc_91_16 : zcode 91 16 = some (.lload 6, 2, (0, 0, 0, 0)) := by decide +kernel
theorem kc_91_18 : zcode 91 18 = some (.lconst 0, 1, (0, 0, 0, 0)) := by decide +kernel
theorem kc_91_19 : zcode 91 19 = some (.lcmp, 1, (0, 0, 0, 0)) := by decide +kernel
theorem kc_91_20 : zcode 91 20 = some (.ifCond .eq 24, 3, (44, 0, 0, 0)) := by decide +kernel
theorem kc_91_23 : zcode 91 23 = some (.lload 4, 2, (0, 0, 0, 0)) := by decide +kernel
theorem kc_91_25 : zcode 91 25 = some (.lload 6, 2, (0, 0, 0, 0)) := by decide +kernel
theorem kc_91_27 : zcode 91 27 = some (.lrem, 1, (0, 0, 0, 0)) := by decide +kernel
theorem kc_91_28 : zcode 91 28 = some (.lstore 9, 2, (0, 0, 0, 0)) := by decide +kernel
theorem kc_91_30 : zcode 91 30 = some (.lload 6, 2, (0, 0, 0, 0)) := by decide +kernel
theorem kc_91_32 : zcode 91 32 = some (.lstore 4, 2, (0, 0, 0, 0)) := by decide +kernel
theorem kc_91_34 : zcode 91 34 = some (.lload 9, 2, (0, 0, 0, 0)) := by decide +kernel
theorem kc_91_36 : zcode 91 36 = some (.lstore 6, 2, (0, 0, 0, 0)) := by decide +kernel
theorem kc_91_38 : zcode 91 38 = some (.iinc 8 1, 3, (0, 0, 0, 0)) := by decide +kernel
theorem kc_91_41 : zcode 91 41 = some (.goto (-32), 3, (9, 0, 0, 0)) := by decide +kernel
theorem kc_91_44 : zcode 91 44 = some (.lload 4, 2, (0, 0, 0, 0)) := by decide +kernel
theorem kc_91_46 : zcode 91 46 = some (.lreturn, 1, (0, 0, 0, 0)) := by decide +kernel
theorem kc_92_0 : zcode 92 0 = some (.dload_n 0, 1, (0, 0, 0, 0)) := by decide +kernel
theorem kc_92_1 : zcode 92 1 = some (.dconst 0, 1, (0, 0, 0, 0)) := by decide +kernel
theorem kc_92_2 : zcode 92 2 = some (.dcmp .g, 1, (0, 0, 0, 0)) := by decide +kernel
theorem kc_92_3 : zcode 92 3 = some (.ifCond .gt 5, 3, (8, 0, 0, 0)) := by decide +kernel
theorem kc_92_6 : zcode 92 6 = some (.lconst 0, 1, (0, 0, 0, 0)) := by decide +kernel
theorem kc_92_7 : zcode 92 7 = some (.lreturn, 1, (0, 0, 0, 0)) := by decide +kernel
theorem kc_92_8 : zcode 92 8 = some (.dload_n 0, 1, (0, 0, 0, 0)) := by decide +kernel
theorem kc_92_9 : zcode 92 9 = some (.dstore 4, 2, (0, 0, 0, 0)) := by decide +kernel
theorem kc_92_11 : zcode 92 11 = some (.iload_n 2, 1, (0, 0, 0, 0)) := by decide +kernel
theorem kc_92_12 : zcode 92 12 = some (.istore 6, 2, (0, 0, 0, 0)) := by decide +kernel
theorem kc_92_14 : zcode 92 14 = some (.dload 4, 2, (0, 0, 0, 0)) := by decide +kernel
theorem kc_92_16 : zcode 92 16 = some (.ldc2_w 294, 3, (1, 0, 544, 4611686018427387904)) := by decide +kernel
theorem kc_92_19 : zcode 92 19 = some (.dcmp .l, 1, (0, 0, 0, 0)) := by decide +kernel
theorem kc_92_20 : zcode 92 20 = some (.ifCond .lt 25, 3, (45, 0, 0, 0)) := by decide +kernel
theorem kc_92_23 : zcode 92 23 = some (.iload 6, 2, (0, 0, 0, 0)) := by decide +kernel
theorem kc_92_25 : zcode 92 25 = some (.iconst 2, 1, (0, 0, 0, 0)) := by decide +kernel
theorem kc_92_26 : zcode 92 26 = some (.iload_n 2, 1, (0, 0, 0, 0)) := by decide +kernel
theorem kc_92_27 : zcode 92 27 = some (.imul, 1, (0, 0, 0, 0)) := by decide +kernel
theorem kc_92_28 : zcode 92 28 = some (.if_icmp .ge 17, 3, (45, 0, 0, 0)) := by decide +kernel
theorem kc_92_31 : zcode 92 31 = some (.dload 4, 2, (0, 0, 0, 0)) := by decide +kernel
theorem kc_92_33 : zcode 92 33 = some (.ldc2_w 296, 3, (1, 0, 545, 4602678819172646912)) := by decide +kernel
theorem kc_92_36 : zcode 92 36 = some (.dmul, 1, (0, 0, 0, 0)) := by decide +kernel
theorem kc_92_37 : zcode 92 37 = some (.dstore 4, 2, (0, 0, 0, 0)) := by decide +kernel
theorem kc_92_39 : zcode 92 39 = some (.iinc 6 1, 3, (0, 0, 0, 0)) := by decide +kernel
theorem kc_92_42 : zcode 92 42 = some (.goto (-28), 3, (14, 0, 0, 0)) := by decide +kernel
theorem kc_92_45 : zcode 92 45 = some (.dload 4, 2, (0, 0, 0, 0)) := by decide +kernel
theorem kc_92_47 : zcode 92 47 = some (.dconst 1, 1, (0, 0, 0, 0)) := by decide +kernel
theorem kc_92_48 : zcode 92 48 = some (.dcmp .g, 1, (0, 0, 0, 0)) := by decide +kernel
theorem kc_92_49 : zcode 92 49 = some (.ifCond .ge 23, 3, (72, 0, 0, 0)) := by decide +kernel
theorem kc_92_52 : zcode 92 52 = some (.iload 6, 2, (0, 0, 0, 0)) := by decide +kernel
theorem kc_92_54 : zcode 92 54 = some (.iconst 1, 1, (0, 0, 0, 0)) := by decide +kernel
theorem kc_92_55 : zcode 92 55 = some (.if_icmp .le 17, 3, (72, 0, 0, 0)) := by decide +kernel
theorem kc_92_58 : zcode 92 58 = some (.dload 4, 2, (0, 0, 0, 0)) := by decide +kernel
theorem kc_92_60 : zcode 92 60 = some (.ldc2_w 294, 3, (1, 0, 544, 4611686018427387904)) := by decide +kernel
theorem kc_92_63 : zcode 92 63 = some (.dmul, 1, (0, 0, 0, 0)) := by decide +kernel
theorem kc_92_64 : zcode 92 64 = some (.dstore 4, 2, (0, 0, 0, 0)) := by decide +kernel
theorem kc_92_66 : zcode 92 66 = some (.iinc 6 (-1), 3, (0, 0, 0, 0)) := by decide +kernel
theorem kc_92_69 : zcode 92 69 = some (.goto (-24), 3, (45, 0, 0, 0)) := by decide +kernel
theorem kc_92_72 : zcode 92 72 = some (.lconst 1, 1, (0, 0, 0, 0)) := by decide +kernel
theorem kc_92_73 : zcode 92 73 = some (.iload_n 3, 1, (0, 0, 0, 0)) := by decide +kernel
theorem kc_92_74 : zcode 92 74 = some (.lshl, 1, (0, 0, 0, 0)) := by decide +kernel
theorem kc_92_75 : zcode 92 75 = some (.lstore 7, 2, (0, 0, 0, 0)) := by decide +kernel
theorem kc_92_77 : zcode 92 77 = some (.iload 6, 2, (0, 0, 0, 0)) := by decide +kernel
theorem kc_92_79 : zcode 92 79 = some (.i2l, 1, (0, 0, 0, 0)) := by decide +kernel
theorem kc_92_80 : zcode 92 80 = some (.iload_n 3, 1, (0, 0, 0, 0)) := by decide +kernel
theorem kc_92_81 : zcode 92 81 = some (.lshl, 1, (0, 0, 0, 0)) := by decide +kernel
theorem kc_92_82 : zcode 92 82 = some (.dload 4, 2, (0, 0, 0, 0)) := by decide +kernel
theorem kc_92_84 : zcode 92 84 = some (.lload 7, 2, (0, 0, 0, 0)) := by decide +kernel
theorem kc_92_86 : zcode 92 86 = some (.l2d, 1, (0, 0, 0, 0)) := by decide +kernel
theorem kc_92_87 : zcode 92 87 = some (.dmul, 1, (0, 0, 0, 0)) := by decide +kernel
theorem kc_92_88 : zcode 92 88 = some (.d2l, 1, (0, 0, 0, 0)) := by decide +kernel
theorem kc_92_89 : zcode 92 89 = some (.ladd, 1, (0, 0, 0, 0)) := by decide +kernel
theorem kc_92_90 : zcode 92 90 = some (.lload 7, 2, (0, 0, 0, 0)) := by decide +kernel
theorem kc_92_92 : zcode 92 92 = some (.lsub, 1, (0, 0, 0, 0)) := by decide +kernel
theorem kc_92_93 : zcode 92 93 = some (.lreturn, 1, (0, 0, 0, 0)) := by decide +kernel
theorem kc_94_0 : zcode 94 0 = some (.iload_n 0, 1, (0, 0, 0, 0)) := by decide +kernel
theorem kc_94_1 : zcode 94 1 = some (.iload_n 1, 1, (0, 0, 0, 0)) := by decide +kernel
theorem kc_94_2 : zcode 94 2 = some (.if_icmp .lt 12, 3, (14, 0, 0, 0)) := by decide +kernel
theorem kc_94_5 : zcode 94 5 = some (.iload_n 0, 1, (0, 0, 0, 0)) := by decide +kernel
theorem kc_94_6 : zcode 94 6 = some (.iload_n 2, 1, (0, 0, 0, 0)) := by decide +kernel
theorem kc_94_7 : zcode 94 7 = some (.if_icmp .gt 7, 3, (14, 0, 0, 0)) := by decide +kernel
theorem kc_94_10 : zcode 94 10 = some (.iconst 1, 1, (0, 0, 0, 0)) := by decide +kernel
theorem kc_94_11 : zcode 94 11 = some (.goto 4, 3, (15, 0, 0, 0)) := by decide +kernel
theorem kc_94_14 : zcode 94 14 = some (.iconst 0, 1, (0, 0, 0, 0)) := by decide +kernel
theorem kc_94_15 : zcode 94 15 = some (.ireturn, 1, (1, 0, 0, 0)) := by decide +kernel
theorem kc_95_0 : zcode 95 0 = some (.iload_n 0, 1, (0, 0, 0, 0)) := by decide +kernel
theorem kc_95_1 : zcode 95 1 = some (.iload_n 1, 1, (0, 0, 0, 0)) := by decide +kernel
theorem kc_95_2 : zcode 95 2 = some (.ishr, 1, (0, 0, 0, 0)) := by decide +kernel
theorem kc_95_3 : zcode 95 3 = some (.iconst 1, 1, (0, 0, 0, 0)) := by decide +kernel
theorem kc_95_4 : zcode 95 4 = some (.iand, 1, (0, 0, 0, 0)) := by decide +kernel
theorem kc_95_5 : zcode 95 5 = some (.iconst 1, 1, (0, 0, 0, 0)) := by decide +kernel
theorem kc_95_6 : zcode 95 6 = some (.if_icmp .ne 7, 3, (13, 0, 0, 0)) := by decide +kernel
theorem kc_95_9 : zcode 95 9 = some (.iconst 1, 1, (0, 0, 0, 0)) := by decide +kernel
theorem kc_95_10 : zcode 95 10 = some (.goto 4, 3, (14, 0, 0, 0)) := by decide +kernel
theorem kc_95_13 : zcode 95 13 = some (.iconst 0, 1, (0, 0, 0, 0)) := by decide +kernel
theorem kc_95_14 : zcode 95 14 = some (.ireturn, 1, (1, 0, 0, 0)) := by decide +kernel
theorem kc_96_0 : zcode 96 0 = some (.iload_n 1, 1, (0, 0, 0, 0)) := by decide +kernel
theorem kc_96_1 : zcode 96 1 = some (.iconst 0, 1, (0, 0, 0, 0)) := by decide +kernel
theorem kc_96_2 : zcode 96 2 = some (.aload_n 0, 1, (0, 0, 0, 0)) := by decide +kernel
theorem kc_96_3 : zcode 96 3 = some (.getfield 63, 3, (8, 0, 676, 0)) := by decide +kernel
theorem kc_96_6 : zcode 96 6 = some (.iconst 1, 1, (0, 0, 0, 0)) := by decide +kernel
theorem kc_96_7 : zcode 96 7 = some (.isub, 1, (0, 0, 0, 0)) := by decide +kernel
theorem kc_96_8 : zcode 96 8 = some (.invokestatic 67, 3, (94, 0, 778, 0)) := by decide +kernel
theorem kc_96_11 : zcode 96 11 = some (.ireturn, 1, (1, 0, 0, 0)) := by decide +kernel
theorem kc_97_0 : zcode 97 0 = some (.iload_n 0, 1, (0, 0, 0, 0)) := by decide +kernel
theorem kc_97_1 : zcode 97 1 = some (.iconst 0, 1, (0, 0, 0, 0)) := by decide +kernel
theorem kc_97_2 : zcode 97 2 = some (.iconst 5, 1, (0, 0, 0, 0)) := by decide +kernel
theorem kc_97_3 : zcode 97 3 = some (.invokestatic 67, 3, (94, 0, 778, 0)) := by decide +kernel
theorem kc_97_6 : zcode 97 6 = some (.ireturn, 1, (1, 0, 0, 0)) := by decide +kernel
theorem kc_98_0 : zcode 98 0 = some (.iload_n 0, 1, (0, 0, 0, 0)) := by decide +kernel
theorem kc_98_1 : zcode 98 1 = some (.iconst 0, 1, (0, 0, 0, 0)) := by decide +kernel
theorem kc_98_2 : zcode 98 2 = some (.iconst 1, 1, (0, 0, 0, 0)) := by decide +kernel
theorem kc_98_3 : zcode 98 3 = some (.invokestatic 67, 3, (94, 0, 778, 0)) := by decide +kernel
theorem kc_98_6 : zcode 98 6 = some (.ireturn, 1, (1, 0, 0, 0)) := by decide +kernel
theorem kc_99_0 : zcode 99 0 = some (.iload_n 0, 1, (0, 0, 0, 0)) := by decide +kernel
theorem kc_99_1 : zcode 99 1 = some (.iconst 1, 1, (0, 0, 0, 0)) := by decide +kernel
theorem kc_99_2 : zcode 99 2 = some (.bipush 60, 2, (0, 0, 0, 0)) := by decide +kernel
theorem kc_99_4 : zcode 99 4 = some (.invokestatic 67, 3, (94, 0, 778, 0)) := by decide +kernel
theorem kc_99_7 : zcode 99 7 = some (.ireturn, 1, (1, 0, 0, 0)) := by decide +kernel
theorem kc_100_0 : zcode 100 0 = some (.lload_n 1, 1, (0, 0, 0, 0)) := by decide +kernel
theorem kc_100_1 : zcode 100 1 = some (.lconst 0, 1, (0, 0, 0, 0)) := by decide +kernel
theorem kc_100_2 : zcode 100 2 = some (.lcmp, 1, (0, 0, 0, 0)) := by decide +kernel
theorem kc_100_3 : zcode 100 3 = some (.ifCond .ge 8, 3, (11, 0, 0, 0)) := by decide +kernel
theorem kc_100_6 : zcode 100 6 = some (.lload_n 1, 1, (0, 0, 0, 0)) := by decide +kernel
theorem kc_100_7 : zcode 100 7 = some (.lneg, 1, (0, 0, 0, 0)) := by decide +kernel
theorem kc_100_8 : zcode 100 8 = some (.goto 4, 3, (12, 0, 0, 0)) := by decide +kernel
theorem kc_100_11 : zcode 100 11 = some (.lload_n 1, 1, (0, 0, 0, 0)) := by decide +kernel
theorem kc_100_12 : zcode 100 12 = some (.lstore 5, 2, (0, 0, 0, 0)) := by decide +kernel
theorem kc_100_14 : zcode 100 14 = some (.lload_n 3, 1, (0, 0, 0, 0)) := by decide +kernel
theorem kc_100_15 : zcode 100 15 = some (.lstore 7, 2, (0, 0, 0, 0)) := by decide +kernel
theorem kc_100_17 : zcode 100 17 = some (.lload 7, 2, (0, 0, 0, 0)) := by decide +kernel
theorem kc_100_19 : zcode 100 19 = some (.lconst 0, 1, (0, 0, 0, 0)) := by decide +kernel
theorem kc_100_20 : zcode 100 20 = some (.lcmp, 1, (0, 0, 0, 0)) := by decide +kernel
theorem kc_100_21 : zcode 100 21 = some (.ifCond .eq 21, 3, (42, 0, 0, 0)) := by decide +kernel
theorem kc_100_24 : zcode 100 24 = some (.lload 5, 2, (0, 0, 0, 0)) := by decide +kernel
theorem kc_100_26 : zcode 100 26 = some (.lload 7, 2, (0, 0, 0, 0)) := by decide +kernel
theorem kc_100_28 : zcode 100 28 = some (.lrem, 1, (0, 0, 0, 0)) := by decide +kernel
theorem kc_100_29 : zcode 100 29 = some (.lstore 9, 2, (0, 0, 0, 0)) := by decide +kernel
theorem kc_100_31 : zcode 100 31 = some (.lload 7, 2, (0, 0, 0, 0)) := by decide +kernel
theorem kc_100_33 : zcode 100 33 = some (.lstore 5, 2, (0, 0, 0, 0)) := by decide +kernel
theorem kc_100_35 : zcode 100 35 = some (.lload 9, 2, (0, 0, 0, 0)) := by decide +kernel
theorem kc_100_37 : zcode 100 37 = some (.lstore 7, 2, (0, 0, 0, 0)) := by decide +kernel
theorem kc_100_39 : zcode 100 39 = some (.goto (-22), 3, (17, 0, 0, 0)) := by decide +kernel
theorem kc_100_42 : zcode 100 42 = some (.aload_n 0, 1, (0, 0, 0, 0)) := by decide +kernel
theorem kc_100_43 : zcode 100 43 = some (.lload_n 1, 1, (0, 0, 0, 0)) := by decide +kernel
theorem kc_100_44 : zcode 100 44 = some (.lload 5, 2, (0, 0, 0, 0)) := by decide +kernel
theorem kc_100_46 : zcode 100 46 = some (.ldiv, 1, (0, 0, 0, 0)) := by decide +kernel
theorem kc_100_47 : zcode 100 47 = some (.putfield 71, 3, (8, 18, 694, 0)) := by decide +kernel
theorem kc_100_50 : zcode 100 50 = some (.aload_n 0, 1, (0, 0, 0, 0)) := by decide +kernel
theorem kc_100_51 : zcode 100 51 = some (.lload_n 3, 1, (0, 0, 0, 0)) := by decide +kernel
theorem kc_100_52 : zcode 100 52 = some (.lload 5, 2, (0, 0, 0, 0)) := by decide +kernel
theorem kc_100_54 : zcode 100 54 = some (.ldiv, 1, (0, 0, 0, 0)) := by decide +kernel
theorem kc_100_55 : zcode 100 55 = some (.putfield 75, 3, (8, 19, 695, 0)) := by decide +kernel
theorem kc_100_58 : zcode 100 58 = some (.return_, 1, (0, 0, 0, 0)) := by decide +kernel
theorem kc_101_0 : zcode 101 0 = some (.iload_n 1, 1, (0, 0, 0, 0)) := by decide +kernel
theorem kc_101_1 : zcode 101 1 = some (.ifCond .ne 10, 3, (11, 0, 0, 0)) := by decide +kernel
theorem kc_101_4 : zcode 101 4 = some (.aload_n 0, 1, (0, 0, 0, 0)) := by decide +kernel
theorem kc_101_5 : zcode 101 5 = some (.getfield 71, 3, (8, 18, 694, 0)) := by decide +kernel
theorem kc_101_8 : zcode 101 8 = some (.goto 7, 3, (15, 0, 0, 0)) := by decide +kernel
theorem kc_101_11 : zcode 101 11 = some (.aload_n 0, 1, (0, 0, 0, 0)) := by decide +kernel
theorem kc_101_12 : zcode 101 12 = some (.getfield 75, 3, (8, 19, 695, 0)) := by decide +kernel
theorem kc_101_15 : zcode 101 15 = some (.lreturn, 1, (0, 0, 0, 0)) := by decide +kernel
theorem kc_102_0 : zcode 102 0 = some (.iconst 1, 1, (0, 0, 0, 0)) := by decide +kernel
theorem kc_102_1 : zcode 102 1 = some (.aload_n 0, 1, (0, 0, 0, 0)) := by decide +kernel
theorem kc_102_2 : zcode 102 2 = some (.getfield 63, 3, (8, 0, 676, 0)) := by decide +kernel
theorem kc_102_5 : zcode 102 5 = some (.ishl, 1, (0, 0, 0, 0)) := by decide +kernel
theorem kc_102_6 : zcode 102 6 = some (.iconst 1, 1, (0, 0, 0, 0)) := by decide +kernel
theorem kc_102_7 : zcode 102 7 = some (.isub, 1, (0, 0, 0, 0)) := by decide +kernel
theorem kc_102_8 : zcode 102 8 = some (.ireturn, 1, (0, 0, 0, 0)) := by decide +kernel
theorem kc_103_0 : zcode 103 0 = some (.iconst 0, 1, (0, 0, 0, 0)) := by decide +kernel
theorem kc_103_1 : zcode 103 1 = some (.istore_n 2, 1, (0, 0, 0, 0)) := by decide +kernel
theorem kc_103_2 : zcode 103 2 = some (.iconst 0, 1, (0, 0, 0, 0)) := by decide +kernel
theorem kc_103_3 : zcode 103 3 = some (.istore_n 3, 1, (0, 0, 0, 0)) := by decide +kernel
theorem kc_103_4 : zcode 103 4 = some (.iload_n 3, 1, (0, 0, 0, 0)) := by decide +kernel
theorem kc_103_5 : zcode 103 5 = some (.aload_n 0, 1, (0, 0, 0, 0)) := by decide +kernel
theorem kc_103_6 : zcode 103 6 = some (.getfield 63, 3, (8, 0, 676, 0)) := by decide +kernel
theorem kc_103_9 : zcode 103 9 = some (.if_icmp .ge 30, 3, (39, 0, 0, 0)) := by decide +kernel
theorem kc_103_12 : zcode 103 12 = some (.iload_n 2, 1, (0, 0, 0, 0)) := by decide +kernel
theorem kc_103_13 : zcode 103 13 = some (.iload_n 1, 1, (0, 0, 0, 0)) := by decide +kernel
theorem kc_103_14 : zcode 103 14 = some (.iload_n 3, 1, (0, 0, 0, 0)) := by decide +kernel
theorem kc_103_15 : zcode 103 15 = some (.invokestatic 78, 3, (95, 0, 820, 0)) := by decide +kernel
theorem kc_103_18 : zcode 103 18 = some (.ifCond .eq 12, 3, (30, 0, 0, 0)) := by decide +kernel
theorem kc_103_21 : zcode 103 21 = some (.aload_n 0, 1, (0, 0, 0, 0)) := by decide +kernel
theorem kc_103_22 : zcode 103 22 = some (.getfield 9, 3, (8, 1, 677, 0)) := by decide +kernel
theorem kc_103_25 : zcode 103 25 = some (.iload_n 3, 1, (0, 0, 0, 0)) := by decide +kernel
theorem kc_103_26 : zcode 103 26 = some (.iaload, 1, (0, 0, 0, 0)) := by decide +kernel
theorem kc_103_27 : zcode 103 27 = some (.goto 4, 3, (31, 0, 0, 0)) := by decide +kernel
theorem kc_103_30 : zcode 103 30 = some (.iconst 0, 1, (0, 0, 0, 0)) := by decide +kernel
theorem kc_103_31 : zcode 103 31 = some (.iadd, 1, (0, 0, 0, 0)) := by decide +kernel
theorem kc_103_32 : zcode 103 32 = some (.istore_n 2, 1, (0, 0, 0, 0)) := by decide +kernel
theorem kc_103_33 : zcode 103 33 = some (.iinc 3 1, 3, (0, 0, 0, 0)) := by decide +kernel
theorem kc_103_36 : zcode 103 36 = some (.goto (-32), 3, (4, 0, 0, 0)) := by decide +kernel
theorem kc_103_39 : zcode 103 39 = some (.iload_n 2, 1, (0, 0, 0, 0)) := by decide +kernel
theorem kc_103_40 : zcode 103 40 = some (.ireturn, 1, (0, 0, 0, 0)) := by decide +kernel
theorem kc_104_0 : zcode 104 0 = some (.aload_n 0, 1, (0, 0, 0, 0)) := by decide +kernel
theorem kc_104_1 : zcode 104 1 = some (.aload_n 0, 1, (0, 0, 0, 0)) := by decide +kernel
theorem kc_104_2 : zcode 104 2 = some (.invokevirtual 82, 3, (102, 0, 812, 0)) := by decide +kernel
theorem kc_104_5 : zcode 104 5 = some (.invokevirtual 86, 3, (103, 0, 816, 0)) := by decide +kernel
theorem kc_104_8 : zcode 104 8 = some (.ireturn, 1, (0, 0, 0, 0)) := by decide +kernel
theorem kc_105_0 : zcode 105 0 = some (.aload_n 0, 1, (0, 0, 0, 0)) := by decide +kernel
theorem kc_105_1 : zcode 105 1 = some (.getfield 63, 3, (8, 0, 676, 0)) := by decide +kernel
theorem kc_105_4 : zcode 105 4 = some (.ifCond .le 18, 3, (22, 0, 0, 0)) := by decide +kernel
theorem kc_105_7 : zcode 105 7 = some (.aload_n 0, 1, (0, 0, 0, 0)) := by decide +kernel
theorem kc_105_8 : zcode 105 8 = some (.getfield 90, 3, (8, 2, 678, 0)) := by decide +kernel
theorem kc_105_11 : zcode 105 11 = some (.aload_n 0, 1, (0, 0, 0, 0)) := by decide +kernel
theorem kc_105_12 : zcode 105 12 = some (.invokevirtual 93, 3, (104, 0, 808, 0)) := by decide +kernel
theorem kc_105_15 : zcode 105 15 = some (.if_icmp .gt 7, 3, (22, 0, 0, 0)) := by decide +kernel
theorem kc_105_18 : zcode 105 18 = some (.iconst 1, 1, (0, 0, 0, 0)) := by decide +kernel
theorem kc_105_19 : zcode 105 19 = some (.goto 4, 3, (23, 0, 0, 0)) := by decide +kernel
theorem kc_105_22 : zcode 105 22 = some (.iconst 0, 1, (0, 0, 0, 0)) := by decide +kernel
theorem kc_105_23 : zcode 105 23 = some (.ireturn, 1, (1, 0, 0, 0)) := by decide +kernel
theorem kc_106_0 : zcode 106 0 = some (.iload_n 1, 1, (0, 0, 0, 0)) := by decide +kernel
theorem kc_106_1 : zcode 106 1 = some (.invokestatic 96, 3, (99, 0, 775, 0)) := by decide +kernel
theorem kc_106_4 : zcode 106 4 = some (.ifCond .ne 6, 3, (10, 0, 0, 0)) := by decide +kernel
theorem kc_106_7 : zcode 106 7 = some (.bipush (-2), 2, (0, 0, 0, 0)) := by decide +kernel
theorem kc_106_9 : zcode 106 9 = some (.ireturn, 1, (0, 0, 0, 0)) := by decide +kernel
theorem kc_106_10 : zcode 106 10 = some (.aload_n 0, 1, (0, 0, 0, 0)) := by decide +kernel
theorem kc_106_11 : zcode 106 11 = some (.getfield 63, 3, (8, 0, 676, 0)) := by decide +kernel
theorem kc_106_14 : zcode 106 14 = some (.bipush 6, 2, (0, 0, 0, 0)) := by decide +kernel
theorem kc_106_16 : zcode 106 16 = some (.if_icmp .ne 6, 3, (22, 0, 0, 0)) := by decide +kernel
theorem kc_106_19 : zcode 106 19 = some (.bipush (-4), 2, (0, 0, 0, 0)) := by decide +kernel
theorem kc_106_21 : zcode 106 21 = some (.ireturn, 1, (0, 0, 0, 0)) := by decide +kernel
theorem kc_106_22 : zcode 106 22 = some (.aload_n 0, 1, (0, 0, 0, 0)) := by decide +kernel
theorem kc_106_23 : zcode 106 23 = some (.getfield 9, 3, (8, 1, 677, 0)) := by decide +kernel
theorem kc_106_26 : zcode 106 26 = some (.aload_n 0, 1, (0, 0, 0, 0)) := by decide +kernel
theorem kc_106_27 : zcode 106 27 = some (.getfield 63, 3, (8, 0, 676, 0)) := by decide +kernel
theorem kc_106_30 : zcode 106 30 = some (.iload_n 1, 1, (0, 0, 0, 0)) := by decide +kernel
theorem kc_106_31 : zcode 106 31 = some (.iastore, 1, (0, 0, 0, 0)) := by decide +kernel
theorem kc_106_32 : zcode 106 32 = some (.aload_n 0, 1, (0, 0, 0, 0)) := by decide +kernel
theorem kc_106_33 : zcode 106 33 = some (.dup, 1, (0, 0, 0, 0)) := by decide +kernel
theorem kc_106_34 : zcode 106 34 = some (.getfield 63, 3, (8, 0, 676, 0)) := by decide +kernel
theorem kc_106_37 : zcode 106 37 = some (.iconst 1, 1, (0, 0, 0, 0)) := by decide +kernel
theorem kc_106_38 : zcode 106 38 = some (.iadd, 1, (0, 0, 0, 0)) := by decide +kernel
theorem kc_106_39 : zcode 106 39 = some (.putfield 63, 3, (8, 0, 676, 0)) := by decide +kernel
theorem kc_106_42 : zcode 106 42 = some (.aload_n 0, 1, (0, 0, 0, 0)) := by decide +kernel
theorem kc_106_43 : zcode 106 43 = some (.getfield 63, 3, (8, 0, 676, 0)) := by decide +kernel
theorem kc_106_46 : zcode 106 46 = some (.iconst 1, 1, (0, 0, 0, 0)) := by decide +kernel
theorem kc_106_47 : zcode 106 47 = some (.isub, 1, (0, 0, 0, 0)) := by decide +kernel
theorem kc_106_48 : zcode 106 48 = some (.ireturn, 1, (0, 0, 0, 0)) := by decide +kernel
theorem kc_107_0 : zcode 107 0 = some (.aload_n 0, 1, (0, 0, 0, 0)) := by decide +kernel
theorem kc_107_1 : zcode 107 1 = some (.iload_n 1, 1, (0, 0, 0, 0)) := by decide +kernel
theorem kc_107_2 : zcode 107 2 = some (.invokevirtual 100, 3, (96, 0, 785, 0)) := by decide +kernel
theorem kc_107_5 : zcode 107 5 = some (.ifCond .ne 5, 3, (10, 0, 0, 0)) := by decide +kernel
theorem kc_107_8 : zcode 107 8 = some (.iconst (-1), 1, (0, 0, 0, 0)) := by decide +kernel
theorem kc_107_9 : zcode 107 9 = some (.ireturn, 1, (0, 0, 0, 0)) := by decide +kernel
theorem kc_107_10 : zcode 107 10 = some (.iload_n 2, 1, (0, 0, 0, 0)) := by decide +kernel
theorem kc_107_11 : zcode 107 11 = some (.invokestatic 96, 3, (99, 0, 775, 0)) := by decide +kernel
theorem kc_107_14 : zcode 107 14 = some (.ifCond .ne 6, 3, (20, 0, 0, 0)) := by decide +kernel
theorem kc_107_17 : zcode 107 17 = some (.bipush (-2), 2, (0, 0, 0, 0)) := by decide +kernel
theorem kc_107_19 : zcode 107 19 = some (.ireturn, 1, (0, 0, 0, 0)) := by decide +kernel
theorem kc_107_20 : zcode 107 20 = some (.aload_n 0, 1, (0, 0, 0, 0)) := by decide +kernel
theorem kc_107_21 : zcode 107 21 = some (.getfield 9, 3, (8, 1, 677, 0)) := by decide +kernel
theorem kc_107_24 : zcode 107 24 = some (.iload_n 1, 1, (0, 0, 0, 0)) := by decide +kernel
theorem kc_107_25 : zcode 107 25 = some (.iaload, 1, (0, 0, 0, 0)) := by decide +kernel
theorem kc_107_26 : zcode 107 26 = some (.istore_n 3, 1, (0, 0, 0, 0)) := by decide +kernel
theorem kc_107_27 : zcode 107 27 = some (.aload_n 0, 1, (0, 0, 0, 0)) := by decide +kernel
theorem kc_107_28 : zcode 107 28 = some (.getfield 9, 3, (8, 1, 677, 0)) := by decide +kernel
theorem kc_107_31 : zcode 107 31 = some (.iload_n 1, 1, (0, 0, 0, 0)) := by decide +kernel
theorem kc_107_32 : zcode 107 32 = some (.iload_n 2, 1, (0, 0, 0, 0)) := by decide +kernel
theorem kc_107_33 : zcode 107 33 = some (.iastore, 1, (0, 0, 0, 0)) := by decide +kernel
theorem kc_107_34 : zcode 107 34 = some (.iload_n 3, 1, (0, 0, 0, 0)) := by decide +kernel
theorem kc_107_35 : zcode 107 35 = some (.ireturn, 1, (0, 0, 0, 0)) := by decide +kernel
theorem kc_108_0 : zcode 108 0 = some (.iload_n 1, 1, (0, 0, 0, 0)) := by decide +kernel
theorem kc_108_1 : zcode 108 1 = some (.iconst 0, 1, (0, 0, 0, 0)) := by decide +kernel
theorem kc_108_2 : zcode 108 2 = some (.sipush 360, 3, (0, 0, 0, 0)) := by decide +kernel
theorem kc_108_5 : zcode 108 5 = some (.invokestatic 67, 3, (94, 0, 778, 0)) := by decide +kernel
theorem kc_108_8 : zcode 108 8 = some (.ifCond .ne 6, 3, (14, 0, 0, 0)) := by decide +kernel
theorem kc_108_11 : zcode 108 11 = some (.bipush (-2), 2, (0, 0, 0, 0)) := by decide +kernel
theorem kc_108_13 : zcode 108 13 = some (.ireturn, 1, (0, 0, 0, 0)) := by decide +kernel
theorem kc_108_14 : zcode 108 14 = some (.aload_n 0, 1, (0, 0, 0, 0)) := by decide +kernel
theorem kc_108_15 : zcode 108 15 = some (.getfield 90, 3, (8, 2, 678, 0)) := by decide +kernel
theorem kc_108_18 : zcode 108 18 = some (.istore_n 2, 1, (0, 0, 0, 0)) := by decide +kernel
theorem kc_108_19 : zcode 108 19 = some (.aload_n 0, 1, (0, 0, 0, 0)) := by decide +kernel
theorem kc_108_20 : zcode 108 20 = some (.iload_n 1, 1, (0, 0, 0, 0)) := by decide +kernel
theorem kc_108_21 : zcode 108 21 = some (.putfield 90, 3, (8, 2, 678, 0)) := by decide +kernel
theorem kc_108_24 : zcode 108 24 = some (.iload_n 2, 1, (0, 0, 0, 0)) := by decide +kernel
theorem kc_108_25 : zcode 108 25 = some (.ireturn, 1, (0, 0, 0, 0)) := by decide +kernel
theorem kc_109_0 : zcode 109 0 = some (.iload_n 1, 1, (0, 0, 0, 0)) := by decide +kernel
theorem kc_109_1 : zcode 109 1 = some (.invokestatic 103, 3, (97, 0, 797, 0)) := by decide +kernel
theorem kc_109_4 : zcode 109 4 = some (.ifCond .ne 6, 3, (10, 0, 0, 0)) := by decide +kernel
theorem kc_109_7 : zcode 109 7 = some (.bipush (-2), 2, (0, 0, 0, 0)) := by decide +kernel
theorem kc_109_9 : zcode 109 9 = some (.ireturn, 1, (0, 0, 0, 0)) := by decide +kernel
theorem kc_109_10 : zcode 109 10 = some (.aload_n 0, 1, (0, 0, 0, 0)) := by decide +kernel
theorem kc_109_11 : zcode 109 11 = some (.getfield 106, 3, (8, 3, 679, 0)) := by decide +kernel
theorem kc_109_14 : zcode 109 14 = some (.istore_n 2, 1, (0, 0, 0, 0)) := by decide +kernel
theorem kc_109_15 : zcode 109 15 = some (.aload_n 0, 1, (0, 0, 0, 0)) := by decide +kernel
theorem kc_109_16 : zcode 109 16 = some (.iload_n 1, 1, (0, 0, 0, 0)) := by decide +kernel
theorem kc_109_17 : zcode 109 17 = some (.putfield 106, 3, (8, 3, 679, 0)) := by decide +kernel
theorem kc_109_20 : zcode 109 20 = some (.iload_n 2, 1, (0, 0, 0, 0)) := by decide +kernel
theorem kc_109_21 : zcode 109 21 = some (.ireturn, 1, (0, 0, 0, 0)) := by decide +kernel
theorem kc_110_0 : zcode 110 0 = some (.aload_n 0, 1, (0, 0, 0, 0)) := by decide +kernel
theorem kc_110_1 : zcode 110 1 = some (.iload_n 1, 1, (0, 0, 0, 0)) := by decide +kernel
theorem kc_110_2 : zcode 110 2 = some (.invokevirtual 100, 3, (96, 0, 785, 0)) := by decide +kernel
theorem kc_110_5 : zcode 110 5 = some (.ifCond .eq 12, 3, (17, 0, 0, 0)) := by decide +kernel
theorem kc_110_8 : zcode 110 8 = some (.aload_n 0, 1, (0, 0, 0, 0)) := by decide +kernel
theorem kc_110_9 : zcode 110 9 = some (.getfield 9, 3, (8, 1, 677, 0)) := by decide +kernel
theorem kc_110_12 : zcode 110 12 = some (.iload_n 1, 1, (0, 0, 0, 0)) := by decide +kernel
theorem kc_110_13 : zcode 110 13 = some (.iaload, 1, (0, 0, 0, 0)) := by decide +kernel
theorem kc_110_14 : zcode 110 14 = some (.goto 4, 3, (18, 0, 0, 0)) := by decide +kernel
theorem kc_110_17 : zcode 110 17 = some (.iconst (-1), 1, (0, 0, 0, 0)) := by decide +kernel
theorem kc_110_18 : zcode 110 18 = some (.ireturn, 1, (0, 0, 0, 0)) := by decide +kernel
theorem kc_111_0 : zcode 111 0 = some (.iload_n 1, 1, (0, 0, 0, 0)) := by decide +kernel
theorem kc_111_1 : zcode 111 1 = some (.tableswitch 68 0 4 #[35, 40, 45, 50, 55], 35, (0, 0, 0, 0)) := by decide +kernel
theorem kc_111_36 : zcode 111 36 = some (.aload_n 0, 1, (0, 0, 0, 0)) := by decide +kernel
theorem kc_111_37 : zcode 111 37 = some (.getfield 63, 3, (8, 0, 676, 0)) := by decide +kernel
theorem kc_111_40 : zcode 111 40 = some (.ireturn, 1, (0, 0, 0, 0)) := by decide +kernel
theorem kc_111_41 : zcode 111 41 = some (.aload_n 0, 1, (0, 0, 0, 0)) := by decide +kernel
theorem kc_111_42 : zcode 111 42 = some (.invokevirtual 93, 3, (104, 0, 808, 0)) := by decide +kernel
theorem kc_111_45 : zcode 111 45 = some (.ireturn, 1, (0, 0, 0, 0)) := by decide +kernel
theorem kc_111_46 : zcode 111 46 = some (.aload_n 0, 1, (0, 0, 0, 0)) := by decide +kernel
theorem kc_111_47 : zcode 111 47 = some (.getfield 90, 3, (8, 2, 678, 0)) := by decide +kernel
theorem kc_111_50 : zcode 111 50 = some (.ireturn, 1, (0, 0, 0, 0)) := by decide +kernel
theorem kc_111_51 : zcode 111 51 = some (.aload_n 0, 1, (0, 0, 0, 0)) := by decide +kernel
theorem kc_111_52 : zcode 111 52 = some (.getfield 106, 3, (8, 3, 679, 0)) := by decide +kernel
theorem kc_111_55 : zcode 111 55 = some (.ireturn, 1, (0, 0, 0, 0)) := by decide +kernel
theorem kc_111_56 : zcode 111 56 = some (.aload_n 0, 1, (0, 0, 0, 0)) := by decide +kernel
theorem kc_111_57 : zcode 111 57 = some (.invokevirtual 109, 3, (105, 0, 823, 0)) := by decide +kernel
theorem kc_111_60 : zcode 111 60 = some (.ifCond .eq 7, 3, (67, 0, 0, 0)) := by decide +kernel
theorem kc_111_63 : zcode 111 63 = some (.iconst 1, 1, (0, 0, 0, 0)) := by decide +kernel
theorem kc_111_64 : zcode 111 64 = some (.goto 4, 3, (68, 0, 0, 0)) := by decide +kernel
theorem kc_111_67 : zcode 111 67 = some (.iconst 0, 1, (0, 0, 0, 0)) := by decide +kernel
theorem kc_111_68 : zcode 111 68 = some (.ireturn, 1, (0, 0, 0, 0)) := by decide +kernel
theorem kc_111_69 : zcode 111 69 = some (.iconst (-1), 1, (0, 0, 0, 0)) := by decide +kernel
theorem kc_111_70 : zcode 111 70 = some (.ireturn, 1, (0, 0, 0, 0)) := by decide +kernel
theorem kc_112_0 : zcode 112 0 = some (.iload_n 1, 1, (0, 0, 0, 0)) := by decide +kernel
theorem kc_112_1 : zcode 112 1 = some (.iconst 0, 1, (0, 0, 0, 0)) := by decide +kernel
theorem kc_112_2 : zcode 112 2 = some (.bipush 127, 2, (0, 0, 0, 0)) := by decide +kernel
theorem kc_112_4 : zcode 112 4 = some (.invokestatic 67, 3, (94, 0, 778, 0)) := by decide +kernel
theorem kc_112_7 : zcode 112 7 = some (.ifCond .ne 6, 3, (13, 0, 0, 0)) := by decide +kernel
theorem kc_112_10 : zcode 112 10 = some (.bipush (-2), 2, (0, 0, 0, 0)) := by decide +kernel
theorem kc_112_12 : zcode 112 12 = some (.ireturn, 1, (0, 0, 0, 0)) := by decide +kernel
theorem kc_112_13 : zcode 112 13 = some (.aload_n 0, 1, (0, 0, 0, 0)) := by decide +kernel
theorem kc_112_14 : zcode 112 14 = some (.getfield 113, 3, (8, 14, 690, 0)) := by decide +kernel
theorem kc_112_17 : zcode 112 17 = some (.bipush 100, 2, (0, 0, 0, 0)) := by decide +kernel
theorem kc_112_19 : zcode 112 19 = some (.if_icmp .ne 6, 3, (25, 0, 0, 0)) := by decide +kernel
theorem kc_112_22 : zcode 112 22 = some (.bipush (-4), 2, (0, 0, 0, 0)) := by decide +kernel
theorem kc_112_24 : zcode 112 24 = some (.ireturn, 1, (0, 0, 0, 0)) := by decide +kernel
theorem kc_112_25 : zcode 112 25 = some (.aload_n 0, 1, (0, 0, 0, 0)) := by decide +kernel
theorem kc_112_26 : zcode 112 26 = some (.getfield 33, 3, (8, 13, 689, 0)) := by decide +kernel
theorem kc_112_29 : zcode 112 29 = some (.aload_n 0, 1, (0, 0, 0, 0)) := by decide +kernel
theorem kc_112_30 : zcode 112 30 = some (.getfield 113, 3, (8, 14, 690, 0)) := by decide +kernel
theorem kc_112_33 : zcode 112 33 = some (.iload_n 1, 1, (0, 0, 0, 0)) := by decide +kernel
theorem kc_112_34 : zcode 112 34 = some (.iastore, 1, (0, 0, 0, 0)) := by decide +kernel
theorem kc_112_35 : zcode 112 35 = some (.aload_n 0, 1, (0, 0, 0, 0)) := by decide +kernel
theorem kc_112_36 : zcode 112 36 = some (.dup, 1, (0, 0, 0, 0)) := by decide +kernel
theorem kc_112_37 : zcode 112 37 = some (.getfield 113, 3, (8, 14, 690, 0)) := by decide +kernel
theorem kc_112_40 : zcode 112 40 = some (.iconst 1, 1, (0, 0, 0, 0)) := by decide +kernel
theorem kc_112_41 : zcode 112 41 = some (.iadd, 1, (0, 0, 0, 0)) := by decide +kernel
theorem kc_112_42 : zcode 112 42 = some (.putfield 113, 3, (8, 14, 690, 0)) := by decide +kernel
theorem kc_112_45 : zcode 112 45 = some (.aload_n 0, 1, (0, 0, 0, 0)) := by decide +kernel
theorem kc_112_46 : zcode 112 46 = some (.getfield 113, 3, (8, 14, 690, 0)) := by decide +kernel
theorem kc_112_49 : zcode 112 49 = some (.ireturn, 1, (0, 0, 0, 0)) := by decide +kernel
theorem kc_113_0 : zcode 113 0 = some (.aload_n 0, 1, (0, 0, 0, 0)) := by decide +kernel
theorem kc_113_1 : zcode 113 1 = some (.getfield 116, 3, (8, 20, 696, 0)) := by decide +kernel
theorem kc_113_4 : zcode 113 4 = some (.aload_n 0, 1, (0, 0, 0, 0)) := by decide +kernel
theorem kc_113_5 : zcode 113 5 = some (.getfield 113, 3, (8, 14, 690, 0)) := by decide +kernel
theorem kc_113_8 : zcode 113 8 = some (.if_icmp .ge 15, 3, (23, 0, 0, 0)) := by decide +kernel
theorem kc_113_11 : zcode 113 11 = some (.aload_n 0, 1, (0, 0, 0, 0)) := by decide +kernel
theorem kc_113_12 : zcode 113 12 = some (.getfield 33, 3, (8, 13, 689, 0)) := by decide +kernel
theorem kc_113_15 : zcode 113 15 = some (.aload_n 0, 1, (0, 0, 0, 0)) := by decide +kernel
theorem kc_113_16 : zcode 113 16 = some (.getfield 116, 3, (8, 20, 696, 0)) := by decide +kernel
theorem kc_113_19 : zcode 113 19 = some (.iaload, 1, (0, 0, 0, 0)) := by decide +kernel
theorem kc_113_20 : zcode 113 20 = some (.goto 4, 3, (24, 0, 0, 0)) := by decide +kernel
theorem kc_113_23 : zcode 113 23 = some (.iconst (-1), 1, (0, 0, 0, 0)) := by decide +kernel
theorem kc_113_24 : zcode 113 24 = some (.ireturn, 1, (0, 0, 0, 0)) := by decide +kernel
theorem kc_114_0 : zcode 114 0 = some (.aload_n 0, 1, (0, 0, 0, 0)) := by decide +kernel
theorem kc_114_1 : zcode 114 1 = some (.iconst 0, 1, (0, 0, 0, 0)) := by decide +kernel
theorem kc_114_2 : zcode 114 2 = some (.putfield 119, 3, (8, 21, 697, 0)) := by decide +kernel
theorem kc_114_5 : zcode 114 5 = some (.aload_n 0, 1, (0, 0, 0, 0)) := by decide +kernel
theorem kc_114_6 : zcode 114 6 = some (.getfield 116, 3, (8, 20, 696, 0)) := by decide +kernel
theorem kc_114_9 : zcode 114 9 = some (.istore_n 2, 1, (0, 0, 0, 0)) := by decide +kernel
theorem kc_114_10 : zcode 114 10 = some (.aload_n 0, 1, (0, 0, 0, 0)) := by decide +kernel
theorem kc_114_11 : zcode 114 11 = some (.getfield 116, 3, (8, 20, 696, 0)) := by decide +kernel
theorem kc_114_14 : zcode 114 14 = some (.iload_n 2, 1, (0, 0, 0, 0)) := by decide +kernel
theorem kc_114_15 : zcode 114 15 = some (.iload_n 1, 1, (0, 0, 0, 0)) := by decide +kernel
theorem kc_114_16 : zcode 114 16 = some (.iadd, 1, (0, 0, 0, 0)) := by decide +kernel
theorem kc_114_17 : zcode 114 17 = some (.if_icmp .ge 49, 3, (66, 0, 0, 0)) := by decide +kernel
theorem kc_114_20 : zcode 114 20 = some (.aload_n 0, 1, (0, 0, 0, 0)) := by decide +kernel
theorem kc_114_21 : zcode 114 21 = some (.invokevirtual 122, 3, (113, 0, 843, 0)) := by decide +kernel
theorem kc_114_24 : zcode 114 24 = some (.bipush 48, 2, (0, 0, 0, 0)) := by decide +kernel
theorem kc_114_26 : zcode 114 26 = some (.bipush 57, 2, (0, 0, 0, 0)) := by decide +kernel
theorem kc_114_28 : zcode 114 28 = some (.invokestatic 67, 3, (94, 0, 778, 0)) := by decide +kernel
theorem kc_114_31 : zcode 114 31 = some (.ifCond .eq 35, 3, (66, 0, 0, 0)) := by decide +kernel
theorem kc_114_34 : zcode 114 34 = some (.aload_n 0, 1, (0, 0, 0, 0)) := by decide +kernel
theorem kc_114_35 : zcode 114 35 = some (.bipush 10, 2, (0, 0, 0, 0)) := by decide +kernel
theorem kc_114_37 : zcode 114 37 = some (.aload_n 0, 1, (0, 0, 0, 0)) := by decide +kernel
theorem kc_114_38 : zcode 114 38 = some (.getfield 119, 3, (8, 21, 697, 0)) := by decide +kernel
theorem kc_114_41 : zcode 114 41 = some (.imul, 1, (0, 0, 0, 0)) := by decide +kernel
theorem kc_114_42 : zcode 114 42 = some (.aload_n 0, 1, (0, 0, 0, 0)) := by decide +kernel
theorem kc_114_43 : zcode 114 43 = some (.invokevirtual 122, 3, (113, 0, 843, 0)) := by decide +kernel
theorem kc_114_46 : zcode 114 46 = some (.iadd, 1, (0, 0, 0, 0)) := by decide +kernel
theorem kc_114_47 : zcode 114 47 = some (.bipush 48, 2, (0, 0, 0, 0)) := by decide +kernel
theorem kc_114_49 : zcode 114 49 = some (.isub, 1, (0, 0, 0, 0)) := by decide +kernel
theorem kc_114_50 : zcode 114 50 = some (.putfield 119, 3, (8, 21, 697, 0)) := by decide +kernel
theorem kc_114_53 : zcode 114 53 = some (.aload_n 0, 1, (0, 0, 0, 0)) := by decide +kernel
theorem kc_114_54 : zcode 114 54 = some (.dup, 1, (0, 0, 0, 0)) := by decide +kernel
theorem kc_114_55 : zcode 114 55 = some (.getfield 116, 3, (8, 20, 696, 0)) := by decide +kernel
theorem kc_114_58 : zcode 114 58 = some (.iconst 1, 1, (0, 0, 0, 0)) := by decide +kernel
theorem kc_114_59 : zcode 114 59 = some (.iadd, 1, (0, 0, 0, 0)) := by decide +kernel
theorem kc_114_60 : zcode 114 60 = some (.putfield 116, 3, (8, 20, 696, 0)) := by decide +kernel
theorem kc_114_63 : zcode 114 63 = some (.goto (-53), 3, (10, 0, 0, 0)) := by decide +kernel
theorem kc_114_66 : zcode 114 66 = some (.aload_n 0, 1, (0, 0, 0, 0)) := by decide +kernel
theorem kc_114_67 : zcode 114 67 = some (.getfield 116, 3, (8, 20, 696, 0)) := by decide +kernel
theorem kc_114_70 : zcode 114 70 = some (.iload_n 2, 1, (0, 0, 0, 0)) := by decide +kernel
theorem kc_114_71 : zcode 114 71 = some (.if_icmp .le 7, 3, (78, 0, 0, 0)) := by decide +kernel
theorem kc_114_74 : zcode 114 74 = some (.iconst 1, 1, (0, 0, 0, 0)) := by decide +kernel
theorem kc_114_75 : zcode 114 75 = some (.goto 4, 3, (79, 0, 0, 0)) := by decide +kernel
theorem kc_114_78 : zcode 114 78 = some (.iconst 0, 1, (0, 0, 0, 0)) := by decide +kernel
theorem kc_114_79 : zcode 114 79 = some (.ireturn, 1, (1, 0, 0, 0)) := by decide +kernel
theorem kc_115_0 : zcode 115 0 = some (.aload_n 0, 1, (0, 0, 0, 0)) := by decide +kernel
theorem kc_115_1 : zcode 115 1 = some (.invokevirtual 122, 3, (113, 0, 843, 0)) := by decide +kernel
theorem kc_115_4 : zcode 115 4 = some (.istore_n 2, 1, (0, 0, 0, 0)) := by decide +kernel
theorem kc_115_5 : zcode 115 5 = some (.iconst 0, 1, (0, 0, 0, 0)) := by decide +kernel
theorem kc_115_6 : zcode 115 6 = some (.istore_n 3, 1, (0, 0, 0, 0)) := by decide +kernel
theorem kc_115_7 : zcode 115 7 = some (.iload_n 2, 1, (0, 0, 0, 0)) := by decide +kernel
theorem kc_115_8 : zcode 115 8 = some (.bipush 99, 2, (0, 0, 0, 0)) := by decide +kernel
theorem kc_115_10 : zcode 115 10 = some (.if_icmp .eq 23, 3, (33, 0, 0, 0)) := by decide +kernel
theorem kc_115_13 : zcode 115 13 = some (.iload_n 2, 1, (0, 0, 0, 0)) := by decide +kernel
theorem kc_115_14 : zcode 115 14 = some (.bipush 110, 2, (0, 0, 0, 0)) := by decide +kernel
theorem kc_115_16 : zcode 115 16 = some (.if_icmp .eq 17, 3, (33, 0, 0, 0)) := by decide +kernel
theorem kc_115_19 : zcode 115 19 = some (.iload_n 2, 1, (0, 0, 0, 0)) := by decide +kernel
theorem kc_115_20 : zcode 115 20 = some (.bipush 101, 2, (0, 0, 0, 0)) := by decide +kernel
theorem kc_115_22 : zcode 115 22 = some (.if_icmp .eq 11, 3, (33, 0, 0, 0)) := by decide +kernel
theorem kc_115_25 : zcode 115 25 = some (.iload_n 2, 1, (0, 0, 0, 0)) := by decide +kernel
theorem kc_115_26 : zcode 115 26 = some (.bipush 114, 2, (0, 0, 0, 0)) := by decide +kernel
theorem kc_115_28 : zcode 115 28 = some (.if_icmp .eq 5, 3, (33, 0, 0, 0)) := by decide +kernel
theorem kc_115_31 : zcode 115 31 = some (.iconst (-1), 1, (0, 0, 0, 0)) := by decide +kernel
theorem kc_115_32 : zcode 115 32 = some (.ireturn, 1, (0, 0, 0, 0)) := by decide +kernel
theorem kc_115_33 : zcode 115 33 = some (.aload_n 0, 1, (0, 0, 0, 0)) := by decide +kernel
theorem kc_115_34 : zcode 115 34 = some (.dup, 1, (0, 0, 0, 0)) := by decide +kernel
theorem kc_115_35 : zcode 115 35 = some (.getfield 116, 3, (8, 20, 696, 0)) := by decide +kernel
theorem kc_115_38 : zcode 115 38 = some (.iconst 1, 1, (0, 0, 0, 0)) := by decide +kernel
theorem kc_115_39 : zcode 115 39 = some (.iadd, 1, (0, 0, 0, 0)) := by decide +kernel
theorem kc_115_40 : zcode 115 40 = some (.putfield 116, 3, (8, 20, 696, 0)) := by decide +kernel
theorem kc_115_43 : zcode 115 43 = some (.iload_n 2, 1, (0, 0, 0, 0)) := by decide +kernel
theorem kc_115_44 : zcode 115 44 = some (.bipush 110, 2, (0, 0, 0, 0)) := by decide +kernel
theorem kc_115_46 : zcode 115 46 = some (.if_icmp .ne 18, 3, (64, 0, 0, 0)) := by decide +kernel
theorem kc_115_49 : zcode 115 49 = some (.aload_n 0, 1, (0, 0, 0, 0)) := by decide +kernel
theorem kc_115_50 : zcode 115 50 = some (.iconst 1, 1, (0, 0, 0, 0)) := by decide +kernel
theorem kc_115_51 : zcode 115 51 = some (.invokevirtual 125, 3, (114, 0, 847, 0)) := by decide +kernel
theorem kc_115_54 : zcode 115 54 = some (.ifCond .ne 5, 3, (59, 0, 0, 0)) := by decide +kernel
theorem kc_115_57 : zcode 115 57 = some (.iconst (-1), 1, (0, 0, 0, 0)) := by decide +kernel
theorem kc_115_58 : zcode 115 58 = some (.ireturn, 1, (0, 0, 0, 0)) := by decide +kernel
theorem kc_115_59 : zcode 115 59 = some (.aload_n 0, 1, (0, 0, 0, 0)) := by decide +kernel
theorem kc_115_60 : zcode 115 60 = some (.getfield 119, 3, (8, 21, 697, 0)) := by decide +kernel
theorem kc_115_63 : zcode 115 63 = some (.istore_n 3, 1, (0, 0, 0, 0)) := by decide +kernel
theorem kc_115_64 : zcode 115 64 = some (.aload_n 0, 1, (0, 0, 0, 0)) := by decide +kernel
theorem kc_115_65 : zcode 115 65 = some (.iload_n 2, 1, (0, 0, 0, 0)) := by decide +kernel
theorem kc_115_66 : zcode 115 66 = some (.bipush 101, 2, (0, 0, 0, 0)) := by decide +kernel
theorem kc_115_68 : zcode 115 68 = some (.if_icmp .ne 7, 3, (75, 0, 0, 0)) := by decide +kernel
theorem kc_115_71 : zcode 115 71 = some (.iconst 3, 1, (0, 0, 0, 0)) := by decide +kernel
theorem kc_115_72 : zcode 115 72 = some (.goto 14, 3, (86, 0, 0, 0)) := by decide +kernel
theorem kc_115_75 : zcode 115 75 = some (.iload_n 2, 1, (0, 0, 0, 0)) := by decide +kernel
theorem kc_115_76 : zcode 115 76 = some (.bipush 114, 2, (0, 0, 0, 0)) := by decide +kernel
theorem kc_115_78 : zcode 115 78 = some (.if_icmp .ne 7, 3, (85, 0, 0, 0)) := by decide +kernel
theorem kc_115_81 : zcode 115 81 = some (.iconst 1, 1, (0, 0, 0, 0)) := by decide +kernel
theorem kc_115_82 : zcode 115 82 = some (.goto 4, 3, (86, 0, 0, 0)) := by decide +kernel
theorem kc_115_85 : zcode 115 85 = some (.iconst 2, 1, (0, 0, 0, 0)) := by decide +kernel
theorem kc_115_86 : zcode 115 86 = some (.invokevirtual 125, 3, (114, 0, 847, 0)) := by decide +kernel
theorem kc_115_89 : zcode 115 89 = some (.ifCond .ne 5, 3, (94, 0, 0, 0)) := by decide +kernel
theorem kc_115_92 : zcode 115 92 = some (.iconst (-1), 1, (0, 0, 0, 0)) := by decide +kernel
theorem kc_115_93 : zcode 115 93 = some (.ireturn, 1, (0, 0, 0, 0)) := by decide +kernel
theorem kc_115_94 : zcode 115 94 = some (.iload_n 1, 1, (0, 0, 0, 0)) := by decide +kernel
theorem kc_115_95 : zcode 115 95 = some (.ifCond .ne 5, 3, (100, 0, 0, 0)) := by decide +kernel
theorem kc_115_98 : zcode 115 98 = some (.iconst 0, 1, (0, 0, 0, 0)) := by decide +kernel
theorem kc_115_99 : zcode 115 99 = some (.ireturn, 1, (0, 0, 0, 0)) := by decide +kernel
theorem kc_115_100 : zcode 115 100 = some (.iload_n 2, 1, (0, 0, 0, 0)) := by decide +kernel
theorem kc_115_101 : zcode 115 101 = some (.lookupswitch 87 #[(99, 35), (101, 70), (110, 52)], 35, (0, 0, 0, 0)) := by decide +kernel
theorem kc_115_136 : zcode 115 136 = some (.aload_n 0, 1, (0, 0, 0, 0)) := by decide +kernel
theorem kc_115_137 : zcode 115 137 = some (.aload_n 0, 1, (0, 0, 0, 0)) := by decide +kernel
theorem kc_115_138 : zcode 115 138 = some (.getfield 119, 3, (8, 21, 697, 0)) := by decide +kernel
theorem kc_115_141 : zcode 115 141 = some (.invokevirtual 128, 3, (106, 0, 851, 0)) := by decide +kernel
theorem kc_115_144 : zcode 115 144 = some (.ifCond .lt 7, 3, (151, 0, 0, 0)) := by decide +kernel
theorem kc_115_147 : zcode 115 147 = some (.iconst 1, 1, (0, 0, 0, 0)) := by decide +kernel
theorem kc_115_148 : zcode 115 148 = some (.goto 4, 3, (152, 0, 0, 0)) := by decide +kernel
theorem kc_115_151 : zcode 115 151 = some (.iconst 0, 1, (0, 0, 0, 0)) := by decide +kernel
theorem kc_115_152 : zcode 115 152 = some (.ireturn, 1, (0, 0, 0, 0)) := by decide +kernel
theorem kc_115_153 : zcode 115 153 = some (.aload_n 0, 1, (0, 0, 0, 0)) := by decide +kernel
theorem kc_115_154 : zcode 115 154 = some (.iload_n 3, 1, (0, 0, 0, 0)) := by decide +kernel
theorem kc_115_155 : zcode 115 155 = some (.aload_n 0, 1, (0, 0, 0, 0)) := by decide +kernel
theorem kc_115_156 : zcode 115 156 = some (.getfield 119, 3, (8, 21, 697, 0)) := by decide +kernel
theorem kc_115_159 : zcode 115 159 = some (.invokevirtual 130, 3, (107, 0, 852, 0)) := by decide +kernel
theorem kc_115_162 : zcode 115 162 = some (.ifCond .lt 7, 3, (169, 0, 0, 0)) := by decide +kernel
theorem kc_115_165 : zcode 115 165 = some (.iconst 1, 1, (0, 0, 0, 0)) := by decide +kernel
theorem kc_115_166 : zcode 115 166 = some (.goto 4, 3, (170, 0, 0, 0)) := by decide +kernel
theorem kc_115_169 : zcode 115 169 = some (.iconst 0, 1, (0, 0, 0, 0)) := by decide +kernel
theorem kc_115_170 : zcode 115 170 = some (.ireturn, 1, (0, 0, 0, 0)) := by decide +kernel
theorem kc_115_171 : zcode 115 171 = some (.aload_n 0, 1, (0, 0, 0, 0)) := by decide +kernel
theorem kc_115_172 : zcode 115 172 = some (.aload_n 0, 1, (0, 0, 0, 0)) := by decide +kernel
theorem kc_115_173 : zcode 115 173 = some (.getfield 119, 3, (8, 21, 697, 0)) := by decide +kernel
theorem kc_115_176 : zcode 115 176 = some (.invokevirtual 134, 3, (108, 0, 853, 0)) := by decide +kernel
theorem kc_115_179 : zcode 115 179 = some (.ifCond .lt 7, 3, (186, 0, 0, 0)) := by decide +kernel
theorem kc_115_182 : zcode 115 182 = some (.iconst 1, 1, (0, 0, 0, 0)) := by decide +kernel
theorem kc_115_183 : zcode 115 183 = some (.goto 4, 3, (187, 0, 0, 0)) := by decide +kernel
theorem kc_115_186 : zcode 115 186 = some (.iconst 0, 1, (0, 0, 0, 0)) := by decide +kernel
theorem kc_115_187 : zcode 115 187 = some (.ireturn, 1, (0, 0, 0, 0)) := by decide +kernel
theorem kc_115_188 : zcode 115 188 = some (.aload_n 0, 1, (0, 0, 0, 0)) := by decide +kernel
theorem kc_115_189 : zcode 115 189 = some (.aload_n 0, 1, (0, 0, 0, 0)) := by decide +kernel
theorem kc_115_190 : zcode 115 190 = some (.getfield 119, 3, (8, 21, 697, 0)) := by decide +kernel
theorem kc_115_193 : zcode 115 193 = some (.invokevirtual 136, 3, (109, 0, 854, 0)) := by decide +kernel
theorem kc_115_196 : zcode 115 196 = some (.ifCond .lt 7, 3, (203, 0, 0, 0)) := by decide +kernel
theorem kc_115_199 : zcode 115 199 = some (.iconst 1, 1, (0, 0, 0, 0)) := by decide +kernel
theorem kc_115_200 : zcode 115 200 = some (.goto 4, 3, (204, 0, 0, 0)) := by decide +kernel
theorem kc_115_203 : zcode 115 203 = some (.iconst 0, 1, (0, 0, 0, 0)) := by decide +kernel
theorem kc_115_204 : zcode 115 204 = some (.ireturn, 1, (0, 0, 0, 0)) := by decide +kernel
theorem kc_116_0 : zcode 116 0 = some (.aload_n 0, 1, (0, 0, 0, 0)) := by decide +kernel
theorem kc_116_1 : zcode 116 1 = some (.iconst 0, 1, (0, 0, 0, 0)) := by decide +kernel
theorem kc_116_2 : zcode 116 2 = some (.putfield 116, 3, (8, 20, 696, 0)) := by decide +kernel
theorem kc_116_5 : zcode 116 5 = some (.iconst 0, 1, (0, 0, 0, 0)) := by decide +kernel
theorem kc_116_6 : zcode 116 6 = some (.istore_n 2, 1, (0, 0, 0, 0)) := by decide +kernel
theorem kc_116_7 : zcode 116 7 = some (.iconst 0, 1, (0, 0, 0, 0)) := by decide +kernel
theorem kc_116_8 : zcode 116 8 = some (.istore_n 3, 1, (0, 0, 0, 0)) := by decide +kernel
theorem kc_116_9 : zcode 116 9 = some (.iload_n 3, 1, (0, 0, 0, 0)) := by decide +kernel
theorem kc_116_10 : zcode 116 10 = some (.bipush 12, 2, (0, 0, 0, 0)) := by decide +kernel
theorem kc_116_12 : zcode 116 12 = some (.if_icmp .ge 68, 3, (80, 0, 0, 0)) := by decide +kernel
theorem kc_116_15 : zcode 116 15 = some (.aload_n 0, 1, (0, 0, 0, 0)) := by decide +kernel
theorem kc_116_16 : zcode 116 16 = some (.iload_n 1, 1, (0, 0, 0, 0)) := by decide +kernel
theorem kc_116_17 : zcode 116 17 = some (.invokevirtual 138, 3, (115, 0, 839, 0)) := by decide +kernel
theorem kc_116_20 : zcode 116 20 = some (.istore 4, 2, (0, 0, 0, 0)) := by decide +kernel
theorem kc_116_22 : zcode 116 22 = some (.iload 4, 2, (0, 0, 0, 0)) := by decide +kernel
theorem kc_116_24 : zcode 116 24 = some (.ifCond .ge 5, 3, (29, 0, 0, 0)) := by decide +kernel
theorem kc_116_27 : zcode 116 27 = some (.iconst (-1), 1, (0, 0, 0, 0)) := by decide +kernel
theorem kc_116_28 : zcode 116 28 = some (.ireturn, 1, (0, 0, 0, 0)) := by decide +kernel
theorem kc_116_29 : zcode 116 29 = some (.iload_n 2, 1, (0, 0, 0, 0)) := by decide +kernel
theorem kc_116_30 : zcode 116 30 = some (.iload 4, 2, (0, 0, 0, 0)) := by decide +kernel
theorem kc_116_32 : zcode 116 32 = some (.iadd, 1, (0, 0, 0, 0)) := by decide +kernel
theorem kc_116_33 : zcode 116 33 = some (.istore_n 2, 1, (0, 0, 0, 0)) := by decide +kernel
theorem kc_116_34 : zcode 116 34 = some (.aload_n 0, 1, (0, 0, 0, 0)) := by decide +kernel
theorem kc_116_35 : zcode 116 35 = some (.getfield 116, 3, (8, 20, 696, 0)) := by decide +kernel
theorem kc_116_38 : zcode 116 38 = some (.aload_n 0, 1, (0, 0, 0, 0)) := by decide +kernel
theorem kc_116_39 : zcode 116 39 = some (.getfield 113, 3, (8, 14, 690, 0)) := by decide +kernel
theorem kc_116_42 : zcode 116 42 = some (.if_icmp .ne 5, 3, (47, 0, 0, 0)) := by decide +kernel
theorem kc_116_45 : zcode 116 45 = some (.iload_n 2, 1, (0, 0, 0, 0)) := by decide +kernel
theorem kc_116_46 : zcode 116 46 = some (.ireturn, 1, (0, 0, 0, 0)) := by decide +kernel
theorem kc_116_47 : zcode 116 47 = some (.iload_n 3, 1, (0, 0, 0, 0)) := by decide +kernel
theorem kc_116_48 : zcode 116 48 = some (.bipush 11, 2, (0, 0, 0, 0)) := by decide +kernel
theorem kc_116_50 : zcode 116 50 = some (.if_icmp .eq 12, 3, (62, 0, 0, 0)) := by decide +kernel
theorem kc_116_53 : zcode 116 53 = some (.aload_n 0, 1, (0, 0, 0, 0)) := by decide +kernel
theorem kc_116_54 : zcode 116 54 = some (.invokevirtual 122, 3, (113, 0, 843, 0)) := by decide +kernel
theorem kc_116_57 : zcode 116 57 = some (.bipush 59, 2, (0, 0, 0, 0)) := by decide +kernel
theorem kc_116_59 : zcode 116 59 = some (.if_icmp .eq 5, 3, (64, 0, 0, 0)) := by decide +kernel
theorem kc_116_62 : zcode 116 62 = some (.iconst (-1), 1, (0, 0, 0, 0)) := by decide +kernel
theorem kc_116_63 : zcode 116 63 = some (.ireturn, 1, (0, 0, 0, 0)) := by decide +kernel
theorem kc_116_64 : zcode 116 64 = some (.aload_n 0, 1, (0, 0, 0, 0)) := by decide +kernel
theorem kc_116_65 : zcode 116 65 = some (.dup, 1, (0, 0, 0, 0)) := by decide +kernel
theorem kc_116_66 : zcode 116 66 = some (.getfield 116, 3, (8, 20, 696, 0)) := by decide +kernel
theorem kc_116_69 : zcode 116 69 = some (.iconst 1, 1, (0, 0, 0, 0)) := by decide +kernel
theorem kc_116_70 : zcode 116 70 = some (.iadd, 1, (0, 0, 0, 0)) := by decide +kernel
theorem kc_116_71 : zcode 116 71 = some (.putfield 116, 3, (8, 20, 696, 0)) := by decide +kernel
theorem kc_116_74 : zcode 116 74 = some (.iinc 3 1, 3, (0, 0, 0, 0)) := by decide +kernel
theorem kc_116_77 : zcode 116 77 = some (.goto (-68), 3, (9, 0, 0, 0)) := by decide +kernel
theorem kc_116_80 : zcode 116 80 = some (.iconst (-1), 1, (0, 0, 0, 0)) := by decide +kernel
theorem kc_116_81 : zcode 116 81 = some (.ireturn, 1, (0, 0, 0, 0)) := by decide +kernel
theorem kc_117_0 : zcode 117 0 = some (.aload_n 0, 1, (0, 0, 0, 0)) := by decide +kernel
theorem kc_117_1 : zcode 117 1 = some (.iconst 0, 1, (0, 0, 0, 0)) := by decide +kernel
theorem kc_117_2 : zcode 117 2 = some (.invokevirtual 142, 3, (116, 0, 835, 0)) := by decide +kernel
theorem kc_117_5 : zcode 117 5 = some (.ifCond .ge 13, 3, (18, 0, 0, 0)) := by decide +kernel
theorem kc_117_8 : zcode 117 8 = some (.bipush (-10), 2, (0, 0, 0, 0)) := by decide +kernel
theorem kc_117_10 : zcode 117 10 = some (.aload_n 0, 1, (0, 0, 0, 0)) := by decide +kernel
theorem kc_117_11 : zcode 117 11 = some (.getfield 116, 3, (8, 20, 696, 0)) := by decide +kernel
theorem kc_117_14 : zcode 117 14 = some (.isub, 1, (0, 0, 0, 0)) := by decide +kernel
theorem kc_117_15 : zcode 117 15 = some (.goto 8, 3, (23, 0, 0, 0)) := by decide +kernel
theorem kc_117_18 : zcode 117 18 = some (.aload_n 0, 1, (0, 0, 0, 0)) := by decide +kernel
theorem kc_117_19 : zcode 117 19 = some (.iconst 1, 1, (0, 0, 0, 0)) := by decide +kernel
theorem kc_117_20 : zcode 117 20 = some (.invokevirtual 142, 3, (116, 0, 835, 0)) := by decide +kernel
theorem kc_117_23 : zcode 117 23 = some (.istore_n 1, 1, (0, 0, 0, 0)) := by decide +kernel
theorem kc_117_24 : zcode 117 24 = some (.aload_n 0, 1, (0, 0, 0, 0)) := by decide +kernel
theorem kc_117_25 : zcode 117 25 = some (.iconst 0, 1, (0, 0, 0, 0)) := by decide +kernel
theorem kc_117_26 : zcode 117 26 = some (.putfield 113, 3, (8, 14, 690, 0)) := by decide +kernel
theorem kc_117_29 : zcode 117 29 = some (.iload_n 1, 1, (0, 0, 0, 0)) := by decide +kernel
theorem kc_117_30 : zcode 117 30 = some (.ireturn, 1, (0, 0, 0, 0)) := by decide +kernel
theorem kc_118_0 : zcode 118 0 = some (.lload_n 3, 1, (0, 0, 0, 0)) := by decide +kernel
theorem kc_118_1 : zcode 118 1 = some (.lstore 7, 2, (0, 0, 0, 0)) := by decide +kernel
theorem kc_118_3 : zcode 118 3 = some (.iload_n 2, 1, (0, 0, 0, 0)) := by decide +kernel
theorem kc_118_4 : zcode 118 4 = some (.invokestatic 145, 3, (177, 0, 876, 0)) := by decide +kernel
theorem kc_118_7 : zcode 118 7 = some (.istore 9, 2, (0, 0, 0, 0)) := by decide +kernel
theorem kc_118_9 : zcode 118 9 = some (.iconst 0, 1, (0, 0, 0, 0)) := by decide +kernel
theorem kc_118_10 : zcode 118 10 = some (.istore 10, 2, (0, 0, 0, 0)) := by decide +kernel
theorem kc_118_12 : zcode 118 12 = some (.iload 10, 2, (0, 0, 0, 0)) := by decide +kernel
theorem kc_118_14 : zcode 118 14 = some (.bipush 6, 2, (0, 0, 0, 0)) := by decide +kernel
theorem kc_118_16 : zcode 118 16 = some (.if_icmp .ge 17, 3, (33, 0, 0, 0)) := by decide +kernel
theorem kc_118_19 : zcode 118 19 = some (.aload_n 0, 1, (0, 0, 0, 0)) := by decide +kernel
theorem kc_118_20 : zcode 118 20 = some (.getfield 42, 3, (8, 24, 700, 0)) := by decide +kernel
theorem kc_118_23 : zcode 118 23 = some (.iload 10, 2, (0, 0, 0, 0)) := by decide +kernel
theorem kc_118_25 : zcode 118 25 = some (.iconst 0, 1, (0, 0, 0, 0)) := by decide +kernel
theorem kc_118_26 : zcode 118 26 = some (.bastore, 1, (0, 0, 0, 0)) := by decide +kernel
theorem kc_118_27 : zcode 118 27 = some (.iinc 10 1, 3, (0, 0, 0, 0)) := by decide +kernel
theorem kc_118_30 : zcode 118 30 = some (.goto (-18), 3, (12, 0, 0, 0)) := by decide +kernel
theorem kc_118_33 : zcode 118 33 = some (.aload_n 0, 1, (0, 0, 0, 0)) := by decide +kernel
theorem kc_118_34 : zcode 118 34 = some (.iload_n 2, 1, (0, 0, 0, 0)) := by decide +kernel
theorem kc_118_35 : zcode 118 35 = some (.invokevirtual 150, 3, (119, 0, 877, 0)) := by decide +kernel
theorem kc_118_38 : zcode 118 38 = some (.istore 10, 2, (0, 0, 0, 0)) := by decide +kernel
theorem kc_118_40 : zcode 118 40 = some (.iload 10, 2, (0, 0, 0, 0)) := by decide +kernel
theorem kc_118_42 : zcode 118 42 = some (.ifCond .lt 61, 3, (103, 0, 0, 0)) := by decide +kernel
theorem kc_118_45 : zcode 118 45 = some (.aload_n 0, 1, (0, 0, 0, 0)) := by decide +kernel
theorem kc_118_46 : zcode 118 46 = some (.getfield 9, 3, (8, 1, 677, 0)) := by decide +kernel
theorem kc_118_49 : zcode 118 49 = some (.iload 10, 2, (0, 0, 0, 0)) := by decide +kernel
theorem kc_118_51 : zcode 118 51 = some (.iaload, 1, (0, 0, 0, 0)) := by decide +kernel
theorem kc_118_52 : zcode 118 52 = some (.i2l, 1, (0, 0, 0, 0)) := by decide +kernel
theorem kc_118_53 : zcode 118 53 = some (.lload 5, 2, (0, 0, 0, 0)) := by decide +kernel
theorem kc_118_55 : zcode 118 55 = some (.lmul, 1, (0, 0, 0, 0)) := by decide +kernel
theorem kc_118_56 : zcode 118 56 = some (.iload 9, 2, (0, 0, 0, 0)) := by decide +kernel
theorem kc_118_58 : zcode 118 58 = some (.i2l, 1, (0, 0, 0, 0)) := by decide +kernel
theorem kc_118_59 : zcode 118 59 = some (.lmul, 1, (0, 0, 0, 0)) := by decide +kernel
theorem kc_118_60 : zcode 118 60 = some (.lload 7, 2, (0, 0, 0, 0)) := by decide +kernel
theorem kc_118_62 : zcode 118 62 = some (.lcmp, 1, (0, 0, 0, 0)) := by decide +kernel
theorem kc_118_63 : zcode 118 63 = some (.ifCond .gt 40, 3, (103, 0, 0, 0)) := by decide +kernel
theorem kc_118_66 : zcode 118 66 = some (.aload_n 0, 1, (0, 0, 0, 0)) := by decide +kernel
theorem kc_118_67 : zcode 118 67 = some (.getfield 42, 3, (8, 24, 700, 0)) := by decide +kernel
theorem kc_118_70 : zcode 118 70 = some (.iload 10, 2, (0, 0, 0, 0)) := by decide +kernel
theorem kc_118_72 : zcode 118 72 = some (.iconst 1, 1, (0, 0, 0, 0)) := by decide +kernel
theorem kc_118_73 : zcode 118 73 = some (.bastore, 1, (0, 0, 0, 0)) := by decide +kernel
theorem kc_118_74 : zcode 118 74 = some (.lload 7, 2, (0, 0, 0, 0)) := by decide +kernel
theorem kc_118_76 : zcode 118 76 = some (.aload_n 0, 1, (0, 0, 0, 0)) := by decide +kernel
theorem kc_118_77 : zcode 118 77 = some (.getfield 9, 3, (8, 1, 677, 0)) := by decide +kernel
theorem kc_118_80 : zcode 118 80 = some (.iload 10, 2, (0, 0, 0, 0)) := by decide +kernel
theorem kc_118_82 : zcode 118 82 = some (.iaload, 1, (0, 0, 0, 0)) := by decide +kernel
theorem kc_118_83 : zcode 118 83 = some (.i2l, 1, (0, 0, 0, 0)) := by decide +kernel
theorem kc_118_84 : zcode 118 84 = some (.lload 5, 2, (0, 0, 0, 0)) := by decide +kernel
theorem kc_118_86 : zcode 118 86 = some (.lmul, 1, (0, 0, 0, 0)) := by decide +kernel
theorem kc_118_87 : zcode 118 87 = some (.lsub, 1, (0, 0, 0, 0)) := by decide +kernel
theorem kc_118_88 : zcode 118 88 = some (.lstore 7, 2, (0, 0, 0, 0)) := by decide +kernel
theorem kc_118_90 : zcode 118 90 = some (.iinc 9 (-1), 3, (0, 0, 0, 0)) := by decide +kernel
theorem kc_118_93 : zcode 118 93 = some (.aload_n 0, 1, (0, 0, 0, 0)) := by decide +kernel
theorem kc_118_94 : zcode 118 94 = some (.iload_n 2, 1, (0, 0, 0, 0)) := by decide +kernel
theorem kc_118_95 : zcode 118 95 = some (.invokevirtual 150, 3, (119, 0, 877, 0)) := by decide +kernel
theorem kc_118_98 : zcode 118 98 = some (.istore 10, 2, (0, 0, 0, 0)) := by decide +kernel
theorem kc_118_100 : zcode 118 100 = some (.goto (-60), 3, (40, 0, 0, 0)) := by decide +kernel
theorem kc_118_103 : zcode 118 103 = some (.aload_n 0, 1, (0, 0, 0, 0)) := by decide +kernel
theorem kc_118_104 : zcode 118 104 = some (.aload_n 0, 1, (0, 0, 0, 0)) := by decide +kernel
theorem kc_118_105 : zcode 118 105 = some (.getfield 42, 3, (8, 24, 700, 0)) := by decide +kernel
theorem kc_118_108 : zcode 118 108 = some (.iload_n 1, 1, (0, 0, 0, 0)) := by decide +kernel
theorem kc_118_109 : zcode 118 109 = some (.baload, 1, (0, 0, 0, 0)) := by decide +kernel
theorem kc_118_110 : zcode 118 110 = some (.ifCond .eq 16, 3, (126, 0, 0, 0)) := by decide +kernel
theorem kc_118_113 : zcode 118 113 = some (.aload_n 0, 1, (0, 0, 0, 0)) := by decide +kernel
theorem kc_118_114 : zcode 118 114 = some (.getfield 9, 3, (8, 1, 677, 0)) := by decide +kernel
theorem kc_118_117 : zcode 118 117 = some (.iload_n 1, 1, (0, 0, 0, 0)) := by decide +kernel
theorem kc_118_118 : zcode 118 118 = some (.iaload, 1, (0, 0, 0, 0)) := by decide +kernel
theorem kc_118_119 : zcode 118 119 = some (.i2l, 1, (0, 0, 0, 0)) := by decide +kernel
theorem kc_118_120 : zcode 118 120 = some (.lload 5, 2, (0, 0, 0, 0)) := by decide +kernel
theorem kc_118_122 : zcode 118 122 = some (.lmul, 1, (0, 0, 0, 0)) := by decide +kernel
theorem kc_118_123 : zcode 118 123 = some (.goto 5, 3, (128, 0, 0, 0)) := by decide +kernel
theorem kc_118_126 : zcode 118 126 = some (.lload 7, 2, (0, 0, 0, 0)) := by decide +kernel
theorem kc_118_128 : zcode 118 128 = some (.putfield 153, 3, (8, 22, 698, 0)) := by decide +kernel
theorem kc_118_131 : zcode 118 131 = some (.aload_n 0, 1, (0, 0, 0, 0)) := by decide +kernel
theorem kc_118_132 : zcode 118 132 = some (.aload_n 0, 1, (0, 0, 0, 0)) := by decide +kernel
theorem kc_118_133 : zcode 118 133 = some (.getfield 42, 3, (8, 24, 700, 0)) := by decide +kernel
theorem kc_118_136 : zcode 118 136 = some (.iload_n 1, 1, (0, 0, 0, 0)) := by decide +kernel
theorem kc_118_137 : zcode 118 137 = some (.baload, 1, (0, 0, 0, 0)) := by decide +kernel
theorem kc_118_138 : zcode 118 138 = some (.ifCond .eq 7, 3, (145, 0, 0, 0)) := by decide +kernel
theorem kc_118_141 : zcode 118 141 = some (.lconst 1, 1, (0, 0, 0, 0)) := by decide +kernel
theorem kc_118_142 : zcode 118 142 = some (.goto 6, 3, (148, 0, 0, 0)) := by decide +kernel
theorem kc_118_145 : zcode 118 145 = some (.iload 9, 2, (0, 0, 0, 0)) := by decide +kernel
theorem kc_118_147 : zcode 118 147 = some (.i2l, 1, (0, 0, 0, 0)) := by decide +kernel
theorem kc_118_148 : zcode 118 148 = some (.putfield 156, 3, (8, 23, 699, 0)) := by decide +kernel
theorem kc_118_151 : zcode 118 151 = some (.return_, 1, (0, 0, 0, 0)) := by decide +kernel
theorem kc_119_0 : zcode 119 0 = some (.iconst (-1), 1, (0, 0, 0, 0)) := by decide +kernel
theorem kc_119_1 : zcode 119 1 = some (.istore_n 2, 1, (0, 0, 0, 0)) := by decide +kernel
theorem kc_119_2 : zcode 119 2 = some (.iconst 0, 1, (0, 0, 0, 0)) := by decide +kernel
theorem kc_119_3 : zcode 119 3 = some (.istore_n 3, 1, (0, 0, 0, 0)) := by decide +kernel
theorem kc_119_4 : zcode 119 4 = some (.iload_n 3, 1, (0, 0, 0, 0)) := by decide +kernel
theorem kc_119_5 : zcode 119 5 = some (.aload_n 0, 1, (0, 0, 0, 0)) := by decide +kernel
theorem kc_119_6 : zcode 119 6 = some (.getfield 63, 3, (8, 0, 676, 0)) := by decide +kernel
theorem kc_119_9 : zcode 119 9 = some (.if_icmp .ge 51, 3, (60, 0, 0, 0)) := by decide +kernel
theorem kc_119_12 : zcode 119 12 = some (.iload_n 1, 1, (0, 0, 0, 0)) := by decide +kernel
theorem kc_119_13 : zcode 119 13 = some (.iload_n 3, 1, (0, 0, 0, 0)) := by decide +kernel
theorem kc_119_14 : zcode 119 14 = some (.invokestatic 78, 3, (95, 0, 820, 0)) := by decide +kernel
theorem kc_119_17 : zcode 119 17 = some (.ifCond .eq 35, 3, (52, 0, 0, 0)) := by decide +kernel
theorem kc_119_20 : zcode 119 20 = some (.aload_n 0, 1, (0, 0, 0, 0)) := by decide +kernel
theorem kc_119_21 : zcode 119 21 = some (.getfield 42, 3, (8, 24, 700, 0)) := by decide +kernel
theorem kc_119_24 : zcode 119 24 = some (.iload_n 3, 1, (0, 0, 0, 0)) := by decide +kernel
theorem kc_119_25 : zcode 119 25 = some (.baload, 1, (0, 0, 0, 0)) := by decide +kernel
theorem kc_119_26 : zcode 119 26 = some (.ifCond .ne 26, 3, (52, 0, 0, 0)) := by decide +kernel
theorem kc_119_29 : zcode 119 29 = some (.iload_n 2, 1, (0, 0, 0, 0)) := by decide +kernel
theorem kc_119_30 : zcode 119 30 = some (.ifCond .lt 18, 3, (48, 0, 0, 0)) := by decide +kernel
theorem kc_119_33 : zcode 119 33 = some (.aload_n 0, 1, (0, 0, 0, 0)) := by decide +kernel
theorem kc_119_34 : zcode 119 34 = some (.getfield 9, 3, (8, 1, 677, 0)) := by decide +kernel
theorem kc_119_37 : zcode 119 37 = some (.iload_n 3, 1, (0, 0, 0, 0)) := by decide +kernel
theorem kc_119_38 : zcode 119 38 = some (.iaload, 1, (0, 0, 0, 0)) := by decide +kernel
theorem kc_119_39 : zcode 119 39 = some (.aload_n 0, 1, (0, 0, 0, 0)) := by decide +kernel
theorem kc_119_40 : zcode 119 40 = some (.getfield 9, 3, (8, 1, 677, 0)) := by decide +kernel
theorem kc_119_43 : zcode 119 43 = some (.iload_n 2, 1, (0, 0, 0, 0)) := by decide +kernel
theorem kc_119_44 : zcode 119 44 = some (.iaload, 1, (0, 0, 0, 0)) := by decide +kernel
theorem kc_119_45 : zcode 119 45 = some (.if_icmp .ge 7, 3, (52, 0, 0, 0)) := by decide +kernel
theorem kc_119_48 : zcode 119 48 = some (.iload_n 3, 1, (0, 0, 0, 0)) := by decide +kernel
theorem kc_119_49 : zcode 119 49 = some (.goto 4, 3, (53, 0, 0, 0)) := by decide +kernel
theorem kc_119_52 : zcode 119 52 = some (.iload_n 2, 1, (0, 0, 0, 0)) := by decide +kernel
theorem kc_119_53 : zcode 119 53 = some (.istore_n 2, 1, (0, 0, 0, 0)) := by decide +kernel
theorem kc_119_54 : zcode 119 54 = some (.iinc 3 1, 3, (0, 0, 0, 0)) := by decide +kernel
theorem kc_119_57 : zcode 119 57 = some (.goto (-53), 3, (4, 0, 0, 0)) := by decide +kernel
theorem kc_119_60 : zcode 119 60 = some (.iload_n 2, 1, (0, 0, 0, 0)) := by decide +kernel
theorem kc_119_61 : zcode 119 61 = some (.ireturn, 1, (0, 0, 0, 0)) := by decide +kernel
theorem kc_120_0 : zcode 120 0 = some (.aload_n 0, 1, (0, 0, 0, 0)) := by decide +kernel
theorem kc_120_1 : zcode 120 1 = some (.aload_n 0, 1, (0, 0, 0, 0)) := by decide +kernel
theorem kc_120_2 : zcode 120 2 = some (.getfield 9, 3, (8, 1, 677, 0)) := by decide +kernel
theorem kc_120_5 : zcode 120 5 = some (.iload_n 1, 1, (0, 0, 0, 0)) := by decide +kernel
theorem kc_120_6 : zcode 120 6 = some (.iaload, 1, (0, 0, 0, 0)) := by decide +kernel
theorem kc_120_7 : zcode 120 7 = some (.i2l, 1, (0, 0, 0, 0)) := by decide +kernel
theorem kc_120_8 : zcode 120 8 = some (.lload_n 2, 1, (0, 0, 0, 0)) := by decide +kernel
theorem kc_120_9 : zcode 120 9 = some (.lmul, 1, (0, 0, 0, 0)) := by decide +kernel
theorem kc_120_10 : zcode 120 10 = some (.aload_n 0, 1, (0, 0, 0, 0)) := by decide +kernel
theorem kc_120_11 : zcode 120 11 = some (.getfield 156, 3, (8, 23, 699, 0)) := by decide +kernel
theorem kc_120_14 : zcode 120 14 = some (.lmul, 1, (0, 0, 0, 0)) := by decide +kernel
theorem kc_120_15 : zcode 120 15 = some (.aload_n 0, 1, (0, 0, 0, 0)) := by decide +kernel
theorem kc_120_16 : zcode 120 16 = some (.getfield 153, 3, (8, 22, 698, 0)) := by decide +kernel
theorem kc_120_19 : zcode 120 19 = some (.lsub, 1, (0, 0, 0, 0)) := by decide +kernel
theorem kc_120_20 : zcode 120 20 = some (.putfield 153, 3, (8, 22, 698, 0)) := by decide +kernel
theorem kc_120_23 : zcode 120 23 = some (.return_, 1, (0, 0, 0, 0)) := by decide +kernel
theorem kc_121_0 : zcode 121 0 = some (.aload_n 0, 1, (0, 0, 0, 0)) := by decide +kernel
theorem kc_121_1 : zcode 121 1 = some (.iload_n 1, 1, (0, 0, 0, 0)) := by decide +kernel
theorem kc_121_2 : zcode 121 2 = some (.iload_n 2, 1, (0, 0, 0, 0)) := by decide +kernel
theorem kc_121_3 : zcode 121 3 = some (.aload_n 0, 1, (0, 0, 0, 0)) := by decide +kernel
theorem kc_121_4 : zcode 121 4 = some (.iload_n 2, 1, (0, 0, 0, 0)) := by decide +kernel
theorem kc_121_5 : zcode 121 5 = some (.invokevirtual 86, 3, (103, 0, 816, 0)) := by decide +kernel
theorem kc_121_8 : zcode 121 8 = some (.i2l, 1, (0, 0, 0, 0)) := by decide +kernel
theorem kc_121_9 : zcode 121 9 = some (.lload 5, 2, (0, 0, 0, 0)) := by decide +kernel
theorem kc_121_11 : zcode 121 11 = some (.lmul, 1, (0, 0, 0, 0)) := by decide +kernel
theorem kc_121_12 : zcode 121 12 = some (.lload_n 3, 1, (0, 0, 0, 0)) := by decide +kernel
theorem kc_121_13 : zcode 121 13 = some (.lsub, 1, (0, 0, 0, 0)) := by decide +kernel
theorem kc_121_14 : zcode 121 14 = some (.lload 5, 2, (0, 0, 0, 0)) := by decide +kernel
theorem kc_121_16 : zcode 121 16 = some (.invokevirtual 159, 3, (118, 0, 872, 0)) := by decide +kernel
theorem kc_121_19 : zcode 121 19 = some (.aload_n 0, 1, (0, 0, 0, 0)) := by decide +kernel
theorem kc_121_20 : zcode 121 20 = some (.iload_n 1, 1, (0, 0, 0, 0)) := by decide +kernel
theorem kc_121_21 : zcode 121 21 = some (.lload 5, 2, (0, 0, 0, 0)) := by decide +kernel
theorem kc_121_23 : zcode 121 23 = some (.invokevirtual 163, 3, (120, 0, 885, 0)) := by decide +kernel
theorem kc_121_26 : zcode 121 26 = some (.return_, 1, (0, 0, 0, 0)) := by decide +kernel
theorem kc_122_0 : zcode 122 0 = some (.iconst 1, 1, (0, 0, 0, 0)) := by decide +kernel
theorem kc_122_1 : zcode 122 1 = some (.istore_n 1, 1, (0, 0, 0, 0)) := by decide +kernel
theorem kc_122_2 : zcode 122 2 = some (.iconst 2, 1, (0, 0, 0, 0)) := by decide +kernel
theorem kc_122_3 : zcode 122 3 = some (.istore_n 2, 1, (0, 0, 0, 0)) := by decide +kernel
theorem kc_122_4 : zcode 122 4 = some (.iload_n 2, 1, (0, 0, 0, 0)) := by decide +kernel
theorem kc_122_5 : zcode 122 5 = some (.iload_n 0, 1, (0, 0, 0, 0)) := by decide +kernel
theorem kc_122_6 : zcode 122 6 = some (.if_icmp .gt 13, 3, (19, 0, 0, 0)) := by decide +kernel
theorem kc_122_9 : zcode 122 9 = some (.iload_n 1, 1, (0, 0, 0, 0)) := by decide +kernel
theorem kc_122_10 : zcode 122 10 = some (.iload_n 2, 1, (0, 0, 0, 0)) := by decide +kernel
theorem kc_122_11 : zcode 122 11 = some (.imul, 1, (0, 0, 0, 0)) := by decide +kernel
theorem kc_122_12 : zcode 122 12 = some (.istore_n 1, 1, (0, 0, 0, 0)) := by decide +kernel
theorem kc_122_13 : zcode 122 13 = some (.iinc 2 1, 3, (0, 0, 0, 0)) := by decide +kernel
theorem kc_122_16 : zcode 122 16 = some (.goto (-12), 3, (4, 0, 0, 0)) := by decide +kernel
theorem kc_122_19 : zcode 122 19 = some (.iload_n 1, 1, (0, 0, 0, 0)) := by decide +kernel
theorem kc_122_20 : zcode 122 20 = some (.ireturn, 1, (0, 0, 0, 0)) := by decide +kernel
theorem kc_123_0 : zcode 123 0 = some (.iload_n 2, 1, (0, 0, 0, 0)) := by decide +kernel
theorem kc_123_1 : zcode 123 1 = some (.invokestatic 145, 3, (177, 0, 876, 0)) := by decide +kernel
theorem kc_123_4 : zcode 123 4 = some (.istore 7, 2, (0, 0, 0, 0)) := by decide +kernel
theorem kc_123_6 : zcode 123 6 = some (.aload_n 0, 1, (0, 0, 0, 0)) := by decide +kernel
theorem kc_123_7 : zcode 123 7 = some (.lconst 0, 1, (0, 0, 0, 0)) := by decide +kernel
theorem kc_123_8 : zcode 123 8 = some (.putfield 153, 3, (8, 22, 698, 0)) := by decide +kernel
theorem kc_123_11 : zcode 123 11 = some (.aload_n 0, 1, (0, 0, 0, 0)) := by decide +kernel
theorem kc_123_12 : zcode 123 12 = some (.iload 7, 2, (0, 0, 0, 0)) := by decide +kernel
theorem kc_123_14 : zcode 123 14 = some (.invokestatic 167, 3, (122, 0, 893, 0)) := by decide +kernel
theorem kc_123_17 : zcode 123 17 = some (.i2l, 1, (0, 0, 0, 0)) := by decide +kernel
theorem kc_123_18 : zcode 123 18 = some (.putfield 156, 3, (8, 23, 699, 0)) := by decide +kernel
theorem kc_123_21 : zcode 123 21 = some (.iconst 0, 1, (0, 0, 0, 0)) := by decide +kernel
theorem kc_123_22 : zcode 123 22 = some (.istore 8, 2, (0, 0, 0, 0)) := by decide +kernel
theorem kc_123_24 : zcode 123 24 = some (.iload 8, 2, (0, 0, 0, 0)) := by decide +kernel
theorem kc_123_26 : zcode 123 26 = some (.iconst 1, 1, (0, 0, 0, 0)) := by decide +kernel
theorem kc_123_27 : zcode 123 27 = some (.aload_n 0, 1, (0, 0, 0, 0)) := by decide +kernel
theorem kc_123_28 : zcode 123 28 = some (.getfield 63, 3, (8, 0, 676, 0)) := by decide +kernel
theorem kc_123_31 : zcode 123 31 = some (.ishl, 1, (0, 0, 0, 0)) := by decide +kernel
theorem kc_123_32 : zcode 123 32 = some (.if_icmp .ge 98, 3, (130, 0, 0, 0)) := by decide +kernel
theorem kc_123_35 : zcode 123 35 = some (.iload 8, 2, (0, 0, 0, 0)) := by decide +kernel
theorem kc_123_37 : zcode 123 37 = some (.iload_n 2, 1, (0, 0, 0, 0)) := by decide +kernel
theorem kc_123_38 : zcode 123 38 = some (.iconst (-1), 1, (0, 0, 0, 0)) := by decide +kernel
theorem kc_123_39 : zcode 123 39 = some (.ixor, 1, (0, 0, 0, 0)) := by decide +kernel
theorem kc_123_40 : zcode 123 40 = some (.iand, 1, (0, 0, 0, 0)) := by decide +kernel
theorem kc_123_41 : zcode 123 41 = some (.ifCond .ne 83, 3, (124, 0, 0, 0)) := by decide +kernel
theorem kc_123_44 : zcode 123 44 = some (.iload 8, 2, (0, 0, 0, 0)) := by decide +kernel
theorem kc_123_46 : zcode 123 46 = some (.iload_n 1, 1, (0, 0, 0, 0)) := by decide +kernel
theorem kc_123_47 : zcode 123 47 = some (.invokestatic 78, 3, (95, 0, 820, 0)) := by decide +kernel
theorem kc_123_50 : zcode 123 50 = some (.ifCond .eq 6, 3, (56, 0, 0, 0)) := by decide +kernel
theorem kc_123_53 : zcode 123 53 = some (.goto 71, 3, (124, 0, 0, 0)) := by decide +kernel
theorem kc_123_56 : zcode 123 56 = some (.iload 8, 2, (0, 0, 0, 0)) := by decide +kernel
theorem kc_123_58 : zcode 123 58 = some (.invokestatic 145, 3, (177, 0, 876, 0)) := by decide +kernel
theorem kc_123_61 : zcode 123 61 = some (.istore 9, 2, (0, 0, 0, 0)) := by decide +kernel
theorem kc_123_63 : zcode 123 63 = some (.lconst 0, 1, (0, 0, 0, 0)) := by decide +kernel
theorem kc_123_64 : zcode 123 64 = some (.lload_n 3, 1, (0, 0, 0, 0)) := by decide +kernel
theorem kc_123_65 : zcode 123 65 = some (.aload_n 0, 1, (0, 0, 0, 0)) := by decide +kernel
theorem kc_123_66 : zcode 123 66 = some (.iload 8, 2, (0, 0, 0, 0)) := by decide +kernel
theorem kc_123_68 : zcode 123 68 = some (.invokevirtual 86, 3, (103, 0, 816, 0)) := by decide +kernel
theorem kc_123_71 : zcode 123 71 = some (.i2l, 1, (0, 0, 0, 0)) := by decide +kernel
theorem kc_123_72 : zcode 123 72 = some (.lload 5, 2, (0, 0, 0, 0)) := by decide +kernel
theorem kc_123_74 : zcode 123 74 = some (.lmul, 1, (0, 0, 0, 0)) := by decide +kernel
theorem kc_123_75 : zcode 123 75 = some (.lsub, 1, (0, 0, 0, 0)) := by decide +kernel
theorem kc_123_76 : zcode 123 76 = some (.invokestatic 170, 3, (180, 0, 896, 0)) := by decide +kernel
theorem kc_123_79 : zcode 123 79 = some (.lstore 10, 2, (0, 0, 0, 0)) := by decide +kernel
theorem kc_123_81 : zcode 123 81 = some (.aload_n 0, 1, (0, 0, 0, 0)) := by decide +kernel
theorem kc_123_82 : zcode 123 82 = some (.dup, 1, (0, 0, 0, 0)) := by decide +kernel
theorem kc_123_83 : zcode 123 83 = some (.getfield 153, 3, (8, 22, 698, 0)) := by decide +kernel
theorem kc_123_86 : zcode 123 86 = some (.aload_n 0, 1, (0, 0, 0, 0)) := by decide +kernel
theorem kc_123_87 : zcode 123 87 = some (.getfield 9, 3, (8, 1, 677, 0)) := by decide +kernel
theorem kc_123_90 : zcode 123 90 = some (.iload_n 1, 1, (0, 0, 0, 0)) := by decide +kernel
theorem kc_123_91 : zcode 123 91 = some (.iaload, 1, (0, 0, 0, 0)) := by decide +kernel
theorem kc_123_92 : zcode 123 92 = some (.i2l, 1, (0, 0, 0, 0)) := by decide +kernel
theorem kc_123_93 : zcode 123 93 = some (.lload 5, 2, (0, 0, 0, 0)) := by decide +kernel
theorem kc_123_95 : zcode 123 95 = some (.lmul, 1, (0, 0, 0, 0)) := by decide +kernel
theorem kc_123_96 : zcode 123 96 = some (.lload 10, 2, (0, 0, 0, 0)) := by decide +kernel
theorem kc_123_98 : zcode 123 98 = some (.invokestatic 176, 3, (182, 0, 899, 0)) := by decide +kernel
theorem kc_123_101 : zcode 123 101 = some (.iload 9, 2, (0, 0, 0, 0)) := by decide +kernel
theorem kc_123_103 : zcode 123 103 = some (.invokestatic 167, 3, (122, 0, 893, 0)) := by decide +kernel
theorem kc_123_106 : zcode 123 106 = some (.i2l, 1, (0, 0, 0, 0)) := by decide +kernel
theorem kc_123_107 : zcode 123 107 = some (.lmul, 1, (0, 0, 0, 0)) := by decide +kernel
theorem kc_123_108 : zcode 123 108 = some (.iload 7, 2, (0, 0, 0, 0)) := by decide +kernel
theorem kc_123_110 : zcode 123 110 = some (.iconst 1, 1, (0, 0, 0, 0)) := by decide +kernel
theorem kc_123_111 : zcode 123 111 = some (.isub, 1, (0, 0, 0, 0)) := by decide +kernel
theorem kc_123_112 : zcode 123 112 = some (.iload 9, 2, (0, 0, 0, 0)) := by decide +kernel
theorem kc_123_114 : zcode 123 114 = some (.isub, 1, (0, 0, 0, 0)) := by decide +kernel
theorem kc_123_115 : zcode 123 115 = some (.invokestatic 167, 3, (122, 0, 893, 0)) := by decide +kernel
theorem kc_123_118 : zcode 123 118 = some (.i2l, 1, (0, 0, 0, 0)) := by decide +kernel
theorem kc_123_119 : zcode 123 119 = some (.lmul, 1, (0, 0, 0, 0)) := by decide +kernel
theorem kc_123_120 : zcode 123 120 = some (.ladd, 1, (0, 0, 0, 0)) := by decide +kernel
theorem kc_123_121 : zcode 123 121 = some (.putfield 153, 3, (8, 22, 698, 0)) := by decide +kernel
theorem kc_123_124 : zcode 123 124 = some (.iinc 8 1, 3, (0, 0, 0, 0)) := by decide +kernel
theorem kc_123_127 : zcode 123 127 = some (.goto (-103), 3, (24, 0, 0, 0)) := by decide +kernel
theorem kc_123_130 : zcode 123 130 = some (.return_, 1, (0, 0, 0, 0)) := by decide +kernel
theorem kc_124_0 : zcode 124 0 = some (.ldc2_w 179, 3, (0, 0, 871, 2)) := by decide +kernel
theorem kc_124_3 : zcode 124 3 = some (.lload 5, 2, (0, 0, 0, 0)) := by decide +kernel
theorem kc_124_5 : zcode 124 5 = some (.lmul, 1, (0, 0, 0, 0)) := by decide +kernel
theorem kc_124_6 : zcode 124 6 = some (.lstore 8, 2, (0, 0, 0, 0)) := by decide +kernel
theorem kc_124_8 : zcode 124 8 = some (.ldc2_w 179, 3, (0, 0, 871, 2)) := by decide +kernel
theorem kc_124_11 : zcode 124 11 = some (.lload_n 3, 1, (0, 0, 0, 0)) := by decide +kernel
theorem kc_124_12 : zcode 124 12 = some (.lmul, 1, (0, 0, 0, 0)) := by decide +kernel
theorem kc_124_13 : zcode 124 13 = some (.lstore 10, 2, (0, 0, 0, 0)) := by decide +kernel
theorem kc_124_15 : zcode 124 15 = some (.aload_n 0, 1, (0, 0, 0, 0)) := by decide +kernel
theorem kc_124_16 : zcode 124 16 = some (.iload_n 2, 1, (0, 0, 0, 0)) := by decide +kernel
theorem kc_124_17 : zcode 124 17 = some (.invokevirtual 86, 3, (103, 0, 816, 0)) := by decide +kernel
theorem kc_124_20 : zcode 124 20 = some (.i2l, 1, (0, 0, 0, 0)) := by decide +kernel
theorem kc_124_21 : zcode 124 21 = some (.lload 8, 2, (0, 0, 0, 0)) := by decide +kernel
theorem kc_124_23 : zcode 124 23 = some (.lmul, 1, (0, 0, 0, 0)) := by decide +kernel
theorem kc_124_24 : zcode 124 24 = some (.lstore 12, 2, (0, 0, 0, 0)) := by decide +kernel
theorem kc_124_26 : zcode 124 26 = some (.ldc2_w 179, 3, (0, 0, 871, 2)) := by decide +kernel
theorem kc_124_29 : zcode 124 29 = some (.lload 10, 2, (0, 0, 0, 0)) := by decide +kernel
theorem kc_124_31 : zcode 124 31 = some (.lmul, 1, (0, 0, 0, 0)) := by decide +kernel
theorem kc_124_32 : zcode 124 32 = some (.lload 12, 2, (0, 0, 0, 0)) := by decide +kernel
theorem kc_124_34 : zcode 124 34 = some (.lcmp, 1, (0, 0, 0, 0)) := by decide +kernel
theorem kc_124_35 : zcode 124 35 = some (.ifCond .gt 7, 3, (42, 0, 0, 0)) := by decide +kernel
theorem kc_124_38 : zcode 124 38 = some (.iconst 1, 1, (0, 0, 0, 0)) := by decide +kernel
theorem kc_124_39 : zcode 124 39 = some (.goto 4, 3, (43, 0, 0, 0)) := by decide +kernel
theorem kc_124_42 : zcode 124 42 = some (.iconst 0, 1, (0, 0, 0, 0)) := by decide +kernel
theorem kc_124_43 : zcode 124 43 = some (.istore 14, 2, (0, 0, 0, 0)) := by decide +kernel
theorem kc_124_45 : zcode 124 45 = some (.iload_n 1, 1, (0, 0, 0, 0)) := by decide +kernel
theorem kc_124_46 : zcode 124 46 = some (.tableswitch 195 0 4 #[34, 48, 62, 90, 130], 34, (0, 0, 0, 0)) := by decide +kernel
theorem kc_124_80 : zcode 124 80 = some (.aload_n 0, 1, (0, 0, 0, 0)) := by decide +kernel
theorem kc_124_81 : zcode 124 81 = some (.iload 7, 2, (0, 0, 0, 0)) := by decide +kernel
theorem kc_124_83 : zcode 124 83 = some (.iload_n 2, 1, (0, 0, 0, 0)) := by decide +kernel
theorem kc_124_84 : zcode 124 84 = some (.lload 10, 2, (0, 0, 0, 0)) := by decide +kernel
theorem kc_124_86 : zcode 124 86 = some (.lload 8, 2, (0, 0, 0, 0)) := by decide +kernel
theorem kc_124_88 : zcode 124 88 = some (.invokevirtual 159, 3, (118, 0, 872, 0)) := by decide +kernel
theorem kc_124_91 : zcode 124 91 = some (.goto 161, 3, (252, 0, 0, 0)) := by decide +kernel
theorem kc_124_94 : zcode 124 94 = some (.aload_n 0, 1, (0, 0, 0, 0)) := by decide +kernel
theorem kc_124_95 : zcode 124 95 = some (.iload 7, 2, (0, 0, 0, 0)) := by decide +kernel
theorem kc_124_97 : zcode 124 97 = some (.iload_n 2, 1, (0, 0, 0, 0)) := by decide +kernel
theorem kc_124_98 : zcode 124 98 = some (.lload 10, 2, (0, 0, 0, 0)) := by decide +kernel
theorem kc_124_100 : zcode 124 100 = some (.lload 8, 2, (0, 0, 0, 0)) := by decide +kernel
theorem kc_124_102 : zcode 124 102 = some (.invokevirtual 181, 3, (121, 0, 881, 0)) := by decide +kernel
theorem kc_124_105 : zcode 124 105 = some (.goto 147, 3, (252, 0, 0, 0)) := by decide +kernel
theorem kc_124_108 : zcode 124 108 = some (.aload_n 0, 1, (0, 0, 0, 0)) := by decide +kernel
theorem kc_124_109 : zcode 124 109 = some (.lload 10, 2, (0, 0, 0, 0)) := by decide +kernel
theorem kc_124_111 : zcode 124 111 = some (.aload_n 0, 1, (0, 0, 0, 0)) := by decide +kernel
theorem kc_124_112 : zcode 124 112 = some (.getfield 9, 3, (8, 1, 677, 0)) := by decide +kernel
theorem kc_124_115 : zcode 124 115 = some (.iload 7, 2, (0, 0, 0, 0)) := by decide +kernel
theorem kc_124_117 : zcode 124 117 = some (.iaload, 1, (0, 0, 0, 0)) := by decide +kernel
theorem kc_124_118 : zcode 124 118 = some (.i2l, 1, (0, 0, 0, 0)) := by decide +kernel
theorem kc_124_119 : zcode 124 119 = some (.lmul, 1, (0, 0, 0, 0)) := by decide +kernel
theorem kc_124_120 : zcode 124 120 = some (.putfield 153, 3, (8, 22, 698, 0)) := by decide +kernel
theorem kc_124_123 : zcode 124 123 = some (.aload_n 0, 1, (0, 0, 0, 0)) := by decide +kernel
theorem kc_124_124 : zcode 124 124 = some (.aload_n 0, 1, (0, 0, 0, 0)) := by decide +kernel
theorem kc_124_125 : zcode 124 125 = some (.iload_n 2, 1, (0, 0, 0, 0)) := by decide +kernel
theorem kc_124_126 : zcode 124 126 = some (.invokevirtual 86, 3, (103, 0, 816, 0)) := by decide +kernel
theorem kc_124_129 : zcode 124 129 = some (.i2l, 1, (0, 0, 0, 0)) := by decide +kernel
theorem kc_124_130 : zcode 124 130 = some (.putfield 156, 3, (8, 23, 699, 0)) := by decide +kernel
theorem kc_124_133 : zcode 124 133 = some (.goto 119, 3, (252, 0, 0, 0)) := by decide +kernel
theorem kc_124_136 : zcode 124 136 = some (.aload_n 0, 1, (0, 0, 0, 0)) := by decide +kernel
theorem kc_124_137 : zcode 124 137 = some (.iload 7, 2, (0, 0, 0, 0)) := by decide +kernel
theorem kc_124_139 : zcode 124 139 = some (.iload_n 2, 1, (0, 0, 0, 0)) := by decide +kernel
theorem kc_124_140 : zcode 124 140 = some (.iload 14, 2, (0, 0, 0, 0)) := by decide +kernel
theorem kc_124_142 : zcode 124 142 = some (.ifCond .eq 8, 3, (150, 0, 0, 0)) := by decide +kernel
theorem kc_124_145 : zcode 124 145 = some (.lload 10, 2, (0, 0, 0, 0)) := by decide +kernel
theorem kc_124_147 : zcode 124 147 = some (.goto 8, 3, (155, 0, 0, 0)) := by decide +kernel
theorem kc_124_150 : zcode 124 150 = some (.lload 12, 2, (0, 0, 0, 0)) := by decide +kernel
theorem kc_124_152 : zcode 124 152 = some (.lload 10, 2, (0, 0, 0, 0)) := by decide +kernel
theorem kc_124_154 : zcode 124 154 = some (.lsub, 1, (0, 0, 0, 0)) := by decide +kernel
theorem kc_124_155 : zcode 124 155 = some (.lload 5, 2, (0, 0, 0, 0)) := by decide +kernel
theorem kc_124_157 : zcode 124 157 = some (.invokevirtual 159, 3, (118, 0, 872, 0)) := by decide +kernel
theorem kc_124_160 : zcode 124 160 = some (.iload 14, 2, (0, 0, 0, 0)) := by decide +kernel
theorem kc_124_162 : zcode 124 162 = some (.ifCond .ne 90, 3, (252, 0, 0, 0)) := by decide +kernel
theorem kc_124_165 : zcode 124 165 = some (.aload_n 0, 1, (0, 0, 0, 0)) := by decide +kernel
theorem kc_124_166 : zcode 124 166 = some (.iload 7, 2, (0, 0, 0, 0)) := by decide +kernel
theorem kc_124_168 : zcode 124 168 = some (.lload 8, 2, (0, 0, 0, 0)) := by decide +kernel
theorem kc_124_170 : zcode 124 170 = some (.invokevirtual 163, 3, (120, 0, 885, 0)) := by decide +kernel
theorem kc_124_173 : zcode 124 173 = some (.goto 79, 3, (252, 0, 0, 0)) := by decide +kernel
theorem kc_124_176 : zcode 124 176 = some (.iload 14, 2, (0, 0, 0, 0)) := by decide +kernel
theorem kc_124_178 : zcode 124 178 = some (.ifCond .eq 17, 3, (195, 0, 0, 0)) := by decide +kernel
theorem kc_124_181 : zcode 124 181 = some (.aload_n 0, 1, (0, 0, 0, 0)) := by decide +kernel
theorem kc_124_182 : zcode 124 182 = some (.iload 7, 2, (0, 0, 0, 0)) := by decide +kernel
theorem kc_124_184 : zcode 124 184 = some (.iload_n 2, 1, (0, 0, 0, 0)) := by decide +kernel
theorem kc_124_185 : zcode 124 185 = some (.lload 10, 2, (0, 0, 0, 0)) := by decide +kernel
theorem kc_124_187 : zcode 124 187 = some (.lload 5, 2, (0, 0, 0, 0)) := by decide +kernel
theorem kc_124_189 : zcode 124 189 = some (.invokevirtual 181, 3, (121, 0, 881, 0)) := by decide +kernel
theorem kc_124_192 : zcode 124 192 = some (.goto 60, 3, (252, 0, 0, 0)) := by decide +kernel
theorem kc_124_195 : zcode 124 195 = some (.aload_n 0, 1, (0, 0, 0, 0)) := by decide +kernel
theorem kc_124_196 : zcode 124 196 = some (.iload 7, 2, (0, 0, 0, 0)) := by decide +kernel
theorem kc_124_198 : zcode 124 198 = some (.iload_n 2, 1, (0, 0, 0, 0)) := by decide +kernel
theorem kc_124_199 : zcode 124 199 = some (.lload 10, 2, (0, 0, 0, 0)) := by decide +kernel
theorem kc_124_201 : zcode 124 201 = some (.lload 12, 2, (0, 0, 0, 0)) := by decide +kernel
theorem kc_124_203 : zcode 124 203 = some (.ldc2_w 179, 3, (0, 0, 871, 2)) := by decide +kernel
theorem kc_124_206 : zcode 124 206 = some (.ldiv, 1, (0, 0, 0, 0)) := by decide +kernel
theorem kc_124_207 : zcode 124 207 = some (.lsub, 1, (0, 0, 0, 0)) := by decide +kernel
theorem kc_124_208 : zcode 124 208 = some (.lload 5, 2, (0, 0, 0, 0)) := by decide +kernel
theorem kc_124_210 : zcode 124 210 = some (.invokevirtual 159, 3, (118, 0, 872, 0)) := by decide +kernel
theorem kc_124_213 : zcode 124 213 = some (.aload_n 0, 1, (0, 0, 0, 0)) := by decide +kernel
theorem kc_124_214 : zcode 124 214 = some (.dup, 1, (0, 0, 0, 0)) := by decide +kernel
theorem kc_124_215 : zcode 124 215 = some (.getfield 153, 3, (8, 22, 698, 0)) := by decide +kernel
theorem kc_124_218 : zcode 124 218 = some (.aload_n 0, 1, (0, 0, 0, 0)) := by decide +kernel
theorem kc_124_219 : zcode 124 219 = some (.getfield 9, 3, (8, 1, 677, 0)) := by decide +kernel
theorem kc_124_222 : zcode 124 222 = some (.iload 7, 2, (0, 0, 0, 0)) := by decide +kernel
theorem kc_124_224 : zcode 124 224 = some (.iaload, 1, (0, 0, 0, 0)) := by decide +kernel
theorem kc_124_225 : zcode 124 225 = some (.i2l, 1, (0, 0, 0, 0)) := by decide +kernel
theorem kc_124_226 : zcode 124 226 = some (.lload 5, 2, (0, 0, 0, 0)) := by decide +kernel
theorem kc_124_228 : zcode 124 228 = some (.lmul, 1, (0, 0, 0, 0)) := by decide +kernel
theorem kc_124_229 : zcode 124 229 = some (.aload_n 0, 1, (0, 0, 0, 0)) := by decide +kernel
theorem kc_124_230 : zcode 124 230 = some (.getfield 156, 3, (8, 23, 699, 0)) := by decide +kernel
theorem kc_124_233 : zcode 124 233 = some (.lmul, 1, (0, 0, 0, 0)) := by decide +kernel
theorem kc_124_234 : zcode 124 234 = some (.ladd, 1, (0, 0, 0, 0)) := by decide +kernel
theorem kc_124_235 : zcode 124 235 = some (.putfield 153, 3, (8, 22, 698, 0)) := by decide +kernel
theorem kc_124_238 : zcode 124 238 = some (.goto 14, 3, (252, 0, 0, 0)) := by decide +kernel
theorem kc_124_241 : zcode 124 241 = some (.aload_n 0, 1, (0, 0, 0, 0)) := by decide +kernel
theorem kc_124_242 : zcode 124 242 = some (.iload 7, 2, (0, 0, 0, 0)) := by decide +kernel
theorem kc_124_244 : zcode 124 244 = some (.iload_n 2, 1, (0, 0, 0, 0)) := by decide +kernel
theorem kc_124_245 : zcode 124 245 = some (.lload 10, 2, (0, 0, 0, 0)) := by decide +kernel
theorem kc_124_247 : zcode 124 247 = some (.lload 8, 2, (0, 0, 0, 0)) := by decide +kernel
theorem kc_124_249 : zcode 124 249 = some (.invokevirtual 184, 3, (123, 0, 889, 0)) := by decide +kernel
theorem kc_124_252 : zcode 124 252 = some (.aload_n 0, 1, (0, 0, 0, 0)) := by decide +kernel
theorem kc_124_253 : zcode 124 253 = some (.aload_n 0, 1, (0, 0, 0, 0)) := by decide +kernel
theorem kc_124_254 : zcode 124 254 = some (.getfield 153, 3, (8, 22, 698, 0)) := by decide +kernel
theorem kc_124_257 : zcode 124 257 = some (.aload_n 0, 1, (0, 0, 0, 0)) := by decide +kernel
theorem kc_124_258 : zcode 124 258 = some (.getfield 156, 3, (8, 23, 699, 0)) := by decide +kernel
theorem kc_124_261 : zcode 124 261 = some (.lload 8, 2, (0, 0, 0, 0)) := by decide +kernel
theorem kc_124_263 : zcode 124 263 = some (.lmul, 1, (0, 0, 0, 0)) := by decide +kernel
theorem kc_124_264 : zcode 124 264 = some (.invokevirtual 187, 3, (100, 0, 900, 0)) := by decide +kernel
theorem kc_124_267 : zcode 124 267 = some (.return_, 1, (0, 0, 0, 0)) := by decide +kernel
theorem kc_125_0 : zcode 125 0 = some (.aload_n 0, 1, (0, 0, 0, 0)) := by decide +kernel
theorem kc_125_1 : zcode 125 1 = some (.iload_n 1, 1, (0, 0, 0, 0)) := by decide +kernel
theorem kc_125_2 : zcode 125 2 = some (.aload_n 0, 1, (0, 0, 0, 0)) := by decide +kernel
theorem kc_125_3 : zcode 125 3 = some (.invokevirtual 82, 3, (102, 0, 812, 0)) := by decide +kernel
theorem kc_125_6 : zcode 125 6 = some (.aload_n 0, 1, (0, 0, 0, 0)) := by decide +kernel
theorem kc_125_7 : zcode 125 7 = some (.getfield 90, 3, (8, 2, 678, 0)) := by decide +kernel
theorem kc_125_10 : zcode 125 10 = some (.i2l, 1, (0, 0, 0, 0)) := by decide +kernel
theorem kc_125_11 : zcode 125 11 = some (.lconst 1, 1, (0, 0, 0, 0)) := by decide +kernel
theorem kc_125_12 : zcode 125 12 = some (.iload_n 2, 1, (0, 0, 0, 0)) := by decide +kernel
theorem kc_125_13 : zcode 125 13 = some (.invokevirtual 191, 3, (124, 0, 867, 0)) := by decide +kernel
theorem kc_125_16 : zcode 125 16 = some (.return_, 1, (0, 0, 0, 0)) := by decide +kernel
theorem kc_126_0 : zcode 126 0 = some (.aload_n 0, 1, (0, 0, 0, 0)) := by decide +kernel
theorem kc_126_1 : zcode 126 1 = some (.iload_n 1, 1, (0, 0, 0, 0)) := by decide +kernel
theorem kc_126_2 : zcode 126 2 = some (.iload_n 2, 1, (0, 0, 0, 0)) := by decide +kernel
theorem kc_126_3 : zcode 126 3 = some (.invokevirtual 195, 3, (125, 0, 863, 0)) := by decide +kernel
theorem kc_126_6 : zcode 126 6 = some (.aload_n 0, 1, (0, 0, 0, 0)) := by decide +kernel
theorem kc_126_7 : zcode 126 7 = some (.getfield 71, 3, (8, 18, 694, 0)) := by decide +kernel
theorem kc_126_10 : zcode 126 10 = some (.aload_n 0, 1, (0, 0, 0, 0)) := by decide +kernel
theorem kc_126_11 : zcode 126 11 = some (.getfield 75, 3, (8, 19, 695, 0)) := by decide +kernel
theorem kc_126_14 : zcode 126 14 = some (.ldiv, 1, (0, 0, 0, 0)) := by decide +kernel
theorem kc_126_15 : zcode 126 15 = some (.l2i, 1, (0, 0, 0, 0)) := by decide +kernel
theorem kc_126_16 : zcode 126 16 = some (.ireturn, 1, (0, 0, 0, 0)) := by decide +kernel
theorem kc_127_0 : zcode 127 0 = some (.iload_n 1, 1, (0, 0, 0, 0)) := by decide +kernel
theorem kc_127_1 : zcode 127 1 = some (.invokestatic 103, 3, (97, 0, 797, 0)) := by decide +kernel
theorem kc_127_4 : zcode 127 4 = some (.ifCond .eq 25, 3, (29, 0, 0, 0)) := by decide +kernel
theorem kc_127_7 : zcode 127 7 = some (.aload_n 0, 1, (0, 0, 0, 0)) := by decide +kernel
theorem kc_127_8 : zcode 127 8 = some (.iload_n 2, 1, (0, 0, 0, 0)) := by decide +kernel
theorem kc_127_9 : zcode 127 9 = some (.invokevirtual 100, 3, (96, 0, 785, 0)) := by decide +kernel
theorem kc_127_12 : zcode 127 12 = some (.ifCond .eq 17, 3, (29, 0, 0, 0)) := by decide +kernel
theorem kc_127_15 : zcode 127 15 = some (.iload_n 3, 1, (0, 0, 0, 0)) := by decide +kernel
theorem kc_127_16 : zcode 127 16 = some (.invokestatic 199, 3, (98, 0, 859, 0)) := by decide +kernel
theorem kc_127_19 : zcode 127 19 = some (.ifCond .eq 10, 3, (29, 0, 0, 0)) := by decide +kernel
theorem kc_127_22 : zcode 127 22 = some (.aload_n 0, 1, (0, 0, 0, 0)) := by decide +kernel
theorem kc_127_23 : zcode 127 23 = some (.invokevirtual 109, 3, (105, 0, 823, 0)) := by decide +kernel
theorem kc_127_26 : zcode 127 26 = some (.ifCond .ne 7, 3, (33, 0, 0, 0)) := by decide +kernel
theorem kc_127_29 : zcode 127 29 = some (.ldc2_w 202, 3, (0, 0, 862, -9223372036854775808)) := by decide +kernel
theorem kc_127_32 : zcode 127 32 = some (.lreturn, 1, (0, 0, 0, 0)) := by decide +kernel
theorem kc_127_33 : zcode 127 33 = some (.aload_n 0, 1, (0, 0, 0, 0)) := by decide +kernel
theorem kc_127_34 : zcode 127 34 = some (.iload_n 1, 1, (0, 0, 0, 0)) := by decide +kernel
theorem kc_127_35 : zcode 127 35 = some (.iload_n 2, 1, (0, 0, 0, 0)) := by decide +kernel
theorem kc_127_36 : zcode 127 36 = some (.invokevirtual 195, 3, (125, 0, 863, 0)) := by decide +kernel
theorem kc_127_39 : zcode 127 39 = some (.aload_n 0, 1, (0, 0, 0, 0)) := by decide +kernel
theorem kc_127_40 : zcode 127 40 = some (.iload_n 3, 1, (0, 0, 0, 0)) := by decide +kernel
theorem kc_127_41 : zcode 127 41 = some (.invokevirtual 204, 3, (101, 0, 904, 0)) := by decide +kernel
theorem kc_127_44 : zcode 127 44 = some (.lreturn, 1, (0, 0, 0, 0)) := by decide +kernel
theorem kc_128_0 : zcode 128 0 = some (.iload_n 1, 1, (0, 0, 0, 0)) := by decide +kernel
theorem kc_128_1 : zcode 128 1 = some (.invokestatic 103, 3, (97, 0, 797, 0)) := by decide +kernel
theorem kc_128_4 : zcode 128 4 = some (.ifCond .ne 6, 3, (10, 0, 0, 0)) := by decide +kernel
theorem kc_128_7 : zcode 128 7 = some (.bipush (-2), 2, (0, 0, 0, 0)) := by decide +kernel
theorem kc_128_9 : zcode 128 9 = some (.ireturn, 1, (0, 0, 0, 0)) := by decide +kernel
theorem kc_128_10 : zcode 128 10 = some (.aload_n 0, 1, (0, 0, 0, 0)) := by decide +kernel
theorem kc_128_11 : zcode 128 11 = some (.iload_n 2, 1, (0, 0, 0, 0)) := by decide +kernel
theorem kc_128_12 : zcode 128 12 = some (.invokevirtual 100, 3, (96, 0, 785, 0)) := by decide +kernel
theorem kc_128_15 : zcode 128 15 = some (.ifCond .ne 5, 3, (20, 0, 0, 0)) := by decide +kernel
theorem kc_128_18 : zcode 128 18 = some (.iconst (-1), 1, (0, 0, 0, 0)) := by decide +kernel
theorem kc_128_19 : zcode 128 19 = some (.ireturn, 1, (0, 0, 0, 0)) := by decide +kernel
theorem kc_128_20 : zcode 128 20 = some (.aload_n 0, 1, (0, 0, 0, 0)) := by decide +kernel
theorem kc_128_21 : zcode 128 21 = some (.invokevirtual 109, 3, (105, 0, 823, 0)) := by decide +kernel
theorem kc_128_24 : zcode 128 24 = some (.ifCond .eq 12, 3, (36, 0, 0, 0)) := by decide +kernel
theorem kc_128_27 : zcode 128 27 = some (.aload_n 0, 1, (0, 0, 0, 0)) := by decide +kernel
theorem kc_128_28 : zcode 128 28 = some (.iload_n 1, 1, (0, 0, 0, 0)) := by decide +kernel
theorem kc_128_29 : zcode 128 29 = some (.iload_n 2, 1, (0, 0, 0, 0)) := by decide +kernel
theorem kc_128_30 : zcode 128 30 = some (.invokevirtual 208, 3, (126, 0, 912, 0)) := by decide +kernel
theorem kc_128_33 : zcode 128 33 = some (.goto 5, 3, (38, 0, 0, 0)) := by decide +kernel
theorem kc_128_36 : zcode 128 36 = some (.bipush (-3), 2, (0, 0, 0, 0)) := by decide +kernel
theorem kc_128_38 : zcode 128 38 = some (.ireturn, 1, (0, 0, 0, 0)) := by decide +kernel
theorem kc_129_0 : zcode 129 0 = some (.iload_n 1, 1, (0, 0, 0, 0)) := by decide +kernel
theorem kc_129_1 : zcode 129 1 = some (.invokestatic 103, 3, (97, 0, 797, 0)) := by decide +kernel
theorem kc_129_4 : zcode 129 4 = some (.ifCond .eq 25, 3, (29, 0, 0, 0)) := by decide +kernel
theorem kc_129_7 : zcode 129 7 = some (.aload_n 0, 1, (0, 0, 0, 0)) := by decide +kernel
theorem kc_129_8 : zcode 129 8 = some (.iload_n 2, 1, (0, 0, 0, 0)) := by decide +kernel
theorem kc_129_9 : zcode 129 9 = some (.invokevirtual 100, 3, (96, 0, 785, 0)) := by decide +kernel
theorem kc_129_12 : zcode 129 12 = some (.ifCond .eq 17, 3, (29, 0, 0, 0)) := by decide +kernel
theorem kc_129_15 : zcode 129 15 = some (.iload_n 3, 1, (0, 0, 0, 0)) := by decide +kernel
theorem kc_129_16 : zcode 129 16 = some (.invokestatic 199, 3, (98, 0, 859, 0)) := by decide +kernel
theorem kc_129_19 : zcode 129 19 = some (.ifCond .eq 10, 3, (29, 0, 0, 0)) := by decide +kernel
theorem kc_129_22 : zcode 129 22 = some (.aload_n 0, 1, (0, 0, 0, 0)) := by decide +kernel
theorem kc_129_23 : zcode 129 23 = some (.invokevirtual 109, 3, (105, 0, 823, 0)) := by decide +kernel
theorem kc_129_26 : zcode 129 26 = some (.ifCond .ne 7, 3, (33, 0, 0, 0)) := by decide +kernel
theorem kc_129_29 : zcode 129 29 = some (.ldc2_w 202, 3, (0, 0, 862, -9223372036854775808)) := by decide +kernel
theorem kc_129_32 : zcode 129 32 = some (.lreturn, 1, (0, 0, 0, 0)) := by decide +kernel
theorem kc_129_33 : zcode 129 33 = some (.aload_n 0, 1, (0, 0, 0, 0)) := by decide +kernel
theorem kc_129_34 : zcode 129 34 = some (.iload_n 1, 1, (0, 0, 0, 0)) := by decide +kernel
theorem kc_129_35 : zcode 129 35 = some (.aload_n 0, 1, (0, 0, 0, 0)) := by decide +kernel
theorem kc_129_36 : zcode 129 36 = some (.invokevirtual 82, 3, (102, 0, 812, 0)) := by decide +kernel
theorem kc_129_39 : zcode 129 39 = some (.aload_n 0, 1, (0, 0, 0, 0)) := by decide +kernel
theorem kc_129_40 : zcode 129 40 = some (.invokevirtual 93, 3, (104, 0, 808, 0)) := by decide +kernel
theorem kc_129_43 : zcode 129 43 = some (.aload_n 0, 1, (0, 0, 0, 0)) := by decide +kernel
theorem kc_129_44 : zcode 129 44 = some (.getfield 90, 3, (8, 2, 678, 0)) := by decide +kernel
theorem kc_129_47 : zcode 129 47 = some (.isub, 1, (0, 0, 0, 0)) := by decide +kernel
theorem kc_129_48 : zcode 129 48 = some (.i2l, 1, (0, 0, 0, 0)) := by decide +kernel
theorem kc_129_49 : zcode 129 49 = some (.lconst 1, 1, (0, 0, 0, 0)) := by decide +kernel
theorem kc_129_50 : zcode 129 50 = some (.iload_n 2, 1, (0, 0, 0, 0)) := by decide +kernel
theorem kc_129_51 : zcode 129 51 = some (.invokevirtual 191, 3, (124, 0, 867, 0)) := by decide +kernel
theorem kc_129_54 : zcode 129 54 = some (.aload_n 0, 1, (0, 0, 0, 0)) := by decide +kernel
theorem kc_129_55 : zcode 129 55 = some (.aload_n 0, 1, (0, 0, 0, 0)) := by decide +kernel
theorem kc_129_56 : zcode 129 56 = some (.getfield 9, 3, (8, 1, 677, 0)) := by decide +kernel
theorem kc_129_59 : zcode 129 59 = some (.iload_n 2, 1, (0, 0, 0, 0)) := by decide +kernel
theorem kc_129_60 : zcode 129 60 = some (.iaload, 1, (0, 0, 0, 0)) := by decide +kernel
theorem kc_129_61 : zcode 129 61 = some (.i2l, 1, (0, 0, 0, 0)) := by decide +kernel
theorem kc_129_62 : zcode 129 62 = some (.aload_n 0, 1, (0, 0, 0, 0)) := by decide +kernel
theorem kc_129_63 : zcode 129 63 = some (.getfield 75, 3, (8, 19, 695, 0)) := by decide +kernel
theorem kc_129_66 : zcode 129 66 = some (.lmul, 1, (0, 0, 0, 0)) := by decide +kernel
theorem kc_129_67 : zcode 129 67 = some (.aload_n 0, 1, (0, 0, 0, 0)) := by decide +kernel
theorem kc_129_68 : zcode 129 68 = some (.getfield 71, 3, (8, 18, 694, 0)) := by decide +kernel
theorem kc_129_71 : zcode 129 71 = some (.lsub, 1, (0, 0, 0, 0)) := by decide +kernel
theorem kc_129_72 : zcode 129 72 = some (.aload_n 0, 1, (0, 0, 0, 0)) := by decide +kernel
theorem kc_129_73 : zcode 129 73 = some (.getfield 75, 3, (8, 19, 695, 0)) := by decide +kernel
theorem kc_129_76 : zcode 129 76 = some (.invokevirtual 187, 3, (100, 0, 900, 0)) := by decide +kernel
theorem kc_129_79 : zcode 129 79 = some (.aload_n 0, 1, (0, 0, 0, 0)) := by decide +kernel
theorem kc_129_80 : zcode 129 80 = some (.iload_n 3, 1, (0, 0, 0, 0)) := by decide +kernel
theorem kc_129_81 : zcode 129 81 = some (.invokevirtual 204, 3, (101, 0, 904, 0)) := by decide +kernel
theorem kc_129_84 : zcode 129 84 = some (.lreturn, 1, (0, 0, 0, 0)) := by decide +kernel
theorem kc_130_0 : zcode 130 0 = some (.aload_n 0, 1, (0, 0, 0, 0)) := by decide +kernel
theorem kc_130_1 : zcode 130 1 = some (.iload_n 1, 1, (0, 0, 0, 0)) := by decide +kernel
theorem kc_130_2 : zcode 130 2 = some (.iload_n 2, 1, (0, 0, 0, 0)) := by decide +kernel
theorem kc_130_3 : zcode 130 3 = some (.invokevirtual 195, 3, (125, 0, 863, 0)) := by decide +kernel
theorem kc_130_6 : zcode 130 6 = some (.aload_n 0, 1, (0, 0, 0, 0)) := by decide +kernel
theorem kc_130_7 : zcode 130 7 = some (.getfield 71, 3, (8, 18, 694, 0)) := by decide +kernel
theorem kc_130_10 : zcode 130 10 = some (.lstore 4, 2, (0, 0, 0, 0)) := by decide +kernel
theorem kc_130_12 : zcode 130 12 = some (.aload_n 0, 1, (0, 0, 0, 0)) := by decide +kernel
theorem kc_130_13 : zcode 130 13 = some (.getfield 75, 3, (8, 19, 695, 0)) := by decide +kernel
theorem kc_130_16 : zcode 130 16 = some (.lstore 6, 2, (0, 0, 0, 0)) := by decide +kernel
theorem kc_130_18 : zcode 130 18 = some (.aload_n 0, 1, (0, 0, 0, 0)) := by decide +kernel
theorem kc_130_19 : zcode 130 19 = some (.iload_n 1, 1, (0, 0, 0, 0)) := by decide +kernel
theorem kc_130_20 : zcode 130 20 = some (.iload_n 3, 1, (0, 0, 0, 0)) := by decide +kernel
theorem kc_130_21 : zcode 130 21 = some (.invokevirtual 195, 3, (125, 0, 863, 0)) := by decide +kernel
theorem kc_130_24 : zcode 130 24 = some (.aload_n 0, 1, (0, 0, 0, 0)) := by decide +kernel
theorem kc_130_25 : zcode 130 25 = some (.lload 4, 2, (0, 0, 0, 0)) := by decide +kernel
theorem kc_130_27 : zcode 130 27 = some (.aload_n 0, 1, (0, 0, 0, 0)) := by decide +kernel
theorem kc_130_28 : zcode 130 28 = some (.getfield 75, 3, (8, 19, 695, 0)) := by decide +kernel
theorem kc_130_31 : zcode 130 31 = some (.lmul, 1, (0, 0, 0, 0)) := by decide +kernel
theorem kc_130_32 : zcode 130 32 = some (.aload_n 0, 1, (0, 0, 0, 0)) := by decide +kernel
theorem kc_130_33 : zcode 130 33 = some (.getfield 71, 3, (8, 18, 694, 0)) := by decide +kernel
theorem kc_130_36 : zcode 130 36 = some (.lload 6, 2, (0, 0, 0, 0)) := by decide +kernel
theorem kc_130_38 : zcode 130 38 = some (.lmul, 1, (0, 0, 0, 0)) := by decide +kernel
theorem kc_130_39 : zcode 130 39 = some (.ladd, 1, (0, 0, 0, 0)) := by decide +kernel
theorem kc_130_40 : zcode 130 40 = some (.lload 6, 2, (0, 0, 0, 0)) := by decide +kernel
theorem kc_130_42 : zcode 130 42 = some (.aload_n 0, 1, (0, 0, 0, 0)) := by decide +kernel
theorem kc_130_43 : zcode 130 43 = some (.getfield 75, 3, (8, 19, 695, 0)) := by decide +kernel
theorem kc_130_46 : zcode 130 46 = some (.lmul, 1, (0, 0, 0, 0)) := by decide +kernel
theorem kc_130_47 : zcode 130 47 = some (.invokevirtual 187, 3, (100, 0, 900, 0)) := by decide +kernel
theorem kc_130_50 : zcode 130 50 = some (.aload_n 0, 1, (0, 0, 0, 0)) := by decide +kernel
theorem kc_130_51 : zcode 130 51 = some (.iload_n 1, 1, (0, 0, 0, 0)) := by decide +kernel
theorem kc_130_52 : zcode 130 52 = some (.iconst 1, 1, (0, 0, 0, 0)) := by decide +kernel
theorem kc_130_53 : zcode 130 53 = some (.iload_n 2, 1, (0, 0, 0, 0)) := by decide +kernel
theorem kc_130_54 : zcode 130 54 = some (.ishl, 1, (0, 0, 0, 0)) := by decide +kernel
theorem kc_130_55 : zcode 130 55 = some (.iconst 1, 1, (0, 0, 0, 0)) := by decide +kernel
theorem kc_130_56 : zcode 130 56 = some (.iload_n 3, 1, (0, 0, 0, 0)) := by decide +kernel
theorem kc_130_57 : zcode 130 57 = some (.ishl, 1, (0, 0, 0, 0)) := by decide +kernel
theorem kc_130_58 : zcode 130 58 = some (.ior, 1, (0, 0, 0, 0)) := by decide +kernel
theorem kc_130_59 : zcode 130 59 = some (.aload_n 0, 1, (0, 0, 0, 0)) := by decide +kernel
theorem kc_130_60 : zcode 130 60 = some (.getfield 71, 3, (8, 18, 694, 0)) := by decide +kernel
theorem kc_130_63 : zcode 130 63 = some (.aload_n 0, 1, (0, 0, 0, 0)) := by decide +kernel
theorem kc_130_64 : zcode 130 64 = some (.getfield 75, 3, (8, 19, 695, 0)) := by decide +kernel
theorem kc_130_67 : zcode 130 67 = some (.iload_n 2, 1, (0, 0, 0, 0)) := by decide +kernel
theorem kc_130_68 : zcode 130 68 = some (.invokevirtual 191, 3, (124, 0, 867, 0)) := by decide +kernel
theorem kc_130_71 : zcode 130 71 = some (.return_, 1, (0, 0, 0, 0)) := by decide +kernel
theorem kc_131_0 : zcode 131 0 = some (.iload_n 1, 1, (0, 0, 0, 0)) := by decide +kernel
theorem kc_131_1 : zcode 131 1 = some (.invokestatic 103, 3, (97, 0, 797, 0)) := by decide +kernel
theorem kc_131_4 : zcode 131 4 = some (.ifCond .eq 39, 3, (43, 0, 0, 0)) := by decide +kernel
theorem kc_131_7 : zcode 131 7 = some (.aload_n 0, 1, (0, 0, 0, 0)) := by decide +kernel
theorem kc_131_8 : zcode 131 8 = some (.iload_n 2, 1, (0, 0, 0, 0)) := by decide +kernel
theorem kc_131_9 : zcode 131 9 = some (.invokevirtual 100, 3, (96, 0, 785, 0)) := by decide +kernel
theorem kc_131_12 : zcode 131 12 = some (.ifCond .eq 31, 3, (43, 0, 0, 0)) := by decide +kernel
theorem kc_131_15 : zcode 131 15 = some (.aload_n 0, 1, (0, 0, 0, 0)) := by decide +kernel
theorem kc_131_16 : zcode 131 16 = some (.iload_n 3, 1, (0, 0, 0, 0)) := by decide +kernel
theorem kc_131_17 : zcode 131 17 = some (.invokevirtual 100, 3, (96, 0, 785, 0)) := by decide +kernel
theorem kc_131_20 : zcode 131 20 = some (.ifCond .eq 23, 3, (43, 0, 0, 0)) := by decide +kernel
theorem kc_131_23 : zcode 131 23 = some (.iload_n 2, 1, (0, 0, 0, 0)) := by decide +kernel
theorem kc_131_24 : zcode 131 24 = some (.iload_n 3, 1, (0, 0, 0, 0)) := by decide +kernel
theorem kc_131_25 : zcode 131 25 = some (.if_icmp .eq 18, 3, (43, 0, 0, 0)) := by decide +kernel
theorem kc_131_28 : zcode 131 28 = some (.iload 4, 2, (0, 0, 0, 0)) := by decide +kernel
theorem kc_131_30 : zcode 131 30 = some (.invokestatic 199, 3, (98, 0, 859, 0)) := by decide +kernel
theorem kc_131_33 : zcode 131 33 = some (.ifCond .eq 10, 3, (43, 0, 0, 0)) := by decide +kernel
theorem kc_131_36 : zcode 131 36 = some (.aload_n 0, 1, (0, 0, 0, 0)) := by decide +kernel
theorem kc_131_37 : zcode 131 37 = some (.invokevirtual 109, 3, (105, 0, 823, 0)) := by decide +kernel
theorem kc_131_40 : zcode 131 40 = some (.ifCond .ne 7, 3, (47, 0, 0, 0)) := by decide +kernel
theorem kc_131_43 : zcode 131 43 = some (.ldc2_w 202, 3, (0, 0, 862, -9223372036854775808)) := by decide +kernel
theorem kc_131_46 : zcode 131 46 = some (.lreturn, 1, (0, 0, 0, 0)) := by decide +kernel
theorem kc_131_47 : zcode 131 47 = some (.aload_n 0, 1, (0, 0, 0, 0)) := by decide +kernel
theorem kc_131_48 : zcode 131 48 = some (.iload_n 1, 1, (0, 0, 0, 0)) := by decide +kernel
theorem kc_131_49 : zcode 131 49 = some (.iload_n 2, 1, (0, 0, 0, 0)) := by decide +kernel
theorem kc_131_50 : zcode 131 50 = some (.iload_n 3, 1, (0, 0, 0, 0)) := by decide +kernel
theorem kc_131_51 : zcode 131 51 = some (.invokevirtual 211, 3, (130, 0, 924, 0)) := by decide +kernel
theorem kc_131_54 : zcode 131 54 = some (.aload_n 0, 1, (0, 0, 0, 0)) := by decide +kernel
theorem kc_131_55 : zcode 131 55 = some (.iload 4, 2, (0, 0, 0, 0)) := by decide +kernel
theorem kc_131_57 : zcode 131 57 = some (.invokevirtual 204, 3, (101, 0, 904, 0)) := by decide +kernel
theorem kc_131_60 : zcode 131 60 = some (.lreturn, 1, (0, 0, 0, 0)) := by decide +kernel
theorem kc_132_0 : zcode 132 0 = some (.aload_n 0, 1, (0, 0, 0, 0)) := by decide +kernel
theorem kc_132_1 : zcode 132 1 = some (.iload_n 1, 1, (0, 0, 0, 0)) := by decide +kernel
theorem kc_132_2 : zcode 132 2 = some (.iload_n 2, 1, (0, 0, 0, 0)) := by decide +kernel
theorem kc_132_3 : zcode 132 3 = some (.invokevirtual 195, 3, (125, 0, 863, 0)) := by decide +kernel
theorem kc_132_6 : zcode 132 6 = some (.aload_n 0, 1, (0, 0, 0, 0)) := by decide +kernel
theorem kc_132_7 : zcode 132 7 = some (.getfield 71, 3, (8, 18, 694, 0)) := by decide +kernel
theorem kc_132_10 : zcode 132 10 = some (.lstore 4, 2, (0, 0, 0, 0)) := by decide +kernel
theorem kc_132_12 : zcode 132 12 = some (.aload_n 0, 1, (0, 0, 0, 0)) := by decide +kernel
theorem kc_132_13 : zcode 132 13 = some (.getfield 75, 3, (8, 19, 695, 0)) := by decide +kernel
theorem kc_132_16 : zcode 132 16 = some (.lstore 6, 2, (0, 0, 0, 0)) := by decide +kernel
theorem kc_132_18 : zcode 132 18 = some (.aload_n 0, 1, (0, 0, 0, 0)) := by decide +kernel
theorem kc_132_19 : zcode 132 19 = some (.iload_n 1, 1, (0, 0, 0, 0)) := by decide +kernel
theorem kc_132_20 : zcode 132 20 = some (.iload_n 2, 1, (0, 0, 0, 0)) := by decide +kernel
theorem kc_132_21 : zcode 132 21 = some (.iload_n 3, 1, (0, 0, 0, 0)) := by decide +kernel
theorem kc_132_22 : zcode 132 22 = some (.invokevirtual 211, 3, (130, 0, 924, 0)) := by decide +kernel
theorem kc_132_25 : zcode 132 25 = some (.aload_n 0, 1, (0, 0, 0, 0)) := by decide +kernel
theorem kc_132_26 : zcode 132 26 = some (.getfield 71, 3, (8, 18, 694, 0)) := by decide +kernel
theorem kc_132_29 : zcode 132 29 = some (.lload 4, 2, (0, 0, 0, 0)) := by decide +kernel
theorem kc_132_31 : zcode 132 31 = some (.lcmp, 1, (0, 0, 0, 0)) := by decide +kernel
theorem kc_132_32 : zcode 132 32 = some (.ifCond .ne 17, 3, (49, 0, 0, 0)) := by decide +kernel
theorem kc_132_35 : zcode 132 35 = some (.aload_n 0, 1, (0, 0, 0, 0)) := by decide +kernel
theorem kc_132_36 : zcode 132 36 = some (.getfield 75, 3, (8, 19, 695, 0)) := by decide +kernel
theorem kc_132_39 : zcode 132 39 = some (.lload 6, 2, (0, 0, 0, 0)) := by decide +kernel
theorem kc_132_41 : zcode 132 41 = some (.lcmp, 1, (0, 0, 0, 0)) := by decide +kernel
theorem kc_132_42 : zcode 132 42 = some (.ifCond .ne 7, 3, (49, 0, 0, 0)) := by decide +kernel
theorem kc_132_45 : zcode 132 45 = some (.iconst 1, 1, (0, 0, 0, 0)) := by decide +kernel
theorem kc_132_46 : zcode 132 46 = some (.goto 4, 3, (50, 0, 0, 0)) := by decide +kernel
theorem kc_132_49 : zcode 132 49 = some (.iconst 0, 1, (0, 0, 0, 0)) := by decide +kernel
theorem kc_132_50 : zcode 132 50 = some (.ireturn, 1, (1, 0, 0, 0)) := by decide +kernel
theorem kc_133_0 : zcode 133 0 = some (.iload_n 1, 1, (0, 0, 0, 0)) := by decide +kernel
theorem kc_133_1 : zcode 133 1 = some (.invokestatic 103, 3, (97, 0, 797, 0)) := by decide +kernel
theorem kc_133_4 : zcode 133 4 = some (.ifCond .ne 6, 3, (10, 0, 0, 0)) := by decide +kernel
theorem kc_133_7 : zcode 133 7 = some (.bipush (-2), 2, (0, 0, 0, 0)) := by decide +kernel
theorem kc_133_9 : zcode 133 9 = some (.ireturn, 1, (0, 0, 0, 0)) := by decide +kernel
theorem kc_133_10 : zcode 133 10 = some (.aload_n 0, 1, (0, 0, 0, 0)) := by decide +kernel
theorem kc_133_11 : zcode 133 11 = some (.invokevirtual 109, 3, (105, 0, 823, 0)) := by decide +kernel
theorem kc_133_14 : zcode 133 14 = some (.ifCond .ne 6, 3, (20, 0, 0, 0)) := by decide +kernel
theorem kc_133_17 : zcode 133 17 = some (.bipush (-3), 2, (0, 0, 0, 0)) := by decide +kernel
theorem kc_133_19 : zcode 133 19 = some (.ireturn, 1, (0, 0, 0, 0)) := by decide +kernel
theorem kc_133_20 : zcode 133 20 = some (.iconst 0, 1, (0, 0, 0, 0)) := by decide +kernel
theorem kc_133_21 : zcode 133 21 = some (.istore_n 2, 1, (0, 0, 0, 0)) := by decide +kernel
theorem kc_133_22 : zcode 133 22 = some (.iload_n 2, 1, (0, 0, 0, 0)) := by decide +kernel
theorem kc_133_23 : zcode 133 23 = some (.aload_n 0, 1, (0, 0, 0, 0)) := by decide +kernel
theorem kc_133_24 : zcode 133 24 = some (.getfield 63, 3, (8, 0, 676, 0)) := by decide +kernel
theorem kc_133_27 : zcode 133 27 = some (.if_icmp .ge 44, 3, (71, 0, 0, 0)) := by decide +kernel
theorem kc_133_30 : zcode 133 30 = some (.iload_n 2, 1, (0, 0, 0, 0)) := by decide +kernel
theorem kc_133_31 : zcode 133 31 = some (.iconst 1, 1, (0, 0, 0, 0)) := by decide +kernel
theorem kc_133_32 : zcode 133 32 = some (.iadd, 1, (0, 0, 0, 0)) := by decide +kernel
theorem kc_133_33 : zcode 133 33 = some (.istore_n 3, 1, (0, 0, 0, 0)) := by decide +kernel
theorem kc_133_34 : zcode 133 34 = some (.iload_n 3, 1, (0, 0, 0, 0)) := by decide +kernel
theorem kc_133_35 : zcode 133 35 = some (.aload_n 0, 1, (0, 0, 0, 0)) := by decide +kernel
theorem kc_133_36 : zcode 133 36 = some (.getfield 63, 3, (8, 0, 676, 0)) := by decide +kernel
theorem kc_133_39 : zcode 133 39 = some (.if_icmp .ge 26, 3, (65, 0, 0, 0)) := by decide +kernel
theorem kc_133_42 : zcode 133 42 = some (.aload_n 0, 1, (0, 0, 0, 0)) := by decide +kernel
theorem kc_133_43 : zcode 133 43 = some (.iload_n 1, 1, (0, 0, 0, 0)) := by decide +kernel
theorem kc_133_44 : zcode 133 44 = some (.iload_n 2, 1, (0, 0, 0, 0)) := by decide +kernel
theorem kc_133_45 : zcode 133 45 = some (.iload_n 3, 1, (0, 0, 0, 0)) := by decide +kernel
theorem kc_133_46 : zcode 133 46 = some (.invokevirtual 215, 3, (132, 0, 932, 0)) := by decide +kernel
theorem kc_133_49 : zcode 133 49 = some (.ifCond .ne 10, 3, (59, 0, 0, 0)) := by decide +kernel
theorem kc_133_52 : zcode 133 52 = some (.bipush 10, 2, (0, 0, 0, 0)) := by decide +kernel
theorem kc_133_54 : zcode 133 54 = some (.iload_n 2, 1, (0, 0, 0, 0)) := by decide +kernel
theorem kc_133_55 : zcode 133 55 = some (.imul, 1, (0, 0, 0, 0)) := by decide +kernel
theorem kc_133_56 : zcode 133 56 = some (.iload_n 3, 1, (0, 0, 0, 0)) := by decide +kernel
theorem kc_133_57 : zcode 133 57 = some (.iadd, 1, (0, 0, 0, 0)) := by decide +kernel
theorem kc_133_58 : zcode 133 58 = some (.ireturn, 1, (0, 0, 0, 0)) := by decide +kernel
theorem kc_133_59 : zcode 133 59 = some (.iinc 3 1, 3, (0, 0, 0, 0)) := by decide +kernel
theorem kc_133_62 : zcode 133 62 = some (.goto (-28), 3, (34, 0, 0, 0)) := by decide +kernel
theorem kc_133_65 : zcode 133 65 = some (.iinc 2 1, 3, (0, 0, 0, 0)) := by decide +kernel
theorem kc_133_68 : zcode 133 68 = some (.goto (-46), 3, (22, 0, 0, 0)) := by decide +kernel
theorem kc_133_71 : zcode 133 71 = some (.bipush (-5), 2, (0, 0, 0, 0)) := by decide +kernel
theorem kc_133_73 : zcode 133 73 = some (.ireturn, 1, (0, 0, 0, 0)) := by decide +kernel
theorem kc_134_0 : zcode 134 0 = some (.iload_n 1, 1, (0, 0, 0, 0)) := by decide +kernel
theorem kc_134_1 : zcode 134 1 = some (.invokestatic 103, 3, (97, 0, 797, 0)) := by decide +kernel
theorem kc_134_4 : zcode 134 4 = some (.ifCond .eq 42, 3, (46, 0, 0, 0)) := by decide +kernel
theorem kc_134_7 : zcode 134 7 = some (.aload_n 0, 1, (0, 0, 0, 0)) := by decide +kernel
theorem kc_134_8 : zcode 134 8 = some (.iload_n 2, 1, (0, 0, 0, 0)) := by decide +kernel
theorem kc_134_9 : zcode 134 9 = some (.invokevirtual 100, 3, (96, 0, 785, 0)) := by decide +kernel
theorem kc_134_12 : zcode 134 12 = some (.ifCond .eq 34, 3, (46, 0, 0, 0)) := by decide +kernel
theorem kc_134_15 : zcode 134 15 = some (.iload_n 3, 1, (0, 0, 0, 0)) := by decide +kernel
theorem kc_134_16 : zcode 134 16 = some (.invokestatic 96, 3, (99, 0, 775, 0)) := by decide +kernel
theorem kc_134_19 : zcode 134 19 = some (.ifCond .eq 27, 3, (46, 0, 0, 0)) := by decide +kernel
theorem kc_134_22 : zcode 134 22 = some (.aload_n 0, 1, (0, 0, 0, 0)) := by decide +kernel
theorem kc_134_23 : zcode 134 23 = some (.iload 4, 2, (0, 0, 0, 0)) := by decide +kernel
theorem kc_134_25 : zcode 134 25 = some (.invokevirtual 100, 3, (96, 0, 785, 0)) := by decide +kernel
theorem kc_134_28 : zcode 134 28 = some (.ifCond .eq 18, 3, (46, 0, 0, 0)) := by decide +kernel
theorem kc_134_31 : zcode 134 31 = some (.iload 5, 2, (0, 0, 0, 0)) := by decide +kernel
theorem kc_134_33 : zcode 134 33 = some (.invokestatic 199, 3, (98, 0, 859, 0)) := by decide +kernel
theorem kc_134_36 : zcode 134 36 = some (.ifCond .eq 10, 3, (46, 0, 0, 0)) := by decide +kernel
theorem kc_134_39 : zcode 134 39 = some (.aload_n 0, 1, (0, 0, 0, 0)) := by decide +kernel
theorem kc_134_40 : zcode 134 40 = some (.invokevirtual 109, 3, (105, 0, 823, 0)) := by decide +kernel
theorem kc_134_43 : zcode 134 43 = some (.ifCond .ne 7, 3, (50, 0, 0, 0)) := by decide +kernel
theorem kc_134_46 : zcode 134 46 = some (.ldc2_w 202, 3, (0, 0, 862, -9223372036854775808)) := by decide +kernel
theorem kc_134_49 : zcode 134 49 = some (.lreturn, 1, (0, 0, 0, 0)) := by decide +kernel
theorem kc_134_50 : zcode 134 50 = some (.aload_n 0, 1, (0, 0, 0, 0)) := by decide +kernel
theorem kc_134_51 : zcode 134 51 = some (.iload_n 1, 1, (0, 0, 0, 0)) := by decide +kernel
theorem kc_134_52 : zcode 134 52 = some (.iload 4, 2, (0, 0, 0, 0)) := by decide +kernel
theorem kc_134_54 : zcode 134 54 = some (.invokevirtual 195, 3, (125, 0, 863, 0)) := by decide +kernel
theorem kc_134_57 : zcode 134 57 = some (.aload_n 0, 1, (0, 0, 0, 0)) := by decide +kernel
theorem kc_134_58 : zcode 134 58 = some (.getfield 71, 3, (8, 18, 694, 0)) := by decide +kernel
theorem kc_134_61 : zcode 134 61 = some (.lstore 6, 2, (0, 0, 0, 0)) := by decide +kernel
theorem kc_134_63 : zcode 134 63 = some (.aload_n 0, 1, (0, 0, 0, 0)) := by decide +kernel
theorem kc_134_64 : zcode 134 64 = some (.getfield 75, 3, (8, 19, 695, 0)) := by decide +kernel
theorem kc_134_67 : zcode 134 67 = some (.lstore 8, 2, (0, 0, 0, 0)) := by decide +kernel
theorem kc_134_69 : zcode 134 69 = some (.aload_n 0, 1, (0, 0, 0, 0)) := by decide +kernel
theorem kc_134_70 : zcode 134 70 = some (.getfield 9, 3, (8, 1, 677, 0)) := by decide +kernel
theorem kc_134_73 : zcode 134 73 = some (.iload_n 2, 1, (0, 0, 0, 0)) := by decide +kernel
theorem kc_134_74 : zcode 134 74 = some (.iaload, 1, (0, 0, 0, 0)) := by decide +kernel
theorem kc_134_75 : zcode 134 75 = some (.istore 10, 2, (0, 0, 0, 0)) := by decide +kernel
theorem kc_134_77 : zcode 134 77 = some (.aload_n 0, 1, (0, 0, 0, 0)) := by decide +kernel
theorem kc_134_78 : zcode 134 78 = some (.getfield 9, 3, (8, 1, 677, 0)) := by decide +kernel
theorem kc_134_81 : zcode 134 81 = some (.iload_n 2, 1, (0, 0, 0, 0)) := by decide +kernel
theorem kc_134_82 : zcode 134 82 = some (.iload_n 3, 1, (0, 0, 0, 0)) := by decide +kernel
theorem kc_134_83 : zcode 134 83 = some (.iastore, 1, (0, 0, 0, 0)) := by decide +kernel
theorem kc_134_84 : zcode 134 84 = some (.aload_n 0, 1, (0, 0, 0, 0)) := by decide +kernel
theorem kc_134_85 : zcode 134 85 = some (.invokevirtual 109, 3, (105, 0, 823, 0)) := by decide +kernel
theorem kc_134_88 : zcode 134 88 = some (.istore 11, 2, (0, 0, 0, 0)) := by decide +kernel
theorem kc_134_90 : zcode 134 90 = some (.iload 11, 2, (0, 0, 0, 0)) := by decide +kernel
theorem kc_134_92 : zcode 134 92 = some (.ifCond .eq 10, 3, (102, 0, 0, 0)) := by decide +kernel
theorem kc_134_95 : zcode 134 95 = some (.aload_n 0, 1, (0, 0, 0, 0)) := by decide +kernel
theorem kc_134_96 : zcode 134 96 = some (.iload_n 1, 1, (0, 0, 0, 0)) := by decide +kernel
theorem kc_134_97 : zcode 134 97 = some (.iload 4, 2, (0, 0, 0, 0)) := by decide +kernel
theorem kc_134_99 : zcode 134 99 = some (.invokevirtual 195, 3, (125, 0, 863, 0)) := by decide +kernel
theorem kc_134_102 : zcode 134 102 = some (.aload_n 0, 1, (0, 0, 0, 0)) := by decide +kernel
theorem kc_134_103 : zcode 134 103 = some (.getfield 9, 3, (8, 1, 677, 0)) := by decide +kernel
theorem kc_134_106 : zcode 134 106 = some (.iload_n 2, 1, (0, 0, 0, 0)) := by decide +kernel
theorem kc_134_107 : zcode 134 107 = some (.iload 10, 2, (0, 0, 0, 0)) := by decide +kernel
theorem kc_134_109 : zcode 134 109 = some (.iastore, 1, (0, 0, 0, 0)) := by decide +kernel
theorem kc_134_110 : zcode 134 110 = some (.iload 11, 2, (0, 0, 0, 0)) := by decide +kernel
theorem kc_134_112 : zcode 134 112 = some (.ifCond .ne 7, 3, (119, 0, 0, 0)) := by decide +kernel
theorem kc_134_115 : zcode 134 115 = some (.ldc2_w 202, 3, (0, 0, 862, -9223372036854775808)) := by decide +kernel
theorem kc_134_118 : zcode 134 118 = some (.lreturn, 1, (0, 0, 0, 0)) := by decide +kernel
theorem kc_134_119 : zcode 134 119 = some (.aload_n 0, 1, (0, 0, 0, 0)) := by decide +kernel
theorem kc_134_120 : zcode 134 120 = some (.aload_n 0, 1, (0, 0, 0, 0)) := by decide +kernel
theorem kc_134_121 : zcode 134 121 = some (.getfield 71, 3, (8, 18, 694, 0)) := by decide +kernel
theorem kc_134_124 : zcode 134 124 = some (.lload 8, 2, (0, 0, 0, 0)) := by decide +kernel
theorem kc_134_126 : zcode 134 126 = some (.lmul, 1, (0, 0, 0, 0)) := by decide +kernel
theorem kc_134_127 : zcode 134 127 = some (.lload 6, 2, (0, 0, 0, 0)) := by decide +kernel
theorem kc_134_129 : zcode 134 129 = some (.aload_n 0, 1, (0, 0, 0, 0)) := by decide +kernel
theorem kc_134_130 : zcode 134 130 = some (.getfield 75, 3, (8, 19, 695, 0)) := by decide +kernel
theorem kc_134_133 : zcode 134 133 = some (.lmul, 1, (0, 0, 0, 0)) := by decide +kernel
theorem kc_134_134 : zcode 134 134 = some (.lsub, 1, (0, 0, 0, 0)) := by decide +kernel
theorem kc_134_135 : zcode 134 135 = some (.aload_n 0, 1, (0, 0, 0, 0)) := by decide +kernel
theorem kc_134_136 : zcode 134 136 = some (.getfield 75, 3, (8, 19, 695, 0)) := by decide +kernel
theorem kc_134_139 : zcode 134 139 = some (.lload 8, 2, (0, 0, 0, 0)) := by decide +kernel
theorem kc_134_141 : zcode 134 141 = some (.lmul, 1, (0, 0, 0, 0)) := by decide +kernel
theorem kc_134_142 : zcode 134 142 = some (.invokevirtual 187, 3, (100, 0, 900, 0)) := by decide +kernel
theorem kc_134_145 : zcode 134 145 = some (.aload_n 0, 1, (0, 0, 0, 0)) := by decide +kernel
theorem kc_134_146 : zcode 134 146 = some (.iload 5, 2, (0, 0, 0, 0)) := by decide +kernel
theorem kc_134_148 : zcode 134 148 = some (.invokevirtual 204, 3, (101, 0, 904, 0)) := by decide +kernel
theorem kc_134_151 : zcode 134 151 = some (.lreturn, 1, (0, 0, 0, 0)) := by decide +kernel
theorem kc_135_0 : zcode 135 0 = some (.aload_n 0, 1, (0, 0, 0, 0)) := by decide +kernel
theorem kc_135_1 : zcode 135 1 = some (.iload_n 1, 1, (0, 0, 0, 0)) := by decide +kernel
theorem kc_135_2 : zcode 135 2 = some (.aload_n 0, 1, (0, 0, 0, 0)) := by decide +kernel
theorem kc_135_3 : zcode 135 3 = some (.invokevirtual 82, 3, (102, 0, 812, 0)) := by decide +kernel
theorem kc_135_6 : zcode 135 6 = some (.iload_n 2, 1, (0, 0, 0, 0)) := by decide +kernel
theorem kc_135_7 : zcode 135 7 = some (.i2l, 1, (0, 0, 0, 0)) := by decide +kernel
theorem kc_135_8 : zcode 135 8 = some (.lconst 1, 1, (0, 0, 0, 0)) := by decide +kernel
theorem kc_135_9 : zcode 135 9 = some (.iload_n 3, 1, (0, 0, 0, 0)) := by decide +kernel
theorem kc_135_10 : zcode 135 10 = some (.invokevirtual 191, 3, (124, 0, 867, 0)) := by decide +kernel
theorem kc_135_13 : zcode 135 13 = some (.return_, 1, (0, 0, 0, 0)) := by decide +kernel
theorem kc_136_0 : zcode 136 0 = some (.iload_n 1, 1, (0, 0, 0, 0)) := by decide +kernel
theorem kc_136_1 : zcode 136 1 = some (.invokestatic 103, 3, (97, 0, 797, 0)) := by decide +kernel
theorem kc_136_4 : zcode 136 4 = some (.ifCond .ne 6, 3, (10, 0, 0, 0)) := by decide +kernel
theorem kc_136_7 : zcode 136 7 = some (.bipush (-2), 2, (0, 0, 0, 0)) := by decide +kernel
theorem kc_136_9 : zcode 136 9 = some (.ireturn, 1, (0, 0, 0, 0)) := by decide +kernel
theorem kc_136_10 : zcode 136 10 = some (.aload_n 0, 1, (0, 0, 0, 0)) := by decide +kernel
theorem kc_136_11 : zcode 136 11 = some (.iload_n 2, 1, (0, 0, 0, 0)) := by decide +kernel
theorem kc_136_12 : zcode 136 12 = some (.invokevirtual 100, 3, (96, 0, 785, 0)) := by decide +kernel
theorem kc_136_15 : zcode 136 15 = some (.ifCond .ne 5, 3, (20, 0, 0, 0)) := by decide +kernel
theorem kc_136_18 : zcode 136 18 = some (.iconst (-1), 1, (0, 0, 0, 0)) := by decide +kernel
theorem kc_136_19 : zcode 136 19 = some (.ireturn, 1, (0, 0, 0, 0)) := by decide +kernel
theorem kc_136_20 : zcode 136 20 = some (.iload_n 3, 1, (0, 0, 0, 0)) := by decide +kernel
theorem kc_136_21 : zcode 136 21 = some (.iconst 0, 1, (0, 0, 0, 0)) := by decide +kernel
theorem kc_136_22 : zcode 136 22 = some (.bipush 60, 2, (0, 0, 0, 0)) := by decide +kernel
theorem kc_136_24 : zcode 136 24 = some (.invokestatic 67, 3, (94, 0, 778, 0)) := by decide +kernel
theorem kc_136_27 : zcode 136 27 = some (.ifCond .ne 6, 3, (33, 0, 0, 0)) := by decide +kernel
theorem kc_136_30 : zcode 136 30 = some (.bipush (-2), 2, (0, 0, 0, 0)) := by decide +kernel
theorem kc_136_32 : zcode 136 32 = some (.ireturn, 1, (0, 0, 0, 0)) := by decide +kernel
theorem kc_136_33 : zcode 136 33 = some (.iconst 0, 1, (0, 0, 0, 0)) := by decide +kernel
theorem kc_136_34 : zcode 136 34 = some (.istore 4, 2, (0, 0, 0, 0)) := by decide +kernel
theorem kc_136_36 : zcode 136 36 = some (.iload 4, 2, (0, 0, 0, 0)) := by decide +kernel
theorem kc_136_38 : zcode 136 38 = some (.aload_n 0, 1, (0, 0, 0, 0)) := by decide +kernel
theorem kc_136_39 : zcode 136 39 = some (.invokevirtual 93, 3, (104, 0, 808, 0)) := by decide +kernel
theorem kc_136_42 : zcode 136 42 = some (.if_icmp .gt 35, 3, (77, 0, 0, 0)) := by decide +kernel
theorem kc_136_45 : zcode 136 45 = some (.aload_n 0, 1, (0, 0, 0, 0)) := by decide +kernel
theorem kc_136_46 : zcode 136 46 = some (.iload_n 1, 1, (0, 0, 0, 0)) := by decide +kernel
theorem kc_136_47 : zcode 136 47 = some (.iload 4, 2, (0, 0, 0, 0)) := by decide +kernel
theorem kc_136_49 : zcode 136 49 = some (.iload_n 2, 1, (0, 0, 0, 0)) := by decide +kernel
theorem kc_136_50 : zcode 136 50 = some (.invokevirtual 218, 3, (135, 0, 944, 0)) := by decide +kernel
theorem kc_136_53 : zcode 136 53 = some (.aload_n 0, 1, (0, 0, 0, 0)) := by decide +kernel
theorem kc_136_54 : zcode 136 54 = some (.getfield 71, 3, (8, 18, 694, 0)) := by decide +kernel
theorem kc_136_57 : zcode 136 57 = some (.iload_n 3, 1, (0, 0, 0, 0)) := by decide +kernel
theorem kc_136_58 : zcode 136 58 = some (.i2l, 1, (0, 0, 0, 0)) := by decide +kernel
theorem kc_136_59 : zcode 136 59 = some (.aload_n 0, 1, (0, 0, 0, 0)) := by decide +kernel
theorem kc_136_60 : zcode 136 60 = some (.getfield 75, 3, (8, 19, 695, 0)) := by decide +kernel
theorem kc_136_63 : zcode 136 63 = some (.lmul, 1, (0, 0, 0, 0)) := by decide +kernel
theorem kc_136_64 : zcode 136 64 = some (.lcmp, 1, (0, 0, 0, 0)) := by decide +kernel
theorem kc_136_65 : zcode 136 65 = some (.ifCond .lt 6, 3, (71, 0, 0, 0)) := by decide +kernel
theorem kc_136_68 : zcode 136 68 = some (.iload 4, 2, (0, 0, 0, 0)) := by decide +kernel
theorem kc_136_70 : zcode 136 70 = some (.ireturn, 1, (0, 0, 0, 0)) := by decide +kernel
theorem kc_136_71 : zcode 136 71 = some (.iinc 4 1, 3, (0, 0, 0, 0)) := by decide +kernel
theorem kc_136_74 : zcode 136 74 = some (.goto (-38), 3, (36, 0, 0, 0)) := by decide +kernel
theorem kc_136_77 : zcode 136 77 = some (.bipush (-5), 2, (0, 0, 0, 0)) := by decide +kernel
theorem kc_136_79 : zcode 136 79 = some (.ireturn, 1, (0, 0, 0, 0)) := by decide +kernel
theorem kc_137_0 : zcode 137 0 = some (.iload_n 1, 1, (0, 0, 0, 0)) := by decide +kernel
theorem kc_137_1 : zcode 137 1 = some (.invokestatic 103, 3, (97, 0, 797, 0)) := by decide +kernel
theorem kc_137_4 : zcode 137 4 = some (.ifCond .ne 6, 3, (10, 0, 0, 0)) := by decide +kernel
theorem kc_137_7 : zcode 137 7 = some (.bipush (-2), 2, (0, 0, 0, 0)) := by decide +kernel
theorem kc_137_9 : zcode 137 9 = some (.ireturn, 1, (0, 0, 0, 0)) := by decide +kernel
theorem kc_137_10 : zcode 137 10 = some (.aload_n 0, 1, (0, 0, 0, 0)) := by decide +kernel
theorem kc_137_11 : zcode 137 11 = some (.iload_n 2, 1, (0, 0, 0, 0)) := by decide +kernel
theorem kc_137_12 : zcode 137 12 = some (.invokevirtual 100, 3, (96, 0, 785, 0)) := by decide +kernel
theorem kc_137_15 : zcode 137 15 = some (.ifCond .ne 5, 3, (20, 0, 0, 0)) := by decide +kernel
theorem kc_137_18 : zcode 137 18 = some (.iconst (-1), 1, (0, 0, 0, 0)) := by decide +kernel
theorem kc_137_19 : zcode 137 19 = some (.ireturn, 1, (0, 0, 0, 0)) := by decide +kernel
theorem kc_137_20 : zcode 137 20 = some (.iconst 0, 1, (0, 0, 0, 0)) := by decide +kernel
theorem kc_137_21 : zcode 137 21 = some (.istore_n 3, 1, (0, 0, 0, 0)) := by decide +kernel
theorem kc_137_22 : zcode 137 22 = some (.aload_n 0, 1, (0, 0, 0, 0)) := by decide +kernel
theorem kc_137_23 : zcode 137 23 = some (.invokevirtual 93, 3, (104, 0, 808, 0)) := by decide +kernel
theorem kc_137_26 : zcode 137 26 = some (.istore 4, 2, (0, 0, 0, 0)) := by decide +kernel
theorem kc_137_28 : zcode 137 28 = some (.lconst 0, 1, (0, 0, 0, 0)) := by decide +kernel
theorem kc_137_29 : zcode 137 29 = some (.lstore 5, 2, (0, 0, 0, 0)) := by decide +kernel
theorem kc_137_31 : zcode 137 31 = some (.lconst 0, 1, (0, 0, 0, 0)) := by decide +kernel
theorem kc_137_32 : zcode 137 32 = some (.lstore 7, 2, (0, 0, 0, 0)) := by decide +kernel
theorem kc_137_34 : zcode 137 34 = some (.aload_n 0, 1, (0, 0, 0, 0)) := by decide +kernel
theorem kc_137_35 : zcode 137 35 = some (.iload_n 1, 1, (0, 0, 0, 0)) := by decide +kernel
theorem kc_137_36 : zcode 137 36 = some (.iconst 0, 1, (0, 0, 0, 0)) := by decide +kernel
theorem kc_137_37 : zcode 137 37 = some (.iload_n 2, 1, (0, 0, 0, 0)) := by decide +kernel
theorem kc_137_38 : zcode 137 38 = some (.invokevirtual 218, 3, (135, 0, 944, 0)) := by decide +kernel
theorem kc_137_41 : zcode 137 41 = some (.aload_n 0, 1, (0, 0, 0, 0)) := by decide +kernel
theorem kc_137_42 : zcode 137 42 = some (.getfield 71, 3, (8, 18, 694, 0)) := by decide +kernel
theorem kc_137_45 : zcode 137 45 = some (.lstore 9, 2, (0, 0, 0, 0)) := by decide +kernel
theorem kc_137_47 : zcode 137 47 = some (.aload_n 0, 1, (0, 0, 0, 0)) := by decide +kernel
theorem kc_137_48 : zcode 137 48 = some (.getfield 75, 3, (8, 19, 695, 0)) := by decide +kernel
theorem kc_137_51 : zcode 137 51 = some (.lstore 11, 2, (0, 0, 0, 0)) := by decide +kernel
theorem kc_137_53 : zcode 137 53 = some (.iconst 1, 1, (0, 0, 0, 0)) := by decide +kernel
theorem kc_137_54 : zcode 137 54 = some (.istore 13, 2, (0, 0, 0, 0)) := by decide +kernel
theorem kc_137_56 : zcode 137 56 = some (.iload 13, 2, (0, 0, 0, 0)) := by decide +kernel
theorem kc_137_58 : zcode 137 58 = some (.iload 4, 2, (0, 0, 0, 0)) := by decide +kernel
theorem kc_137_60 : zcode 137 60 = some (.if_icmp .gt 103, 3, (163, 0, 0, 0)) := by decide +kernel
theorem kc_137_63 : zcode 137 63 = some (.aload_n 0, 1, (0, 0, 0, 0)) := by decide +kernel
theorem kc_137_64 : zcode 137 64 = some (.iload_n 1, 1, (0, 0, 0, 0)) := by decide +kernel
theorem kc_137_65 : zcode 137 65 = some (.iload 13, 2, (0, 0, 0, 0)) := by decide +kernel
theorem kc_137_67 : zcode 137 67 = some (.iload_n 2, 1, (0, 0, 0, 0)) := by decide +kernel
theorem kc_137_68 : zcode 137 68 = some (.invokevirtual 218, 3, (135, 0, 944, 0)) := by decide +kernel
theorem kc_137_71 : zcode 137 71 = some (.aload_n 0, 1, (0, 0, 0, 0)) := by decide +kernel
theorem kc_137_72 : zcode 137 72 = some (.getfield 71, 3, (8, 18, 694, 0)) := by decide +kernel
theorem kc_137_75 : zcode 137 75 = some (.lstore 14, 2, (0, 0, 0, 0)) := by decide +kernel
theorem kc_137_77 : zcode 137 77 = some (.aload_n 0, 1, (0, 0, 0, 0)) := by decide +kernel
theorem kc_137_78 : zcode 137 78 = some (.getfield 75, 3, (8, 19, 695, 0)) := by decide +kernel
theorem kc_137_81 : zcode 137 81 = some (.lstore 16, 2, (0, 0, 0, 0)) := by decide +kernel
theorem kc_137_83 : zcode 137 83 = some (.aload_n 0, 1, (0, 0, 0, 0)) := by decide +kernel
theorem kc_137_84 : zcode 137 84 = some (.lload 14, 2, (0, 0, 0, 0)) := by decide +kernel
theorem kc_137_86 : zcode 137 86 = some (.lload 11, 2, (0, 0, 0, 0)) := by decide +kernel
theorem kc_137_88 : zcode 137 88 = some (.lmul, 1, (0, 0, 0, 0)) := by decide +kernel
theorem kc_137_89 : zcode 137 89 = some (.lload 9, 2, (0, 0, 0, 0)) := by decide +kernel
theorem kc_137_91 : zcode 137 91 = some (.lload 16, 2, (0, 0, 0, 0)) := by decide +kernel
theorem kc_137_93 : zcode 137 93 = some (.lmul, 1, (0, 0, 0, 0)) := by decide +kernel
theorem kc_137_94 : zcode 137 94 = some (.lsub, 1, (0, 0, 0, 0)) := by decide +kernel
theorem kc_137_95 : zcode 137 95 = some (.lload 16, 2, (0, 0, 0, 0)) := by decide +kernel
theorem kc_137_97 : zcode 137 97 = some (.lload 11, 2, (0, 0, 0, 0)) := by decide +kernel
theorem kc_137_99 : zcode 137 99 = some (.lmul, 1, (0, 0, 0, 0)) := by decide +kernel
theorem kc_137_100 : zcode 137 100 = some (.invokevirtual 187, 3, (100, 0, 900, 0)) := by decide +kernel
theorem kc_137_103 : zcode 137 103 = some (.iload_n 3, 1, (0, 0, 0, 0)) := by decide +kernel
theorem kc_137_104 : zcode 137 104 = some (.iload 13, 2, (0, 0, 0, 0)) := by decide +kernel
theorem kc_137_106 : zcode 137 106 = some (.iconst 1, 1, (0, 0, 0, 0)) := by decide +kernel
theorem kc_137_107 : zcode 137 107 = some (.if_icmp .le 27, 3, (134, 0, 0, 0)) := by decide +kernel
theorem kc_137_110 : zcode 137 110 = some (.aload_n 0, 1, (0, 0, 0, 0)) := by decide +kernel
theorem kc_137_111 : zcode 137 111 = some (.getfield 71, 3, (8, 18, 694, 0)) := by decide +kernel
theorem kc_137_114 : zcode 137 114 = some (.lload 5, 2, (0, 0, 0, 0)) := by decide +kernel
theorem kc_137_116 : zcode 137 116 = some (.lcmp, 1, (0, 0, 0, 0)) := by decide +kernel
theorem kc_137_117 : zcode 137 117 = some (.ifCond .ne 13, 3, (130, 0, 0, 0)) := by decide +kernel
theorem kc_137_120 : zcode 137 120 = some (.aload_n 0, 1, (0, 0, 0, 0)) := by decide +kernel
theorem kc_137_121 : zcode 137 121 = some (.getfield 75, 3, (8, 19, 695, 0)) := by decide +kernel
theorem kc_137_124 : zcode 137 124 = some (.lload 7, 2, (0, 0, 0, 0)) := by decide +kernel
theorem kc_137_126 : zcode 137 126 = some (.lcmp, 1, (0, 0, 0, 0)) := by decide +kernel
theorem kc_137_127 : zcode 137 127 = some (.ifCond .eq 7, 3, (134, 0, 0, 0)) := by decide +kernel
theorem kc_137_130 : zcode 137 130 = some (.iconst 1, 1, (0, 0, 0, 0)) := by decide +kernel
theorem kc_137_131 : zcode 137 131 = some (.goto 4, 3, (135, 0, 0, 0)) := by decide +kernel
theorem kc_137_134 : zcode 137 134 = some (.iconst 0, 1, (0, 0, 0, 0)) := by decide +kernel
theorem kc_137_135 : zcode 137 135 = some (.iadd, 1, (0, 0, 0, 0)) := by decide +kernel
theorem kc_137_136 : zcode 137 136 = some (.istore_n 3, 1, (0, 0, 0, 0)) := by decide +kernel
theorem kc_137_137 : zcode 137 137 = some (.aload_n 0, 1, (0, 0, 0, 0)) := by decide +kernel
theorem kc_137_138 : zcode 137 138 = some (.getfield 71, 3, (8, 18, 694, 0)) := by decide +kernel
theorem kc_137_141 : zcode 137 141 = some (.lstore 5, 2, (0, 0, 0, 0)) := by decide +kernel
theorem kc_137_143 : zcode 137 143 = some (.aload_n 0, 1, (0, 0, 0, 0)) := by decide +kernel
theorem kc_137_144 : zcode 137 144 = some (.getfield 75, 3, (8, 19, 695, 0)) := by decide +kernel
theorem kc_137_147 : zcode 137 147 = some (.lstore 7, 2, (0, 0, 0, 0)) := by decide +kernel
theorem kc_137_149 : zcode 137 149 = some (.lload 14, 2, (0, 0, 0, 0)) := by decide +kernel
theorem kc_137_151 : zcode 137 151 = some (.lstore 9, 2, (0, 0, 0, 0)) := by decide +kernel
theorem kc_137_153 : zcode 137 153 = some (.lload 16, 2, (0, 0, 0, 0)) := by decide +kernel
theorem kc_137_155 : zcode 137 155 = some (.lstore 11, 2, (0, 0, 0, 0)) := by decide +kernel
theorem kc_137_157 : zcode 137 157 = some (.iinc 13 1, 3, (0, 0, 0, 0)) := by decide +kernel
theorem kc_137_160 : zcode 137 160 = some (.goto (-104), 3, (56, 0, 0, 0)) := by decide +kernel
theorem kc_137_163 : zcode 137 163 = some (.iload_n 3, 1, (0, 0, 0, 0)) := by decide +kernel
theorem kc_137_164 : zcode 137 164 = some (.ireturn, 1, (0, 0, 0, 0)) := by decide +kernel
theorem kc_138_0 : zcode 138 0 = some (.iconst 0, 1, (0, 0, 0, 0)) := by decide +kernel
theorem kc_138_1 : zcode 138 1 = some (.istore_n 3, 1, (0, 0, 0, 0)) := by decide +kernel
theorem kc_138_2 : zcode 138 2 = some (.iload_n 3, 1, (0, 0, 0, 0)) := by decide +kernel
theorem kc_138_3 : zcode 138 3 = some (.aload_n 0, 1, (0, 0, 0, 0)) := by decide +kernel
theorem kc_138_4 : zcode 138 4 = some (.getfield 63, 3, (8, 0, 676, 0)) := by decide +kernel
theorem kc_138_7 : zcode 138 7 = some (.if_icmp .ge 55, 3, (62, 0, 0, 0)) := by decide +kernel
theorem kc_138_10 : zcode 138 10 = some (.aload_n 0, 1, (0, 0, 0, 0)) := by decide +kernel
theorem kc_138_11 : zcode 138 11 = some (.iload_n 1, 1, (0, 0, 0, 0)) := by decide +kernel
theorem kc_138_12 : zcode 138 12 = some (.iload_n 3, 1, (0, 0, 0, 0)) := by decide +kernel
theorem kc_138_13 : zcode 138 13 = some (.invokevirtual 195, 3, (125, 0, 863, 0)) := by decide +kernel
theorem kc_138_16 : zcode 138 16 = some (.aload_n 0, 1, (0, 0, 0, 0)) := by decide +kernel
theorem kc_138_17 : zcode 138 17 = some (.getfield 71, 3, (8, 18, 694, 0)) := by decide +kernel
theorem kc_138_20 : zcode 138 20 = some (.lstore 4, 2, (0, 0, 0, 0)) := by decide +kernel
theorem kc_138_22 : zcode 138 22 = some (.aload_n 0, 1, (0, 0, 0, 0)) := by decide +kernel
theorem kc_138_23 : zcode 138 23 = some (.getfield 75, 3, (8, 19, 695, 0)) := by decide +kernel
theorem kc_138_26 : zcode 138 26 = some (.lstore 6, 2, (0, 0, 0, 0)) := by decide +kernel
theorem kc_138_28 : zcode 138 28 = some (.aload_n 0, 1, (0, 0, 0, 0)) := by decide +kernel
theorem kc_138_29 : zcode 138 29 = some (.iload_n 2, 1, (0, 0, 0, 0)) := by decide +kernel
theorem kc_138_30 : zcode 138 30 = some (.iload_n 3, 1, (0, 0, 0, 0)) := by decide +kernel
theorem kc_138_31 : zcode 138 31 = some (.invokevirtual 195, 3, (125, 0, 863, 0)) := by decide +kernel
theorem kc_138_34 : zcode 138 34 = some (.aload_n 0, 1, (0, 0, 0, 0)) := by decide +kernel
theorem kc_138_35 : zcode 138 35 = some (.getfield 71, 3, (8, 18, 694, 0)) := by decide +kernel
theorem kc_138_38 : zcode 138 38 = some (.lload 4, 2, (0, 0, 0, 0)) := by decide +kernel
theorem kc_138_40 : zcode 138 40 = some (.lcmp, 1, (0, 0, 0, 0)) := by decide +kernel
theorem kc_138_41 : zcode 138 41 = some (.ifCond .ne 13, 3, (54, 0, 0, 0)) := by decide +kernel
theorem kc_138_44 : zcode 138 44 = some (.aload_n 0, 1, (0, 0, 0, 0)) := by decide +kernel
theorem kc_138_45 : zcode 138 45 = some (.getfield 75, 3, (8, 19, 695, 0)) := by decide +kernel
theorem kc_138_48 : zcode 138 48 = some (.lload 6, 2, (0, 0, 0, 0)) := by decide +kernel
theorem kc_138_50 : zcode 138 50 = some (.lcmp, 1, (0, 0, 0, 0)) := by decide +kernel
theorem kc_138_51 : zcode 138 51 = some (.ifCond .eq 5, 3, (56, 0, 0, 0)) := by decide +kernel
theorem kc_138_54 : zcode 138 54 = some (.iconst 0, 1, (0, 0, 0, 0)) := by decide +kernel
theorem kc_138_55 : zcode 138 55 = some (.ireturn, 1, (1, 0, 0, 0)) := by decide +kernel
theorem kc_138_56 : zcode 138 56 = some (.iinc 3 1, 3, (0, 0, 0, 0)) := by decide +kernel
theorem kc_138_59 : zcode 138 59 = some (.goto (-57), 3, (2, 0, 0, 0)) := by decide +kernel
theorem kc_138_62 : zcode 138 62 = some (.iconst 1, 1, (0, 0, 0, 0)) := by decide +kernel
theorem kc_138_63 : zcode 138 63 = some (.ireturn, 1, (1, 0, 0, 0)) := by decide +kernel
theorem kc_139_0 : zcode 139 0 = some (.iconst 0, 1, (0, 0, 0, 0)) := by decide +kernel
theorem kc_139_1 : zcode 139 1 = some (.istore_n 2, 1, (0, 0, 0, 0)) := by decide +kernel
theorem kc_139_2 : zcode 139 2 = some (.iconst 0, 1, (0, 0, 0, 0)) := by decide +kernel
theorem kc_139_3 : zcode 139 3 = some (.istore_n 3, 1, (0, 0, 0, 0)) := by decide +kernel
theorem kc_139_4 : zcode 139 4 = some (.iload_n 3, 1, (0, 0, 0, 0)) := by decide +kernel
theorem kc_139_5 : zcode 139 5 = some (.bipush 6, 2, (0, 0, 0, 0)) := by decide +kernel
theorem kc_139_7 : zcode 139 7 = some (.if_icmp .ge 28, 3, (35, 0, 0, 0)) := by decide +kernel
theorem kc_139_10 : zcode 139 10 = some (.iload_n 2, 1, (0, 0, 0, 0)) := by decide +kernel
theorem kc_139_11 : zcode 139 11 = some (.aload_n 0, 1, (0, 0, 0, 0)) := by decide +kernel
theorem kc_139_12 : zcode 139 12 = some (.iload_n 1, 1, (0, 0, 0, 0)) := by decide +kernel
theorem kc_139_13 : zcode 139 13 = some (.iload_n 3, 1, (0, 0, 0, 0)) := by decide +kernel
theorem kc_139_14 : zcode 139 14 = some (.invokevirtual 221, 3, (138, 0, 960, 0)) := by decide +kernel
theorem kc_139_17 : zcode 139 17 = some (.ifCond .eq 9, 3, (26, 0, 0, 0)) := by decide +kernel
theorem kc_139_20 : zcode 139 20 = some (.iconst 1, 1, (0, 0, 0, 0)) := by decide +kernel
theorem kc_139_21 : zcode 139 21 = some (.iload_n 3, 1, (0, 0, 0, 0)) := by decide +kernel
theorem kc_139_22 : zcode 139 22 = some (.ishl, 1, (0, 0, 0, 0)) := by decide +kernel
theorem kc_139_23 : zcode 139 23 = some (.goto 4, 3, (27, 0, 0, 0)) := by decide +kernel
theorem kc_139_26 : zcode 139 26 = some (.iconst 0, 1, (0, 0, 0, 0)) := by decide +kernel
theorem kc_139_27 : zcode 139 27 = some (.ior, 1, (0, 0, 0, 0)) := by decide +kernel
theorem kc_139_28 : zcode 139 28 = some (.istore_n 2, 1, (0, 0, 0, 0)) := by decide +kernel
theorem kc_139_29 : zcode 139 29 = some (.iinc 3 1, 3, (0, 0, 0, 0)) := by decide +kernel
theorem kc_139_32 : zcode 139 32 = some (.goto (-28), 3, (4, 0, 0, 0)) := by decide +kernel
theorem kc_139_35 : zcode 139 35 = some (.iload_n 2, 1, (0, 0, 0, 0)) := by decide +kernel
theorem kc_139_36 : zcode 139 36 = some (.ireturn, 1, (0, 0, 0, 0)) := by decide +kernel
theorem kc_140_0 : zcode 140 0 = some (.iload_n 1, 1, (0, 0, 0, 0)) := by decide +kernel
theorem kc_140_1 : zcode 140 1 = some (.invokestatic 103, 3, (97, 0, 797, 0)) := by decide +kernel
theorem kc_140_4 : zcode 140 4 = some (.ifCond .ne 6, 3, (10, 0, 0, 0)) := by decide +kernel
theorem kc_140_7 : zcode 140 7 = some (.bipush (-2), 2, (0, 0, 0, 0)) := by decide +kernel
theorem kc_140_9 : zcode 140 9 = some (.ireturn, 1, (0, 0, 0, 0)) := by decide +kernel
theorem kc_140_10 : zcode 140 10 = some (.aload_n 0, 1, (0, 0, 0, 0)) := by decide +kernel
theorem kc_140_11 : zcode 140 11 = some (.invokevirtual 109, 3, (105, 0, 823, 0)) := by decide +kernel
theorem kc_140_14 : zcode 140 14 = some (.ifCond .eq 11, 3, (25, 0, 0, 0)) := by decide +kernel
theorem kc_140_17 : zcode 140 17 = some (.aload_n 0, 1, (0, 0, 0, 0)) := by decide +kernel
theorem kc_140_18 : zcode 140 18 = some (.iload_n 1, 1, (0, 0, 0, 0)) := by decide +kernel
theorem kc_140_19 : zcode 140 19 = some (.invokevirtual 224, 3, (139, 0, 956, 0)) := by decide +kernel
theorem kc_140_22 : zcode 140 22 = some (.goto 5, 3, (27, 0, 0, 0)) := by decide +kernel
theorem kc_140_25 : zcode 140 25 = some (.bipush (-3), 2, (0, 0, 0, 0)) := by decide +kernel
theorem kc_140_27 : zcode 140 27 = some (.ireturn, 1, (0, 0, 0, 0)) := by decide +kernel
theorem kc_141_0 : zcode 141 0 = some (.aload_n 0, 1, (0, 0, 0, 0)) := by decide +kernel
theorem kc_141_1 : zcode 141 1 = some (.iload_n 1, 1, (0, 0, 0, 0)) := by decide +kernel
theorem kc_141_2 : zcode 141 2 = some (.iload_n 2, 1, (0, 0, 0, 0)) := by decide +kernel
theorem kc_141_3 : zcode 141 3 = some (.invokevirtual 195, 3, (125, 0, 863, 0)) := by decide +kernel
theorem kc_141_6 : zcode 141 6 = some (.aload_n 0, 1, (0, 0, 0, 0)) := by decide +kernel
theorem kc_141_7 : zcode 141 7 = some (.getfield 9, 3, (8, 1, 677, 0)) := by decide +kernel
theorem kc_141_10 : zcode 141 10 = some (.iload_n 2, 1, (0, 0, 0, 0)) := by decide +kernel
theorem kc_141_11 : zcode 141 11 = some (.iaload, 1, (0, 0, 0, 0)) := by decide +kernel
theorem kc_141_12 : zcode 141 12 = some (.i2l, 1, (0, 0, 0, 0)) := by decide +kernel
theorem kc_141_13 : zcode 141 13 = some (.aload_n 0, 1, (0, 0, 0, 0)) := by decide +kernel
theorem kc_141_14 : zcode 141 14 = some (.getfield 75, 3, (8, 19, 695, 0)) := by decide +kernel
theorem kc_141_17 : zcode 141 17 = some (.lmul, 1, (0, 0, 0, 0)) := by decide +kernel
theorem kc_141_18 : zcode 141 18 = some (.aload_n 0, 1, (0, 0, 0, 0)) := by decide +kernel
theorem kc_141_19 : zcode 141 19 = some (.getfield 71, 3, (8, 18, 694, 0)) := by decide +kernel
theorem kc_141_22 : zcode 141 22 = some (.lsub, 1, (0, 0, 0, 0)) := by decide +kernel
theorem kc_141_23 : zcode 141 23 = some (.lstore 4, 2, (0, 0, 0, 0)) := by decide +kernel
theorem kc_141_25 : zcode 141 25 = some (.aload_n 0, 1, (0, 0, 0, 0)) := by decide +kernel
theorem kc_141_26 : zcode 141 26 = some (.getfield 75, 3, (8, 19, 695, 0)) := by decide +kernel
theorem kc_141_29 : zcode 141 29 = some (.lstore 6, 2, (0, 0, 0, 0)) := by decide +kernel
theorem kc_141_31 : zcode 141 31 = some (.aload_n 0, 1, (0, 0, 0, 0)) := by decide +kernel
theorem kc_141_32 : zcode 141 32 = some (.iload_n 1, 1, (0, 0, 0, 0)) := by decide +kernel
theorem kc_141_33 : zcode 141 33 = some (.iload_n 3, 1, (0, 0, 0, 0)) := by decide +kernel
theorem kc_141_34 : zcode 141 34 = some (.invokevirtual 195, 3, (125, 0, 863, 0)) := by decide +kernel
theorem kc_141_37 : zcode 141 37 = some (.lload 4, 2, (0, 0, 0, 0)) := by decide +kernel
theorem kc_141_39 : zcode 141 39 = some (.aload_n 0, 1, (0, 0, 0, 0)) := by decide +kernel
theorem kc_141_40 : zcode 141 40 = some (.getfield 75, 3, (8, 19, 695, 0)) := by decide +kernel
theorem kc_141_43 : zcode 141 43 = some (.lmul, 1, (0, 0, 0, 0)) := by decide +kernel
theorem kc_141_44 : zcode 141 44 = some (.lstore 8, 2, (0, 0, 0, 0)) := by decide +kernel
theorem kc_141_46 : zcode 141 46 = some (.aload_n 0, 1, (0, 0, 0, 0)) := by decide +kernel
theorem kc_141_47 : zcode 141 47 = some (.getfield 9, 3, (8, 1, 677, 0)) := by decide +kernel
theorem kc_141_50 : zcode 141 50 = some (.iload_n 3, 1, (0, 0, 0, 0)) := by decide +kernel
theorem kc_141_51 : zcode 141 51 = some (.iaload, 1, (0, 0, 0, 0)) := by decide +kernel
theorem kc_141_52 : zcode 141 52 = some (.i2l, 1, (0, 0, 0, 0)) := by decide +kernel
theorem kc_141_53 : zcode 141 53 = some (.aload_n 0, 1, (0, 0, 0, 0)) := by decide +kernel
theorem kc_141_54 : zcode 141 54 = some (.getfield 75, 3, (8, 19, 695, 0)) := by decide +kernel
theorem kc_141_57 : zcode 141 57 = some (.lmul, 1, (0, 0, 0, 0)) := by decide +kernel
theorem kc_141_58 : zcode 141 58 = some (.aload_n 0, 1, (0, 0, 0, 0)) := by decide +kernel
theorem kc_141_59 : zcode 141 59 = some (.getfield 71, 3, (8, 18, 694, 0)) := by decide +kernel
theorem kc_141_62 : zcode 141 62 = some (.lsub, 1, (0, 0, 0, 0)) := by decide +kernel
theorem kc_141_63 : zcode 141 63 = some (.lload 6, 2, (0, 0, 0, 0)) := by decide +kernel
theorem kc_141_65 : zcode 141 65 = some (.lmul, 1, (0, 0, 0, 0)) := by decide +kernel
theorem kc_141_66 : zcode 141 66 = some (.lstore 10, 2, (0, 0, 0, 0)) := by decide +kernel
theorem kc_141_68 : zcode 141 68 = some (.lload 8, 2, (0, 0, 0, 0)) := by decide +kernel
theorem kc_141_70 : zcode 141 70 = some (.lload 10, 2, (0, 0, 0, 0)) := by decide +kernel
theorem kc_141_72 : zcode 141 72 = some (.lcmp, 1, (0, 0, 0, 0)) := by decide +kernel
theorem kc_141_73 : zcode 141 73 = some (.ifCond .eq 17, 3, (90, 0, 0, 0)) := by decide +kernel
theorem kc_141_76 : zcode 141 76 = some (.lload 8, 2, (0, 0, 0, 0)) := by decide +kernel
theorem kc_141_78 : zcode 141 78 = some (.lload 10, 2, (0, 0, 0, 0)) := by decide +kernel
theorem kc_141_80 : zcode 141 80 = some (.lcmp, 1, (0, 0, 0, 0)) := by decide +kernel
theorem kc_141_81 : zcode 141 81 = some (.ifCond .le 7, 3, (88, 0, 0, 0)) := by decide +kernel
theorem kc_141_84 : zcode 141 84 = some (.iconst 1, 1, (0, 0, 0, 0)) := by decide +kernel
theorem kc_141_85 : zcode 141 85 = some (.goto 4, 3, (89, 0, 0, 0)) := by decide +kernel
theorem kc_141_88 : zcode 141 88 = some (.iconst 0, 1, (0, 0, 0, 0)) := by decide +kernel
theorem kc_141_89 : zcode 141 89 = some (.ireturn, 1, (1, 0, 0, 0)) := by decide +kernel
theorem kc_141_90 : zcode 141 90 = some (.aload_n 0, 1, (0, 0, 0, 0)) := by decide +kernel
theorem kc_141_91 : zcode 141 91 = some (.getfield 9, 3, (8, 1, 677, 0)) := by decide +kernel
theorem kc_141_94 : zcode 141 94 = some (.iload_n 2, 1, (0, 0, 0, 0)) := by decide +kernel
theorem kc_141_95 : zcode 141 95 = some (.iaload, 1, (0, 0, 0, 0)) := by decide +kernel
theorem kc_141_96 : zcode 141 96 = some (.aload_n 0, 1, (0, 0, 0, 0)) := by decide +kernel
theorem kc_141_97 : zcode 141 97 = some (.getfield 9, 3, (8, 1, 677, 0)) := by decide +kernel
theorem kc_141_100 : zcode 141 100 = some (.iload_n 3, 1, (0, 0, 0, 0)) := by decide +kernel
theorem kc_141_101 : zcode 141 101 = some (.iaload, 1, (0, 0, 0, 0)) := by decide +kernel
theorem kc_141_102 : zcode 141 102 = some (.if_icmp .eq 26, 3, (128, 0, 0, 0)) := by decide +kernel
theorem kc_141_105 : zcode 141 105 = some (.aload_n 0, 1, (0, 0, 0, 0)) := by decide +kernel
theorem kc_141_106 : zcode 141 106 = some (.getfield 9, 3, (8, 1, 677, 0)) := by decide +kernel
theorem kc_141_109 : zcode 141 109 = some (.iload_n 2, 1, (0, 0, 0, 0)) := by decide +kernel
theorem kc_141_110 : zcode 141 110 = some (.iaload, 1, (0, 0, 0, 0)) := by decide +kernel
theorem kc_141_111 : zcode 141 111 = some (.aload_n 0, 1, (0, 0, 0, 0)) := by decide +kernel
theorem kc_141_112 : zcode 141 112 = some (.getfield 9, 3, (8, 1, 677, 0)) := by decide +kernel
theorem kc_141_115 : zcode 141 115 = some (.iload_n 3, 1, (0, 0, 0, 0)) := by decide +kernel
theorem kc_141_116 : zcode 141 116 = some (.iaload, 1, (0, 0, 0, 0)) := by decide +kernel
theorem kc_141_117 : zcode 141 117 = some (.if_icmp .le 7, 3, (124, 0, 0, 0)) := by decide +kernel
theorem kc_141_120 : zcode 141 120 = some (.iconst 1, 1, (0, 0, 0, 0)) := by decide +kernel
theorem kc_141_121 : zcode 141 121 = some (.goto 17, 3, (138, 0, 0, 0)) := by decide +kernel
theorem kc_141_124 : zcode 141 124 = some (.iconst 0, 1, (0, 0, 0, 0)) := by decide +kernel
theorem kc_141_125 : zcode 141 125 = some (.goto 13, 3, (138, 0, 0, 0)) := by decide +kernel
theorem kc_141_128 : zcode 141 128 = some (.iload_n 2, 1, (0, 0, 0, 0)) := by decide +kernel
theorem kc_141_129 : zcode 141 129 = some (.iload_n 3, 1, (0, 0, 0, 0)) := by decide +kernel
theorem kc_141_130 : zcode 141 130 = some (.if_icmp .ge 7, 3, (137, 0, 0, 0)) := by decide +kernel
theorem kc_141_133 : zcode 141 133 = some (.iconst 1, 1, (0, 0, 0, 0)) := by decide +kernel
theorem kc_141_134 : zcode 141 134 = some (.goto 4, 3, (138, 0, 0, 0)) := by decide +kernel
theorem kc_141_137 : zcode 141 137 = some (.iconst 0, 1, (0, 0, 0, 0)) := by decide +kernel
theorem kc_141_138 : zcode 141 138 = some (.ireturn, 1, (1, 0, 0, 0)) := by decide +kernel
theorem kc_142_0 : zcode 142 0 = some (.iload_n 1, 1, (0, 0, 0, 0)) := by decide +kernel
theorem kc_142_1 : zcode 142 1 = some (.invokestatic 103, 3, (97, 0, 797, 0)) := by decide +kernel
theorem kc_142_4 : zcode 142 4 = some (.ifCond .ne 6, 3, (10, 0, 0, 0)) := by decide +kernel
theorem kc_142_7 : zcode 142 7 = some (.bipush (-2), 2, (0, 0, 0, 0)) := by decide +kernel
theorem kc_142_9 : zcode 142 9 = some (.ireturn, 1, (0, 0, 0, 0)) := by decide +kernel
theorem kc_142_10 : zcode 142 10 = some (.iload_n 2, 1, (0, 0, 0, 0)) := by decide +kernel
theorem kc_142_11 : zcode 142 11 = some (.iconst 0, 1, (0, 0, 0, 0)) := by decide +kernel
theorem kc_142_12 : zcode 142 12 = some (.aload_n 0, 1, (0, 0, 0, 0)) := by decide +kernel
theorem kc_142_13 : zcode 142 13 = some (.getfield 63, 3, (8, 0, 676, 0)) := by decide +kernel
theorem kc_142_16 : zcode 142 16 = some (.iconst 1, 1, (0, 0, 0, 0)) := by decide +kernel
theorem kc_142_17 : zcode 142 17 = some (.isub, 1, (0, 0, 0, 0)) := by decide +kernel
theorem kc_142_18 : zcode 142 18 = some (.invokestatic 67, 3, (94, 0, 778, 0)) := by decide +kernel
theorem kc_142_21 : zcode 142 21 = some (.ifCond .ne 5, 3, (26, 0, 0, 0)) := by decide +kernel
theorem kc_142_24 : zcode 142 24 = some (.iconst (-1), 1, (0, 0, 0, 0)) := by decide +kernel
theorem kc_142_25 : zcode 142 25 = some (.ireturn, 1, (0, 0, 0, 0)) := by decide +kernel
theorem kc_142_26 : zcode 142 26 = some (.aload_n 0, 1, (0, 0, 0, 0)) := by decide +kernel
theorem kc_142_27 : zcode 142 27 = some (.invokevirtual 109, 3, (105, 0, 823, 0)) := by decide +kernel
theorem kc_142_30 : zcode 142 30 = some (.ifCond .ne 6, 3, (36, 0, 0, 0)) := by decide +kernel
theorem kc_142_33 : zcode 142 33 = some (.bipush (-3), 2, (0, 0, 0, 0)) := by decide +kernel
theorem kc_142_35 : zcode 142 35 = some (.ireturn, 1, (0, 0, 0, 0)) := by decide +kernel
theorem kc_142_36 : zcode 142 36 = some (.iconst 0, 1, (0, 0, 0, 0)) := by decide +kernel
theorem kc_142_37 : zcode 142 37 = some (.istore_n 3, 1, (0, 0, 0, 0)) := by decide +kernel
theorem kc_142_38 : zcode 142 38 = some (.iload_n 3, 1, (0, 0, 0, 0)) := by decide +kernel
theorem kc_142_39 : zcode 142 39 = some (.aload_n 0, 1, (0, 0, 0, 0)) := by decide +kernel
theorem kc_142_40 : zcode 142 40 = some (.getfield 63, 3, (8, 0, 676, 0)) := by decide +kernel
theorem kc_142_43 : zcode 142 43 = some (.if_icmp .ge 65, 3, (108, 0, 0, 0)) := by decide +kernel
theorem kc_142_46 : zcode 142 46 = some (.iconst 0, 1, (0, 0, 0, 0)) := by decide +kernel
theorem kc_142_47 : zcode 142 47 = some (.istore 4, 2, (0, 0, 0, 0)) := by decide +kernel
theorem kc_142_49 : zcode 142 49 = some (.iconst 0, 1, (0, 0, 0, 0)) := by decide +kernel
theorem kc_142_50 : zcode 142 50 = some (.istore 5, 2, (0, 0, 0, 0)) := by decide +kernel
theorem kc_142_52 : zcode 142 52 = some (.iload 5, 2, (0, 0, 0, 0)) := by decide +kernel
theorem kc_142_54 : zcode 142 54 = some (.aload_n 0, 1, (0, 0, 0, 0)) := by decide +kernel
theorem kc_142_55 : zcode 142 55 = some (.getfield 63, 3, (8, 0, 676, 0)) := by decide +kernel
theorem kc_142_58 : zcode 142 58 = some (.if_icmp .ge 36, 3, (94, 0, 0, 0)) := by decide +kernel
theorem kc_142_61 : zcode 142 61 = some (.iload 4, 2, (0, 0, 0, 0)) := by decide +kernel
theorem kc_142_63 : zcode 142 63 = some (.iload 5, 2, (0, 0, 0, 0)) := by decide +kernel
theorem kc_142_65 : zcode 142 65 = some (.iload_n 3, 1, (0, 0, 0, 0)) := by decide +kernel
theorem kc_142_66 : zcode 142 66 = some (.if_icmp .eq 18, 3, (84, 0, 0, 0)) := by decide +kernel
theorem kc_142_69 : zcode 142 69 = some (.aload_n 0, 1, (0, 0, 0, 0)) := by decide +kernel
theorem kc_142_70 : zcode 142 70 = some (.iload_n 1, 1, (0, 0, 0, 0)) := by decide +kernel
theorem kc_142_71 : zcode 142 71 = some (.iload 5, 2, (0, 0, 0, 0)) := by decide +kernel
theorem kc_142_73 : zcode 142 73 = some (.iload_n 3, 1, (0, 0, 0, 0)) := by decide +kernel
theorem kc_142_74 : zcode 142 74 = some (.invokevirtual 227, 3, (141, 0, 968, 0)) := by decide +kernel
theorem kc_142_77 : zcode 142 77 = some (.ifCond .eq 7, 3, (84, 0, 0, 0)) := by decide +kernel
theorem kc_142_80 : zcode 142 80 = some (.iconst 1, 1, (0, 0, 0, 0)) := by decide +kernel
theorem kc_142_81 : zcode 142 81 = some (.goto 4, 3, (85, 0, 0, 0)) := by decide +kernel
theorem kc_142_84 : zcode 142 84 = some (.iconst 0, 1, (0, 0, 0, 0)) := by decide +kernel
theorem kc_142_85 : zcode 142 85 = some (.iadd, 1, (0, 0, 0, 0)) := by decide +kernel
theorem kc_142_86 : zcode 142 86 = some (.istore 4, 2, (0, 0, 0, 0)) := by decide +kernel
theorem kc_142_88 : zcode 142 88 = some (.iinc 5 1, 3, (0, 0, 0, 0)) := by decide +kernel
theorem kc_142_91 : zcode 142 91 = some (.goto (-39), 3, (52, 0, 0, 0)) := by decide +kernel
theorem kc_142_94 : zcode 142 94 = some (.iload 4, 2, (0, 0, 0, 0)) := by decide +kernel
theorem kc_142_96 : zcode 142 96 = some (.iload_n 2, 1, (0, 0, 0, 0)) := by decide +kernel
theorem kc_142_97 : zcode 142 97 = some (.if_icmp .ne 5, 3, (102, 0, 0, 0)) := by decide +kernel
theorem kc_142_100 : zcode 142 100 = some (.iload_n 3, 1, (0, 0, 0, 0)) := by decide +kernel
theorem kc_142_101 : zcode 142 101 = some (.ireturn, 1, (0, 0, 0, 0)) := by decide +kernel
theorem kc_142_102 : zcode 142 102 = some (.iinc 3 1, 3, (0, 0, 0, 0)) := by decide +kernel
theorem kc_142_105 : zcode 142 105 = some (.goto (-67), 3, (38, 0, 0, 0)) := by decide +kernel
theorem kc_142_108 : zcode 142 108 = some (.iconst (-1), 1, (0, 0, 0, 0)) := by decide +kernel
theorem kc_142_109 : zcode 142 109 = some (.ireturn, 1, (0, 0, 0, 0)) := by decide +kernel
theorem kc_143_0 : zcode 143 0 = some (.iload_n 0, 1, (0, 0, 0, 0)) := by decide +kernel
theorem kc_143_1 : zcode 143 1 = some (.i2f, 1, (0, 0, 0, 0)) := by decide +kernel
theorem kc_143_2 : zcode 143 2 = some (.freturn, 1, (0, 0, 0, 0)) := by decide +kernel
theorem kc_144_0 : zcode 144 0 = some (.aload_n 0, 1, (0, 0, 0, 0)) := by decide +kernel
theorem kc_144_1 : zcode 144 1 = some (.getfield 9, 3, (8, 1, 677, 0)) := by decide +kernel
theorem kc_144_4 : zcode 144 4 = some (.iload_n 2, 1, (0, 0, 0, 0)) := by decide +kernel
theorem kc_144_5 : zcode 144 5 = some (.iaload, 1, (0, 0, 0, 0)) := by decide +kernel
theorem kc_144_6 : zcode 144 6 = some (.invokestatic 230, 3, (143, 0, 984, 0)) := by decide +kernel
theorem kc_144_9 : zcode 144 9 = some (.fstore_n 3, 1, (0, 0, 0, 0)) := by decide +kernel
theorem kc_144_10 : zcode 144 10 = some (.aload_n 0, 1, (0, 0, 0, 0)) := by decide +kernel
theorem kc_144_11 : zcode 144 11 = some (.getfield 46, 3, (8, 25, 701, 0)) := by decide +kernel
theorem kc_144_14 : zcode 144 14 = some (.iload_n 2, 1, (0, 0, 0, 0)) := by decide +kernel
theorem kc_144_15 : zcode 144 15 = some (.faload, 1, (0, 0, 0, 0)) := by decide +kernel
theorem kc_144_16 : zcode 144 16 = some (.fstore 4, 2, (0, 0, 0, 0)) := by decide +kernel
theorem kc_144_18 : zcode 144 18 = some (.iload_n 1, 1, (0, 0, 0, 0)) := by decide +kernel
theorem kc_144_19 : zcode 144 19 = some (.tableswitch 69 0 3 #[29, 32, 37, 42], 29, (0, 0, 0, 0)) := by decide +kernel
theorem kc_144_48 : zcode 144 48 = some (.fload 4, 2, (0, 0, 0, 0)) := by decide +kernel
theorem kc_144_50 : zcode 144 50 = some (.freturn, 1, (0, 0, 0, 0)) := by decide +kernel
theorem kc_144_51 : zcode 144 51 = some (.fload 4, 2, (0, 0, 0, 0)) := by decide +kernel
theorem kc_144_53 : zcode 144 53 = some (.fload_n 3, 1, (0, 0, 0, 0)) := by decide +kernel
theorem kc_144_54 : zcode 144 54 = some (.fsub, 1, (0, 0, 0, 0)) := by decide +kernel
theorem kc_144_55 : zcode 144 55 = some (.freturn, 1, (0, 0, 0, 0)) := by decide +kernel
theorem kc_144_56 : zcode 144 56 = some (.fload 4, 2, (0, 0, 0, 0)) := by decide +kernel
theorem kc_144_58 : zcode 144 58 = some (.fload_n 3, 1, (0, 0, 0, 0)) := by decide +kernel
theorem kc_144_59 : zcode 144 59 = some (.fdiv, 1, (0, 0, 0, 0)) := by decide +kernel
theorem kc_144_60 : zcode 144 60 = some (.freturn, 1, (0, 0, 0, 0)) := by decide +kernel
theorem kc_144_61 : zcode 144 61 = some (.fconst 2, 1, (0, 0, 0, 0)) := by decide +kernel
theorem kc_144_62 : zcode 144 62 = some (.fload 4, 2, (0, 0, 0, 0)) := by decide +kernel
theorem kc_144_64 : zcode 144 64 = some (.fmul, 1, (0, 0, 0, 0)) := by decide +kernel
theorem kc_144_65 : zcode 144 65 = some (.fload_n 3, 1, (0, 0, 0, 0)) := by decide +kernel
theorem kc_144_66 : zcode 144 66 = some (.fcmp .g, 1, (0, 0, 0, 0)) := by decide +kernel
theorem kc_144_67 : zcode 144 67 = some (.ifCond .ge 8, 3, (75, 0, 0, 0)) := by decide +kernel
theorem kc_144_70 : zcode 144 70 = some (.fload 4, 2, (0, 0, 0, 0)) := by decide +kernel
theorem kc_144_72 : zcode 144 72 = some (.goto 15, 3, (87, 0, 0, 0)) := by decide +kernel
theorem kc_144_75 : zcode 144 75 = some (.aload_n 0, 1, (0, 0, 0, 0)) := by decide +kernel
theorem kc_144_76 : zcode 144 76 = some (.invokevirtual 234, 3, (145, 0, 995, 0)) := by decide +kernel
theorem kc_144_79 : zcode 144 79 = some (.invokestatic 230, 3, (143, 0, 984, 0)) := by decide +kernel
theorem kc_144_82 : zcode 144 82 = some (.fload_n 3, 1, (0, 0, 0, 0)) := by decide +kernel
theorem kc_144_83 : zcode 144 83 = some (.fload 4, 2, (0, 0, 0, 0)) := by decide +kernel
theorem kc_144_85 : zcode 144 85 = some (.fsub, 1, (0, 0, 0, 0)) := by decide +kernel
theorem kc_144_86 : zcode 144 86 = some (.fsub, 1, (0, 0, 0, 0)) := by decide +kernel
theorem kc_144_87 : zcode 144 87 = some (.freturn, 1, (0, 0, 0, 0)) := by decide +kernel
theorem kc_144_88 : zcode 144 88 = some (.fload 4, 2, (0, 0, 0, 0)) := by decide +kernel
theorem kc_144_90 : zcode 144 90 = some (.fload_n 3, 1, (0, 0, 0, 0)) := by decide +kernel
theorem kc_144_91 : zcode 144 91 = some (.ldc 237, 2, (1, 0, 1002, 1056964608)) := by decide +kernel
theorem kc_144_93 : zcode 144 93 = some (.fmul, 1, (0, 0, 0, 0)) := by decide +kernel
theorem kc_144_94 : zcode 144 94 = some (.fsub, 1, (0, 0, 0, 0)) := by decide +kernel
theorem kc_144_95 : zcode 144 95 = some (.freturn, 1, (0, 0, 0, 0)) := by decide +kernel
theorem kc_145_0 : zcode 145 0 = some (.iconst 0, 1, (0, 0, 0, 0)) := by decide +kernel
theorem kc_145_1 : zcode 145 1 = some (.istore_n 1, 1, (0, 0, 0, 0)) := by decide +kernel
theorem kc_145_2 : zcode 145 2 = some (.iconst 0, 1, (0, 0, 0, 0)) := by decide +kernel
theorem kc_145_3 : zcode 145 3 = some (.istore_n 2, 1, (0, 0, 0, 0)) := by decide +kernel
theorem kc_145_4 : zcode 145 4 = some (.iload_n 2, 1, (0, 0, 0, 0)) := by decide +kernel
theorem kc_145_5 : zcode 145 5 = some (.aload_n 0, 1, (0, 0, 0, 0)) := by decide +kernel
theorem kc_145_6 : zcode 145 6 = some (.getfield 63, 3, (8, 0, 676, 0)) := by decide +kernel
theorem kc_145_9 : zcode 145 9 = some (.if_icmp .ge 20, 3, (29, 0, 0, 0)) := by decide +kernel
theorem kc_145_12 : zcode 145 12 = some (.iload_n 1, 1, (0, 0, 0, 0)) := by decide +kernel
theorem kc_145_13 : zcode 145 13 = some (.aload_n 0, 1, (0, 0, 0, 0)) := by decide +kernel
theorem kc_145_14 : zcode 145 14 = some (.getfield 9, 3, (8, 1, 677, 0)) := by decide +kernel
theorem kc_145_17 : zcode 145 17 = some (.iload_n 2, 1, (0, 0, 0, 0)) := by decide +kernel
theorem kc_145_18 : zcode 145 18 = some (.iaload, 1, (0, 0, 0, 0)) := by decide +kernel
theorem kc_145_19 : zcode 145 19 = some (.invokestatic 238, 3, (179, 0, 999, 0)) := by decide +kernel
theorem kc_145_22 : zcode 145 22 = some (.istore_n 1, 1, (0, 0, 0, 0)) := by decide +kernel
theorem kc_145_23 : zcode 145 23 = some (.iinc 2 1, 3, (0, 0, 0, 0)) := by decide +kernel
theorem kc_145_26 : zcode 145 26 = some (.goto (-22), 3, (4, 0, 0, 0)) := by decide +kernel
theorem kc_145_29 : zcode 145 29 = some (.iload_n 1, 1, (0, 0, 0, 0)) := by decide +kernel
theorem kc_145_30 : zcode 145 30 = some (.ireturn, 1, (0, 0, 0, 0)) := by decide +kernel
theorem kc_146_0 : zcode 146 0 = some (.iconst (-1), 1, (0, 0, 0, 0)) := by decide +kernel
theorem kc_146_1 : zcode 146 1 = some (.istore_n 2, 1, (0, 0, 0, 0)) := by decide +kernel
theorem kc_146_2 : zcode 146 2 = some (.iconst 0, 1, (0, 0, 0, 0)) := by decide +kernel
theorem kc_146_3 : zcode 146 3 = some (.istore_n 3, 1, (0, 0, 0, 0)) := by decide +kernel
theorem kc_146_4 : zcode 146 4 = some (.iload_n 3, 1, (0, 0, 0, 0)) := by decide +kernel
theorem kc_146_5 : zcode 146 5 = some (.aload_n 0, 1, (0, 0, 0, 0)) := by decide +kernel
theorem kc_146_6 : zcode 146 6 = some (.getfield 63, 3, (8, 0, 676, 0)) := by decide +kernel
theorem kc_146_9 : zcode 146 9 = some (.if_icmp .ge 50, 3, (59, 0, 0, 0)) := by decide +kernel
theorem kc_146_12 : zcode 146 12 = some (.aload_n 0, 1, (0, 0, 0, 0)) := by decide +kernel
theorem kc_146_13 : zcode 146 13 = some (.getfield 46, 3, (8, 25, 701, 0)) := by decide +kernel
theorem kc_146_16 : zcode 146 16 = some (.iload_n 3, 1, (0, 0, 0, 0)) := by decide +kernel
theorem kc_146_17 : zcode 146 17 = some (.faload, 1, (0, 0, 0, 0)) := by decide +kernel
theorem kc_146_18 : zcode 146 18 = some (.aload_n 0, 1, (0, 0, 0, 0)) := by decide +kernel
theorem kc_146_19 : zcode 146 19 = some (.getfield 9, 3, (8, 1, 677, 0)) := by decide +kernel
theorem kc_146_22 : zcode 146 22 = some (.iload_n 3, 1, (0, 0, 0, 0)) := by decide +kernel
theorem kc_146_23 : zcode 146 23 = some (.iaload, 1, (0, 0, 0, 0)) := by decide +kernel
theorem kc_146_24 : zcode 146 24 = some (.invokestatic 230, 3, (143, 0, 984, 0)) := by decide +kernel
theorem kc_146_27 : zcode 146 27 = some (.fcmp .g, 1, (0, 0, 0, 0)) := by decide +kernel
theorem kc_146_28 : zcode 146 28 = some (.ifCond .ge 25, 3, (53, 0, 0, 0)) := by decide +kernel
theorem kc_146_31 : zcode 146 31 = some (.iload_n 2, 1, (0, 0, 0, 0)) := by decide +kernel
theorem kc_146_32 : zcode 146 32 = some (.ifCond .lt 19, 3, (51, 0, 0, 0)) := by decide +kernel
theorem kc_146_35 : zcode 146 35 = some (.aload_n 0, 1, (0, 0, 0, 0)) := by decide +kernel
theorem kc_146_36 : zcode 146 36 = some (.iload_n 1, 1, (0, 0, 0, 0)) := by decide +kernel
theorem kc_146_37 : zcode 146 37 = some (.iload_n 3, 1, (0, 0, 0, 0)) := by decide +kernel
theorem kc_146_38 : zcode 146 38 = some (.invokevirtual 240, 3, (144, 0, 991, 0)) := by decide +kernel
theorem kc_146_41 : zcode 146 41 = some (.aload_n 0, 1, (0, 0, 0, 0)) := by decide +kernel
theorem kc_146_42 : zcode 146 42 = some (.iload_n 1, 1, (0, 0, 0, 0)) := by decide +kernel
theorem kc_146_43 : zcode 146 43 = some (.iload_n 2, 1, (0, 0, 0, 0)) := by decide +kernel
theorem kc_146_44 : zcode 146 44 = some (.invokevirtual 240, 3, (144, 0, 991, 0)) := by decide +kernel
theorem kc_146_47 : zcode 146 47 = some (.fcmp .g, 1, (0, 0, 0, 0)) := by decide +kernel
theorem kc_146_48 : zcode 146 48 = some (.ifCond .ge 5, 3, (53, 0, 0, 0)) := by decide +kernel
theorem kc_146_51 : zcode 146 51 = some (.iload_n 3, 1, (0, 0, 0, 0)) := by decide +kernel
theorem kc_146_52 : zcode 146 52 = some (.istore_n 2, 1, (0, 0, 0, 0)) := by decide +kernel
theorem kc_146_53 : zcode 146 53 = some (.iinc 3 1, 3, (0, 0, 0, 0)) := by decide +kernel
theorem kc_146_56 : zcode 146 56 = some (.goto (-52), 3, (4, 0, 0, 0)) := by decide +kernel
theorem kc_146_59 : zcode 146 59 = some (.iload_n 2, 1, (0, 0, 0, 0)) := by decide +kernel
theorem kc_146_60 : zcode 146 60 = some (.ireturn, 1, (0, 0, 0, 0)) := by decide +kernel
theorem kc_147_0 : zcode 147 0 = some (.aload_n 0, 1, (0, 0, 0, 0)) := by decide +kernel
theorem kc_147_1 : zcode 147 1 = some (.getfield 90, 3, (8, 2, 678, 0)) := by decide +kernel
theorem kc_147_4 : zcode 147 4 = some (.invokestatic 230, 3, (143, 0, 984, 0)) := by decide +kernel
theorem kc_147_7 : zcode 147 7 = some (.iload_n 2, 1, (0, 0, 0, 0)) := by decide +kernel
theorem kc_147_8 : zcode 147 8 = some (.invokestatic 230, 3, (143, 0, 984, 0)) := by decide +kernel
theorem kc_147_11 : zcode 147 11 = some (.fdiv, 1, (0, 0, 0, 0)) := by decide +kernel
theorem kc_147_12 : zcode 147 12 = some (.fstore_n 3, 1, (0, 0, 0, 0)) := by decide +kernel
theorem kc_147_13 : zcode 147 13 = some (.iconst 0, 1, (0, 0, 0, 0)) := by decide +kernel
theorem kc_147_14 : zcode 147 14 = some (.istore 4, 2, (0, 0, 0, 0)) := by decide +kernel
theorem kc_147_16 : zcode 147 16 = some (.iload 4, 2, (0, 0, 0, 0)) := by decide +kernel
theorem kc_147_18 : zcode 147 18 = some (.bipush 6, 2, (0, 0, 0, 0)) := by decide +kernel
theorem kc_147_20 : zcode 147 20 = some (.if_icmp .ge 17, 3, (37, 0, 0, 0)) := by decide +kernel
theorem kc_147_23 : zcode 147 23 = some (.aload_n 0, 1, (0, 0, 0, 0)) := by decide +kernel
theorem kc_147_24 : zcode 147 24 = some (.getfield 46, 3, (8, 25, 701, 0)) := by decide +kernel
theorem kc_147_27 : zcode 147 27 = some (.iload 4, 2, (0, 0, 0, 0)) := by decide +kernel
theorem kc_147_29 : zcode 147 29 = some (.fconst 0, 1, (0, 0, 0, 0)) := by decide +kernel
theorem kc_147_30 : zcode 147 30 = some (.fastore, 1, (0, 0, 0, 0)) := by decide +kernel
theorem kc_147_31 : zcode 147 31 = some (.iinc 4 1, 3, (0, 0, 0, 0)) := by decide +kernel
theorem kc_147_34 : zcode 147 34 = some (.goto (-18), 3, (16, 0, 0, 0)) := by decide +kernel
theorem kc_147_37 : zcode 147 37 = some (.aload_n 0, 1, (0, 0, 0, 0)) := by decide +kernel
theorem kc_147_38 : zcode 147 38 = some (.fconst 0, 1, (0, 0, 0, 0)) := by decide +kernel
theorem kc_147_39 : zcode 147 39 = some (.putfield 244, 3, (8, 26, 702, 0)) := by decide +kernel
theorem kc_147_42 : zcode 147 42 = some (.iconst 0, 1, (0, 0, 0, 0)) := by decide +kernel
theorem kc_147_43 : zcode 147 43 = some (.istore 4, 2, (0, 0, 0, 0)) := by decide +kernel
theorem kc_147_45 : zcode 147 45 = some (.iload 4, 2, (0, 0, 0, 0)) := by decide +kernel
theorem kc_147_47 : zcode 147 47 = some (.iload_n 2, 1, (0, 0, 0, 0)) := by decide +kernel
theorem kc_147_48 : zcode 147 48 = some (.if_icmp .ge 100, 3, (148, 0, 0, 0)) := by decide +kernel
theorem kc_147_51 : zcode 147 51 = some (.aload_n 0, 1, (0, 0, 0, 0)) := by decide +kernel
theorem kc_147_52 : zcode 147 52 = some (.iload_n 1, 1, (0, 0, 0, 0)) := by decide +kernel
theorem kc_147_53 : zcode 147 53 = some (.invokevirtual 248, 3, (146, 0, 987, 0)) := by decide +kernel
theorem kc_147_56 : zcode 147 56 = some (.istore 5, 2, (0, 0, 0, 0)) := by decide +kernel
theorem kc_147_58 : zcode 147 58 = some (.iload 5, 2, (0, 0, 0, 0)) := by decide +kernel
theorem kc_147_60 : zcode 147 60 = some (.ifCond .ge 16, 3, (76, 0, 0, 0)) := by decide +kernel
theorem kc_147_63 : zcode 147 63 = some (.aload_n 0, 1, (0, 0, 0, 0)) := by decide +kernel
theorem kc_147_64 : zcode 147 64 = some (.aload_n 0, 1, (0, 0, 0, 0)) := by decide +kernel
theorem kc_147_65 : zcode 147 65 = some (.getfield 244, 3, (8, 26, 702, 0)) := by decide +kernel
theorem kc_147_68 : zcode 147 68 = some (.fload_n 3, 1, (0, 0, 0, 0)) := by decide +kernel
theorem kc_147_69 : zcode 147 69 = some (.fadd, 1, (0, 0, 0, 0)) := by decide +kernel
theorem kc_147_70 : zcode 147 70 = some (.putfield 244, 3, (8, 26, 702, 0)) := by decide +kernel
theorem kc_147_73 : zcode 147 73 = some (.goto 69, 3, (142, 0, 0, 0)) := by decide +kernel
theorem kc_147_76 : zcode 147 76 = some (.aload_n 0, 1, (0, 0, 0, 0)) := by decide +kernel
theorem kc_147_77 : zcode 147 77 = some (.getfield 9, 3, (8, 1, 677, 0)) := by decide +kernel
theorem kc_147_80 : zcode 147 80 = some (.iload 5, 2, (0, 0, 0, 0)) := by decide +kernel
theorem kc_147_82 : zcode 147 82 = some (.iaload, 1, (0, 0, 0, 0)) := by decide +kernel
theorem kc_147_83 : zcode 147 83 = some (.invokestatic 230, 3, (143, 0, 984, 0)) := by decide +kernel
theorem kc_147_86 : zcode 147 86 = some (.fstore 6, 2, (0, 0, 0, 0)) := by decide +kernel
theorem kc_147_88 : zcode 147 88 = some (.aload_n 0, 1, (0, 0, 0, 0)) := by decide +kernel
theorem kc_147_89 : zcode 147 89 = some (.getfield 46, 3, (8, 25, 701, 0)) := by decide +kernel
theorem kc_147_92 : zcode 147 92 = some (.iload 5, 2, (0, 0, 0, 0)) := by decide +kernel
theorem kc_147_94 : zcode 147 94 = some (.faload, 1, (0, 0, 0, 0)) := by decide +kernel
theorem kc_147_95 : zcode 147 95 = some (.fload_n 3, 1, (0, 0, 0, 0)) := by decide +kernel
theorem kc_147_96 : zcode 147 96 = some (.fadd, 1, (0, 0, 0, 0)) := by decide +kernel
theorem kc_147_97 : zcode 147 97 = some (.fstore 7, 2, (0, 0, 0, 0)) := by decide +kernel
theorem kc_147_99 : zcode 147 99 = some (.fload 7, 2, (0, 0, 0, 0)) := by decide +kernel
theorem kc_147_101 : zcode 147 101 = some (.fload 6, 2, (0, 0, 0, 0)) := by decide +kernel
theorem kc_147_103 : zcode 147 103 = some (.fcmp .l, 1, (0, 0, 0, 0)) := by decide +kernel
theorem kc_147_104 : zcode 147 104 = some (.ifCond .le 29, 3, (133, 0, 0, 0)) := by decide +kernel
theorem kc_147_107 : zcode 147 107 = some (.aload_n 0, 1, (0, 0, 0, 0)) := by decide +kernel
theorem kc_147_108 : zcode 147 108 = some (.getfield 46, 3, (8, 25, 701, 0)) := by decide +kernel
theorem kc_147_111 : zcode 147 111 = some (.iload 5, 2, (0, 0, 0, 0)) := by decide +kernel
theorem kc_147_113 : zcode 147 113 = some (.fload 6, 2, (0, 0, 0, 0)) := by decide +kernel
theorem kc_147_115 : zcode 147 115 = some (.fastore, 1, (0, 0, 0, 0)) := by decide +kernel
theorem kc_147_116 : zcode 147 116 = some (.aload_n 0, 1, (0, 0, 0, 0)) := by decide +kernel
theorem kc_147_117 : zcode 147 117 = some (.aload_n 0, 1, (0, 0, 0, 0)) := by decide +kernel
theorem kc_147_118 : zcode 147 118 = some (.getfield 244, 3, (8, 26, 702, 0)) := by decide +kernel
theorem kc_147_121 : zcode 147 121 = some (.fload 7, 2, (0, 0, 0, 0)) := by decide +kernel
theorem kc_147_123 : zcode 147 123 = some (.fload 6, 2, (0, 0, 0, 0)) := by decide +kernel
theorem kc_147_125 : zcode 147 125 = some (.fsub, 1, (0, 0, 0, 0)) := by decide +kernel
theorem kc_147_126 : zcode 147 126 = some (.fadd, 1, (0, 0, 0, 0)) := by decide +kernel
theorem kc_147_127 : zcode 147 127 = some (.putfield 244, 3, (8, 26, 702, 0)) := by decide +kernel
theorem kc_147_130 : zcode 147 130 = some (.goto 12, 3, (142, 0, 0, 0)) := by decide +kernel
theorem kc_147_133 : zcode 147 133 = some (.aload_n 0, 1, (0, 0, 0, 0)) := by decide +kernel
theorem kc_147_134 : zcode 147 134 = some (.getfield 46, 3, (8, 25, 701, 0)) := by decide +kernel
theorem kc_147_137 : zcode 147 137 = some (.iload 5, 2, (0, 0, 0, 0)) := by decide +kernel
theorem kc_147_139 : zcode 147 139 = some (.fload 7, 2, (0, 0, 0, 0)) := by decide +kernel
theorem kc_147_141 : zcode 147 141 = some (.fastore, 1, (0, 0, 0, 0)) := by decide +kernel
theorem kc_147_142 : zcode 147 142 = some (.iinc 4 1, 3, (0, 0, 0, 0)) := by decide +kernel
theorem kc_147_145 : zcode 147 145 = some (.goto (-100), 3, (45, 0, 0, 0)) := by decide +kernel
theorem kc_147_148 : zcode 147 148 = some (.return_, 1, (0, 0, 0, 0)) := by decide +kernel
theorem kc_148_0 : zcode 148 0 = some (.iload_n 1, 1, (0, 0, 0, 0)) := by decide +kernel
theorem kc_148_1 : zcode 148 1 = some (.iconst 0, 1, (0, 0, 0, 0)) := by decide +kernel
theorem kc_148_2 : zcode 148 2 = some (.iconst 4, 1, (0, 0, 0, 0)) := by decide +kernel
theorem kc_148_3 : zcode 148 3 = some (.invokestatic 67, 3, (94, 0, 778, 0)) := by decide +kernel
theorem kc_148_6 : zcode 148 6 = some (.ifCond .eq 17, 3, (23, 0, 0, 0)) := by decide +kernel
theorem kc_148_9 : zcode 148 9 = some (.iload_n 2, 1, (0, 0, 0, 0)) := by decide +kernel
theorem kc_148_10 : zcode 148 10 = some (.iconst 1, 1, (0, 0, 0, 0)) := by decide +kernel
theorem kc_148_11 : zcode 148 11 = some (.bipush 60, 2, (0, 0, 0, 0)) := by decide +kernel
theorem kc_148_13 : zcode 148 13 = some (.invokestatic 67, 3, (94, 0, 778, 0)) := by decide +kernel
theorem kc_148_16 : zcode 148 16 = some (.ifCond .eq 7, 3, (23, 0, 0, 0)) := by decide +kernel
theorem kc_148_19 : zcode 148 19 = some (.iconst 1, 1, (0, 0, 0, 0)) := by decide +kernel
theorem kc_148_20 : zcode 148 20 = some (.goto 4, 3, (24, 0, 0, 0)) := by decide +kernel
theorem kc_148_23 : zcode 148 23 = some (.iconst 0, 1, (0, 0, 0, 0)) := by decide +kernel
theorem kc_148_24 : zcode 148 24 = some (.ireturn, 1, (1, 0, 0, 0)) := by decide +kernel
theorem kc_149_0 : zcode 149 0 = some (.aload_n 0, 1, (0, 0, 0, 0)) := by decide +kernel
theorem kc_149_1 : zcode 149 1 = some (.iload_n 1, 1, (0, 0, 0, 0)) := by decide +kernel
theorem kc_149_2 : zcode 149 2 = some (.iload_n 2, 1, (0, 0, 0, 0)) := by decide +kernel
theorem kc_149_3 : zcode 149 3 = some (.invokevirtual 251, 3, (148, 0, 976, 0)) := by decide +kernel
theorem kc_149_6 : zcode 149 6 = some (.ifCond .eq 23, 3, (29, 0, 0, 0)) := by decide +kernel
theorem kc_149_9 : zcode 149 9 = some (.iload_n 3, 1, (0, 0, 0, 0)) := by decide +kernel
theorem kc_149_10 : zcode 149 10 = some (.iconst (-1), 1, (0, 0, 0, 0)) := by decide +kernel
theorem kc_149_11 : zcode 149 11 = some (.if_icmp .eq 11, 3, (22, 0, 0, 0)) := by decide +kernel
theorem kc_149_14 : zcode 149 14 = some (.aload_n 0, 1, (0, 0, 0, 0)) := by decide +kernel
theorem kc_149_15 : zcode 149 15 = some (.iload_n 3, 1, (0, 0, 0, 0)) := by decide +kernel
theorem kc_149_16 : zcode 149 16 = some (.invokevirtual 100, 3, (96, 0, 785, 0)) := by decide +kernel
theorem kc_149_19 : zcode 149 19 = some (.ifCond .eq 10, 3, (29, 0, 0, 0)) := by decide +kernel
theorem kc_149_22 : zcode 149 22 = some (.aload_n 0, 1, (0, 0, 0, 0)) := by decide +kernel
theorem kc_149_23 : zcode 149 23 = some (.invokevirtual 109, 3, (105, 0, 823, 0)) := by decide +kernel
theorem kc_149_26 : zcode 149 26 = some (.ifCond .ne 7, 3, (33, 0, 0, 0)) := by decide +kernel
theorem kc_149_29 : zcode 149 29 = some (.ldc2_w 202, 3, (0, 0, 862, -9223372036854775808)) := by decide +kernel
theorem kc_149_32 : zcode 149 32 = some (.lreturn, 1, (0, 0, 0, 0)) := by decide +kernel
theorem kc_149_33 : zcode 149 33 = some (.aload_n 0, 1, (0, 0, 0, 0)) := by decide +kernel
theorem kc_149_34 : zcode 149 34 = some (.iload_n 1, 1, (0, 0, 0, 0)) := by decide +kernel
theorem kc_149_35 : zcode 149 35 = some (.iload_n 2, 1, (0, 0, 0, 0)) := by decide +kernel
theorem kc_149_36 : zcode 149 36 = some (.invokevirtual 254, 3, (147, 0, 980, 0)) := by decide +kernel
theorem kc_149_39 : zcode 149 39 = some (.iload_n 3, 1, (0, 0, 0, 0)) := by decide +kernel
theorem kc_149_40 : zcode 149 40 = some (.ifCond .ge 10, 3, (50, 0, 0, 0)) := by decide +kernel
theorem kc_149_43 : zcode 149 43 = some (.aload_n 0, 1, (0, 0, 0, 0)) := by decide +kernel
theorem kc_149_44 : zcode 149 44 = some (.getfield 244, 3, (8, 26, 702, 0)) := by decide +kernel
theorem kc_149_47 : zcode 149 47 = some (.goto 9, 3, (56, 0, 0, 0)) := by decide +kernel
theorem kc_149_50 : zcode 149 50 = some (.aload_n 0, 1, (0, 0, 0, 0)) := by decide +kernel
theorem kc_149_51 : zcode 149 51 = some (.getfield 46, 3, (8, 25, 701, 0)) := by decide +kernel
theorem kc_149_54 : zcode 149 54 = some (.iload_n 3, 1, (0, 0, 0, 0)) := by decide +kernel
theorem kc_149_55 : zcode 149 55 = some (.faload, 1, (0, 0, 0, 0)) := by decide +kernel
theorem kc_149_56 : zcode 149 56 = some (.invokestatic 257, 3, (176, 0, 1003, 0)) := by decide +kernel
theorem kc_149_59 : zcode 149 59 = some (.i2l, 1, (0, 0, 0, 0)) := by decide +kernel
theorem kc_149_60 : zcode 149 60 = some (.lreturn, 1, (0, 0, 0, 0)) := by decide +kernel
theorem kc_150_0 : zcode 150 0 = some (.aload_n 0, 1, (0, 0, 0, 0)) := by decide +kernel
theorem kc_150_1 : zcode 150 1 = some (.iload_n 1, 1, (0, 0, 0, 0)) := by decide +kernel
theorem kc_150_2 : zcode 150 2 = some (.iload_n 2, 1, (0, 0, 0, 0)) := by decide +kernel
theorem kc_150_3 : zcode 150 3 = some (.invokevirtual 251, 3, (148, 0, 976, 0)) := by decide +kernel
theorem kc_150_6 : zcode 150 6 = some (.ifCond .eq 17, 3, (23, 0, 0, 0)) := by decide +kernel
theorem kc_150_9 : zcode 150 9 = some (.iload_n 3, 1, (0, 0, 0, 0)) := by decide +kernel
theorem kc_150_10 : zcode 150 10 = some (.invokestatic 199, 3, (98, 0, 859, 0)) := by decide +kernel
theorem kc_150_13 : zcode 150 13 = some (.ifCond .eq 10, 3, (23, 0, 0, 0)) := by decide +kernel
theorem kc_150_16 : zcode 150 16 = some (.aload_n 0, 1, (0, 0, 0, 0)) := by decide +kernel
theorem kc_150_17 : zcode 150 17 = some (.invokevirtual 109, 3, (105, 0, 823, 0)) := by decide +kernel
theorem kc_150_20 : zcode 150 20 = some (.ifCond .ne 7, 3, (27, 0, 0, 0)) := by decide +kernel
theorem kc_150_23 : zcode 150 23 = some (.ldc2_w 202, 3, (0, 0, 862, -9223372036854775808)) := by decide +kernel
theorem kc_150_26 : zcode 150 26 = some (.lreturn, 1, (0, 0, 0, 0)) := by decide +kernel
theorem kc_150_27 : zcode 150 27 = some (.aload_n 0, 1, (0, 0, 0, 0)) := by decide +kernel
theorem kc_150_28 : zcode 150 28 = some (.iload_n 1, 1, (0, 0, 0, 0)) := by decide +kernel
theorem kc_150_29 : zcode 150 29 = some (.iload_n 2, 1, (0, 0, 0, 0)) := by decide +kernel
theorem kc_150_30 : zcode 150 30 = some (.invokevirtual 254, 3, (147, 0, 980, 0)) := by decide +kernel
theorem kc_150_33 : zcode 150 33 = some (.dconst 0, 1, (0, 0, 0, 0)) := by decide +kernel
theorem kc_150_34 : zcode 150 34 = some (.dstore 4, 2, (0, 0, 0, 0)) := by decide +kernel
theorem kc_150_36 : zcode 150 36 = some (.iconst 0, 1, (0, 0, 0, 0)) := by decide +kernel
theorem kc_150_37 : zcode 150 37 = some (.istore 6, 2, (0, 0, 0, 0)) := by decide +kernel
theorem kc_150_39 : zcode 150 39 = some (.iload 6, 2, (0, 0, 0, 0)) := by decide +kernel
theorem kc_150_41 : zcode 150 41 = some (.aload_n 0, 1, (0, 0, 0, 0)) := by decide +kernel
theorem kc_150_42 : zcode 150 42 = some (.getfield 63, 3, (8, 0, 676, 0)) := by decide +kernel
theorem kc_150_45 : zcode 150 45 = some (.if_icmp .ge 50, 3, (95, 0, 0, 0)) := by decide +kernel
theorem kc_150_48 : zcode 150 48 = some (.aload_n 0, 1, (0, 0, 0, 0)) := by decide +kernel
theorem kc_150_49 : zcode 150 49 = some (.iload_n 1, 1, (0, 0, 0, 0)) := by decide +kernel
theorem kc_150_50 : zcode 150 50 = some (.iload 6, 2, (0, 0, 0, 0)) := by decide +kernel
theorem kc_150_52 : zcode 150 52 = some (.invokevirtual 195, 3, (125, 0, 863, 0)) := by decide +kernel
theorem kc_150_55 : zcode 150 55 = some (.aload_n 0, 1, (0, 0, 0, 0)) := by decide +kernel
theorem kc_150_56 : zcode 150 56 = some (.getfield 46, 3, (8, 25, 701, 0)) := by decide +kernel
theorem kc_150_59 : zcode 150 59 = some (.iload 6, 2, (0, 0, 0, 0)) := by decide +kernel
theorem kc_150_61 : zcode 150 61 = some (.faload, 1, (0, 0, 0, 0)) := by decide +kernel
theorem kc_150_62 : zcode 150 62 = some (.f2d, 1, (0, 0, 0, 0)) := by decide +kernel
theorem kc_150_63 : zcode 150 63 = some (.aload_n 0, 1, (0, 0, 0, 0)) := by decide +kernel
theorem kc_150_64 : zcode 150 64 = some (.getfield 71, 3, (8, 18, 694, 0)) := by decide +kernel
theorem kc_150_67 : zcode 150 67 = some (.l2d, 1, (0, 0, 0, 0)) := by decide +kernel
theorem kc_150_68 : zcode 150 68 = some (.aload_n 0, 1, (0, 0, 0, 0)) := by decide +kernel
theorem kc_150_69 : zcode 150 69 = some (.getfield 75, 3, (8, 19, 695, 0)) := by decide +kernel
theorem kc_150_72 : zcode 150 72 = some (.l2d, 1, (0, 0, 0, 0)) := by decide +kernel
theorem kc_150_73 : zcode 150 73 = some (.ddiv, 1, (0, 0, 0, 0)) := by decide +kernel
theorem kc_150_74 : zcode 150 74 = some (.dsub, 1, (0, 0, 0, 0)) := by decide +kernel
theorem kc_150_75 : zcode 150 75 = some (.dstore 7, 2, (0, 0, 0, 0)) := by decide +kernel
theorem kc_150_77 : zcode 150 77 = some (.dload 4, 2, (0, 0, 0, 0)) := by decide +kernel
theorem kc_150_79 : zcode 150 79 = some (.dload 7, 2, (0, 0, 0, 0)) := by decide +kernel
theorem kc_150_81 : zcode 150 81 = some (.invokestatic 263, 3, (1005, 0, 1017, 0)) := by decide +kernel
theorem kc_150_84 : zcode 150 84 = some (.invokestatic 267, 3, (1006, 0, 1027, 0)) := by decide +kernel
theorem kc_150_87 : zcode 150 87 = some (.dstore 4, 2, (0, 0, 0, 0)) := by decide +kernel
theorem kc_150_89 : zcode 150 89 = some (.iinc 6 1, 3, (0, 0, 0, 0)) := by decide +kernel
theorem kc_150_92 : zcode 150 92 = some (.goto (-53), 3, (39, 0, 0, 0)) := by decide +kernel
theorem kc_150_95 : zcode 150 95 = some (.dload 4, 2, (0, 0, 0, 0)) := by decide +kernel
theorem kc_150_97 : zcode 150 97 = some (.invokestatic 270, 3, (174, 0, 1032, 0)) := by decide +kernel
theorem kc_150_100 : zcode 150 100 = some (.lstore 6, 2, (0, 0, 0, 0)) := by decide +kernel
theorem kc_150_102 : zcode 150 102 = some (.iload_n 3, 1, (0, 0, 0, 0)) := by decide +kernel
theorem kc_150_103 : zcode 150 103 = some (.ifCond .ne 11, 3, (114, 0, 0, 0)) := by decide +kernel
theorem kc_150_106 : zcode 150 106 = some (.lload 6, 2, (0, 0, 0, 0)) := by decide +kernel
theorem kc_150_108 : zcode 150 108 = some (.bipush 32, 2, (0, 0, 0, 0)) := by decide +kernel
theorem kc_150_110 : zcode 150 110 = some (.lushr, 1, (0, 0, 0, 0)) := by decide +kernel
theorem kc_150_111 : zcode 150 111 = some (.goto 9, 3, (120, 0, 0, 0)) := by decide +kernel
theorem kc_150_114 : zcode 150 114 = some (.lload 6, 2, (0, 0, 0, 0)) := by decide +kernel
theorem kc_150_116 : zcode 150 116 = some (.ldc2_w 276, 3, (0, 0, 1040, 4294967295)) := by decide +kernel
theorem kc_150_119 : zcode 150 119 = some (.land, 1, (0, 0, 0, 0)) := by decide +kernel
theorem kc_150_120 : zcode 150 120 = some (.lreturn, 1, (0, 0, 0, 0)) := by decide +kernel
theorem kc_151_0 : zcode 151 0 = some (.iload_n 1, 1, (0, 0, 0, 0)) := by decide +kernel
theorem kc_151_1 : zcode 151 1 = some (.iconst (-1), 1, (0, 0, 0, 0)) := by decide +kernel
theorem kc_151_2 : zcode 151 2 = some (.if_icmp .ne 10, 3, (12, 0, 0, 0)) := by decide +kernel
theorem kc_151_5 : zcode 151 5 = some (.aload_n 0, 1, (0, 0, 0, 0)) := by decide +kernel
theorem kc_151_6 : zcode 151 6 = some (.iconst 0, 1, (0, 0, 0, 0)) := by decide +kernel
theorem kc_151_7 : zcode 151 7 = some (.putfield 278, 3, (8, 4, 680, 0)) := by decide +kernel
theorem kc_151_10 : zcode 151 10 = some (.iconst 0, 1, (0, 0, 0, 0)) := by decide +kernel
theorem kc_151_11 : zcode 151 11 = some (.ireturn, 1, (0, 0, 0, 0)) := by decide +kernel
theorem kc_151_12 : zcode 151 12 = some (.aload_n 0, 1, (0, 0, 0, 0)) := by decide +kernel
theorem kc_151_13 : zcode 151 13 = some (.iload_n 1, 1, (0, 0, 0, 0)) := by decide +kernel
theorem kc_151_14 : zcode 151 14 = some (.invokevirtual 100, 3, (96, 0, 785, 0)) := by decide +kernel
theorem kc_151_17 : zcode 151 17 = some (.ifCond .ne 5, 3, (22, 0, 0, 0)) := by decide +kernel
theorem kc_151_20 : zcode 151 20 = some (.iconst (-1), 1, (0, 0, 0, 0)) := by decide +kernel
theorem kc_151_21 : zcode 151 21 = some (.ireturn, 1, (0, 0, 0, 0)) := by decide +kernel
theorem kc_151_22 : zcode 151 22 = some (.iload_n 2, 1, (0, 0, 0, 0)) := by decide +kernel
theorem kc_151_23 : zcode 151 23 = some (.iconst 0, 1, (0, 0, 0, 0)) := by decide +kernel
theorem kc_151_24 : zcode 151 24 = some (.bipush 60, 2, (0, 0, 0, 0)) := by decide +kernel
theorem kc_151_26 : zcode 151 26 = some (.invokestatic 67, 3, (94, 0, 778, 0)) := by decide +kernel
theorem kc_151_29 : zcode 151 29 = some (.ifCond .ne 6, 3, (35, 0, 0, 0)) := by decide +kernel
theorem kc_151_32 : zcode 151 32 = some (.bipush (-2), 2, (0, 0, 0, 0)) := by decide +kernel
theorem kc_151_34 : zcode 151 34 = some (.ireturn, 1, (0, 0, 0, 0)) := by decide +kernel
theorem kc_151_35 : zcode 151 35 = some (.aload_n 0, 1, (0, 0, 0, 0)) := by decide +kernel
theorem kc_151_36 : zcode 151 36 = some (.getfield 278, 3, (8, 4, 680, 0)) := by decide +kernel
theorem kc_151_39 : zcode 151 39 = some (.iconst 5, 1, (0, 0, 0, 0)) := by decide +kernel
theorem kc_151_40 : zcode 151 40 = some (.if_icmp .ne 6, 3, (46, 0, 0, 0)) := by decide +kernel
theorem kc_151_43 : zcode 151 43 = some (.bipush (-4), 2, (0, 0, 0, 0)) := by decide +kernel
theorem kc_151_45 : zcode 151 45 = some (.ireturn, 1, (0, 0, 0, 0)) := by decide +kernel
theorem kc_151_46 : zcode 151 46 = some (.aload_n 0, 1, (0, 0, 0, 0)) := by decide +kernel
theorem kc_151_47 : zcode 151 47 = some (.getfield 15, 3, (8, 5, 681, 0)) := by decide +kernel
theorem kc_151_50 : zcode 151 50 = some (.aload_n 0, 1, (0, 0, 0, 0)) := by decide +kernel
theorem kc_151_51 : zcode 151 51 = some (.getfield 278, 3, (8, 4, 680, 0)) := by decide +kernel
theorem kc_151_54 : zcode 151 54 = some (.iload_n 1, 1, (0, 0, 0, 0)) := by decide +kernel
theorem kc_151_55 : zcode 151 55 = some (.iastore, 1, (0, 0, 0, 0)) := by decide +kernel
theorem kc_151_56 : zcode 151 56 = some (.aload_n 0, 1, (0, 0, 0, 0)) := by decide +kernel
theorem kc_151_57 : zcode 151 57 = some (.getfield 18, 3, (8, 6, 682, 0)) := by decide +kernel
theorem kc_151_60 : zcode 151 60 = some (.aload_n 0, 1, (0, 0, 0, 0)) := by decide +kernel
theorem kc_151_61 : zcode 151 61 = some (.getfield 278, 3, (8, 4, 680, 0)) := by decide +kernel
theorem kc_151_64 : zcode 151 64 = some (.iload_n 2, 1, (0, 0, 0, 0)) := by decide +kernel
theorem kc_151_65 : zcode 151 65 = some (.iastore, 1, (0, 0, 0, 0)) := by decide +kernel
theorem kc_151_66 : zcode 151 66 = some (.aload_n 0, 1, (0, 0, 0, 0)) := by decide +kernel
theorem kc_151_67 : zcode 151 67 = some (.dup, 1, (0, 0, 0, 0)) := by decide +kernel
theorem kc_151_68 : zcode 151 68 = some (.getfield 278, 3, (8, 4, 680, 0)) := by decide +kernel
theorem kc_151_71 : zcode 151 71 = some (.iconst 1, 1, (0, 0, 0, 0)) := by decide +kernel
theorem kc_151_72 : zcode 151 72 = some (.iadd, 1, (0, 0, 0, 0)) := by decide +kernel
theorem kc_151_73 : zcode 151 73 = some (.putfield 278, 3, (8, 4, 680, 0)) := by decide +kernel
theorem kc_151_76 : zcode 151 76 = some (.aload_n 0, 1, (0, 0, 0, 0)) := by decide +kernel
theorem kc_151_77 : zcode 151 77 = some (.getfield 278, 3, (8, 4, 680, 0)) := by decide +kernel
theorem kc_151_80 : zcode 151 80 = some (.ireturn, 1, (0, 0, 0, 0)) := by decide +kernel
theorem kc_152_0 : zcode 152 0 = some (.iconst 0, 1, (0, 0, 0, 0)) := by decide +kernel
theorem kc_152_1 : zcode 152 1 = some (.istore_n 1, 1, (0, 0, 0, 0)) := by decide +kernel
theorem kc_152_2 : zcode 152 2 = some (.iload_n 1, 1, (0, 0, 0, 0)) := by decide +kernel
theorem kc_152_3 : zcode 152 3 = some (.aload_n 0, 1, (0, 0, 0, 0)) := by decide +kernel
theorem kc_152_4 : zcode 152 4 = some (.getfield 278, 3, (8, 4, 680, 0)) := by decide +kernel
theorem kc_152_7 : zcode 152 7 = some (.if_icmp .ge 34, 3, (41, 0, 0, 0)) := by decide +kernel
theorem kc_152_10 : zcode 152 10 = some (.aload_n 0, 1, (0, 0, 0, 0)) := by decide +kernel
theorem kc_152_11 : zcode 152 11 = some (.aload_n 0, 1, (0, 0, 0, 0)) := by decide +kernel
theorem kc_152_12 : zcode 152 12 = some (.getfield 106, 3, (8, 3, 679, 0)) := by decide +kernel
theorem kc_152_15 : zcode 152 15 = some (.aload_n 0, 1, (0, 0, 0, 0)) := by decide +kernel
theorem kc_152_16 : zcode 152 16 = some (.getfield 15, 3, (8, 5, 681, 0)) := by decide +kernel
theorem kc_152_19 : zcode 152 19 = some (.iload_n 1, 1, (0, 0, 0, 0)) := by decide +kernel
theorem kc_152_20 : zcode 152 20 = some (.iaload, 1, (0, 0, 0, 0)) := by decide +kernel
theorem kc_152_21 : zcode 152 21 = some (.invokevirtual 208, 3, (126, 0, 912, 0)) := by decide +kernel
theorem kc_152_24 : zcode 152 24 = some (.aload_n 0, 1, (0, 0, 0, 0)) := by decide +kernel
theorem kc_152_25 : zcode 152 25 = some (.getfield 18, 3, (8, 6, 682, 0)) := by decide +kernel
theorem kc_152_28 : zcode 152 28 = some (.iload_n 1, 1, (0, 0, 0, 0)) := by decide +kernel
theorem kc_152_29 : zcode 152 29 = some (.iaload, 1, (0, 0, 0, 0)) := by decide +kernel
theorem kc_152_30 : zcode 152 30 = some (.if_icmp .eq 5, 3, (35, 0, 0, 0)) := by decide +kernel
theorem kc_152_33 : zcode 152 33 = some (.iconst 0, 1, (0, 0, 0, 0)) := by decide +kernel
theorem kc_152_34 : zcode 152 34 = some (.ireturn, 1, (1, 0, 0, 0)) := by decide +kernel
theorem kc_152_35 : zcode 152 35 = some (.iinc 1 1, 3, (0, 0, 0, 0)) := by decide +kernel
theorem kc_152_38 : zcode 152 38 = some (.goto (-36), 3, (2, 0, 0, 0)) := by decide +kernel
theorem kc_152_41 : zcode 152 41 = some (.iconst 1, 1, (0, 0, 0, 0)) := by decide +kernel
theorem kc_152_42 : zcode 152 42 = some (.ireturn, 1, (1, 0, 0, 0)) := by decide +kernel
theorem kc_153_0 : zcode 153 0 = some (.aload_n 0, 1, (0, 0, 0, 0)) := by decide +kernel
theorem kc_153_1 : zcode 153 1 = some (.iload_n 1, 1, (0, 0, 0, 0)) := by decide +kernel
theorem kc_153_2 : zcode 153 2 = some (.invokevirtual 100, 3, (96, 0, 785, 0)) := by decide +kernel
theorem kc_153_5 : zcode 153 5 = some (.ifCond .eq 12, 3, (17, 0, 0, 0)) := by decide +kernel
theorem kc_153_8 : zcode 153 8 = some (.iload_n 2, 1, (0, 0, 0, 0)) := by decide +kernel
theorem kc_153_9 : zcode 153 9 = some (.iconst 0, 1, (0, 0, 0, 0)) := by decide +kernel
theorem kc_153_10 : zcode 153 10 = some (.iconst 1, 1, (0, 0, 0, 0)) := by decide +kernel
theorem kc_153_11 : zcode 153 11 = some (.invokestatic 67, 3, (94, 0, 778, 0)) := by decide +kernel
theorem kc_153_14 : zcode 153 14 = some (.ifCond .ne 5, 3, (19, 0, 0, 0)) := by decide +kernel
theorem kc_153_17 : zcode 153 17 = some (.iconst (-1), 1, (0, 0, 0, 0)) := by decide +kernel
theorem kc_153_18 : zcode 153 18 = some (.ireturn, 1, (0, 0, 0, 0)) := by decide +kernel
theorem kc_153_19 : zcode 153 19 = some (.aload_n 0, 1, (0, 0, 0, 0)) := by decide +kernel
theorem kc_153_20 : zcode 153 20 = some (.getfield 9, 3, (8, 1, 677, 0)) := by decide +kernel
theorem kc_153_23 : zcode 153 23 = some (.iload_n 1, 1, (0, 0, 0, 0)) := by decide +kernel
theorem kc_153_24 : zcode 153 24 = some (.iaload, 1, (0, 0, 0, 0)) := by decide +kernel
theorem kc_153_25 : zcode 153 25 = some (.istore_n 3, 1, (0, 0, 0, 0)) := by decide +kernel
theorem kc_153_26 : zcode 153 26 = some (.iconst 0, 1, (0, 0, 0, 0)) := by decide +kernel
theorem kc_153_27 : zcode 153 27 = some (.istore 4, 2, (0, 0, 0, 0)) := by decide +kernel
theorem kc_153_29 : zcode 153 29 = some (.bipush (-5), 2, (0, 0, 0, 0)) := by decide +kernel
theorem kc_153_31 : zcode 153 31 = some (.istore 5, 2, (0, 0, 0, 0)) := by decide +kernel
theorem kc_153_33 : zcode 153 33 = some (.bipush 30, 2, (0, 0, 0, 0)) := by decide +kernel
theorem kc_153_35 : zcode 153 35 = some (.istore 6, 2, (0, 0, 0, 0)) := by decide +kernel
theorem kc_153_37 : zcode 153 37 = some (.iload 6, 2, (0, 0, 0, 0)) := by decide +kernel
theorem kc_153_39 : zcode 153 39 = some (.ifCond .le 38, 3, (77, 0, 0, 0)) := by decide +kernel
theorem kc_153_42 : zcode 153 42 = some (.aload_n 0, 1, (0, 0, 0, 0)) := by decide +kernel
theorem kc_153_43 : zcode 153 43 = some (.getfield 9, 3, (8, 1, 677, 0)) := by decide +kernel
theorem kc_153_46 : zcode 153 46 = some (.iload_n 1, 1, (0, 0, 0, 0)) := by decide +kernel
theorem kc_153_47 : zcode 153 47 = some (.iload 6, 2, (0, 0, 0, 0)) := by decide +kernel
theorem kc_153_49 : zcode 153 49 = some (.iastore, 1, (0, 0, 0, 0)) := by decide +kernel
theorem kc_153_50 : zcode 153 50 = some (.aload_n 0, 1, (0, 0, 0, 0)) := by decide +kernel
theorem kc_153_51 : zcode 153 51 = some (.invokevirtual 109, 3, (105, 0, 823, 0)) := by decide +kernel
theorem kc_153_54 : zcode 153 54 = some (.ifCond .eq 17, 3, (71, 0, 0, 0)) := by decide +kernel
theorem kc_153_57 : zcode 153 57 = some (.aload_n 0, 1, (0, 0, 0, 0)) := by decide +kernel
theorem kc_153_58 : zcode 153 58 = some (.invokevirtual 281, 3, (152, 0, 1049, 0)) := by decide +kernel
theorem kc_153_61 : zcode 153 61 = some (.ifCond .eq 10, 3, (71, 0, 0, 0)) := by decide +kernel
theorem kc_153_64 : zcode 153 64 = some (.iinc 4 1, 3, (0, 0, 0, 0)) := by decide +kernel
theorem kc_153_67 : zcode 153 67 = some (.iload 6, 2, (0, 0, 0, 0)) := by decide +kernel
theorem kc_153_69 : zcode 153 69 = some (.istore 5, 2, (0, 0, 0, 0)) := by decide +kernel
theorem kc_153_71 : zcode 153 71 = some (.iinc 6 (-1), 3, (0, 0, 0, 0)) := by decide +kernel
theorem kc_153_74 : zcode 153 74 = some (.goto (-37), 3, (37, 0, 0, 0)) := by decide +kernel
theorem kc_153_77 : zcode 153 77 = some (.aload_n 0, 1, (0, 0, 0, 0)) := by decide +kernel
theorem kc_153_78 : zcode 153 78 = some (.getfield 9, 3, (8, 1, 677, 0)) := by decide +kernel
theorem kc_153_81 : zcode 153 81 = some (.iload_n 1, 1, (0, 0, 0, 0)) := by decide +kernel
theorem kc_153_82 : zcode 153 82 = some (.iload_n 3, 1, (0, 0, 0, 0)) := by decide +kernel
theorem kc_153_83 : zcode 153 83 = some (.iastore, 1, (0, 0, 0, 0)) := by decide +kernel
theorem kc_153_84 : zcode 153 84 = some (.iload_n 2, 1, (0, 0, 0, 0)) := by decide +kernel
theorem kc_153_85 : zcode 153 85 = some (.ifCond .ne 8, 3, (93, 0, 0, 0)) := by decide +kernel
theorem kc_153_88 : zcode 153 88 = some (.iload 4, 2, (0, 0, 0, 0)) := by decide +kernel
theorem kc_153_90 : zcode 153 90 = some (.goto 5, 3, (95, 0, 0, 0)) := by decide +kernel
theorem kc_153_93 : zcode 153 93 = some (.iload 5, 2, (0, 0, 0, 0)) := by decide +kernel
theorem kc_153_95 : zcode 153 95 = some (.ireturn, 1, (0, 0, 0, 0)) := by decide +kernel
theorem kc_154_0 : zcode 154 0 = some (.iload_n 1, 1, (0, 0, 0, 0)) := by decide +kernel
theorem kc_154_1 : zcode 154 1 = some (.invokestatic 103, 3, (97, 0, 797, 0)) := by decide +kernel
theorem kc_154_4 : zcode 154 4 = some (.ifCond .eq 18, 3, (22, 0, 0, 0)) := by decide +kernel
theorem kc_154_7 : zcode 154 7 = some (.aload_n 0, 1, (0, 0, 0, 0)) := by decide +kernel
theorem kc_154_8 : zcode 154 8 = some (.iload_n 2, 1, (0, 0, 0, 0)) := by decide +kernel
theorem kc_154_9 : zcode 154 9 = some (.invokevirtual 100, 3, (96, 0, 785, 0)) := by decide +kernel
theorem kc_154_12 : zcode 154 12 = some (.ifCond .eq 10, 3, (22, 0, 0, 0)) := by decide +kernel
theorem kc_154_15 : zcode 154 15 = some (.iload_n 3, 1, (0, 0, 0, 0)) := by decide +kernel
theorem kc_154_16 : zcode 154 16 = some (.invokestatic 199, 3, (98, 0, 859, 0)) := by decide +kernel
theorem kc_154_19 : zcode 154 19 = some (.ifCond .ne 7, 3, (26, 0, 0, 0)) := by decide +kernel
theorem kc_154_22 : zcode 154 22 = some (.ldc2_w 202, 3, (0, 0, 862, -9223372036854775808)) := by decide +kernel
theorem kc_154_25 : zcode 154 25 = some (.lreturn, 1, (0, 0, 0, 0)) := by decide +kernel
theorem kc_154_26 : zcode 154 26 = some (.iconst 0, 1, (0, 0, 0, 0)) := by decide +kernel
theorem kc_154_27 : zcode 154 27 = some (.istore 4, 2, (0, 0, 0, 0)) := by decide +kernel
theorem kc_154_29 : zcode 154 29 = some (.aload_n 0, 1, (0, 0, 0, 0)) := by decide +kernel
theorem kc_154_30 : zcode 154 30 = some (.invokevirtual 93, 3, (104, 0, 808, 0)) := by decide +kernel
theorem kc_154_33 : zcode 154 33 = some (.istore 5, 2, (0, 0, 0, 0)) := by decide +kernel
theorem kc_154_35 : zcode 154 35 = some (.iconst 0, 1, (0, 0, 0, 0)) := by decide +kernel
theorem kc_154_36 : zcode 154 36 = some (.istore 6, 2, (0, 0, 0, 0)) := by decide +kernel
theorem kc_154_38 : zcode 154 38 = some (.iload 6, 2, (0, 0, 0, 0)) := by decide +kernel
theorem kc_154_40 : zcode 154 40 = some (.iload 5, 2, (0, 0, 0, 0)) := by decide +kernel
theorem kc_154_42 : zcode 154 42 = some (.if_icmp .gt 51, 3, (93, 0, 0, 0)) := by decide +kernel
theorem kc_154_45 : zcode 154 45 = some (.aload_n 0, 1, (0, 0, 0, 0)) := by decide +kernel
theorem kc_154_46 : zcode 154 46 = some (.iload_n 1, 1, (0, 0, 0, 0)) := by decide +kernel
theorem kc_154_47 : zcode 154 47 = some (.iload 6, 2, (0, 0, 0, 0)) := by decide +kernel
theorem kc_154_49 : zcode 154 49 = some (.iload_n 2, 1, (0, 0, 0, 0)) := by decide +kernel
theorem kc_154_50 : zcode 154 50 = some (.invokevirtual 218, 3, (135, 0, 944, 0)) := by decide +kernel
theorem kc_154_53 : zcode 154 53 = some (.iload 4, 2, (0, 0, 0, 0)) := by decide +kernel
theorem kc_154_55 : zcode 154 55 = some (.ldc2_w 179, 3, (0, 0, 871, 2)) := by decide +kernel
theorem kc_154_58 : zcode 154 58 = some (.aload_n 0, 1, (0, 0, 0, 0)) := by decide +kernel
theorem kc_154_59 : zcode 154 59 = some (.getfield 71, 3, (8, 18, 694, 0)) := by decide +kernel
theorem kc_154_62 : zcode 154 62 = some (.lmul, 1, (0, 0, 0, 0)) := by decide +kernel
theorem kc_154_63 : zcode 154 63 = some (.aload_n 0, 1, (0, 0, 0, 0)) := by decide +kernel
theorem kc_154_64 : zcode 154 64 = some (.getfield 9, 3, (8, 1, 677, 0)) := by decide +kernel
theorem kc_154_67 : zcode 154 67 = some (.iload_n 2, 1, (0, 0, 0, 0)) := by decide +kernel
theorem kc_154_68 : zcode 154 68 = some (.iaload, 1, (0, 0, 0, 0)) := by decide +kernel
theorem kc_154_69 : zcode 154 69 = some (.i2l, 1, (0, 0, 0, 0)) := by decide +kernel
theorem kc_154_70 : zcode 154 70 = some (.aload_n 0, 1, (0, 0, 0, 0)) := by decide +kernel
theorem kc_154_71 : zcode 154 71 = some (.getfield 75, 3, (8, 19, 695, 0)) := by decide +kernel
theorem kc_154_74 : zcode 154 74 = some (.lmul, 1, (0, 0, 0, 0)) := by decide +kernel
theorem kc_154_75 : zcode 154 75 = some (.lcmp, 1, (0, 0, 0, 0)) := by decide +kernel
theorem kc_154_76 : zcode 154 76 = some (.ifCond .lt 7, 3, (83, 0, 0, 0)) := by decide +kernel
theorem kc_154_79 : zcode 154 79 = some (.iconst 1, 1, (0, 0, 0, 0)) := by decide +kernel
theorem kc_154_80 : zcode 154 80 = some (.goto 4, 3, (84, 0, 0, 0)) := by decide +kernel
theorem kc_154_83 : zcode 154 83 = some (.iconst 0, 1, (0, 0, 0, 0)) := by decide +kernel
theorem kc_154_84 : zcode 154 84 = some (.iadd, 1, (0, 0, 0, 0)) := by decide +kernel
theorem kc_154_85 : zcode 154 85 = some (.istore 4, 2, (0, 0, 0, 0)) := by decide +kernel
theorem kc_154_87 : zcode 154 87 = some (.iinc 6 1, 3, (0, 0, 0, 0)) := by decide +kernel
theorem kc_154_90 : zcode 154 90 = some (.goto (-52), 3, (38, 0, 0, 0)) := by decide +kernel
theorem kc_154_93 : zcode 154 93 = some (.aload_n 0, 1, (0, 0, 0, 0)) := by decide +kernel
theorem kc_154_94 : zcode 154 94 = some (.iload 4, 2, (0, 0, 0, 0)) := by decide +kernel
theorem kc_154_96 : zcode 154 96 = some (.i2l, 1, (0, 0, 0, 0)) := by decide +kernel
theorem kc_154_97 : zcode 154 97 = some (.iload 5, 2, (0, 0, 0, 0)) := by decide +kernel
theorem kc_154_99 : zcode 154 99 = some (.i2l, 1, (0, 0, 0, 0)) := by decide +kernel
theorem kc_154_100 : zcode 154 100 = some (.lconst 1, 1, (0, 0, 0, 0)) := by decide +kernel
theorem kc_154_101 : zcode 154 101 = some (.ladd, 1, (0, 0, 0, 0)) := by decide +kernel
theorem kc_154_102 : zcode 154 102 = some (.invokevirtual 187, 3, (100, 0, 900, 0)) := by decide +kernel
theorem kc_154_105 : zcode 154 105 = some (.aload_n 0, 1, (0, 0, 0, 0)) := by decide +kernel
theorem kc_154_106 : zcode 154 106 = some (.iload_n 3, 1, (0, 0, 0, 0)) := by decide +kernel
theorem kc_154_107 : zcode 154 107 = some (.invokevirtual 204, 3, (101, 0, 904, 0)) := by decide +kernel
theorem kc_154_110 : zcode 154 110 = some (.lreturn, 1, (0, 0, 0, 0)) := by decide +kernel
theorem kc_155_0 : zcode 155 0 = some (.iload_n 1, 1, (0, 0, 0, 0)) := by decide +kernel
theorem kc_155_1 : zcode 155 1 = some (.invokestatic 199, 3, (98, 0, 859, 0)) := by decide +kernel
theorem kc_155_4 : zcode 155 4 = some (.ifCond .eq 10, 3, (14, 0, 0, 0)) := by decide +kernel
theorem kc_155_7 : zcode 155 7 = some (.aload_n 0, 1, (0, 0, 0, 0)) := by decide +kernel
theorem kc_155_8 : zcode 155 8 = some (.getfield 63, 3, (8, 0, 676, 0)) := by decide +kernel
theorem kc_155_11 : zcode 155 11 = some (.ifCond .ne 7, 3, (18, 0, 0, 0)) := by decide +kernel
theorem kc_155_14 : zcode 155 14 = some (.ldc2_w 202, 3, (0, 0, 862, -9223372036854775808)) := by decide +kernel
theorem kc_155_17 : zcode 155 17 = some (.lreturn, 1, (0, 0, 0, 0)) := by decide +kernel
theorem kc_155_18 : zcode 155 18 = some (.aload_n 0, 1, (0, 0, 0, 0)) := by decide +kernel
theorem kc_155_19 : zcode 155 19 = some (.aload_n 0, 1, (0, 0, 0, 0)) := by decide +kernel
theorem kc_155_20 : zcode 155 20 = some (.getfield 90, 3, (8, 2, 678, 0)) := by decide +kernel
theorem kc_155_23 : zcode 155 23 = some (.i2l, 1, (0, 0, 0, 0)) := by decide +kernel
theorem kc_155_24 : zcode 155 24 = some (.aload_n 0, 1, (0, 0, 0, 0)) := by decide +kernel
theorem kc_155_25 : zcode 155 25 = some (.getfield 63, 3, (8, 0, 676, 0)) := by decide +kernel
theorem kc_155_28 : zcode 155 28 = some (.i2l, 1, (0, 0, 0, 0)) := by decide +kernel
theorem kc_155_29 : zcode 155 29 = some (.invokevirtual 187, 3, (100, 0, 900, 0)) := by decide +kernel
theorem kc_155_32 : zcode 155 32 = some (.aload_n 0, 1, (0, 0, 0, 0)) := by decide +kernel
theorem kc_155_33 : zcode 155 33 = some (.iload_n 1, 1, (0, 0, 0, 0)) := by decide +kernel
theorem kc_155_34 : zcode 155 34 = some (.invokevirtual 204, 3, (101, 0, 904, 0)) := by decide +kernel
theorem kc_155_37 : zcode 155 37 = some (.lreturn, 1, (0, 0, 0, 0)) := by decide +kernel
theorem kc_156_0 : zcode 156 0 = some (.iload_n 1, 1, (0, 0, 0, 0)) := by decide +kernel
theorem kc_156_1 : zcode 156 1 = some (.iconst (-1), 1, (0, 0, 0, 0)) := by decide +kernel
theorem kc_156_2 : zcode 156 2 = some (.if_icmp .ne 10, 3, (12, 0, 0, 0)) := by decide +kernel
theorem kc_156_5 : zcode 156 5 = some (.aload_n 0, 1, (0, 0, 0, 0)) := by decide +kernel
theorem kc_156_6 : zcode 156 6 = some (.iconst 0, 1, (0, 0, 0, 0)) := by decide +kernel
theorem kc_156_7 : zcode 156 7 = some (.putfield 284, 3, (8, 7, 683, 0)) := by decide +kernel
theorem kc_156_10 : zcode 156 10 = some (.iconst 0, 1, (0, 0, 0, 0)) := by decide +kernel
theorem kc_156_11 : zcode 156 11 = some (.ireturn, 1, (0, 0, 0, 0)) := by decide +kernel
theorem kc_156_12 : zcode 156 12 = some (.iload_n 1, 1, (0, 0, 0, 0)) := by decide +kernel
theorem kc_156_13 : zcode 156 13 = some (.iconst 0, 1, (0, 0, 0, 0)) := by decide +kernel
theorem kc_156_14 : zcode 156 14 = some (.iconst 3, 1, (0, 0, 0, 0)) := by decide +kernel
theorem kc_156_15 : zcode 156 15 = some (.invokestatic 67, 3, (94, 0, 778, 0)) := by decide +kernel
theorem kc_156_18 : zcode 156 18 = some (.ifCond .eq 16, 3, (34, 0, 0, 0)) := by decide +kernel
theorem kc_156_21 : zcode 156 21 = some (.iload_n 1, 1, (0, 0, 0, 0)) := by decide +kernel
theorem kc_156_22 : zcode 156 22 = some (.iconst 2, 1, (0, 0, 0, 0)) := by decide +kernel
theorem kc_156_23 : zcode 156 23 = some (.if_icmp .ge 13, 3, (36, 0, 0, 0)) := by decide +kernel
theorem kc_156_26 : zcode 156 26 = some (.aload_n 0, 1, (0, 0, 0, 0)) := by decide +kernel
theorem kc_156_27 : zcode 156 27 = some (.iload_n 2, 1, (0, 0, 0, 0)) := by decide +kernel
theorem kc_156_28 : zcode 156 28 = some (.invokevirtual 100, 3, (96, 0, 785, 0)) := by decide +kernel
theorem kc_156_31 : zcode 156 31 = some (.ifCond .ne 5, 3, (36, 0, 0, 0)) := by decide +kernel
theorem kc_156_34 : zcode 156 34 = some (.iconst (-1), 1, (0, 0, 0, 0)) := by decide +kernel
theorem kc_156_35 : zcode 156 35 = some (.ireturn, 1, (0, 0, 0, 0)) := by decide +kernel
theorem kc_156_36 : zcode 156 36 = some (.iload_n 1, 1, (0, 0, 0, 0)) := by decide +kernel
theorem kc_156_37 : zcode 156 37 = some (.iconst 2, 1, (0, 0, 0, 0)) := by decide +kernel
theorem kc_156_38 : zcode 156 38 = some (.if_icmp .ne 10, 3, (48, 0, 0, 0)) := by decide +kernel
theorem kc_156_41 : zcode 156 41 = some (.iload_n 2, 1, (0, 0, 0, 0)) := by decide +kernel
theorem kc_156_42 : zcode 156 42 = some (.invokestatic 103, 3, (97, 0, 797, 0)) := by decide +kernel
theorem kc_156_45 : zcode 156 45 = some (.ifCond .eq 19, 3, (64, 0, 0, 0)) := by decide +kernel
theorem kc_156_48 : zcode 156 48 = some (.iload_n 1, 1, (0, 0, 0, 0)) := by decide +kernel
theorem kc_156_49 : zcode 156 49 = some (.iconst 3, 1, (0, 0, 0, 0)) := by decide +kernel
theorem kc_156_50 : zcode 156 50 = some (.if_icmp .ne 17, 3, (67, 0, 0, 0)) := by decide +kernel
theorem kc_156_53 : zcode 156 53 = some (.iload_n 2, 1, (0, 0, 0, 0)) := by decide +kernel
theorem kc_156_54 : zcode 156 54 = some (.iconst 0, 1, (0, 0, 0, 0)) := by decide +kernel
theorem kc_156_55 : zcode 156 55 = some (.sipush 360, 3, (0, 0, 0, 0)) := by decide +kernel
theorem kc_156_58 : zcode 156 58 = some (.invokestatic 67, 3, (94, 0, 778, 0)) := by decide +kernel
theorem kc_156_61 : zcode 156 61 = some (.ifCond .ne 6, 3, (67, 0, 0, 0)) := by decide +kernel
theorem kc_156_64 : zcode 156 64 = some (.bipush (-2), 2, (0, 0, 0, 0)) := by decide +kernel
theorem kc_156_66 : zcode 156 66 = some (.ireturn, 1, (0, 0, 0, 0)) := by decide +kernel
theorem kc_156_67 : zcode 156 67 = some (.aload_n 0, 1, (0, 0, 0, 0)) := by decide +kernel
theorem kc_156_68 : zcode 156 68 = some (.getfield 284, 3, (8, 7, 683, 0)) := by decide +kernel
theorem kc_156_71 : zcode 156 71 = some (.bipush 8, 2, (0, 0, 0, 0)) := by decide +kernel
theorem kc_156_73 : zcode 156 73 = some (.if_icmp .ne 6, 3, (79, 0, 0, 0)) := by decide +kernel
theorem kc_156_76 : zcode 156 76 = some (.bipush (-4), 2, (0, 0, 0, 0)) := by decide +kernel
theorem kc_156_78 : zcode 156 78 = some (.ireturn, 1, (0, 0, 0, 0)) := by decide +kernel
theorem kc_156_79 : zcode 156 79 = some (.aload_n 0, 1, (0, 0, 0, 0)) := by decide +kernel
theorem kc_156_80 : zcode 156 80 = some (.getfield 21, 3, (8, 8, 684, 0)) := by decide +kernel
theorem kc_156_83 : zcode 156 83 = some (.aload_n 0, 1, (0, 0, 0, 0)) := by decide +kernel
theorem kc_156_84 : zcode 156 84 = some (.getfield 284, 3, (8, 7, 683, 0)) := by decide +kernel
theorem kc_156_87 : zcode 156 87 = some (.iload_n 1, 1, (0, 0, 0, 0)) := by decide +kernel
theorem kc_156_88 : zcode 156 88 = some (.iastore, 1, (0, 0, 0, 0)) := by decide +kernel
theorem kc_156_89 : zcode 156 89 = some (.aload_n 0, 1, (0, 0, 0, 0)) := by decide +kernel
theorem kc_156_90 : zcode 156 90 = some (.getfield 24, 3, (8, 9, 685, 0)) := by decide +kernel
theorem kc_156_93 : zcode 156 93 = some (.aload_n 0, 1, (0, 0, 0, 0)) := by decide +kernel
theorem kc_156_94 : zcode 156 94 = some (.getfield 284, 3, (8, 7, 683, 0)) := by decide +kernel
theorem kc_156_97 : zcode 156 97 = some (.iload_n 2, 1, (0, 0, 0, 0)) := by decide +kernel
theorem kc_156_98 : zcode 156 98 = some (.iastore, 1, (0, 0, 0, 0)) := by decide +kernel
theorem kc_156_99 : zcode 156 99 = some (.aload_n 0, 1, (0, 0, 0, 0)) := by decide +kernel
theorem kc_156_100 : zcode 156 100 = some (.dup, 1, (0, 0, 0, 0)) := by decide +kernel
theorem kc_156_101 : zcode 156 101 = some (.getfield 284, 3, (8, 7, 683, 0)) := by decide +kernel
theorem kc_156_104 : zcode 156 104 = some (.iconst 1, 1, (0, 0, 0, 0)) := by decide +kernel
theorem kc_156_105 : zcode 156 105 = some (.iadd, 1, (0, 0, 0, 0)) := by decide +kernel
theorem kc_156_106 : zcode 156 106 = some (.putfield 284, 3, (8, 7, 683, 0)) := by decide +kernel
theorem kc_156_109 : zcode 156 109 = some (.aload_n 0, 1, (0, 0, 0, 0)) := by decide +kernel
theorem kc_156_110 : zcode 156 110 = some (.getfield 284, 3, (8, 7, 683, 0)) := by decide +kernel
theorem kc_156_113 : zcode 156 113 = some (.ireturn, 1, (0, 0, 0, 0)) := by decide +kernel
theorem kc_157_0 : zcode 157 0 = some (.iload_n 1, 1, (0, 0, 0, 0)) := by decide +kernel
theorem kc_157_1 : zcode 157 1 = some (.tableswitch 67 0 2 #[27, 49, 59], 27, (0, 0, 0, 0)) := by decide +kernel
theorem kc_157_28 : zcode 157 28 = some (.aload_n 0, 1, (0, 0, 0, 0)) := by decide +kernel
theorem kc_157_29 : zcode 157 29 = some (.getfield 9, 3, (8, 1, 677, 0)) := by decide +kernel
theorem kc_157_32 : zcode 157 32 = some (.iload_n 2, 1, (0, 0, 0, 0)) := by decide +kernel
theorem kc_157_33 : zcode 157 33 = some (.bipush 60, 2, (0, 0, 0, 0)) := by decide +kernel
theorem kc_157_35 : zcode 157 35 = some (.aload_n 0, 1, (0, 0, 0, 0)) := by decide +kernel
theorem kc_157_36 : zcode 157 36 = some (.getfield 9, 3, (8, 1, 677, 0)) := by decide +kernel
theorem kc_157_39 : zcode 157 39 = some (.iload_n 2, 1, (0, 0, 0, 0)) := by decide +kernel
theorem kc_157_40 : zcode 157 40 = some (.iaload, 1, (0, 0, 0, 0)) := by decide +kernel
theorem kc_157_41 : zcode 157 41 = some (.iconst 5, 1, (0, 0, 0, 0)) := by decide +kernel
theorem kc_157_42 : zcode 157 42 = some (.iadd, 1, (0, 0, 0, 0)) := by decide +kernel
theorem kc_157_43 : zcode 157 43 = some (.invokestatic 287, 3, (181, 0, 1077, 0)) := by decide +kernel
theorem kc_157_46 : zcode 157 46 = some (.iastore, 1, (0, 0, 0, 0)) := by decide +kernel
theorem kc_157_47 : zcode 157 47 = some (.goto 37, 3, (84, 0, 0, 0)) := by decide +kernel
theorem kc_157_50 : zcode 157 50 = some (.aload_n 0, 1, (0, 0, 0, 0)) := by decide +kernel
theorem kc_157_51 : zcode 157 51 = some (.getfield 9, 3, (8, 1, 677, 0)) := by decide +kernel
theorem kc_157_54 : zcode 157 54 = some (.iload_n 2, 1, (0, 0, 0, 0)) := by decide +kernel
theorem kc_157_55 : zcode 157 55 = some (.iconst 1, 1, (0, 0, 0, 0)) := by decide +kernel
theorem kc_157_56 : zcode 157 56 = some (.iastore, 1, (0, 0, 0, 0)) := by decide +kernel
theorem kc_157_57 : zcode 157 57 = some (.goto 27, 3, (84, 0, 0, 0)) := by decide +kernel
theorem kc_157_60 : zcode 157 60 = some (.aload_n 0, 1, (0, 0, 0, 0)) := by decide +kernel
theorem kc_157_61 : zcode 157 61 = some (.iload_n 2, 1, (0, 0, 0, 0)) := by decide +kernel
theorem kc_157_62 : zcode 157 62 = some (.putfield 106, 3, (8, 3, 679, 0)) := by decide +kernel
theorem kc_157_65 : zcode 157 65 = some (.goto 19, 3, (84, 0, 0, 0)) := by decide +kernel
theorem kc_157_68 : zcode 157 68 = some (.aload_n 0, 1, (0, 0, 0, 0)) := by decide +kernel
theorem kc_157_69 : zcode 157 69 = some (.sipush 360, 3, (0, 0, 0, 0)) := by decide +kernel
theorem kc_157_72 : zcode 157 72 = some (.aload_n 0, 1, (0, 0, 0, 0)) := by decide +kernel
theorem kc_157_73 : zcode 157 73 = some (.getfield 90, 3, (8, 2, 678, 0)) := by decide +kernel
theorem kc_157_76 : zcode 157 76 = some (.iload_n 2, 1, (0, 0, 0, 0)) := by decide +kernel
theorem kc_157_77 : zcode 157 77 = some (.iadd, 1, (0, 0, 0, 0)) := by decide +kernel
theorem kc_157_78 : zcode 157 78 = some (.invokestatic 287, 3, (181, 0, 1077, 0)) := by decide +kernel
theorem kc_157_81 : zcode 157 81 = some (.putfield 90, 3, (8, 2, 678, 0)) := by decide +kernel
theorem kc_157_84 : zcode 157 84 = some (.return_, 1, (0, 0, 0, 0)) := by decide +kernel
theorem kc_158_0 : zcode 158 0 = some (.iload_n 1, 1, (0, 0, 0, 0)) := by decide +kernel
theorem kc_158_1 : zcode 158 1 = some (.iconst 0, 1, (0, 0, 0, 0)) := by decide +kernel
theorem kc_158_2 : zcode 158 2 = some (.iconst 2, 1, (0, 0, 0, 0)) := by decide +kernel
theorem kc_158_3 : zcode 158 3 = some (.invokestatic 67, 3, (94, 0, 778, 0)) := by decide +kernel
theorem kc_158_6 : zcode 158 6 = some (.ifCond .ne 7, 3, (13, 0, 0, 0)) := by decide +kernel
theorem kc_158_9 : zcode 158 9 = some (.ldc2_w 202, 3, (0, 0, 862, -9223372036854775808)) := by decide +kernel
theorem kc_158_12 : zcode 158 12 = some (.lreturn, 1, (0, 0, 0, 0)) := by decide +kernel
theorem kc_158_13 : zcode 158 13 = some (.aload_n 0, 1, (0, 0, 0, 0)) := by decide +kernel
theorem kc_158_14 : zcode 158 14 = some (.aload_n 0, 1, (0, 0, 0, 0)) := by decide +kernel
theorem kc_158_15 : zcode 158 15 = some (.getfield 39, 3, (8, 16, 692, 0)) := by decide +kernel
theorem kc_158_18 : zcode 158 18 = some (.invokevirtual 289, 3, (161, 0, 1069, 0)) := by decide +kernel
theorem kc_158_21 : zcode 158 21 = some (.iconst 0, 1, (0, 0, 0, 0)) := by decide +kernel
theorem kc_158_22 : zcode 158 22 = some (.istore_n 2, 1, (0, 0, 0, 0)) := by decide +kernel
theorem kc_158_23 : zcode 158 23 = some (.iload_n 2, 1, (0, 0, 0, 0)) := by decide +kernel
theorem kc_158_24 : zcode 158 24 = some (.aload_n 0, 1, (0, 0, 0, 0)) := by decide +kernel
theorem kc_158_25 : zcode 158 25 = some (.getfield 284, 3, (8, 7, 683, 0)) := by decide +kernel
theorem kc_158_28 : zcode 158 28 = some (.if_icmp .ge 25, 3, (53, 0, 0, 0)) := by decide +kernel
theorem kc_158_31 : zcode 158 31 = some (.aload_n 0, 1, (0, 0, 0, 0)) := by decide +kernel
theorem kc_158_32 : zcode 158 32 = some (.aload_n 0, 1, (0, 0, 0, 0)) := by decide +kernel
theorem kc_158_33 : zcode 158 33 = some (.getfield 21, 3, (8, 8, 684, 0)) := by decide +kernel
theorem kc_158_36 : zcode 158 36 = some (.iload_n 2, 1, (0, 0, 0, 0)) := by decide +kernel
theorem kc_158_37 : zcode 158 37 = some (.iaload, 1, (0, 0, 0, 0)) := by decide +kernel
theorem kc_158_38 : zcode 158 38 = some (.aload_n 0, 1, (0, 0, 0, 0)) := by decide +kernel
theorem kc_158_39 : zcode 158 39 = some (.getfield 24, 3, (8, 9, 685, 0)) := by decide +kernel
theorem kc_158_42 : zcode 158 42 = some (.iload_n 2, 1, (0, 0, 0, 0)) := by decide +kernel
theorem kc_158_43 : zcode 158 43 = some (.iaload, 1, (0, 0, 0, 0)) := by decide +kernel
theorem kc_158_44 : zcode 158 44 = some (.invokevirtual 293, 3, (157, 0, 1073, 0)) := by decide +kernel
theorem kc_158_47 : zcode 158 47 = some (.iinc 2 1, 3, (0, 0, 0, 0)) := by decide +kernel
theorem kc_158_50 : zcode 158 50 = some (.goto (-27), 3, (23, 0, 0, 0)) := by decide +kernel
theorem kc_158_53 : zcode 158 53 = some (.ldc2_w 202, 3, (0, 0, 862, -9223372036854775808)) := by decide +kernel
theorem kc_158_56 : zcode 158 56 = some (.lstore_n 2, 1, (0, 0, 0, 0)) := by decide +kernel
theorem kc_158_57 : zcode 158 57 = some (.aload_n 0, 1, (0, 0, 0, 0)) := by decide +kernel
theorem kc_158_58 : zcode 158 58 = some (.invokevirtual 109, 3, (105, 0, 823, 0)) := by decide +kernel
theorem kc_158_61 : zcode 158 61 = some (.ifCond .eq 35, 3, (96, 0, 0, 0)) := by decide +kernel
theorem kc_158_64 : zcode 158 64 = some (.aload_n 0, 1, (0, 0, 0, 0)) := by decide +kernel
theorem kc_158_65 : zcode 158 65 = some (.aload_n 0, 1, (0, 0, 0, 0)) := by decide +kernel
theorem kc_158_66 : zcode 158 66 = some (.getfield 106, 3, (8, 3, 679, 0)) := by decide +kernel
theorem kc_158_69 : zcode 158 69 = some (.iconst 0, 1, (0, 0, 0, 0)) := by decide +kernel
theorem kc_158_70 : zcode 158 70 = some (.invokevirtual 195, 3, (125, 0, 863, 0)) := by decide +kernel
theorem kc_158_73 : zcode 158 73 = some (.iload_n 1, 1, (0, 0, 0, 0)) := by decide +kernel
theorem kc_158_74 : zcode 158 74 = some (.iconst 2, 1, (0, 0, 0, 0)) := by decide +kernel
theorem kc_158_75 : zcode 158 75 = some (.if_icmp .ne 15, 3, (90, 0, 0, 0)) := by decide +kernel
theorem kc_158_78 : zcode 158 78 = some (.aload_n 0, 1, (0, 0, 0, 0)) := by decide +kernel
theorem kc_158_79 : zcode 158 79 = some (.aload_n 0, 1, (0, 0, 0, 0)) := by decide +kernel
theorem kc_158_80 : zcode 158 80 = some (.getfield 106, 3, (8, 3, 679, 0)) := by decide +kernel
theorem kc_158_83 : zcode 158 83 = some (.invokevirtual 224, 3, (139, 0, 956, 0)) := by decide +kernel
theorem kc_158_86 : zcode 158 86 = some (.i2l, 1, (0, 0, 0, 0)) := by decide +kernel
theorem kc_158_87 : zcode 158 87 = some (.goto 8, 3, (95, 0, 0, 0)) := by decide +kernel
theorem kc_158_90 : zcode 158 90 = some (.aload_n 0, 1, (0, 0, 0, 0)) := by decide +kernel
theorem kc_158_91 : zcode 158 91 = some (.iload_n 1, 1, (0, 0, 0, 0)) := by decide +kernel
theorem kc_158_92 : zcode 158 92 = some (.invokevirtual 204, 3, (101, 0, 904, 0)) := by decide +kernel
theorem kc_158_95 : zcode 158 95 = some (.lstore_n 2, 1, (0, 0, 0, 0)) := by decide +kernel
theorem kc_158_96 : zcode 158 96 = some (.aload_n 0, 1, (0, 0, 0, 0)) := by decide +kernel
theorem kc_158_97 : zcode 158 97 = some (.aload_n 0, 1, (0, 0, 0, 0)) := by decide +kernel
theorem kc_158_98 : zcode 158 98 = some (.getfield 39, 3, (8, 16, 692, 0)) := by decide +kernel
theorem kc_158_101 : zcode 158 101 = some (.invokevirtual 296, 3, (162, 0, 1078, 0)) := by decide +kernel
theorem kc_158_104 : zcode 158 104 = some (.lload_n 2, 1, (0, 0, 0, 0)) := by decide +kernel
theorem kc_158_105 : zcode 158 105 = some (.lreturn, 1, (0, 0, 0, 0)) := by decide +kernel
theorem kc_159_0 : zcode 159 0 = some (.iload_n 1, 1, (0, 0, 0, 0)) := by decide +kernel
theorem kc_159_1 : zcode 159 1 = some (.iconst (-1), 1, (0, 0, 0, 0)) := by decide +kernel
theorem kc_159_2 : zcode 159 2 = some (.if_icmp .ne 10, 3, (12, 0, 0, 0)) := by decide +kernel
theorem kc_159_5 : zcode 159 5 = some (.aload_n 0, 1, (0, 0, 0, 0)) := by decide +kernel
theorem kc_159_6 : zcode 159 6 = some (.iconst 0, 1, (0, 0, 0, 0)) := by decide +kernel
theorem kc_159_7 : zcode 159 7 = some (.putfield 299, 3, (8, 10, 686, 0)) := by decide +kernel
theorem kc_159_10 : zcode 159 10 = some (.iconst 0, 1, (0, 0, 0, 0)) := by decide +kernel
theorem kc_159_11 : zcode 159 11 = some (.ireturn, 1, (0, 0, 0, 0)) := by decide +kernel
theorem kc_159_12 : zcode 159 12 = some (.aload_n 0, 1, (0, 0, 0, 0)) := by decide +kernel
theorem kc_159_13 : zcode 159 13 = some (.iload_n 1, 1, (0, 0, 0, 0)) := by decide +kernel
theorem kc_159_14 : zcode 159 14 = some (.invokevirtual 100, 3, (96, 0, 785, 0)) := by decide +kernel
theorem kc_159_17 : zcode 159 17 = some (.ifCond .ne 5, 3, (22, 0, 0, 0)) := by decide +kernel
theorem kc_159_20 : zcode 159 20 = some (.iconst (-1), 1, (0, 0, 0, 0)) := by decide +kernel
theorem kc_159_21 : zcode 159 21 = some (.ireturn, 1, (0, 0, 0, 0)) := by decide +kernel
theorem kc_159_22 : zcode 159 22 = some (.iload_n 2, 1, (0, 0, 0, 0)) := by decide +kernel
theorem kc_159_23 : zcode 159 23 = some (.iconst 0, 1, (0, 0, 0, 0)) := by decide +kernel
theorem kc_159_24 : zcode 159 24 = some (.bipush 60, 2, (0, 0, 0, 0)) := by decide +kernel
theorem kc_159_26 : zcode 159 26 = some (.invokestatic 67, 3, (94, 0, 778, 0)) := by decide +kernel
theorem kc_159_29 : zcode 159 29 = some (.ifCond .ne 6, 3, (35, 0, 0, 0)) := by decide +kernel
theorem kc_159_32 : zcode 159 32 = some (.bipush (-2), 2, (0, 0, 0, 0)) := by decide +kernel
theorem kc_159_34 : zcode 159 34 = some (.ireturn, 1, (0, 0, 0, 0)) := by decide +kernel
theorem kc_159_35 : zcode 159 35 = some (.aload_n 0, 1, (0, 0, 0, 0)) := by decide +kernel
theorem kc_159_36 : zcode 159 36 = some (.getfield 299, 3, (8, 10, 686, 0)) := by decide +kernel
theorem kc_159_39 : zcode 159 39 = some (.bipush 8, 2, (0, 0, 0, 0)) := by decide +kernel
theorem kc_159_41 : zcode 159 41 = some (.if_icmp .ne 6, 3, (47, 0, 0, 0)) := by decide +kernel
theorem kc_159_44 : zcode 159 44 = some (.bipush (-4), 2, (0, 0, 0, 0)) := by decide +kernel
theorem kc_159_46 : zcode 159 46 = some (.ireturn, 1, (0, 0, 0, 0)) := by decide +kernel
theorem kc_159_47 : zcode 159 47 = some (.aload_n 0, 1, (0, 0, 0, 0)) := by decide +kernel
theorem kc_159_48 : zcode 159 48 = some (.getfield 27, 3, (8, 11, 687, 0)) := by decide +kernel
theorem kc_159_51 : zcode 159 51 = some (.aload_n 0, 1, (0, 0, 0, 0)) := by decide +kernel
theorem kc_159_52 : zcode 159 52 = some (.getfield 299, 3, (8, 10, 686, 0)) := by decide +kernel
theorem kc_159_55 : zcode 159 55 = some (.iload_n 1, 1, (0, 0, 0, 0)) := by decide +kernel
theorem kc_159_56 : zcode 159 56 = some (.iastore, 1, (0, 0, 0, 0)) := by decide +kernel
theorem kc_159_57 : zcode 159 57 = some (.aload_n 0, 1, (0, 0, 0, 0)) := by decide +kernel
theorem kc_159_58 : zcode 159 58 = some (.getfield 30, 3, (8, 12, 688, 0)) := by decide +kernel
theorem kc_159_61 : zcode 159 61 = some (.aload_n 0, 1, (0, 0, 0, 0)) := by decide +kernel
theorem kc_159_62 : zcode 159 62 = some (.getfield 299, 3, (8, 10, 686, 0)) := by decide +kernel
theorem kc_159_65 : zcode 159 65 = some (.iload_n 2, 1, (0, 0, 0, 0)) := by decide +kernel
theorem kc_159_66 : zcode 159 66 = some (.iastore, 1, (0, 0, 0, 0)) := by decide +kernel
theorem kc_159_67 : zcode 159 67 = some (.aload_n 0, 1, (0, 0, 0, 0)) := by decide +kernel
theorem kc_159_68 : zcode 159 68 = some (.dup, 1, (0, 0, 0, 0)) := by decide +kernel
theorem kc_159_69 : zcode 159 69 = some (.getfield 299, 3, (8, 10, 686, 0)) := by decide +kernel
theorem kc_159_72 : zcode 159 72 = some (.iconst 1, 1, (0, 0, 0, 0)) := by decide +kernel
theorem kc_159_73 : zcode 159 73 = some (.iadd, 1, (0, 0, 0, 0)) := by decide +kernel
theorem kc_159_74 : zcode 159 74 = some (.putfield 299, 3, (8, 10, 686, 0)) := by decide +kernel
theorem kc_159_77 : zcode 159 77 = some (.aload_n 0, 1, (0, 0, 0, 0)) := by decide +kernel
theorem kc_159_78 : zcode 159 78 = some (.getfield 299, 3, (8, 10, 686, 0)) := by decide +kernel
theorem kc_159_81 : zcode 159 81 = some (.ireturn, 1, (0, 0, 0, 0)) := by decide +kernel
theorem kc_160_0 : zcode 160 0 = some (.aload_n 0, 1, (0, 0, 0, 0)) := by decide +kernel
theorem kc_160_1 : zcode 160 1 = some (.invokevirtual 109, 3, (105, 0, 823, 0)) := by decide +kernel
theorem kc_160_4 : zcode 160 4 = some (.ifCond .ne 6, 3, (10, 0, 0, 0)) := by decide +kernel
theorem kc_160_7 : zcode 160 7 = some (.bipush (-3), 2, (0, 0, 0, 0)) := by decide +kernel
theorem kc_160_9 : zcode 160 9 = some (.ireturn, 1, (0, 0, 0, 0)) := by decide +kernel
theorem kc_160_10 : zcode 160 10 = some (.iconst 0, 1, (0, 0, 0, 0)) := by decide +kernel
theorem kc_160_11 : zcode 160 11 = some (.istore_n 1, 1, (0, 0, 0, 0)) := by decide +kernel
theorem kc_160_12 : zcode 160 12 = some (.iload_n 1, 1, (0, 0, 0, 0)) := by decide +kernel
theorem kc_160_13 : zcode 160 13 = some (.aload_n 0, 1, (0, 0, 0, 0)) := by decide +kernel
theorem kc_160_14 : zcode 160 14 = some (.getfield 299, 3, (8, 10, 686, 0)) := by decide +kernel
theorem kc_160_17 : zcode 160 17 = some (.if_icmp .ge 34, 3, (51, 0, 0, 0)) := by decide +kernel
theorem kc_160_20 : zcode 160 20 = some (.aload_n 0, 1, (0, 0, 0, 0)) := by decide +kernel
theorem kc_160_21 : zcode 160 21 = some (.aload_n 0, 1, (0, 0, 0, 0)) := by decide +kernel
theorem kc_160_22 : zcode 160 22 = some (.getfield 106, 3, (8, 3, 679, 0)) := by decide +kernel
theorem kc_160_25 : zcode 160 25 = some (.aload_n 0, 1, (0, 0, 0, 0)) := by decide +kernel
theorem kc_160_26 : zcode 160 26 = some (.getfield 27, 3, (8, 11, 687, 0)) := by decide +kernel
theorem kc_160_29 : zcode 160 29 = some (.iload_n 1, 1, (0, 0, 0, 0)) := by decide +kernel
theorem kc_160_30 : zcode 160 30 = some (.iaload, 1, (0, 0, 0, 0)) := by decide +kernel
theorem kc_160_31 : zcode 160 31 = some (.invokevirtual 208, 3, (126, 0, 912, 0)) := by decide +kernel
theorem kc_160_34 : zcode 160 34 = some (.aload_n 0, 1, (0, 0, 0, 0)) := by decide +kernel
theorem kc_160_35 : zcode 160 35 = some (.getfield 30, 3, (8, 12, 688, 0)) := by decide +kernel
theorem kc_160_38 : zcode 160 38 = some (.iload_n 1, 1, (0, 0, 0, 0)) := by decide +kernel
theorem kc_160_39 : zcode 160 39 = some (.iaload, 1, (0, 0, 0, 0)) := by decide +kernel
theorem kc_160_40 : zcode 160 40 = some (.if_icmp .eq 5, 3, (45, 0, 0, 0)) := by decide +kernel
theorem kc_160_43 : zcode 160 43 = some (.iload_n 1, 1, (0, 0, 0, 0)) := by decide +kernel
theorem kc_160_44 : zcode 160 44 = some (.ireturn, 1, (0, 0, 0, 0)) := by decide +kernel
theorem kc_160_45 : zcode 160 45 = some (.iinc 1 1, 3, (0, 0, 0, 0)) := by decide +kernel
theorem kc_160_48 : zcode 160 48 = some (.goto (-36), 3, (12, 0, 0, 0)) := by decide +kernel
theorem kc_160_51 : zcode 160 51 = some (.bipush (-5), 2, (0, 0, 0, 0)) := by decide +kernel
theorem kc_160_53 : zcode 160 53 = some (.ireturn, 1, (0, 0, 0, 0)) := by decide +kernel
theorem kc_161_0 : zcode 161 0 = some (.iconst 0, 1, (0, 0, 0, 0)) := by decide +kernel
theorem kc_161_1 : zcode 161 1 = some (.istore_n 2, 1, (0, 0, 0, 0)) := by decide +kernel
theorem kc_161_2 : zcode 161 2 = some (.iload_n 2, 1, (0, 0, 0, 0)) := by decide +kernel
theorem kc_161_3 : zcode 161 3 = some (.bipush 6, 2, (0, 0, 0, 0)) := by decide +kernel
theorem kc_161_5 : zcode 161 5 = some (.if_icmp .ge 18, 3, (23, 0, 0, 0)) := by decide +kernel
theorem kc_161_8 : zcode 161 8 = some (.aload_n 1, 1, (0, 0, 0, 0)) := by decide +kernel
theorem kc_161_9 : zcode 161 9 = some (.iload_n 2, 1, (0, 0, 0, 0)) := by decide +kernel
theorem kc_161_10 : zcode 161 10 = some (.aload_n 0, 1, (0, 0, 0, 0)) := by decide +kernel
theorem kc_161_11 : zcode 161 11 = some (.getfield 9, 3, (8, 1, 677, 0)) := by decide +kernel
theorem kc_161_14 : zcode 161 14 = some (.iload_n 2, 1, (0, 0, 0, 0)) := by decide +kernel
theorem kc_161_15 : zcode 161 15 = some (.iaload, 1, (0, 0, 0, 0)) := by decide +kernel
theorem kc_161_16 : zcode 161 16 = some (.iastore, 1, (0, 0, 0, 0)) := by decide +kernel
theorem kc_161_17 : zcode 161 17 = some (.iinc 2 1, 3, (0, 0, 0, 0)) := by decide +kernel
theorem kc_161_20 : zcode 161 20 = some (.goto (-18), 3, (2, 0, 0, 0)) := by decide +kernel
theorem kc_161_23 : zcode 161 23 = some (.iconst 0, 1, (0, 0, 0, 0)) := by decide +kernel
theorem kc_161_24 : zcode 161 24 = some (.istore_n 2, 1, (0, 0, 0, 0)) := by decide +kernel
theorem kc_161_25 : zcode 161 25 = some (.iload_n 2, 1, (0, 0, 0, 0)) := by decide +kernel
theorem kc_161_26 : zcode 161 26 = some (.iconst 5, 1, (0, 0, 0, 0)) := by decide +kernel
theorem kc_161_27 : zcode 161 27 = some (.if_icmp .ge 33, 3, (60, 0, 0, 0)) := by decide +kernel
theorem kc_161_30 : zcode 161 30 = some (.aload_n 1, 1, (0, 0, 0, 0)) := by decide +kernel
theorem kc_161_31 : zcode 161 31 = some (.bipush 6, 2, (0, 0, 0, 0)) := by decide +kernel
theorem kc_161_33 : zcode 161 33 = some (.iload_n 2, 1, (0, 0, 0, 0)) := by decide +kernel
theorem kc_161_34 : zcode 161 34 = some (.iadd, 1, (0, 0, 0, 0)) := by decide +kernel
theorem kc_161_35 : zcode 161 35 = some (.aload_n 0, 1, (0, 0, 0, 0)) := by decide +kernel
theorem kc_161_36 : zcode 161 36 = some (.getfield 15, 3, (8, 5, 681, 0)) := by decide +kernel
theorem kc_161_39 : zcode 161 39 = some (.iload_n 2, 1, (0, 0, 0, 0)) := by decide +kernel
theorem kc_161_40 : zcode 161 40 = some (.iaload, 1, (0, 0, 0, 0)) := by decide +kernel
theorem kc_161_41 : zcode 161 41 = some (.iastore, 1, (0, 0, 0, 0)) := by decide +kernel
theorem kc_161_42 : zcode 161 42 = some (.aload_n 1, 1, (0, 0, 0, 0)) := by decide +kernel
theorem kc_161_43 : zcode 161 43 = some (.bipush 11, 2, (0, 0, 0, 0)) := by decide +kernel
theorem kc_161_45 : zcode 161 45 = some (.iload_n 2, 1, (0, 0, 0, 0)) := by decide +kernel
theorem kc_161_46 : zcode 161 46 = some (.iadd, 1, (0, 0, 0, 0)) := by decide +kernel
theorem kc_161_47 : zcode 161 47 = some (.aload_n 0, 1, (0, 0, 0, 0)) := by decide +kernel
theorem kc_161_48 : zcode 161 48 = some (.getfield 18, 3, (8, 6, 682, 0)) := by decide +kernel
theorem kc_161_51 : zcode 161 51 = some (.iload_n 2, 1, (0, 0, 0, 0)) := by decide +kernel
theorem kc_161_52 : zcode 161 52 = some (.iaload, 1, (0, 0, 0, 0)) := by decide +kernel
theorem kc_161_53 : zcode 161 53 = some (.iastore, 1, (0, 0, 0, 0)) := by decide +kernel
theorem kc_161_54 : zcode 161 54 = some (.iinc 2 1, 3, (0, 0, 0, 0)) := by decide +kernel
theorem kc_161_57 : zcode 161 57 = some (.goto (-32), 3, (25, 0, 0, 0)) := by decide +kernel
theorem kc_161_60 : zcode 161 60 = some (.iconst 0, 1, (0, 0, 0, 0)) := by decide +kernel
theorem kc_161_61 : zcode 161 61 = some (.istore_n 2, 1, (0, 0, 0, 0)) := by decide +kernel
theorem kc_161_62 : zcode 161 62 = some (.iload_n 2, 1, (0, 0, 0, 0)) := by decide +kernel
theorem kc_161_63 : zcode 161 63 = some (.bipush 8, 2, (0, 0, 0, 0)) := by decide +kernel
theorem kc_161_65 : zcode 161 65 = some (.if_icmp .ge 57, 3, (122, 0, 0, 0)) := by decide +kernel
theorem kc_161_68 : zcode 161 68 = some (.aload_n 1, 1, (0, 0, 0, 0)) := by decide +kernel
theorem kc_161_69 : zcode 161 69 = some (.bipush 16, 2, (0, 0, 0, 0)) := by decide +kernel
theorem kc_161_71 : zcode 161 71 = some (.iload_n 2, 1, (0, 0, 0, 0)) := by decide +kernel
theorem kc_161_72 : zcode 161 72 = some (.iadd, 1, (0, 0, 0, 0)) := by decide +kernel
theorem kc_161_73 : zcode 161 73 = some (.aload_n 0, 1, (0, 0, 0, 0)) := by decide +kernel
theorem kc_161_74 : zcode 161 74 = some (.getfield 21, 3, (8, 8, 684, 0)) := by decide +kernel
theorem kc_161_77 : zcode 161 77 = some (.iload_n 2, 1, (0, 0, 0, 0)) := by decide +kernel
theorem kc_161_78 : zcode 161 78 = some (.iaload, 1, (0, 0, 0, 0)) := by decide +kernel
theorem kc_161_79 : zcode 161 79 = some (.iastore, 1, (0, 0, 0, 0)) := by decide +kernel
theorem kc_161_80 : zcode 161 80 = some (.aload_n 1, 1, (0, 0, 0, 0)) := by decide +kernel
theorem kc_161_81 : zcode 161 81 = some (.bipush 24, 2, (0, 0, 0, 0)) := by decide +kernel
theorem kc_161_83 : zcode 161 83 = some (.iload_n 2, 1, (0, 0, 0, 0)) := by decide +kernel
theorem kc_161_84 : zcode 161 84 = some (.iadd, 1, (0, 0, 0, 0)) := by decide +kernel
theorem kc_161_85 : zcode 161 85 = some (.aload_n 0, 1, (0, 0, 0, 0)) := by decide +kernel
theorem kc_161_86 : zcode 161 86 = some (.getfield 24, 3, (8, 9, 685, 0)) := by decide +kernel
theorem kc_161_89 : zcode 161 89 = some (.iload_n 2, 1, (0, 0, 0, 0)) := by decide +kernel
theorem kc_161_90 : zcode 161 90 = some (.iaload, 1, (0, 0, 0, 0)) := by decide +kernel
theorem kc_161_91 : zcode 161 91 = some (.iastore, 1, (0, 0, 0, 0)) := by decide +kernel
theorem kc_161_92 : zcode 161 92 = some (.aload_n 1, 1, (0, 0, 0, 0)) := by decide +kernel
theorem kc_161_93 : zcode 161 93 = some (.bipush 32, 2, (0, 0, 0, 0)) := by decide +kernel
theorem kc_161_95 : zcode 161 95 = some (.iload_n 2, 1, (0, 0, 0, 0)) := by decide +kernel
theorem kc_161_96 : zcode 161 96 = some (.iadd, 1, (0, 0, 0, 0)) := by decide +kernel
theorem kc_161_97 : zcode 161 97 = some (.aload_n 0, 1, (0, 0, 0, 0)) := by decide +kernel
theorem kc_161_98 : zcode 161 98 = some (.getfield 27, 3, (8, 11, 687, 0)) := by decide +kernel
theorem kc_161_101 : zcode 161 101 = some (.iload_n 2, 1, (0, 0, 0, 0)) := by decide +kernel
theorem kc_161_102 : zcode 161 102 = some (.iaload, 1, (0, 0, 0, 0)) := by decide +kernel
theorem kc_161_103 : zcode 161 103 = some (.iastore, 1, (0, 0, 0, 0)) := by decide +kernel
theorem kc_161_104 : zcode 161 104 = some (.aload_n 1, 1, (0, 0, 0, 0)) := by decide +kernel
theorem kc_161_105 : zcode 161 105 = some (.bipush 40, 2, (0, 0, 0, 0)) := by decide +kernel
theorem kc_161_107 : zcode 161 107 = some (.iload_n 2, 1, (0, 0, 0, 0)) := by decide +kernel
theorem kc_161_108 : zcode 161 108 = some (.iadd, 1, (0, 0, 0, 0)) := by decide +kernel
theorem kc_161_109 : zcode 161 109 = some (.aload_n 0, 1, (0, 0, 0, 0)) := by decide +kernel
theorem kc_161_110 : zcode 161 110 = some (.getfield 30, 3, (8, 12, 688, 0)) := by decide +kernel
theorem kc_161_113 : zcode 161 113 = some (.iload_n 2, 1, (0, 0, 0, 0)) := by decide +kernel
theorem kc_161_114 : zcode 161 114 = some (.iaload, 1, (0, 0, 0, 0)) := by decide +kernel
theorem kc_161_115 : zcode 161 115 = some (.iastore, 1, (0, 0, 0, 0)) := by decide +kernel
theorem kc_161_116 : zcode 161 116 = some (.iinc 2 1, 3, (0, 0, 0, 0)) := by decide +kernel
theorem kc_161_119 : zcode 161 119 = some (.goto (-57), 3, (62, 0, 0, 0)) := by decide +kernel
theorem kc_161_122 : zcode 161 122 = some (.aload_n 1, 1, (0, 0, 0, 0)) := by decide +kernel
theorem kc_161_123 : zcode 161 123 = some (.bipush 48, 2, (0, 0, 0, 0)) := by decide +kernel
theorem kc_161_125 : zcode 161 125 = some (.aload_n 0, 1, (0, 0, 0, 0)) := by decide +kernel
theorem kc_161_126 : zcode 161 126 = some (.getfield 63, 3, (8, 0, 676, 0)) := by decide +kernel
theorem kc_161_129 : zcode 161 129 = some (.iastore, 1, (0, 0, 0, 0)) := by decide +kernel
theorem kc_161_130 : zcode 161 130 = some (.aload_n 1, 1, (0, 0, 0, 0)) := by decide +kernel
theorem kc_161_131 : zcode 161 131 = some (.bipush 49, 2, (0, 0, 0, 0)) := by decide +kernel
theorem kc_161_133 : zcode 161 133 = some (.aload_n 0, 1, (0, 0, 0, 0)) := by decide +kernel
theorem kc_161_134 : zcode 161 134 = some (.getfield 90, 3, (8, 2, 678, 0)) := by decide +kernel
theorem kc_161_137 : zcode 161 137 = some (.iastore, 1, (0, 0, 0, 0)) := by decide +kernel
theorem kc_161_138 : zcode 161 138 = some (.aload_n 1, 1, (0, 0, 0, 0)) := by decide +kernel
theorem kc_161_139 : zcode 161 139 = some (.bipush 50, 2, (0, 0, 0, 0)) := by decide +kernel
theorem kc_161_141 : zcode 161 141 = some (.aload_n 0, 1, (0, 0, 0, 0)) := by decide +kernel
theorem kc_161_142 : zcode 161 142 = some (.getfield 106, 3, (8, 3, 679, 0)) := by decide +kernel
theorem kc_161_145 : zcode 161 145 = some (.iastore, 1, (0, 0, 0, 0)) := by decide +kernel
theorem kc_161_146 : zcode 161 146 = some (.aload_n 1, 1, (0, 0, 0, 0)) := by decide +kernel
theorem kc_161_147 : zcode 161 147 = some (.bipush 51, 2, (0, 0, 0, 0)) := by decide +kernel
theorem kc_161_149 : zcode 161 149 = some (.aload_n 0, 1, (0, 0, 0, 0)) := by decide +kernel
theorem kc_161_150 : zcode 161 150 = some (.getfield 278, 3, (8, 4, 680, 0)) := by decide +kernel
theorem kc_161_153 : zcode 161 153 = some (.iastore, 1, (0, 0, 0, 0)) := by decide +kernel
theorem kc_161_154 : zcode 161 154 = some (.aload_n 1, 1, (0, 0, 0, 0)) := by decide +kernel
theorem kc_161_155 : zcode 161 155 = some (.bipush 52, 2, (0, 0, 0, 0)) := by decide +kernel
theorem kc_161_157 : zcode 161 157 = some (.aload_n 0, 1, (0, 0, 0, 0)) := by decide +kernel
theorem kc_161_158 : zcode 161 158 = some (.getfield 284, 3, (8, 7, 683, 0)) := by decide +kernel
theorem kc_161_161 : zcode 161 161 = some (.iastore, 1, (0, 0, 0, 0)) := by decide +kernel
theorem kc_161_162 : zcode 161 162 = some (.aload_n 1, 1, (0, 0, 0, 0)) := by decide +kernel
theorem kc_161_163 : zcode 161 163 = some (.bipush 53, 2, (0, 0, 0, 0)) := by decide +kernel
theorem kc_161_165 : zcode 161 165 = some (.aload_n 0, 1, (0, 0, 0, 0)) := by decide +kernel
theorem kc_161_166 : zcode 161 166 = some (.getfield 299, 3, (8, 10, 686, 0)) := by decide +kernel
theorem kc_161_169 : zcode 161 169 = some (.iastore, 1, (0, 0, 0, 0)) := by decide +kernel
theorem kc_161_170 : zcode 161 170 = some (.return_, 1, (0, 0, 0, 0)) := by decide +kernel
theorem kc_162_0 : zcode 162 0 = some (.iconst 0, 1, (0, 0, 0, 0)) := by decide +kernel
theorem kc_162_1 : zcode 162 1 = some (.istore_n 2, 1, (0, 0, 0, 0)) := by decide +kernel
theorem kc_162_2 : zcode 162 2 = some (.iload_n 2, 1, (0, 0, 0, 0)) := by decide +kernel
theorem kc_162_3 : zcode 162 3 = some (.bipush 6, 2, (0, 0, 0, 0)) := by decide +kernel
theorem kc_162_5 : zcode 162 5 = some (.if_icmp .ge 18, 3, (23, 0, 0, 0)) := by decide +kernel
theorem kc_162_8 : zcode 162 8 = some (.aload_n 0, 1, (0, 0, 0, 0)) := by decide +kernel
theorem kc_162_9 : zcode 162 9 = some (.getfield 9, 3, (8, 1, 677, 0)) := by decide +kernel
theorem kc_162_12 : zcode 162 12 = some (.iload_n 2, 1, (0, 0, 0, 0)) := by decide +kernel
theorem kc_162_13 : zcode 162 13 = some (.aload_n 1, 1, (0, 0, 0, 0)) := by decide +kernel
theorem kc_162_14 : zcode 162 14 = some (.iload_n 2, 1, (0, 0, 0, 0)) := by decide +kernel
theorem kc_162_15 : zcode 162 15 = some (.iaload, 1, (0, 0, 0, 0)) := by decide +kernel
theorem kc_162_16 : zcode 162 16 = some (.iastore, 1, (0, 0, 0, 0)) := by decide +kernel
theorem kc_162_17 : zcode 162 17 = some (.iinc 2 1, 3, (0, 0, 0, 0)) := by decide +kernel
theorem kc_162_20 : zcode 162 20 = some (.goto (-18), 3, (2, 0, 0, 0)) := by decide +kernel
theorem kc_162_23 : zcode 162 23 = some (.iconst 0, 1, (0, 0, 0, 0)) := by decide +kernel
theorem kc_162_24 : zcode 162 24 = some (.istore_n 2, 1, (0, 0, 0, 0)) := by decide +kernel
theorem kc_162_25 : zcode 162 25 = some (.iload_n 2, 1, (0, 0, 0, 0)) := by decide +kernel
theorem kc_162_26 : zcode 162 26 = some (.iconst 5, 1, (0, 0, 0, 0)) := by decide +kernel
theorem kc_162_27 : zcode 162 27 = some (.if_icmp .ge 33, 3, (60, 0, 0, 0)) := by decide +kernel
theorem kc_162_30 : zcode 162 30 = some (.aload_n 0, 1, (0, 0, 0, 0)) := by decide +kernel
theorem kc_162_31 : zcode 162 31 = some (.getfield 15, 3, (8, 5, 681, 0)) := by decide +kernel
theorem kc_162_34 : zcode 162 34 = some (.iload_n 2, 1, (0, 0, 0, 0)) := by decide +kernel
theorem kc_162_35 : zcode 162 35 = some (.aload_n 1, 1, (0, 0, 0, 0)) := by decide +kernel
theorem kc_162_36 : zcode 162 36 = some (.bipush 6, 2, (0, 0, 0, 0)) := by decide +kernel
theorem kc_162_38 : zcode 162 38 = some (.iload_n 2, 1, (0, 0, 0, 0)) := by decide +kernel
theorem kc_162_39 : zcode 162 39 = some (.iadd, 1, (0, 0, 0, 0)) := by decide +kernel
theorem kc_162_40 : zcode 162 40 = some (.iaload, 1, (0, 0, 0, 0)) := by decide +kernel
theorem kc_162_41 : zcode 162 41 = some (.iastore, 1, (0, 0, 0, 0)) := by decide +kernel
theorem kc_162_42 : zcode 162 42 = some (.aload_n 0, 1, (0, 0, 0, 0)) := by decide +kernel
theorem kc_162_43 : zcode 162 43 = some (.getfield 18, 3, (8, 6, 682, 0)) := by decide +kernel
theorem kc_162_46 : zcode 162 46 = some (.iload_n 2, 1, (0, 0, 0, 0)) := by decide +kernel
theorem kc_162_47 : zcode 162 47 = some (.aload_n 1, 1, (0, 0, 0, 0)) := by decide +kernel
theorem kc_162_48 : zcode 162 48 = some (.bipush 11, 2, (0, 0, 0, 0)) := by decide +kernel
theorem kc_162_50 : zcode 162 50 = some (.iload_n 2, 1, (0, 0, 0, 0)) := by decide +kernel
theorem kc_162_51 : zcode 162 51 = some (.iadd, 1, (0, 0, 0, 0)) := by decide +kernel
theorem kc_162_52 : zcode 162 52 = some (.iaload, 1, (0, 0, 0, 0)) := by decide +kernel
theorem kc_162_53 : zcode 162 53 = some (.iastore, 1, (0, 0, 0, 0)) := by decide +kernel
theorem kc_162_54 : zcode 162 54 = some (.iinc 2 1, 3, (0, 0, 0, 0)) := by decide +kernel
theorem kc_162_57 : zcode 162 57 = some (.goto (-32), 3, (25, 0, 0, 0)) := by decide +kernel
theorem kc_162_60 : zcode 162 60 = some (.iconst 0, 1, (0, 0, 0, 0)) := by decide +kernel
theorem kc_162_61 : zcode 162 61 = some (.istore_n 2, 1, (0, 0, 0, 0)) := by decide +kernel
theorem kc_162_62 : zcode 162 62 = some (.iload_n 2, 1, (0, 0, 0, 0)) := by decide +kernel
theorem kc_162_63 : zcode 162 63 = some (.bipush 8, 2, (0, 0, 0, 0)) := by decide +kernel
theorem kc_162_65 : zcode 162 65 = some (.if_icmp .ge 57, 3, (122, 0, 0, 0)) := by decide +kernel
theorem kc_162_68 : zcode 162 68 = some (.aload_n 0, 1, (0, 0, 0, 0)) := by decide +kernel
theorem kc_162_69 : zcode 162 69 = some (.getfield 21, 3, (8, 8, 684, 0)) := by decide +kernel
theorem kc_162_72 : zcode 162 72 = some (.iload_n 2, 1, (0, 0, 0, 0)) := by decide +kernel
theorem kc_162_73 : zcode 162 73 = some (.aload_n 1, 1, (0, 0, 0, 0)) := by decide +kernel
theorem kc_162_74 : zcode 162 74 = some (.bipush 16, 2, (0, 0, 0, 0)) := by decide +kernel
theorem kc_162_76 : zcode 162 76 = some (.iload_n 2, 1, (0, 0, 0, 0)) := by decide +kernel
theorem kc_162_77 : zcode 162 77 = some (.iadd, 1, (0, 0, 0, 0)) := by decide +kernel
theorem kc_162_78 : zcode 162 78 = some (.iaload, 1, (0, 0, 0, 0)) := by decide +kernel
theorem kc_162_79 : zcode 162 79 = some (.iastore, 1, (0, 0, 0, 0)) := by decide +kernel
theorem kc_162_80 : zcode 162 80 = some (.aload_n 0, 1, (0, 0, 0, 0)) := by decide +kernel
theorem kc_162_81 : zcode 162 81 = some (.getfield 24, 3, (8, 9, 685, 0)) := by decide +kernel
theorem kc_162_84 : zcode 162 84 = some (.iload_n 2, 1, (0, 0, 0, 0)) := by decide +kernel
theorem kc_162_85 : zcode 162 85 = some (.aload_n 1, 1, (0, 0, 0, 0)) := by decide +kernel
theorem kc_162_86 : zcode 162 86 = some (.bipush 24, 2, (0, 0, 0, 0)) := by decide +kernel
theorem kc_162_88 : zcode 162 88 = some (.iload_n 2, 1, (0, 0, 0, 0)) := by decide +kernel
theorem kc_162_89 : zcode 162 89 = some (.iadd, 1, (0, 0, 0, 0)) := by decide +kernel
theorem kc_162_90 : zcode 162 90 = some (.iaload, 1, (0, 0, 0, 0)) := by decide +kernel
theorem kc_162_91 : zcode 162 91 = some (.iastore, 1, (0, 0, 0, 0)) := by decide +kernel
theorem kc_162_92 : zcode 162 92 = some (.aload_n 0, 1, (0, 0, 0, 0)) := by decide +kernel
theorem kc_162_93 : zcode 162 93 = some (.getfield 27, 3, (8, 11, 687, 0)) := by decide +kernel
theorem kc_162_96 : zcode 162 96 = some (.iload_n 2, 1, (0, 0, 0, 0)) := by decide +kernel
theorem kc_162_97 : zcode 162 97 = some (.aload_n 1, 1, (0, 0, 0, 0)) := by decide +kernel
theorem kc_162_98 : zcode 162 98 = some (.bipush 32, 2, (0, 0, 0, 0)) := by decide +kernel
theorem kc_162_100 : zcode 162 100 = some (.iload_n 2, 1, (0, 0, 0, 0)) := by decide +kernel
theorem kc_162_101 : zcode 162 101 = some (.iadd, 1, (0, 0, 0, 0)) := by decide +kernel
theorem kc_162_102 : zcode 162 102 = some (.iaload, 1, (0, 0, 0, 0)) := by decide +kernel
theorem kc_162_103 : zcode 162 103 = some (.iastore, 1, (0, 0, 0, 0)) := by decide +kernel
theorem kc_162_104 : zcode 162 104 = some (.aload_n 0, 1, (0, 0, 0, 0)) := by decide +kernel
theorem kc_162_105 : zcode 162 105 = some (.getfield 30, 3, (8, 12, 688, 0)) := by decide +kernel
theorem kc_162_108 : zcode 162 108 = some (.iload_n 2, 1, (0, 0, 0, 0)) := by decide +kernel
theorem kc_162_109 : zcode 162 109 = some (.aload_n 1, 1, (0, 0, 0, 0)) := by decide +kernel
theorem kc_162_110 : zcode 162 110 = some (.bipush 40, 2, (0, 0, 0, 0)) := by decide +kernel
theorem kc_162_112 : zcode 162 112 = some (.iload_n 2, 1, (0, 0, 0, 0)) := by decide +kernel
theorem kc_162_113 : zcode 162 113 = some (.iadd, 1, (0, 0, 0, 0)) := by decide +kernel
theorem kc_162_114 : zcode 162 114 = some (.iaload, 1, (0, 0, 0, 0)) := by decide +kernel
theorem kc_162_115 : zcode 162 115 = some (.iastore, 1, (0, 0, 0, 0)) := by decide +kernel
theorem kc_162_116 : zcode 162 116 = some (.iinc 2 1, 3, (0, 0, 0, 0)) := by decide +kernel
theorem kc_162_119 : zcode 162 119 = some (.goto (-57), 3, (62, 0, 0, 0)) := by decide +kernel
theorem kc_162_122 : zcode 162 122 = some (.aload_n 0, 1, (0, 0, 0, 0)) := by decide +kernel
theorem kc_162_123 : zcode 162 123 = some (.aload_n 1, 1, (0, 0, 0, 0)) := by decide +kernel
theorem kc_162_124 : zcode 162 124 = some (.bipush 48, 2, (0, 0, 0, 0)) := by decide +kernel
theorem kc_162_126 : zcode 162 126 = some (.iaload, 1, (0, 0, 0, 0)) := by decide +kernel
theorem kc_162_127 : zcode 162 127 = some (.putfield 63, 3, (8, 0, 676, 0)) := by decide +kernel
theorem kc_162_130 : zcode 162 130 = some (.aload_n 0, 1, (0, 0, 0, 0)) := by decide +kernel
theorem kc_162_131 : zcode 162 131 = some (.aload_n 1, 1, (0, 0, 0, 0)) := by decide +kernel
theorem kc_162_132 : zcode 162 132 = some (.bipush 49, 2, (0, 0, 0, 0)) := by decide +kernel
theorem kc_162_134 : zcode 162 134 = some (.iaload, 1, (0, 0, 0, 0)) := by decide +kernel
theorem kc_162_135 : zcode 162 135 = some (.putfield 90, 3, (8, 2, 678, 0)) := by decide +kernel
theorem kc_162_138 : zcode 162 138 = some (.aload_n 0, 1, (0, 0, 0, 0)) := by decide +kernel
theorem kc_162_139 : zcode 162 139 = some (.aload_n 1, 1, (0, 0, 0, 0)) := by decide +kernel
theorem kc_162_140 : zcode 162 140 = some (.bipush 50, 2, (0, 0, 0, 0)) := by decide +kernel
theorem kc_162_142 : zcode 162 142 = some (.iaload, 1, (0, 0, 0, 0)) := by decide +kernel
theorem kc_162_143 : zcode 162 143 = some (.putfield 106, 3, (8, 3, 679, 0)) := by decide +kernel
theorem kc_162_146 : zcode 162 146 = some (.aload_n 0, 1, (0, 0, 0, 0)) := by decide +kernel
theorem kc_162_147 : zcode 162 147 = some (.aload_n 1, 1, (0, 0, 0, 0)) := by decide +kernel
theorem kc_162_148 : zcode 162 148 = some (.bipush 51, 2, (0, 0, 0, 0)) := by decide +kernel
theorem kc_162_150 : zcode 162 150 = some (.iaload, 1, (0, 0, 0, 0)) := by decide +kernel
theorem kc_162_151 : zcode 162 151 = some (.putfield 278, 3, (8, 4, 680, 0)) := by decide +kernel
theorem kc_162_154 : zcode 162 154 = some (.aload_n 0, 1, (0, 0, 0, 0)) := by decide +kernel
theorem kc_162_155 : zcode 162 155 = some (.aload_n 1, 1, (0, 0, 0, 0)) := by decide +kernel
theorem kc_162_156 : zcode 162 156 = some (.bipush 52, 2, (0, 0, 0, 0)) := by decide +kernel
theorem kc_162_158 : zcode 162 158 = some (.iaload, 1, (0, 0, 0, 0)) := by decide +kernel
theorem kc_162_159 : zcode 162 159 = some (.putfield 284, 3, (8, 7, 683, 0)) := by decide +kernel
theorem kc_162_162 : zcode 162 162 = some (.aload_n 0, 1, (0, 0, 0, 0)) := by decide +kernel
theorem kc_162_163 : zcode 162 163 = some (.aload_n 1, 1, (0, 0, 0, 0)) := by decide +kernel
theorem kc_162_164 : zcode 162 164 = some (.bipush 53, 2, (0, 0, 0, 0)) := by decide +kernel
theorem kc_162_166 : zcode 162 166 = some (.iaload, 1, (0, 0, 0, 0)) := by decide +kernel
theorem kc_162_167 : zcode 162 167 = some (.putfield 299, 3, (8, 10, 686, 0)) := by decide +kernel
theorem kc_162_170 : zcode 162 170 = some (.return_, 1, (0, 0, 0, 0)) := by decide +kernel
theorem kc_163_0 : zcode 163 0 = some (.aload_n 0, 1, (0, 0, 0, 0)) := by decide +kernel
theorem kc_163_1 : zcode 163 1 = some (.iconst 1, 1, (0, 0, 0, 0)) := by decide +kernel
theorem kc_163_2 : zcode 163 2 = some (.putfield 302, 3, (8, 17, 693, 0)) := by decide +kernel
theorem kc_163_5 : zcode 163 5 = some (.aload_n 0, 1, (0, 0, 0, 0)) := by decide +kernel
theorem kc_163_6 : zcode 163 6 = some (.aload_n 0, 1, (0, 0, 0, 0)) := by decide +kernel
theorem kc_163_7 : zcode 163 7 = some (.getfield 36, 3, (8, 15, 691, 0)) := by decide +kernel
theorem kc_163_10 : zcode 163 10 = some (.invokevirtual 289, 3, (161, 0, 1069, 0)) := by decide +kernel
theorem kc_163_13 : zcode 163 13 = some (.aload_n 0, 1, (0, 0, 0, 0)) := by decide +kernel
theorem kc_163_14 : zcode 163 14 = some (.getfield 63, 3, (8, 0, 676, 0)) := by decide +kernel
theorem kc_163_17 : zcode 163 17 = some (.ireturn, 1, (0, 0, 0, 0)) := by decide +kernel
theorem kc_164_0 : zcode 164 0 = some (.aload_n 0, 1, (0, 0, 0, 0)) := by decide +kernel
theorem kc_164_1 : zcode 164 1 = some (.getfield 302, 3, (8, 17, 693, 0)) := by decide +kernel
theorem kc_164_4 : zcode 164 4 = some (.ifCond .ne 6, 3, (10, 0, 0, 0)) := by decide +kernel
theorem kc_164_7 : zcode 164 7 = some (.bipush (-3), 2, (0, 0, 0, 0)) := by decide +kernel
theorem kc_164_9 : zcode 164 9 = some (.ireturn, 1, (0, 0, 0, 0)) := by decide +kernel
theorem kc_164_10 : zcode 164 10 = some (.aload_n 0, 1, (0, 0, 0, 0)) := by decide +kernel
theorem kc_164_11 : zcode 164 11 = some (.aload_n 0, 1, (0, 0, 0, 0)) := by decide +kernel
theorem kc_164_12 : zcode 164 12 = some (.getfield 36, 3, (8, 15, 691, 0)) := by decide +kernel
theorem kc_164_15 : zcode 164 15 = some (.invokevirtual 296, 3, (162, 0, 1078, 0)) := by decide +kernel
theorem kc_164_18 : zcode 164 18 = some (.aload_n 0, 1, (0, 0, 0, 0)) := by decide +kernel
theorem kc_164_19 : zcode 164 19 = some (.getfield 63, 3, (8, 0, 676, 0)) := by decide +kernel
theorem kc_164_22 : zcode 164 22 = some (.ireturn, 1, (0, 0, 0, 0)) := by decide +kernel
theorem kc_165_0 : zcode 165 0 = some (.iload_n 1, 1, (0, 0, 0, 0)) := by decide +kernel
theorem kc_165_1 : zcode 165 1 = some (.tableswitch 51 0 3 #[31, 36, 41, 46], 31, (0, 0, 0, 0)) := by decide +kernel
theorem kc_165_32 : zcode 165 32 = some (.aload_n 0, 1, (0, 0, 0, 0)) := by decide +kernel
theorem kc_165_33 : zcode 165 33 = some (.getfield 278, 3, (8, 4, 680, 0)) := by decide +kernel
theorem kc_165_36 : zcode 165 36 = some (.ireturn, 1, (0, 0, 0, 0)) := by decide +kernel
theorem kc_165_37 : zcode 165 37 = some (.aload_n 0, 1, (0, 0, 0, 0)) := by decide +kernel
theorem kc_165_38 : zcode 165 38 = some (.getfield 284, 3, (8, 7, 683, 0)) := by decide +kernel
theorem kc_165_41 : zcode 165 41 = some (.ireturn, 1, (0, 0, 0, 0)) := by decide +kernel
theorem kc_165_42 : zcode 165 42 = some (.aload_n 0, 1, (0, 0, 0, 0)) := by decide +kernel
theorem kc_165_43 : zcode 165 43 = some (.getfield 299, 3, (8, 10, 686, 0)) := by decide +kernel
theorem kc_165_46 : zcode 165 46 = some (.ireturn, 1, (0, 0, 0, 0)) := by decide +kernel
theorem kc_165_47 : zcode 165 47 = some (.aload_n 0, 1, (0, 0, 0, 0)) := by decide +kernel
theorem kc_165_48 : zcode 165 48 = some (.getfield 113, 3, (8, 14, 690, 0)) := by decide +kernel
theorem kc_165_51 : zcode 165 51 = some (.ireturn, 1, (0, 0, 0, 0)) := by decide +kernel
theorem kc_165_52 : zcode 165 52 = some (.bipush (-2), 2, (0, 0, 0, 0)) := by decide +kernel
theorem kc_165_54 : zcode 165 54 = some (.ireturn, 1, (0, 0, 0, 0)) := by decide +kernel
theorem kc_166_0 : zcode 166 0 = some (.iload_n 0, 1, (0, 0, 0, 0)) := by decide +kernel
theorem kc_166_1 : zcode 166 1 = some (.iconst 0, 1, (0, 0, 0, 0)) := by decide +kernel
theorem kc_166_2 : zcode 166 2 = some (.iconst 5, 1, (0, 0, 0, 0)) := by decide +kernel
theorem kc_166_3 : zcode 166 3 = some (.invokestatic 67, 3, (94, 0, 778, 0)) := by decide +kernel
theorem kc_166_6 : zcode 166 6 = some (.ireturn, 1, (1, 0, 0, 0)) := by decide +kernel
theorem kc_167_0 : zcode 167 0 = some (.iload_n 1, 1, (0, 0, 0, 0)) := by decide +kernel
theorem kc_167_1 : zcode 167 1 = some (.invokestatic 306, 3, (166, 0, 1106, 0)) := by decide +kernel
theorem kc_167_4 : zcode 167 4 = some (.ifCond .ne 5, 3, (9, 0, 0, 0)) := by decide +kernel
theorem kc_167_7 : zcode 167 7 = some (.iconst (-1), 1, (0, 0, 0, 0)) := by decide +kernel
theorem kc_167_8 : zcode 167 8 = some (.ireturn, 1, (0, 0, 0, 0)) := by decide +kernel
theorem kc_167_9 : zcode 167 9 = some (.aload_n 0, 1, (0, 0, 0, 0)) := by decide +kernel
theorem kc_167_10 : zcode 167 10 = some (.invokevirtual 109, 3, (105, 0, 823, 0)) := by decide +kernel
theorem kc_167_13 : zcode 167 13 = some (.ifCond .ne 6, 3, (19, 0, 0, 0)) := by decide +kernel
theorem kc_167_16 : zcode 167 16 = some (.bipush (-3), 2, (0, 0, 0, 0)) := by decide +kernel
theorem kc_167_18 : zcode 167 18 = some (.ireturn, 1, (0, 0, 0, 0)) := by decide +kernel
theorem kc_167_19 : zcode 167 19 = some (.aload_n 0, 1, (0, 0, 0, 0)) := by decide +kernel
theorem kc_167_20 : zcode 167 20 = some (.getfield 50, 3, (8, 27, 703, 0)) := by decide +kernel
theorem kc_167_23 : zcode 167 23 = some (.iload_n 1, 1, (0, 0, 0, 0)) := by decide +kernel
theorem kc_167_24 : zcode 167 24 = some (.iaload, 1, (0, 0, 0, 0)) := by decide +kernel
theorem kc_167_25 : zcode 167 25 = some (.ifCond .lt 16, 3, (41, 0, 0, 0)) := by decide +kernel
theorem kc_167_28 : zcode 167 28 = some (.aload_n 0, 1, (0, 0, 0, 0)) := by decide +kernel
theorem kc_167_29 : zcode 167 29 = some (.getfield 50, 3, (8, 27, 703, 0)) := by decide +kernel
theorem kc_167_32 : zcode 167 32 = some (.iload_n 1, 1, (0, 0, 0, 0)) := by decide +kernel
theorem kc_167_33 : zcode 167 33 = some (.iaload, 1, (0, 0, 0, 0)) := by decide +kernel
theorem kc_167_34 : zcode 167 34 = some (.iconst 3, 1, (0, 0, 0, 0)) := by decide +kernel
theorem kc_167_35 : zcode 167 35 = some (.if_icmp .eq 6, 3, (41, 0, 0, 0)) := by decide +kernel
theorem kc_167_38 : zcode 167 38 = some (.bipush (-12), 2, (0, 0, 0, 0)) := by decide +kernel
theorem kc_167_40 : zcode 167 40 = some (.ireturn, 1, (0, 0, 0, 0)) := by decide +kernel
theorem kc_167_41 : zcode 167 41 = some (.iconst 0, 1, (0, 0, 0, 0)) := by decide +kernel
theorem kc_167_42 : zcode 167 42 = some (.istore_n 3, 1, (0, 0, 0, 0)) := by decide +kernel
theorem kc_167_43 : zcode 167 43 = some (.iload_n 3, 1, (0, 0, 0, 0)) := by decide +kernel
theorem kc_167_44 : zcode 167 44 = some (.aload_n 0, 1, (0, 0, 0, 0)) := by decide +kernel
theorem kc_167_45 : zcode 167 45 = some (.getfield 63, 3, (8, 0, 676, 0)) := by decide +kernel
theorem kc_167_48 : zcode 167 48 = some (.if_icmp .ge 72, 3, (120, 0, 0, 0)) := by decide +kernel
theorem kc_167_51 : zcode 167 51 = some (.aload_n 0, 1, (0, 0, 0, 0)) := by decide +kernel
theorem kc_167_52 : zcode 167 52 = some (.getfield 50, 3, (8, 27, 703, 0)) := by decide +kernel
theorem kc_167_55 : zcode 167 55 = some (.iload_n 1, 1, (0, 0, 0, 0)) := by decide +kernel
theorem kc_167_56 : zcode 167 56 = some (.iaload, 1, (0, 0, 0, 0)) := by decide +kernel
theorem kc_167_57 : zcode 167 57 = some (.ifCond .lt 23, 3, (80, 0, 0, 0)) := by decide +kernel
theorem kc_167_60 : zcode 167 60 = some (.iload_n 2, 1, (0, 0, 0, 0)) := by decide +kernel
theorem kc_167_61 : zcode 167 61 = some (.ifCond .lt 19, 3, (80, 0, 0, 0)) := by decide +kernel
theorem kc_167_64 : zcode 167 64 = some (.iload_n 2, 1, (0, 0, 0, 0)) := by decide +kernel
theorem kc_167_65 : zcode 167 65 = some (.i2l, 1, (0, 0, 0, 0)) := by decide +kernel
theorem kc_167_66 : zcode 167 66 = some (.iload_n 3, 1, (0, 0, 0, 0)) := by decide +kernel
theorem kc_167_67 : zcode 167 67 = some (.i2l, 1, (0, 0, 0, 0)) := by decide +kernel
theorem kc_167_68 : zcode 167 68 = some (.ladd, 1, (0, 0, 0, 0)) := by decide +kernel
theorem kc_167_69 : zcode 167 69 = some (.aload_n 0, 1, (0, 0, 0, 0)) := by decide +kernel
theorem kc_167_70 : zcode 167 70 = some (.getfield 53, 3, (8, 28, 704, 0)) := by decide +kernel
theorem kc_167_73 : zcode 167 73 = some (.iload_n 1, 1, (0, 0, 0, 0)) := by decide +kernel
theorem kc_167_74 : zcode 167 74 = some (.iaload, 1, (0, 0, 0, 0)) := by decide +kernel
theorem kc_167_75 : zcode 167 75 = some (.i2l, 1, (0, 0, 0, 0)) := by decide +kernel
theorem kc_167_76 : zcode 167 76 = some (.lcmp, 1, (0, 0, 0, 0)) := by decide +kernel
theorem kc_167_77 : zcode 167 77 = some (.ifCond .lt 8, 3, (85, 0, 0, 0)) := by decide +kernel
theorem kc_167_80 : zcode 167 80 = some (.bipush 100, 2, (0, 0, 0, 0)) := by decide +kernel
theorem kc_167_82 : zcode 167 82 = some (.iload_n 3, 1, (0, 0, 0, 0)) := by decide +kernel
theorem kc_167_83 : zcode 167 83 = some (.iadd, 1, (0, 0, 0, 0)) := by decide +kernel
theorem kc_167_84 : zcode 167 84 = some (.ireturn, 1, (0, 0, 0, 0)) := by decide +kernel
theorem kc_167_85 : zcode 167 85 = some (.aload_n 0, 1, (0, 0, 0, 0)) := by decide +kernel
theorem kc_167_86 : zcode 167 86 = some (.getfield 56, 3, (8, 29, 705, 0)) := by decide +kernel
theorem kc_167_89 : zcode 167 89 = some (.bipush 60, 2, (0, 0, 0, 0)) := by decide +kernel
theorem kc_167_91 : zcode 167 91 = some (.iload_n 1, 1, (0, 0, 0, 0)) := by decide +kernel
theorem kc_167_92 : zcode 167 92 = some (.imul, 1, (0, 0, 0, 0)) := by decide +kernel
theorem kc_167_93 : zcode 167 93 = some (.iload_n 2, 1, (0, 0, 0, 0)) := by decide +kernel
theorem kc_167_94 : zcode 167 94 = some (.iadd, 1, (0, 0, 0, 0)) := by decide +kernel
theorem kc_167_95 : zcode 167 95 = some (.iload_n 3, 1, (0, 0, 0, 0)) := by decide +kernel
theorem kc_167_96 : zcode 167 96 = some (.iadd, 1, (0, 0, 0, 0)) := by decide +kernel
theorem kc_167_97 : zcode 167 97 = some (.laload, 1, (0, 0, 0, 0)) := by decide +kernel
theorem kc_167_98 : zcode 167 98 = some (.aload_n 0, 1, (0, 0, 0, 0)) := by decide +kernel
theorem kc_167_99 : zcode 167 99 = some (.aload_n 0, 1, (0, 0, 0, 0)) := by decide +kernel
theorem kc_167_100 : zcode 167 100 = some (.getfield 106, 3, (8, 3, 679, 0)) := by decide +kernel
theorem kc_167_103 : zcode 167 103 = some (.iload_n 3, 1, (0, 0, 0, 0)) := by decide +kernel
theorem kc_167_104 : zcode 167 104 = some (.invokevirtual 208, 3, (126, 0, 912, 0)) := by decide +kernel
theorem kc_167_107 : zcode 167 107 = some (.i2l, 1, (0, 0, 0, 0)) := by decide +kernel
theorem kc_167_108 : zcode 167 108 = some (.lcmp, 1, (0, 0, 0, 0)) := by decide +kernel
theorem kc_167_109 : zcode 167 109 = some (.ifCond .eq 5, 3, (114, 0, 0, 0)) := by decide +kernel
theorem kc_167_112 : zcode 167 112 = some (.iload_n 3, 1, (0, 0, 0, 0)) := by decide +kernel
theorem kc_167_113 : zcode 167 113 = some (.ireturn, 1, (0, 0, 0, 0)) := by decide +kernel
theorem kc_167_114 : zcode 167 114 = some (.iinc 3 1, 3, (0, 0, 0, 0)) := by decide +kernel
theorem kc_167_117 : zcode 167 117 = some (.goto (-74), 3, (43, 0, 0, 0)) := by decide +kernel
theorem kc_167_120 : zcode 167 120 = some (.bipush (-5), 2, (0, 0, 0, 0)) := by decide +kernel
theorem kc_167_122 : zcode 167 122 = some (.ireturn, 1, (0, 0, 0, 0)) := by decide +kernel
theorem kc_168_0 : zcode 168 0 = some (.iload_n 1, 1, (0, 0, 0, 0)) := by decide +kernel
theorem kc_168_1 : zcode 168 1 = some (.invokestatic 306, 3, (166, 0, 1106, 0)) := by decide +kernel
theorem kc_168_4 : zcode 168 4 = some (.ifCond .ne 5, 3, (9, 0, 0, 0)) := by decide +kernel
theorem kc_168_7 : zcode 168 7 = some (.iconst (-1), 1, (0, 0, 0, 0)) := by decide +kernel
theorem kc_168_8 : zcode 168 8 = some (.ireturn, 1, (0, 0, 0, 0)) := by decide +kernel
theorem kc_168_9 : zcode 168 9 = some (.iload_n 2, 1, (0, 0, 0, 0)) := by decide +kernel
theorem kc_168_10 : zcode 168 10 = some (.iconst (-1), 1, (0, 0, 0, 0)) := by decide +kernel
theorem kc_168_11 : zcode 168 11 = some (.iconst 4, 1, (0, 0, 0, 0)) := by decide +kernel
theorem kc_168_12 : zcode 168 12 = some (.invokestatic 67, 3, (94, 0, 778, 0)) := by decide +kernel
theorem kc_168_15 : zcode 168 15 = some (.ifCond .eq 13, 3, (28, 0, 0, 0)) := by decide +kernel
theorem kc_168_18 : zcode 168 18 = some (.iload_n 2, 1, (0, 0, 0, 0)) := by decide +kernel
theorem kc_168_19 : zcode 168 19 = some (.ifCond .lt 12, 3, (31, 0, 0, 0)) := by decide +kernel
theorem kc_168_22 : zcode 168 22 = some (.iload_n 3, 1, (0, 0, 0, 0)) := by decide +kernel
theorem kc_168_23 : zcode 168 23 = some (.bipush 60, 2, (0, 0, 0, 0)) := by decide +kernel
theorem kc_168_25 : zcode 168 25 = some (.if_icmp .le 6, 3, (31, 0, 0, 0)) := by decide +kernel
theorem kc_168_28 : zcode 168 28 = some (.bipush (-2), 2, (0, 0, 0, 0)) := by decide +kernel
theorem kc_168_30 : zcode 168 30 = some (.ireturn, 1, (0, 0, 0, 0)) := by decide +kernel
theorem kc_168_31 : zcode 168 31 = some (.iload_n 2, 1, (0, 0, 0, 0)) := by decide +kernel
theorem kc_168_32 : zcode 168 32 = some (.ifCond .lt 10, 3, (42, 0, 0, 0)) := by decide +kernel
theorem kc_168_35 : zcode 168 35 = some (.iload_n 3, 1, (0, 0, 0, 0)) := by decide +kernel
theorem kc_168_36 : zcode 168 36 = some (.ifCond .ge 6, 3, (42, 0, 0, 0)) := by decide +kernel
theorem kc_168_39 : zcode 168 39 = some (.bipush (-14), 2, (0, 0, 0, 0)) := by decide +kernel
theorem kc_168_41 : zcode 168 41 = some (.ireturn, 1, (0, 0, 0, 0)) := by decide +kernel
theorem kc_168_42 : zcode 168 42 = some (.aload_n 0, 1, (0, 0, 0, 0)) := by decide +kernel
theorem kc_168_43 : zcode 168 43 = some (.getfield 50, 3, (8, 27, 703, 0)) := by decide +kernel
theorem kc_168_46 : zcode 168 46 = some (.iload_n 1, 1, (0, 0, 0, 0)) := by decide +kernel
theorem kc_168_47 : zcode 168 47 = some (.iload_n 2, 1, (0, 0, 0, 0)) := by decide +kernel
theorem kc_168_48 : zcode 168 48 = some (.iastore, 1, (0, 0, 0, 0)) := by decide +kernel
theorem kc_168_49 : zcode 168 49 = some (.aload_n 0, 1, (0, 0, 0, 0)) := by decide +kernel
theorem kc_168_50 : zcode 168 50 = some (.getfield 53, 3, (8, 28, 704, 0)) := by decide +kernel
theorem kc_168_53 : zcode 168 53 = some (.iload_n 1, 1, (0, 0, 0, 0)) := by decide +kernel
theorem kc_168_54 : zcode 168 54 = some (.iload_n 2, 1, (0, 0, 0, 0)) := by decide +kernel
theorem kc_168_55 : zcode 168 55 = some (.ifCond .ge 7, 3, (62, 0, 0, 0)) := by decide +kernel
theorem kc_168_58 : zcode 168 58 = some (.iconst 0, 1, (0, 0, 0, 0)) := by decide +kernel
theorem kc_168_59 : zcode 168 59 = some (.goto 4, 3, (63, 0, 0, 0)) := by decide +kernel
theorem kc_168_62 : zcode 168 62 = some (.iload_n 3, 1, (0, 0, 0, 0)) := by decide +kernel
theorem kc_168_63 : zcode 168 63 = some (.iastore, 1, (0, 0, 0, 0)) := by decide +kernel
theorem kc_168_64 : zcode 168 64 = some (.iconst 0, 1, (0, 0, 0, 0)) := by decide +kernel
theorem kc_168_65 : zcode 168 65 = some (.istore 4, 2, (0, 0, 0, 0)) := by decide +kernel
theorem kc_168_67 : zcode 168 67 = some (.iload 4, 2, (0, 0, 0, 0)) := by decide +kernel
theorem kc_168_69 : zcode 168 69 = some (.bipush 60, 2, (0, 0, 0, 0)) := by decide +kernel
theorem kc_168_71 : zcode 168 71 = some (.if_icmp .ge 22, 3, (93, 0, 0, 0)) := by decide +kernel
theorem kc_168_74 : zcode 168 74 = some (.aload_n 0, 1, (0, 0, 0, 0)) := by decide +kernel
theorem kc_168_75 : zcode 168 75 = some (.getfield 56, 3, (8, 29, 705, 0)) := by decide +kernel
theorem kc_168_78 : zcode 168 78 = some (.bipush 60, 2, (0, 0, 0, 0)) := by decide +kernel
theorem kc_168_80 : zcode 168 80 = some (.iload_n 1, 1, (0, 0, 0, 0)) := by decide +kernel
theorem kc_168_81 : zcode 168 81 = some (.imul, 1, (0, 0, 0, 0)) := by decide +kernel
theorem kc_168_82 : zcode 168 82 = some (.iload 4, 2, (0, 0, 0, 0)) := by decide +kernel
theorem kc_168_84 : zcode 168 84 = some (.iadd, 1, (0, 0, 0, 0)) := by decide +kernel
theorem kc_168_85 : zcode 168 85 = some (.lconst 0, 1, (0, 0, 0, 0)) := by decide +kernel
theorem kc_168_86 : zcode 168 86 = some (.lastore, 1, (0, 0, 0, 0)) := by decide +kernel
theorem kc_168_87 : zcode 168 87 = some (.iinc 4 1, 3, (0, 0, 0, 0)) := by decide +kernel
theorem kc_168_90 : zcode 168 90 = some (.goto (-23), 3, (67, 0, 0, 0)) := by decide +kernel
theorem kc_168_93 : zcode 168 93 = some (.iconst 1, 1, (0, 0, 0, 0)) := by decide +kernel
theorem kc_168_94 : zcode 168 94 = some (.ireturn, 1, (0, 0, 0, 0)) := by decide +kernel
theorem kc_169_0 : zcode 169 0 = some (.iload_n 0, 1, (0, 0, 0, 0)) := by decide +kernel
theorem kc_169_1 : zcode 169 1 = some (.tableswitch 47 0 3 #[31, 36, 41, 45], 31, (0, 0, 0, 0)) := by decide +kernel
theorem kc_169_32 : zcode 169 32 = some (.lload_n 1, 1, (0, 0, 0, 0)) := by decide +kernel
theorem kc_169_33 : zcode 169 33 = some (.l2i, 1, (0, 0, 0, 0)) := by decide +kernel
theorem kc_169_34 : zcode 169 34 = some (.i2b, 1, (0, 0, 0, 0)) := by decide +kernel
theorem kc_169_35 : zcode 169 35 = some (.i2l, 1, (0, 0, 0, 0)) := by decide +kernel
theorem kc_169_36 : zcode 169 36 = some (.lreturn, 1, (0, 0, 0, 0)) := by decide +kernel
theorem kc_169_37 : zcode 169 37 = some (.lload_n 1, 1, (0, 0, 0, 0)) := by decide +kernel
theorem kc_169_38 : zcode 169 38 = some (.l2i, 1, (0, 0, 0, 0)) := by decide +kernel
theorem kc_169_39 : zcode 169 39 = some (.i2s, 1, (0, 0, 0, 0)) := by decide +kernel
theorem kc_169_40 : zcode 169 40 = some (.i2l, 1, (0, 0, 0, 0)) := by decide +kernel
theorem kc_169_41 : zcode 169 41 = some (.lreturn, 1, (0, 0, 0, 0)) := by decide +kernel
theorem kc_169_42 : zcode 169 42 = some (.lload_n 1, 1, (0, 0, 0, 0)) := by decide +kernel
theorem kc_169_43 : zcode 169 43 = some (.l2i, 1, (0, 0, 0, 0)) := by decide +kernel
theorem kc_169_44 : zcode 169 44 = some (.i2l, 1, (0, 0, 0, 0)) := by decide +kernel
theorem kc_169_45 : zcode 169 45 = some (.lreturn, 1, (0, 0, 0, 0)) := by decide +kernel
theorem kc_169_46 : zcode 169 46 = some (.lload_n 1, 1, (0, 0, 0, 0)) := by decide +kernel
theorem kc_169_47 : zcode 169 47 = some (.lreturn, 1, (0, 0, 0, 0)) := by decide +kernel
theorem kc_169_48 : zcode 169 48 = some (.lload_n 1, 1, (0, 0, 0, 0)) := by decide +kernel
theorem kc_169_49 : zcode 169 49 = some (.lconst 0, 1, (0, 0, 0, 0)) := by decide +kernel
theorem kc_169_50 : zcode 169 50 = some (.lcmp, 1, (0, 0, 0, 0)) := by decide +kernel
theorem kc_169_51 : zcode 169 51 = some (.ifCond .eq 7, 3, (58, 0, 0, 0)) := by decide +kernel
theorem kc_169_54 : zcode 169 54 = some (.lconst 1, 1, (0, 0, 0, 0)) := by decide +kernel
theorem kc_169_55 : zcode 169 55 = some (.goto 4, 3, (59, 0, 0, 0)) := by decide +kernel
theorem kc_169_58 : zcode 169 58 = some (.lconst 0, 1, (0, 0, 0, 0)) := by decide +kernel
theorem kc_169_59 : zcode 169 59 = some (.lreturn, 1, (0, 0, 0, 0)) := by decide +kernel
theorem kc_170_0 : zcode 170 0 = some (.iload_n 1, 1, (0, 0, 0, 0)) := by decide +kernel
theorem kc_170_1 : zcode 170 1 = some (.invokestatic 306, 3, (166, 0, 1106, 0)) := by decide +kernel
theorem kc_170_4 : zcode 170 4 = some (.ifCond .ne 5, 3, (9, 0, 0, 0)) := by decide +kernel
theorem kc_170_7 : zcode 170 7 = some (.iconst (-1), 1, (0, 0, 0, 0)) := by decide +kernel
theorem kc_170_8 : zcode 170 8 = some (.ireturn, 1, (0, 0, 0, 0)) := by decide +kernel
theorem kc_170_9 : zcode 170 9 = some (.aload_n 0, 1, (0, 0, 0, 0)) := by decide +kernel
theorem kc_170_10 : zcode 170 10 = some (.getfield 50, 3, (8, 27, 703, 0)) := by decide +kernel
theorem kc_170_13 : zcode 170 13 = some (.iload_n 1, 1, (0, 0, 0, 0)) := by decide +kernel
theorem kc_170_14 : zcode 170 14 = some (.iaload, 1, (0, 0, 0, 0)) := by decide +kernel
theorem kc_170_15 : zcode 170 15 = some (.ifCond .ge 6, 3, (21, 0, 0, 0)) := by decide +kernel
theorem kc_170_18 : zcode 170 18 = some (.bipush (-11), 2, (0, 0, 0, 0)) := by decide +kernel
theorem kc_170_20 : zcode 170 20 = some (.ireturn, 1, (0, 0, 0, 0)) := by decide +kernel
theorem kc_170_21 : zcode 170 21 = some (.iload_n 2, 1, (0, 0, 0, 0)) := by decide +kernel
theorem kc_170_22 : zcode 170 22 = some (.iconst 0, 1, (0, 0, 0, 0)) := by decide +kernel
theorem kc_170_23 : zcode 170 23 = some (.aload_n 0, 1, (0, 0, 0, 0)) := by decide +kernel
theorem kc_170_24 : zcode 170 24 = some (.getfield 53, 3, (8, 28, 704, 0)) := by decide +kernel
theorem kc_170_27 : zcode 170 27 = some (.iload_n 1, 1, (0, 0, 0, 0)) := by decide +kernel
theorem kc_170_28 : zcode 170 28 = some (.iaload, 1, (0, 0, 0, 0)) := by decide +kernel
theorem kc_170_29 : zcode 170 29 = some (.iconst 1, 1, (0, 0, 0, 0)) := by decide +kernel
theorem kc_170_30 : zcode 170 30 = some (.isub, 1, (0, 0, 0, 0)) := by decide +kernel
theorem kc_170_31 : zcode 170 31 = some (.invokestatic 67, 3, (94, 0, 778, 0)) := by decide +kernel
theorem kc_170_34 : zcode 170 34 = some (.ifCond .ne 6, 3, (40, 0, 0, 0)) := by decide +kernel
theorem kc_170_37 : zcode 170 37 = some (.bipush (-13), 2, (0, 0, 0, 0)) := by decide +kernel
theorem kc_170_39 : zcode 170 39 = some (.ireturn, 1, (0, 0, 0, 0)) := by decide +kernel
theorem kc_170_40 : zcode 170 40 = some (.aload_n 0, 1, (0, 0, 0, 0)) := by decide +kernel
theorem kc_170_41 : zcode 170 41 = some (.getfield 56, 3, (8, 29, 705, 0)) := by decide +kernel
theorem kc_170_44 : zcode 170 44 = some (.bipush 60, 2, (0, 0, 0, 0)) := by decide +kernel
theorem kc_170_46 : zcode 170 46 = some (.iload_n 1, 1, (0, 0, 0, 0)) := by decide +kernel
theorem kc_170_47 : zcode 170 47 = some (.imul, 1, (0, 0, 0, 0)) := by decide +kernel
theorem kc_170_48 : zcode 170 48 = some (.iload_n 2, 1, (0, 0, 0, 0)) := by decide +kernel
theorem kc_170_49 : zcode 170 49 = some (.iadd, 1, (0, 0, 0, 0)) := by decide +kernel
theorem kc_170_50 : zcode 170 50 = some (.aload_n 0, 1, (0, 0, 0, 0)) := by decide +kernel
theorem kc_170_51 : zcode 170 51 = some (.getfield 50, 3, (8, 27, 703, 0)) := by decide +kernel
theorem kc_170_54 : zcode 170 54 = some (.iload_n 1, 1, (0, 0, 0, 0)) := by decide +kernel
theorem kc_170_55 : zcode 170 55 = some (.iaload, 1, (0, 0, 0, 0)) := by decide +kernel
theorem kc_170_56 : zcode 170 56 = some (.lload_n 3, 1, (0, 0, 0, 0)) := by decide +kernel
theorem kc_170_57 : zcode 170 57 = some (.invokestatic 309, 3, (169, 0, 1117, 0)) := by decide +kernel
theorem kc_170_60 : zcode 170 60 = some (.lastore, 1, (0, 0, 0, 0)) := by decide +kernel
theorem kc_170_61 : zcode 170 61 = some (.iconst 1, 1, (0, 0, 0, 0)) := by decide +kernel
theorem kc_170_62 : zcode 170 62 = some (.ireturn, 1, (0, 0, 0, 0)) := by decide +kernel
theorem kc_171_0 : zcode 171 0 = some (.iload_n 1, 1, (0, 0, 0, 0)) := by decide +kernel
theorem kc_171_1 : zcode 171 1 = some (.invokestatic 306, 3, (166, 0, 1106, 0)) := by decide +kernel
theorem kc_171_4 : zcode 171 4 = some (.ifCond .eq 33, 3, (37, 0, 0, 0)) := by decide +kernel
theorem kc_171_7 : zcode 171 7 = some (.iload_n 2, 1, (0, 0, 0, 0)) := by decide +kernel
theorem kc_171_8 : zcode 171 8 = some (.iconst 0, 1, (0, 0, 0, 0)) := by decide +kernel
theorem kc_171_9 : zcode 171 9 = some (.aload_n 0, 1, (0, 0, 0, 0)) := by decide +kernel
theorem kc_171_10 : zcode 171 10 = some (.getfield 53, 3, (8, 28, 704, 0)) := by decide +kernel
theorem kc_171_13 : zcode 171 13 = some (.iload_n 1, 1, (0, 0, 0, 0)) := by decide +kernel
theorem kc_171_14 : zcode 171 14 = some (.iaload, 1, (0, 0, 0, 0)) := by decide +kernel
theorem kc_171_15 : zcode 171 15 = some (.iconst 1, 1, (0, 0, 0, 0)) := by decide +kernel
theorem kc_171_16 : zcode 171 16 = some (.isub, 1, (0, 0, 0, 0)) := by decide +kernel
theorem kc_171_17 : zcode 171 17 = some (.invokestatic 67, 3, (94, 0, 778, 0)) := by decide +kernel
theorem kc_171_20 : zcode 171 20 = some (.ifCond .eq 17, 3, (37, 0, 0, 0)) := by decide +kernel
theorem kc_171_23 : zcode 171 23 = some (.aload_n 0, 1, (0, 0, 0, 0)) := by decide +kernel
theorem kc_171_24 : zcode 171 24 = some (.getfield 56, 3, (8, 29, 705, 0)) := by decide +kernel
theorem kc_171_27 : zcode 171 27 = some (.bipush 60, 2, (0, 0, 0, 0)) := by decide +kernel
theorem kc_171_29 : zcode 171 29 = some (.iload_n 1, 1, (0, 0, 0, 0)) := by decide +kernel
theorem kc_171_30 : zcode 171 30 = some (.imul, 1, (0, 0, 0, 0)) := by decide +kernel
theorem kc_171_31 : zcode 171 31 = some (.iload_n 2, 1, (0, 0, 0, 0)) := by decide +kernel
theorem kc_171_32 : zcode 171 32 = some (.iadd, 1, (0, 0, 0, 0)) := by decide +kernel
theorem kc_171_33 : zcode 171 33 = some (.laload, 1, (0, 0, 0, 0)) := by decide +kernel
theorem kc_171_34 : zcode 171 34 = some (.goto 6, 3, (40, 0, 0, 0)) := by decide +kernel
theorem kc_171_37 : zcode 171 37 = some (.ldc2_w 202, 3, (0, 0, 862, -9223372036854775808)) := by decide +kernel
theorem kc_171_40 : zcode 171 40 = some (.lreturn, 1, (0, 0, 0, 0)) := by decide +kernel
theorem kc_172_0 : zcode 172 0 = some (.iload_n 1, 1, (0, 0, 0, 0)) := by decide +kernel
theorem kc_172_1 : zcode 172 1 = some (.invokestatic 306, 3, (166, 0, 1106, 0)) := by decide +kernel
theorem kc_172_4 : zcode 172 4 = some (.ifCond .eq 10, 3, (14, 0, 0, 0)) := by decide +kernel
theorem kc_172_7 : zcode 172 7 = some (.iload_n 3, 1, (0, 0, 0, 0)) := by decide +kernel
theorem kc_172_8 : zcode 172 8 = some (.invokestatic 306, 3, (166, 0, 1106, 0)) := by decide +kernel
theorem kc_172_11 : zcode 172 11 = some (.ifCond .ne 5, 3, (16, 0, 0, 0)) := by decide +kernel
theorem kc_172_14 : zcode 172 14 = some (.iconst (-1), 1, (0, 0, 0, 0)) := by decide +kernel
theorem kc_172_15 : zcode 172 15 = some (.ireturn, 1, (0, 0, 0, 0)) := by decide +kernel
theorem kc_172_16 : zcode 172 16 = some (.aload_n 0, 1, (0, 0, 0, 0)) := by decide +kernel
theorem kc_172_17 : zcode 172 17 = some (.getfield 50, 3, (8, 27, 703, 0)) := by decide +kernel
theorem kc_172_20 : zcode 172 20 = some (.iload_n 1, 1, (0, 0, 0, 0)) := by decide +kernel
theorem kc_172_21 : zcode 172 21 = some (.iaload, 1, (0, 0, 0, 0)) := by decide +kernel
theorem kc_172_22 : zcode 172 22 = some (.ifCond .lt 12, 3, (34, 0, 0, 0)) := by decide +kernel
theorem kc_172_25 : zcode 172 25 = some (.aload_n 0, 1, (0, 0, 0, 0)) := by decide +kernel
theorem kc_172_26 : zcode 172 26 = some (.getfield 50, 3, (8, 27, 703, 0)) := by decide +kernel
theorem kc_172_29 : zcode 172 29 = some (.iload_n 3, 1, (0, 0, 0, 0)) := by decide +kernel
theorem kc_172_30 : zcode 172 30 = some (.iaload, 1, (0, 0, 0, 0)) := by decide +kernel
theorem kc_172_31 : zcode 172 31 = some (.ifCond .ge 6, 3, (37, 0, 0, 0)) := by decide +kernel
theorem kc_172_34 : zcode 172 34 = some (.bipush (-11), 2, (0, 0, 0, 0)) := by decide +kernel
theorem kc_172_36 : zcode 172 36 = some (.ireturn, 1, (0, 0, 0, 0)) := by decide +kernel
theorem kc_172_37 : zcode 172 37 = some (.aload_n 0, 1, (0, 0, 0, 0)) := by decide +kernel
theorem kc_172_38 : zcode 172 38 = some (.getfield 50, 3, (8, 27, 703, 0)) := by decide +kernel
theorem kc_172_41 : zcode 172 41 = some (.iload_n 1, 1, (0, 0, 0, 0)) := by decide +kernel
theorem kc_172_42 : zcode 172 42 = some (.iaload, 1, (0, 0, 0, 0)) := by decide +kernel
theorem kc_172_43 : zcode 172 43 = some (.aload_n 0, 1, (0, 0, 0, 0)) := by decide +kernel
theorem kc_172_44 : zcode 172 44 = some (.getfield 50, 3, (8, 27, 703, 0)) := by decide +kernel
theorem kc_172_47 : zcode 172 47 = some (.iload_n 3, 1, (0, 0, 0, 0)) := by decide +kernel
theorem kc_172_48 : zcode 172 48 = some (.iaload, 1, (0, 0, 0, 0)) := by decide +kernel
theorem kc_172_49 : zcode 172 49 = some (.if_icmp .eq 6, 3, (55, 0, 0, 0)) := by decide +kernel
theorem kc_172_52 : zcode 172 52 = some (.bipush (-12), 2, (0, 0, 0, 0)) := by decide +kernel
theorem kc_172_54 : zcode 172 54 = some (.ireturn, 1, (0, 0, 0, 0)) := by decide +kernel
theorem kc_172_55 : zcode 172 55 = some (.iload 5, 2, (0, 0, 0, 0)) := by decide +kernel
theorem kc_172_57 : zcode 172 57 = some (.ifCond .lt 47, 3, (104, 0, 0, 0)) := by decide +kernel
theorem kc_172_60 : zcode 172 60 = some (.iload_n 2, 1, (0, 0, 0, 0)) := by decide +kernel
theorem kc_172_61 : zcode 172 61 = some (.ifCond .lt 43, 3, (104, 0, 0, 0)) := by decide +kernel
theorem kc_172_64 : zcode 172 64 = some (.iload 4, 2, (0, 0, 0, 0)) := by decide +kernel
theorem kc_172_66 : zcode 172 66 = some (.ifCond .lt 38, 3, (104, 0, 0, 0)) := by decide +kernel
theorem kc_172_69 : zcode 172 69 = some (.iload_n 2, 1, (0, 0, 0, 0)) := by decide +kernel
theorem kc_172_70 : zcode 172 70 = some (.i2l, 1, (0, 0, 0, 0)) := by decide +kernel
theorem kc_172_71 : zcode 172 71 = some (.iload 5, 2, (0, 0, 0, 0)) := by decide +kernel
theorem kc_172_73 : zcode 172 73 = some (.i2l, 1, (0, 0, 0, 0)) := by decide +kernel
theorem kc_172_74 : zcode 172 74 = some (.ladd, 1, (0, 0, 0, 0)) := by decide +kernel
theorem kc_172_75 : zcode 172 75 = some (.aload_n 0, 1, (0, 0, 0, 0)) := by decide +kernel
theorem kc_172_76 : zcode 172 76 = some (.getfield 53, 3, (8, 28, 704, 0)) := by decide +kernel
theorem kc_172_79 : zcode 172 79 = some (.iload_n 1, 1, (0, 0, 0, 0)) := by decide +kernel
theorem kc_172_80 : zcode 172 80 = some (.iaload, 1, (0, 0, 0, 0)) := by decide +kernel
theorem kc_172_81 : zcode 172 81 = some (.i2l, 1, (0, 0, 0, 0)) := by decide +kernel
theorem kc_172_82 : zcode 172 82 = some (.lcmp, 1, (0, 0, 0, 0)) := by decide +kernel
theorem kc_172_83 : zcode 172 83 = some (.ifCond .gt 21, 3, (104, 0, 0, 0)) := by decide +kernel
theorem kc_172_86 : zcode 172 86 = some (.iload 4, 2, (0, 0, 0, 0)) := by decide +kernel
theorem kc_172_88 : zcode 172 88 = some (.i2l, 1, (0, 0, 0, 0)) := by decide +kernel
theorem kc_172_89 : zcode 172 89 = some (.iload 5, 2, (0, 0, 0, 0)) := by decide +kernel
theorem kc_172_91 : zcode 172 91 = some (.i2l, 1, (0, 0, 0, 0)) := by decide +kernel
theorem kc_172_92 : zcode 172 92 = some (.ladd, 1, (0, 0, 0, 0)) := by decide +kernel
theorem kc_172_93 : zcode 172 93 = some (.aload_n 0, 1, (0, 0, 0, 0)) := by decide +kernel
theorem kc_172_94 : zcode 172 94 = some (.getfield 53, 3, (8, 28, 704, 0)) := by decide +kernel
theorem kc_172_97 : zcode 172 97 = some (.iload_n 3, 1, (0, 0, 0, 0)) := by decide +kernel
theorem kc_172_98 : zcode 172 98 = some (.iaload, 1, (0, 0, 0, 0)) := by decide +kernel
theorem kc_172_99 : zcode 172 99 = some (.i2l, 1, (0, 0, 0, 0)) := by decide +kernel
theorem kc_172_100 : zcode 172 100 = some (.lcmp, 1, (0, 0, 0, 0)) := by decide +kernel
theorem kc_172_101 : zcode 172 101 = some (.ifCond .le 6, 3, (107, 0, 0, 0)) := by decide +kernel
theorem kc_172_104 : zcode 172 104 = some (.bipush (-13), 2, (0, 0, 0, 0)) := by decide +kernel
theorem kc_172_106 : zcode 172 106 = some (.ireturn, 1, (0, 0, 0, 0)) := by decide +kernel
theorem kc_172_107 : zcode 172 107 = some (.iconst 0, 1, (0, 0, 0, 0)) := by decide +kernel
theorem kc_172_108 : zcode 172 108 = some (.istore 6, 2, (0, 0, 0, 0)) := by decide +kernel
theorem kc_172_110 : zcode 172 110 = some (.iload 6, 2, (0, 0, 0, 0)) := by decide +kernel
theorem kc_172_112 : zcode 172 112 = some (.iload 5, 2, (0, 0, 0, 0)) := by decide +kernel
theorem kc_172_114 : zcode 172 114 = some (.if_icmp .ge 30, 3, (144, 0, 0, 0)) := by decide +kernel
theorem kc_172_117 : zcode 172 117 = some (.aload_n 0, 1, (0, 0, 0, 0)) := by decide +kernel
theorem kc_172_118 : zcode 172 118 = some (.getfield 60, 3, (8, 30, 706, 0)) := by decide +kernel
theorem kc_172_121 : zcode 172 121 = some (.iload 6, 2, (0, 0, 0, 0)) := by decide +kernel
theorem kc_172_123 : zcode 172 123 = some (.aload_n 0, 1, (0, 0, 0, 0)) := by decide +kernel
theorem kc_172_124 : zcode 172 124 = some (.getfield 56, 3, (8, 29, 705, 0)) := by decide +kernel
theorem kc_172_127 : zcode 172 127 = some (.bipush 60, 2, (0, 0, 0, 0)) := by decide +kernel
theorem kc_172_129 : zcode 172 129 = some (.iload_n 1, 1, (0, 0, 0, 0)) := by decide +kernel
theorem kc_172_130 : zcode 172 130 = some (.imul, 1, (0, 0, 0, 0)) := by decide +kernel
theorem kc_172_131 : zcode 172 131 = some (.iload_n 2, 1, (0, 0, 0, 0)) := by decide +kernel
theorem kc_172_132 : zcode 172 132 = some (.iadd, 1, (0, 0, 0, 0)) := by decide +kernel
theorem kc_172_133 : zcode 172 133 = some (.iload 6, 2, (0, 0, 0, 0)) := by decide +kernel
theorem kc_172_135 : zcode 172 135 = some (.iadd, 1, (0, 0, 0, 0)) := by decide +kernel
theorem kc_172_136 : zcode 172 136 = some (.laload, 1, (0, 0, 0, 0)) := by decide +kernel
theorem kc_172_137 : zcode 172 137 = some (.lastore, 1, (0, 0, 0, 0)) := by decide +kernel
theorem kc_172_138 : zcode 172 138 = some (.iinc 6 1, 3, (0, 0, 0, 0)) := by decide +kernel
theorem kc_172_141 : zcode 172 141 = some (.goto (-31), 3, (110, 0, 0, 0)) := by decide +kernel
theorem kc_172_144 : zcode 172 144 = some (.iconst 0, 1, (0, 0, 0, 0)) := by decide +kernel
theorem kc_172_145 : zcode 172 145 = some (.istore 6, 2, (0, 0, 0, 0)) := by decide +kernel
theorem kc_172_147 : zcode 172 147 = some (.iload 6, 2, (0, 0, 0, 0)) := by decide +kernel
theorem kc_172_149 : zcode 172 149 = some (.iload 5, 2, (0, 0, 0, 0)) := by decide +kernel
theorem kc_172_151 : zcode 172 151 = some (.if_icmp .ge 31, 3, (182, 0, 0, 0)) := by decide +kernel
theorem kc_172_154 : zcode 172 154 = some (.aload_n 0, 1, (0, 0, 0, 0)) := by decide +kernel
theorem kc_172_155 : zcode 172 155 = some (.getfield 56, 3, (8, 29, 705, 0)) := by decide +kernel
theorem kc_172_158 : zcode 172 158 = some (.bipush 60, 2, (0, 0, 0, 0)) := by decide +kernel
theorem kc_172_160 : zcode 172 160 = some (.iload_n 3, 1, (0, 0, 0, 0)) := by decide +kernel
theorem kc_172_161 : zcode 172 161 = some (.imul, 1, (0, 0, 0, 0)) := by decide +kernel
theorem kc_172_162 : zcode 172 162 = some (.iload 4, 2, (0, 0, 0, 0)) := by decide +kernel
theorem kc_172_164 : zcode 172 164 = some (.iadd, 1, (0, 0, 0, 0)) := by decide +kernel
theorem kc_172_165 : zcode 172 165 = some (.iload 6, 2, (0, 0, 0, 0)) := by decide +kernel
theorem kc_172_167 : zcode 172 167 = some (.iadd, 1, (0, 0, 0, 0)) := by decide +kernel
theorem kc_172_168 : zcode 172 168 = some (.aload_n 0, 1, (0, 0, 0, 0)) := by decide +kernel
theorem kc_172_169 : zcode 172 169 = some (.getfield 60, 3, (8, 30, 706, 0)) := by decide +kernel
theorem kc_172_172 : zcode 172 172 = some (.iload 6, 2, (0, 0, 0, 0)) := by decide +kernel
theorem kc_172_174 : zcode 172 174 = some (.laload, 1, (0, 0, 0, 0)) := by decide +kernel
theorem kc_172_175 : zcode 172 175 = some (.lastore, 1, (0, 0, 0, 0)) := by decide +kernel
theorem kc_172_176 : zcode 172 176 = some (.iinc 6 1, 3, (0, 0, 0, 0)) := by decide +kernel
theorem kc_172_179 : zcode 172 179 = some (.goto (-32), 3, (147, 0, 0, 0)) := by decide +kernel
theorem kc_172_182 : zcode 172 182 = some (.iload 5, 2, (0, 0, 0, 0)) := by decide +kernel
theorem kc_172_184 : zcode 172 184 = some (.ireturn, 1, (0, 0, 0, 0)) := by decide +kernel
theorem kc_173_0 : zcode 173 0 = some (.dload_n 0, 1, (0, 0, 0, 0)) := by decide +kernel
theorem kc_173_1 : zcode 173 1 = some (.dload_n 0, 1, (0, 0, 0, 0)) := by decide +kernel
theorem kc_173_2 : zcode 173 2 = some (.dcmp .l, 1, (0, 0, 0, 0)) := by decide +kernel
theorem kc_173_3 : zcode 173 3 = some (.ifCond .eq 7, 3, (10, 0, 0, 0)) := by decide +kernel
theorem kc_173_6 : zcode 173 6 = some (.iconst 1, 1, (0, 0, 0, 0)) := by decide +kernel
theorem kc_173_7 : zcode 173 7 = some (.goto 4, 3, (11, 0, 0, 0)) := by decide +kernel
theorem kc_173_10 : zcode 173 10 = some (.iconst 0, 1, (0, 0, 0, 0)) := by decide +kernel
theorem kc_173_11 : zcode 173 11 = some (.ireturn, 1, (1, 0, 0, 0)) := by decide +kernel
theorem kc_174_0 : zcode 174 0 = some (.dload_n 0, 1, (0, 0, 0, 0)) := by decide +kernel
theorem kc_174_1 : zcode 174 1 = some (.invokestatic 122, 3, (173, 0, 1035, 0)) := by decide +kernel
theorem kc_174_4 : zcode 174 4 = some (.ifCond .ne 8, 3, (12, 0, 0, 0)) := by decide +kernel
theorem kc_174_7 : zcode 174 7 = some (.dload_n 0, 1, (0, 0, 0, 0)) := by decide +kernel
theorem kc_174_8 : zcode 174 8 = some (.invokestatic 134, 3, (1002, 0, 1038, 0)) := by decide +kernel
theorem kc_174_11 : zcode 174 11 = some (.lreturn, 1, (0, 0, 0, 0)) := by decide +kernel
theorem kc_174_12 : zcode 174 12 = some (.ldc2_w 137, 3, (0, 0, 1039, 9221120237041090560)) := by decide +kernel
theorem kc_174_15 : zcode 174 15 = some (.lreturn, 1, (0, 0, 0, 0)) := by decide +kernel
theorem kc_175_0 : zcode 175 0 = some (.fload_n 0, 1, (0, 0, 0, 0)) := by decide +kernel
theorem kc_175_1 : zcode 175 1 = some (.fload_n 0, 1, (0, 0, 0, 0)) := by decide +kernel
theorem kc_175_2 : zcode 175 2 = some (.fcmp .l, 1, (0, 0, 0, 0)) := by decide +kernel
theorem kc_175_3 : zcode 175 3 = some (.ifCond .eq 7, 3, (10, 0, 0, 0)) := by decide +kernel
theorem kc_175_6 : zcode 175 6 = some (.iconst 1, 1, (0, 0, 0, 0)) := by decide +kernel
theorem kc_175_7 : zcode 175 7 = some (.goto 4, 3, (11, 0, 0, 0)) := by decide +kernel
theorem kc_175_10 : zcode 175 10 = some (.iconst 0, 1, (0, 0, 0, 0)) := by decide +kernel
theorem kc_175_11 : zcode 175 11 = some (.ireturn, 1, (1, 0, 0, 0)) := by decide +kernel
theorem kc_176_0 : zcode 176 0 = some (.fload_n 0, 1, (0, 0, 0, 0)) := by decide +kernel
theorem kc_176_1 : zcode 176 1 = some (.invokestatic 59, 3, (175, 0, 1006, 0)) := by decide +kernel
theorem kc_176_4 : zcode 176 4 = some (.ifCond .ne 8, 3, (12, 0, 0, 0)) := by decide +kernel
theorem kc_176_7 : zcode 176 7 = some (.fload_n 0, 1, (0, 0, 0, 0)) := by decide +kernel
theorem kc_176_8 : zcode 176 8 = some (.invokestatic 74, 3, (1001, 0, 1009, 0)) := by decide +kernel
theorem kc_176_11 : zcode 176 11 = some (.ireturn, 1, (0, 0, 0, 0)) := by decide +kernel
theorem kc_176_12 : zcode 176 12 = some (.ldc 77, 2, (0, 0, 1012, 2143289344)) := by decide +kernel
theorem kc_176_14 : zcode 176 14 = some (.ireturn, 1, (0, 0, 0, 0)) := by decide +kernel
theorem kc_177_0 : zcode 177 0 = some (.iload_n 0, 1, (0, 0, 0, 0)) := by decide +kernel
theorem kc_177_1 : zcode 177 1 = some (.iload_n 0, 1, (0, 0, 0, 0)) := by decide +kernel
theorem kc_177_2 : zcode 177 2 = some (.iconst 1, 1, (0, 0, 0, 0)) := by decide +kernel
theorem kc_177_3 : zcode 177 3 = some (.iushr, 1, (0, 0, 0, 0)) := by decide +kernel
theorem kc_177_4 : zcode 177 4 = some (.ldc_w 265, 3, (0, 0, 422, 1431655765)) := by decide +kernel
theorem kc_177_7 : zcode 177 7 = some (.iand, 1, (0, 0, 0, 0)) := by decide +kernel
theorem kc_177_8 : zcode 177 8 = some (.isub, 1, (0, 0, 0, 0)) := by decide +kernel
theorem kc_177_9 : zcode 177 9 = some (.istore_n 0, 1, (0, 0, 0, 0)) := by decide +kernel
theorem kc_177_10 : zcode 177 10 = some (.iload_n 0, 1, (0, 0, 0, 0)) := by decide +kernel
theorem kc_177_11 : zcode 177 11 = some (.ldc_w 266, 3, (0, 0, 423, 858993459)) := by decide +kernel
theorem kc_177_14 : zcode 177 14 = some (.iand, 1, (0, 0, 0, 0)) := by decide +kernel
theorem kc_177_15 : zcode 177 15 = some (.iload_n 0, 1, (0, 0, 0, 0)) := by decide +kernel
theorem kc_177_16 : zcode 177 16 = some (.iconst 2, 1, (0, 0, 0, 0)) := by decide +kernel
theorem kc_177_17 : zcode 177 17 = some (.iushr, 1, (0, 0, 0, 0)) := by decide +kernel
theorem kc_177_18 : zcode 177 18 = some (.ldc_w 266, 3, (0, 0, 423, 858993459)) := by decide +kernel
theorem kc_177_21 : zcode 177 21 = some (.iand, 1, (0, 0, 0, 0)) := by decide +kernel
theorem kc_177_22 : zcode 177 22 = some (.iadd, 1, (0, 0, 0, 0)) := by decide +kernel
theorem kc_177_23 : zcode 177 23 = some (.istore_n 0, 1, (0, 0, 0, 0)) := by decide +kernel
theorem kc_177_24 : zcode 177 24 = some (.iload_n 0, 1, (0, 0, 0, 0)) := by decide +kernel
theorem kc_177_25 : zcode 177 25 = some (.iload_n 0, 1, (0, 0, 0, 0)) := by decide +kernel
theorem kc_177_26 : zcode 177 26 = some (.iconst 4, 1, (0, 0, 0, 0)) := by decide +kernel
theorem kc_177_27 : zcode 177 27 = some (.iushr, 1, (0, 0, 0, 0)) := by decide +kernel
theorem kc_177_28 : zcode 177 28 = some (.iadd, 1, (0, 0, 0, 0)) := by decide +kernel
theorem kc_177_29 : zcode 177 29 = some (.ldc_w 267, 3, (0, 0, 424, 252645135)) := by decide +kernel
theorem kc_177_32 : zcode 177 32 = some (.iand, 1, (0, 0, 0, 0)) := by decide +kernel
theorem kc_177_33 : zcode 177 33 = some (.istore_n 0, 1, (0, 0, 0, 0)) := by decide +kernel
theorem kc_177_34 : zcode 177 34 = some (.iload_n 0, 1, (0, 0, 0, 0)) := by decide +kernel
theorem kc_177_35 : zcode 177 35 = some (.iload_n 0, 1, (0, 0, 0, 0)) := by decide +kernel
theorem kc_177_36 : zcode 177 36 = some (.bipush 8, 2, (0, 0, 0, 0)) := by decide +kernel
theorem kc_177_38 : zcode 177 38 = some (.iushr, 1, (0, 0, 0, 0)) := by decide +kernel
theorem kc_177_39 : zcode 177 39 = some (.iadd, 1, (0, 0, 0, 0)) := by decide +kernel
theorem kc_177_40 : zcode 177 40 = some (.istore_n 0, 1, (0, 0, 0, 0)) := by decide +kernel
theorem kc_177_41 : zcode 177 41 = some (.iload_n 0, 1, (0, 0, 0, 0)) := by decide +kernel
theorem kc_177_42 : zcode 177 42 = some (.iload_n 0, 1, (0, 0, 0, 0)) := by decide +kernel
theorem kc_177_43 : zcode 177 43 = some (.bipush 16, 2, (0, 0, 0, 0)) := by decide +kernel
theorem kc_177_45 : zcode 177 45 = some (.iushr, 1, (0, 0, 0, 0)) := by decide +kernel
theorem kc_177_46 : zcode 177 46 = some (.iadd, 1, (0, 0, 0, 0)) := by decide +kernel
theorem kc_177_47 : zcode 177 47 = some (.istore_n 0, 1, (0, 0, 0, 0)) := by decide +kernel
theorem kc_177_48 : zcode 177 48 = some (.iload_n 0, 1, (0, 0, 0, 0)) := by decide +kernel
theorem kc_177_49 : zcode 177 49 = some (.bipush 63, 2, (0, 0, 0, 0)) := by decide +kernel
theorem kc_177_51 : zcode 177 51 = some (.iand, 1, (0, 0, 0, 0)) := by decide +kernel
theorem kc_177_52 : zcode 177 52 = some (.ireturn, 1, (0, 0, 0, 0)) := by decide +kernel
theorem kc_178_0 : zcode 178 0 = some (.lload_n 0, 1, (0, 0, 0, 0)) := by decide +kernel
theorem kc_178_1 : zcode 178 1 = some (.lconst 0, 1, (0, 0, 0, 0)) := by decide +kernel
theorem kc_178_2 : zcode 178 2 = some (.lcmp, 1, (0, 0, 0, 0)) := by decide +kernel
theorem kc_178_3 : zcode 178 3 = some (.ifCond .ge 8, 3, (11, 0, 0, 0)) := by decide +kernel
theorem kc_178_6 : zcode 178 6 = some (.lload_n 0, 1, (0, 0, 0, 0)) := by decide +kernel
theorem kc_178_7 : zcode 178 7 = some (.lneg, 1, (0, 0, 0, 0)) := by decide +kernel
theorem kc_178_8 : zcode 178 8 = some (.goto 4, 3, (12, 0, 0, 0)) := by decide +kernel
theorem kc_178_11 : zcode 178 11 = some (.lload_n 0, 1, (0, 0, 0, 0)) := by decide +kernel
theorem kc_178_12 : zcode 178 12 = some (.lreturn, 1, (0, 0, 0, 0)) := by decide +kernel
theorem kc_179_0 : zcode 179 0 = some (.iload_n 0, 1, (0, 0, 0, 0)) := by decide +kernel
theorem kc_179_1 : zcode 179 1 = some (.iload_n 1, 1, (0, 0, 0, 0)) := by decide +kernel
theorem kc_179_2 : zcode 179 2 = some (.if_icmp .lt 7, 3, (9, 0, 0, 0)) := by decide +kernel
theorem kc_179_5 : zcode 179 5 = some (.iload_n 0, 1, (0, 0, 0, 0)) := by decide +kernel
theorem kc_179_6 : zcode 179 6 = some (.goto 4, 3, (10, 0, 0, 0)) := by decide +kernel
theorem kc_179_9 : zcode 179 9 = some (.iload_n 1, 1, (0, 0, 0, 0)) := by decide +kernel
theorem kc_179_10 : zcode 179 10 = some (.ireturn, 1, (0, 0, 0, 0)) := by decide +kernel
theorem kc_180_0 : zcode 180 0 = some (.lload_n 0, 1, (0, 0, 0, 0)) := by decide +kernel
theorem kc_180_1 : zcode 180 1 = some (.lload_n 2, 1, (0, 0, 0, 0)) := by decide +kernel
theorem kc_180_2 : zcode 180 2 = some (.lcmp, 1, (0, 0, 0, 0)) := by decide +kernel
theorem kc_180_3 : zcode 180 3 = some (.ifCond .lt 7, 3, (10, 0, 0, 0)) := by decide +kernel
theorem kc_180_6 : zcode 180 6 = some (.lload_n 0, 1, (0, 0, 0, 0)) := by decide +kernel
theorem kc_180_7 : zcode 180 7 = some (.goto 4, 3, (11, 0, 0, 0)) := by decide +kernel
theorem kc_180_10 : zcode 180 10 = some (.lload_n 2, 1, (0, 0, 0, 0)) := by decide +kernel
theorem kc_180_11 : zcode 180 11 = some (.lreturn, 1, (0, 0, 0, 0)) := by decide +kernel
theorem kc_181_0 : zcode 181 0 = some (.iload_n 0, 1, (0, 0, 0, 0)) := by decide +kernel
theorem kc_181_1 : zcode 181 1 = some (.iload_n 1, 1, (0, 0, 0, 0)) := by decide +kernel
theorem kc_181_2 : zcode 181 2 = some (.if_icmp .gt 7, 3, (9, 0, 0, 0)) := by decide +kernel
theorem kc_181_5 : zcode 181 5 = some (.iload_n 0, 1, (0, 0, 0, 0)) := by decide +kernel
theorem kc_181_6 : zcode 181 6 = some (.goto 4, 3, (10, 0, 0, 0)) := by decide +kernel
theorem kc_181_9 : zcode 181 9 = some (.iload_n 1, 1, (0, 0, 0, 0)) := by decide +kernel
theorem kc_181_10 : zcode 181 10 = some (.ireturn, 1, (0, 0, 0, 0)) := by decide +kernel
theorem kc_182_0 : zcode 182 0 = some (.lload_n 0, 1, (0, 0, 0, 0)) := by decide +kernel
theorem kc_182_1 : zcode 182 1 = some (.lload_n 2, 1, (0, 0, 0, 0)) := by decide +kernel
theorem kc_182_2 : zcode 182 2 = some (.lcmp, 1, (0, 0, 0, 0)) := by decide +kernel
theorem kc_182_3 : zcode 182 3 = some (.ifCond .gt 7, 3, (10, 0, 0, 0)) := by decide +kernel
theorem kc_182_6 : zcode 182 6 = some (.lload_n 0, 1, (0, 0, 0, 0)) := by decide +kernel
theorem kc_182_7 : zcode 182 7 = some (.goto 4, 3, (11, 0, 0, 0)) := by decide +kernel
theorem kc_182_10 : zcode 182 10 = some (.lload_n 2, 1, (0, 0, 0, 0)) := by decide +kernel
theorem kc_182_11 : zcode 182 11 = some (.lreturn, 1, (0, 0, 0, 0)) := by decide +kernel
theorem kc_183_0 : zcode 183 0 = some (.iconst 0, 1, (0, 0, 0, 0)) := by decide +kernel
theorem kc_183_1 : zcode 183 1 = some (.istore_n 3, 1, (0, 0, 0, 0)) := by decide +kernel
theorem kc_183_2 : zcode 183 2 = some (.aload_n 0, 1, (0, 0, 0, 0)) := by decide +kernel
theorem kc_183_3 : zcode 183 3 = some (.arraylength, 1, (0, 0, 0, 0)) := by decide +kernel
theorem kc_183_4 : zcode 183 4 = some (.istore 4, 2, (0, 0, 0, 0)) := by decide +kernel
theorem kc_183_6 : zcode 183 6 = some (.iload_n 3, 1, (0, 0, 0, 0)) := by decide +kernel
theorem kc_183_7 : zcode 183 7 = some (.iload 4, 2, (0, 0, 0, 0)) := by decide +kernel
theorem kc_183_9 : zcode 183 9 = some (.if_icmp .ge 13, 3, (22, 0, 0, 0)) := by decide +kernel
theorem kc_183_12 : zcode 183 12 = some (.aload_n 0, 1, (0, 0, 0, 0)) := by decide +kernel
theorem kc_183_13 : zcode 183 13 = some (.iload_n 3, 1, (0, 0, 0, 0)) := by decide +kernel
theorem kc_183_14 : zcode 183 14 = some (.lload_n 1, 1, (0, 0, 0, 0)) := by decide +kernel
theorem kc_183_15 : zcode 183 15 = some (.lastore, 1, (0, 0, 0, 0)) := by decide +kernel
theorem kc_183_16 : zcode 183 16 = some (.iinc 3 1, 3, (0, 0, 0, 0)) := by decide +kernel
theorem kc_183_19 : zcode 183 19 = some (.goto (-13), 3, (6, 0, 0, 0)) := by decide +kernel
theorem kc_183_22 : zcode 183 22 = some (.return_, 1, (0, 0, 0, 0)) := by decide +kernel
