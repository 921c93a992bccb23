/-! the code of the constructors and of the law -/
theorem kc_0_0 : zcode 0 0 = some (.aload_n 0, 1, (0, 0, 0, 0)) := by decide +kernel
theorem kc_0_1 : zcode 0 1 = some (.invokespecial 3, 3, (1004, 0, 86, 0)) := by decide +kernel
theorem kc_0_4 : zcode 0 4 = some (.aload_n 0, 1, (0, 0, 0, 0)) := by decide +kernel
theorem kc_0_5 : zcode 0 5 = some (.bipush 6, 2, (0, 0, 0, 0)) := by decide +kernel
theorem kc_0_7 : zcode 0 7 = some (.newarray .int, 2, (0, 0, 0, 0)) := by decide +kernel
theorem kc_0_9 : zcode 0 9 = some (.putfield 9, 3, (0, 0, 87, 0)) := by decide +kernel
theorem kc_0_12 : zcode 0 12 = some (.aload_n 0, 1, (0, 0, 0, 0)) := by decide +kernel
theorem kc_0_13 : zcode 0 13 = some (.bipush 6, 2, (0, 0, 0, 0)) := by decide +kernel
theorem kc_0_15 : zcode 0 15 = some (.newarray .int, 2, (0, 0, 0, 0)) := by decide +kernel
theorem kc_0_17 : zcode 0 17 = some (.putfield 15, 3, (0, 1, 91, 0)) := by decide +kernel
theorem kc_0_20 : zcode 0 20 = some (.aload_n 0, 1, (0, 0, 0, 0)) := by decide +kernel
theorem kc_0_21 : zcode 0 21 = some (.bipush 64, 2, (0, 0, 0, 0)) := by decide +kernel
theorem kc_0_23 : zcode 0 23 = some (.newarray .int, 2, (0, 0, 0, 0)) := by decide +kernel
theorem kc_0_25 : zcode 0 25 = some (.putfield 18, 3, (0, 2, 92, 0)) := by decide +kernel
theorem kc_0_28 : zcode 0 28 = some (.aload_n 0, 1, (0, 0, 0, 0)) := by decide +kernel
theorem kc_0_29 : zcode 0 29 = some (.iconst 0, 1, (0, 0, 0, 0)) := by decide +kernel
theorem kc_0_30 : zcode 0 30 = some (.putfield 21, 3, (0, 3, 93, 0)) := by decide +kernel
theorem kc_0_33 : zcode 0 33 = some (.return_, 1, (0, 0, 0, 0)) := by decide +kernel
theorem kc_11_0 : zcode 11 0 = some (.aload_n 0, 1, (0, 0, 0, 0)) := by decide +kernel
theorem kc_11_1 : zcode 11 1 = some (.invokespecial 3, 3, (1004, 0, 217, 0)) := by decide +kernel
theorem kc_11_4 : zcode 11 4 = some (.aload_n 0, 1, (0, 0, 0, 0)) := by decide +kernel
theorem kc_11_5 : zcode 11 5 = some (.new 9, 3, (3, 0, 218, 0)) := by decide +kernel
theorem kc_11_8 : zcode 11 8 = some (.dup, 1, (0, 0, 0, 0)) := by decide +kernel
theorem kc_11_9 : zcode 11 9 = some (.invokespecial 11, 3, (15, 1, 219, 0)) := by decide +kernel
theorem kc_11_12 : zcode 11 12 = some (.putfield 12, 3, (1, 0, 222, 0)) := by decide +kernel
theorem kc_11_15 : zcode 11 15 = some (.aload_n 0, 1, (0, 0, 0, 0)) := by decide +kernel
theorem kc_11_16 : zcode 11 16 = some (.new 18, 3, (2, 0, 220, 0)) := by decide +kernel
theorem kc_11_19 : zcode 11 19 = some (.dup, 1, (0, 0, 0, 0)) := by decide +kernel
theorem kc_11_20 : zcode 11 20 = some (.iconst 5, 1, (0, 0, 0, 0)) := by decide +kernel
theorem kc_11_21 : zcode 11 21 = some (.invokespecial 20, 3, (12, 0, 221, 0)) := by decide +kernel
theorem kc_11_24 : zcode 11 24 = some (.putfield 23, 3, (1, 1, 224, 0)) := by decide +kernel
theorem kc_11_27 : zcode 11 27 = some (.aload_n 0, 1, (0, 0, 0, 0)) := by decide +kernel
theorem kc_11_28 : zcode 11 28 = some (.new 18, 3, (2, 0, 220, 0)) := by decide +kernel
theorem kc_11_31 : zcode 11 31 = some (.dup, 1, (0, 0, 0, 0)) := by decide +kernel
theorem kc_11_32 : zcode 11 32 = some (.bipush 8, 2, (0, 0, 0, 0)) := by decide +kernel
theorem kc_11_34 : zcode 11 34 = some (.invokespecial 20, 3, (12, 0, 221, 0)) := by decide +kernel
theorem kc_11_37 : zcode 11 37 = some (.putfield 27, 3, (1, 2, 226, 0)) := by decide +kernel
theorem kc_11_40 : zcode 11 40 = some (.aload_n 0, 1, (0, 0, 0, 0)) := by decide +kernel
theorem kc_11_41 : zcode 11 41 = some (.new 18, 3, (2, 0, 220, 0)) := by decide +kernel
theorem kc_11_44 : zcode 11 44 = some (.dup, 1, (0, 0, 0, 0)) := by decide +kernel
theorem kc_11_45 : zcode 11 45 = some (.bipush 8, 2, (0, 0, 0, 0)) := by decide +kernel
theorem kc_11_47 : zcode 11 47 = some (.invokespecial 20, 3, (12, 0, 221, 0)) := by decide +kernel
theorem kc_11_50 : zcode 11 50 = some (.putfield 30, 3, (1, 3, 228, 0)) := by decide +kernel
theorem kc_11_53 : zcode 11 53 = some (.aload_n 0, 1, (0, 0, 0, 0)) := by decide +kernel
theorem kc_11_54 : zcode 11 54 = some (.iconst 0, 1, (0, 0, 0, 0)) := by decide +kernel
theorem kc_11_55 : zcode 11 55 = some (.putfield 33, 3, (1, 4, 230, 0)) := by decide +kernel
theorem kc_11_58 : zcode 11 58 = some (.return_, 1, (0, 0, 0, 0)) := by decide +kernel
theorem kc_12_0 : zcode 12 0 = some (.aload_n 0, 1, (0, 0, 0, 0)) := by decide +kernel
theorem kc_12_1 : zcode 12 1 = some (.invokespecial 3, 3, (1004, 0, 158, 0)) := by decide +kernel
theorem kc_12_4 : zcode 12 4 = some (.aload_n 0, 1, (0, 0, 0, 0)) := by decide +kernel
theorem kc_12_5 : zcode 12 5 = some (.iconst 0, 1, (0, 0, 0, 0)) := by decide +kernel
theorem kc_12_6 : zcode 12 6 = some (.putfield 9, 3, (2, 3, 164, 0)) := by decide +kernel
theorem kc_12_9 : zcode 12 9 = some (.aload_n 0, 1, (0, 0, 0, 0)) := by decide +kernel
theorem kc_12_10 : zcode 12 10 = some (.iload_n 1, 1, (0, 0, 0, 0)) := by decide +kernel
theorem kc_12_11 : zcode 12 11 = some (.putfield 15, 3, (2, 2, 163, 0)) := by decide +kernel
theorem kc_12_14 : zcode 12 14 = some (.aload_n 0, 1, (0, 0, 0, 0)) := by decide +kernel
theorem kc_12_15 : zcode 12 15 = some (.iload_n 1, 1, (0, 0, 0, 0)) := by decide +kernel
theorem kc_12_16 : zcode 12 16 = some (.newarray .int, 2, (0, 0, 0, 0)) := by decide +kernel
theorem kc_12_18 : zcode 12 18 = some (.putfield 18, 3, (2, 0, 159, 0)) := by decide +kernel
theorem kc_12_21 : zcode 12 21 = some (.aload_n 0, 1, (0, 0, 0, 0)) := by decide +kernel
theorem kc_12_22 : zcode 12 22 = some (.iload_n 1, 1, (0, 0, 0, 0)) := by decide +kernel
theorem kc_12_23 : zcode 12 23 = some (.newarray .int, 2, (0, 0, 0, 0)) := by decide +kernel
theorem kc_12_25 : zcode 12 25 = some (.putfield 22, 3, (2, 1, 161, 0)) := by decide +kernel
theorem kc_12_28 : zcode 12 28 = some (.return_, 1, (0, 0, 0, 0)) := by decide +kernel
theorem kc_15_0 : zcode 15 0 = some (.aload_n 0, 1, (0, 0, 0, 0)) := by decide +kernel
theorem kc_15_1 : zcode 15 1 = some (.invokespecial 3, 3, (1004, 0, 80, 0)) := by decide +kernel
theorem kc_15_4 : zcode 15 4 = some (.aload_n 0, 1, (0, 0, 0, 0)) := by decide +kernel
theorem kc_15_5 : zcode 15 5 = some (.new 9, 3, (0, 0, 81, 0)) := by decide +kernel
theorem kc_15_8 : zcode 15 8 = some (.dup, 1, (0, 0, 0, 0)) := by decide +kernel
theorem kc_15_9 : zcode 15 9 = some (.invokespecial 11, 3, (0, 1, 83, 0)) := by decide +kernel
theorem kc_15_12 : zcode 15 12 = some (.putfield 12, 3, (3, 0, 107, 0)) := by decide +kernel
theorem kc_15_15 : zcode 15 15 = some (.aload_n 0, 1, (0, 0, 0, 0)) := by decide +kernel
theorem kc_15_16 : zcode 15 16 = some (.bipush 6, 2, (0, 0, 0, 0)) := by decide +kernel
theorem kc_15_18 : zcode 15 18 = some (.newarray .long, 2, (0, 0, 0, 0)) := by decide +kernel
theorem kc_15_20 : zcode 15 20 = some (.putfield 18, 3, (3, 1, 110, 0)) := by decide +kernel
theorem kc_15_23 : zcode 15 23 = some (.aload_n 0, 1, (0, 0, 0, 0)) := by decide +kernel
theorem kc_15_24 : zcode 15 24 = some (.iconst 0, 1, (0, 0, 0, 0)) := by decide +kernel
theorem kc_15_25 : zcode 15 25 = some (.putfield 22, 3, (3, 2, 111, 0)) := by decide +kernel
theorem kc_15_28 : zcode 15 28 = some (.aload_n 0, 1, (0, 0, 0, 0)) := by decide +kernel
theorem kc_15_29 : zcode 15 29 = some (.iconst 0, 1, (0, 0, 0, 0)) := by decide +kernel
theorem kc_15_30 : zcode 15 30 = some (.putfield 26, 3, (3, 3, 114, 0)) := by decide +kernel
theorem kc_15_33 : zcode 15 33 = some (.return_, 1, (0, 0, 0, 0)) := by decide +kernel
theorem kc_25_0 : zcode 25 0 = some (.aload_n 0, 1, (0, 0, 0, 0)) := by decide +kernel
theorem kc_25_1 : zcode 25 1 = some (.invokespecial 3, 3, (1004, 0, 247, 0)) := by decide +kernel
theorem kc_25_4 : zcode 25 4 = some (.aload_n 0, 1, (0, 0, 0, 0)) := by decide +kernel
theorem kc_25_5 : zcode 25 5 = some (.bipush 60, 2, (0, 0, 0, 0)) := by decide +kernel
theorem kc_25_7 : zcode 25 7 = some (.newarray .long, 2, (0, 0, 0, 0)) := by decide +kernel
theorem kc_25_9 : zcode 25 9 = some (.putfield 9, 3, (4, 0, 248, 0)) := by decide +kernel
theorem kc_25_12 : zcode 25 12 = some (.aload_n 0, 1, (0, 0, 0, 0)) := by decide +kernel
theorem kc_25_13 : zcode 25 13 = some (.iconst (-1), 1, (0, 0, 0, 0)) := by decide +kernel
theorem kc_25_14 : zcode 25 14 = some (.putfield 15, 3, (4, 1, 250, 0)) := by decide +kernel
theorem kc_25_17 : zcode 25 17 = some (.aload_n 0, 1, (0, 0, 0, 0)) := by decide +kernel
theorem kc_25_18 : zcode 25 18 = some (.iconst 0, 1, (0, 0, 0, 0)) := by decide +kernel
theorem kc_25_19 : zcode 25 19 = some (.putfield 19, 3, (4, 2, 252, 0)) := by decide +kernel
theorem kc_25_22 : zcode 25 22 = some (.return_, 1, (0, 0, 0, 0)) := by decide +kernel
theorem kc_30_0 : zcode 30 0 = some (.aload_n 0, 1, (0, 0, 0, 0)) := by decide +kernel
theorem kc_30_1 : zcode 30 1 = some (.invokespecial 3, 3, (1004, 0, 180, 0)) := by decide +kernel
theorem kc_30_4 : zcode 30 4 = some (.aload_n 0, 1, (0, 0, 0, 0)) := by decide +kernel
theorem kc_30_5 : zcode 30 5 = some (.bipush 100, 2, (0, 0, 0, 0)) := by decide +kernel
theorem kc_30_7 : zcode 30 7 = some (.newarray .byte, 2, (0, 0, 0, 0)) := by decide +kernel
theorem kc_30_9 : zcode 30 9 = some (.putfield 9, 3, (5, 0, 181, 0)) := by decide +kernel
theorem kc_30_12 : zcode 30 12 = some (.aload_n 0, 1, (0, 0, 0, 0)) := by decide +kernel
theorem kc_30_13 : zcode 30 13 = some (.iconst 0, 1, (0, 0, 0, 0)) := by decide +kernel
theorem kc_30_14 : zcode 30 14 = some (.putfield 15, 3, (5, 1, 183, 0)) := by decide +kernel
theorem kc_30_17 : zcode 30 17 = some (.aload_n 0, 1, (0, 0, 0, 0)) := by decide +kernel
theorem kc_30_18 : zcode 30 18 = some (.bipush 12, 2, (0, 0, 0, 0)) := by decide +kernel
theorem kc_30_20 : zcode 30 20 = some (.newarray .int, 2, (0, 0, 0, 0)) := by decide +kernel
theorem kc_30_22 : zcode 30 22 = some (.putfield 19, 3, (5, 2, 185, 0)) := by decide +kernel
theorem kc_30_25 : zcode 30 25 = some (.aload_n 0, 1, (0, 0, 0, 0)) := by decide +kernel
theorem kc_30_26 : zcode 30 26 = some (.bipush 12, 2, (0, 0, 0, 0)) := by decide +kernel
theorem kc_30_28 : zcode 30 28 = some (.newarray .int, 2, (0, 0, 0, 0)) := by decide +kernel
theorem kc_30_30 : zcode 30 30 = some (.putfield 23, 3, (5, 3, 187, 0)) := by decide +kernel
theorem kc_30_33 : zcode 30 33 = some (.aload_n 0, 1, (0, 0, 0, 0)) := by decide +kernel
theorem kc_30_34 : zcode 30 34 = some (.bipush 12, 2, (0, 0, 0, 0)) := by decide +kernel
theorem kc_30_36 : zcode 30 36 = some (.newarray .int, 2, (0, 0, 0, 0)) := by decide +kernel
theorem kc_30_38 : zcode 30 38 = some (.putfield 26, 3, (5, 4, 189, 0)) := by decide +kernel
theorem kc_30_41 : zcode 30 41 = some (.aload_n 0, 1, (0, 0, 0, 0)) := by decide +kernel
theorem kc_30_42 : zcode 30 42 = some (.iconst 0, 1, (0, 0, 0, 0)) := by decide +kernel
theorem kc_30_43 : zcode 30 43 = some (.putfield 29, 3, (5, 5, 191, 0)) := by decide +kernel
theorem kc_30_46 : zcode 30 46 = some (.aload_n 0, 1, (0, 0, 0, 0)) := by decide +kernel
theorem kc_30_47 : zcode 30 47 = some (.iconst 0, 1, (0, 0, 0, 0)) := by decide +kernel
theorem kc_30_48 : zcode 30 48 = some (.putfield 32, 3, (5, 6, 193, 0)) := by decide +kernel
theorem kc_30_51 : zcode 30 51 = some (.return_, 1, (0, 0, 0, 0)) := by decide +kernel
theorem kc_35_0 : zcode 35 0 = some (.aload_n 0, 1, (0, 0, 0, 0)) := by decide +kernel
theorem kc_35_1 : zcode 35 1 = some (.invokespecial 3, 3, (1004, 0, 133, 0)) := by decide +kernel
theorem kc_35_4 : zcode 35 4 = some (.aload_n 0, 1, (0, 0, 0, 0)) := by decide +kernel
theorem kc_35_5 : zcode 35 5 = some (.bipush 6, 2, (0, 0, 0, 0)) := by decide +kernel
theorem kc_35_7 : zcode 35 7 = some (.newarray .float, 2, (0, 0, 0, 0)) := by decide +kernel
theorem kc_35_9 : zcode 35 9 = some (.putfield 9, 3, (6, 0, 134, 0)) := by decide +kernel
theorem kc_35_12 : zcode 35 12 = some (.aload_n 0, 1, (0, 0, 0, 0)) := by decide +kernel
theorem kc_35_13 : zcode 35 13 = some (.bipush 6, 2, (0, 0, 0, 0)) := by decide +kernel
theorem kc_35_15 : zcode 35 15 = some (.newarray .float, 2, (0, 0, 0, 0)) := by decide +kernel
theorem kc_35_17 : zcode 35 17 = some (.putfield 15, 3, (6, 1, 136, 0)) := by decide +kernel
theorem kc_35_20 : zcode 35 20 = some (.aload_n 0, 1, (0, 0, 0, 0)) := by decide +kernel
theorem kc_35_21 : zcode 35 21 = some (.fconst 0, 1, (0, 0, 0, 0)) := by decide +kernel
theorem kc_35_22 : zcode 35 22 = some (.putfield 18, 3, (6, 2, 137, 0)) := by decide +kernel
theorem kc_35_25 : zcode 35 25 = some (.aload_n 0, 1, (0, 0, 0, 0)) := by decide +kernel
theorem kc_35_26 : zcode 35 26 = some (.iconst 0, 1, (0, 0, 0, 0)) := by decide +kernel
theorem kc_35_27 : zcode 35 27 = some (.putfield 22, 3, (6, 3, 138, 0)) := by decide +kernel
theorem kc_35_30 : zcode 35 30 = some (.aload_n 0, 1, (0, 0, 0, 0)) := by decide +kernel
theorem kc_35_31 : zcode 35 31 = some (.fconst 0, 1, (0, 0, 0, 0)) := by decide +kernel
theorem kc_35_32 : zcode 35 32 = some (.putfield 26, 3, (6, 4, 139, 0)) := by decide +kernel
theorem kc_35_35 : zcode 35 35 = some (.return_, 1, (0, 0, 0, 0)) := by decide +kernel
theorem kc_41_0 : zcode 41 0 = some (.aload_n 0, 1, (0, 0, 0, 0)) := by decide +kernel
theorem kc_41_1 : zcode 41 1 = some (.invokespecial 3, 3, (1004, 0, 72, 0)) := by decide +kernel
theorem kc_41_4 : zcode 41 4 = some (.aload_n 0, 1, (0, 0, 0, 0)) := by decide +kernel
theorem kc_41_5 : zcode 41 5 = some (.new 9, 3, (3, 0, 75, 0)) := by decide +kernel
theorem kc_41_8 : zcode 41 8 = some (.dup, 1, (0, 0, 0, 0)) := by decide +kernel
theorem kc_41_9 : zcode 41 9 = some (.invokespecial 11, 3, (15, 1, 77, 0)) := by decide +kernel
theorem kc_41_12 : zcode 41 12 = some (.putfield 12, 3, (7, 0, 261, 0)) := by decide +kernel
theorem kc_41_15 : zcode 41 15 = some (.aload_n 0, 1, (0, 0, 0, 0)) := by decide +kernel
theorem kc_41_16 : zcode 41 16 = some (.new 9, 3, (3, 0, 75, 0)) := by decide +kernel
theorem kc_41_19 : zcode 41 19 = some (.dup, 1, (0, 0, 0, 0)) := by decide +kernel
theorem kc_41_20 : zcode 41 20 = some (.invokespecial 11, 3, (15, 1, 77, 0)) := by decide +kernel
theorem kc_41_23 : zcode 41 23 = some (.putfield 18, 3, (7, 1, 262, 0)) := by decide +kernel
theorem kc_41_26 : zcode 41 26 = some (.aload_n 0, 1, (0, 0, 0, 0)) := by decide +kernel
theorem kc_41_27 : zcode 41 27 = some (.new 21, 3, (0, 0, 126, 0)) := by decide +kernel
theorem kc_41_30 : zcode 41 30 = some (.dup, 1, (0, 0, 0, 0)) := by decide +kernel
theorem kc_41_31 : zcode 41 31 = some (.invokespecial 23, 3, (0, 1, 127, 0)) := by decide +kernel
theorem kc_41_34 : zcode 41 34 = some (.putfield 24, 3, (7, 2, 263, 0)) := by decide +kernel
theorem kc_41_37 : zcode 41 37 = some (.aload_n 0, 1, (0, 0, 0, 0)) := by decide +kernel
theorem kc_41_38 : zcode 41 38 = some (.new 28, 3, (6, 0, 128, 0)) := by decide +kernel
theorem kc_41_41 : zcode 41 41 = some (.dup, 1, (0, 0, 0, 0)) := by decide +kernel
theorem kc_41_42 : zcode 41 42 = some (.invokespecial 30, 3, (35, 1, 130, 0)) := by decide +kernel
theorem kc_41_45 : zcode 41 45 = some (.putfield 31, 3, (7, 3, 264, 0)) := by decide +kernel
theorem kc_41_48 : zcode 41 48 = some (.aload_n 0, 1, (0, 0, 0, 0)) := by decide +kernel
theorem kc_41_49 : zcode 41 49 = some (.new 35, 3, (2, 0, 153, 0)) := by decide +kernel
theorem kc_41_52 : zcode 41 52 = some (.dup, 1, (0, 0, 0, 0)) := by decide +kernel
theorem kc_41_53 : zcode 41 53 = some (.iconst 5, 1, (0, 0, 0, 0)) := by decide +kernel
theorem kc_41_54 : zcode 41 54 = some (.invokespecial 37, 3, (12, 0, 155, 0)) := by decide +kernel
theorem kc_41_57 : zcode 41 57 = some (.putfield 40, 3, (7, 4, 265, 0)) := by decide +kernel
theorem kc_41_60 : zcode 41 60 = some (.aload_n 0, 1, (0, 0, 0, 0)) := by decide +kernel
theorem kc_41_61 : zcode 41 61 = some (.new 35, 3, (2, 0, 153, 0)) := by decide +kernel
theorem kc_41_64 : zcode 41 64 = some (.dup, 1, (0, 0, 0, 0)) := by decide +kernel
theorem kc_41_65 : zcode 41 65 = some (.bipush 8, 2, (0, 0, 0, 0)) := by decide +kernel
theorem kc_41_67 : zcode 41 67 = some (.invokespecial 37, 3, (12, 0, 155, 0)) := by decide +kernel
theorem kc_41_70 : zcode 41 70 = some (.putfield 44, 3, (7, 5, 266, 0)) := by decide +kernel
theorem kc_41_73 : zcode 41 73 = some (.aload_n 0, 1, (0, 0, 0, 0)) := by decide +kernel
theorem kc_41_74 : zcode 41 74 = some (.new 35, 3, (2, 0, 153, 0)) := by decide +kernel
theorem kc_41_77 : zcode 41 77 = some (.dup, 1, (0, 0, 0, 0)) := by decide +kernel
theorem kc_41_78 : zcode 41 78 = some (.bipush 8, 2, (0, 0, 0, 0)) := by decide +kernel
theorem kc_41_80 : zcode 41 80 = some (.invokespecial 37, 3, (12, 0, 155, 0)) := by decide +kernel
theorem kc_41_83 : zcode 41 83 = some (.putfield 47, 3, (7, 6, 267, 0)) := by decide +kernel
theorem kc_41_86 : zcode 41 86 = some (.aload_n 0, 1, (0, 0, 0, 0)) := by decide +kernel
theorem kc_41_87 : zcode 41 87 = some (.new 50, 3, (5, 0, 175, 0)) := by decide +kernel
theorem kc_41_90 : zcode 41 90 = some (.dup, 1, (0, 0, 0, 0)) := by decide +kernel
theorem kc_41_91 : zcode 41 91 = some (.invokespecial 52, 3, (30, 1, 177, 0)) := by decide +kernel
theorem kc_41_94 : zcode 41 94 = some (.putfield 53, 3, (7, 7, 268, 0)) := by decide +kernel
theorem kc_41_97 : zcode 41 97 = some (.aload_n 0, 1, (0, 0, 0, 0)) := by decide +kernel
theorem kc_41_98 : zcode 41 98 = some (.bipush 6, 2, (0, 0, 0, 0)) := by decide +kernel
theorem kc_41_100 : zcode 41 100 = some (.anewarray 57, 3, (4, 0, 210, 0)) := by decide +kernel
theorem kc_41_103 : zcode 41 103 = some (.putfield 59, 3, (7, 8, 269, 0)) := by decide +kernel
theorem kc_41_106 : zcode 41 106 = some (.aload_n 0, 1, (0, 0, 0, 0)) := by decide +kernel
theorem kc_41_107 : zcode 41 107 = some (.new 63, 3, (1, 0, 212, 0)) := by decide +kernel
theorem kc_41_110 : zcode 41 110 = some (.dup, 1, (0, 0, 0, 0)) := by decide +kernel
theorem kc_41_111 : zcode 41 111 = some (.invokespecial 65, 3, (11, 1, 214, 0)) := by decide +kernel
theorem kc_41_114 : zcode 41 114 = some (.putfield 66, 3, (7, 9, 270, 0)) := by decide +kernel
theorem kc_41_117 : zcode 41 117 = some (.iconst 0, 1, (0, 0, 0, 0)) := by decide +kernel
theorem kc_41_118 : zcode 41 118 = some (.istore_n 1, 1, (0, 0, 0, 0)) := by decide +kernel
theorem kc_41_119 : zcode 41 119 = some (.iload_n 1, 1, (0, 0, 0, 0)) := by decide +kernel
theorem kc_41_120 : zcode 41 120 = some (.bipush 6, 2, (0, 0, 0, 0)) := by decide +kernel
theorem kc_41_122 : zcode 41 122 = some (.if_icmp .ge 22, 3, (144, 0, 0, 0)) := by decide +kernel
theorem kc_41_125 : zcode 41 125 = some (.aload_n 0, 1, (0, 0, 0, 0)) := by decide +kernel
theorem kc_41_126 : zcode 41 126 = some (.getfield 59, 3, (7, 8, 269, 0)) := by decide +kernel
theorem kc_41_129 : zcode 41 129 = some (.iload_n 1, 1, (0, 0, 0, 0)) := by decide +kernel
theorem kc_41_130 : zcode 41 130 = some (.new 57, 3, (4, 0, 210, 0)) := by decide +kernel
theorem kc_41_133 : zcode 41 133 = some (.dup, 1, (0, 0, 0, 0)) := by decide +kernel
theorem kc_41_134 : zcode 41 134 = some (.invokespecial 70, 3, (25, 1, 244, 0)) := by decide +kernel
theorem kc_41_137 : zcode 41 137 = some (.aastore, 1, (0, 0, 0, 0)) := by decide +kernel
theorem kc_41_138 : zcode 41 138 = some (.iinc 1 1, 3, (0, 0, 0, 0)) := by decide +kernel
theorem kc_41_141 : zcode 41 141 = some (.goto (-22), 3, (119, 0, 0, 0)) := by decide +kernel
theorem kc_41_144 : zcode 41 144 = some (.return_, 1, (0, 0, 0, 0)) := by decide +kernel
theorem kc_93_0 : zcode 93 0 = some (.aload_n 0, 1, (0, 0, 0, 0)) := by decide +kernel
theorem kc_93_1 : zcode 93 1 = some (.invokespecial 3, 3, (1004, 0, 675, 0)) := by decide +kernel
theorem kc_93_4 : zcode 93 4 = some (.aload_n 0, 1, (0, 0, 0, 0)) := by decide +kernel
theorem kc_93_5 : zcode 93 5 = some (.bipush 6, 2, (0, 0, 0, 0)) := by decide +kernel
theorem kc_93_7 : zcode 93 7 = some (.newarray .int, 2, (0, 0, 0, 0)) := by decide +kernel
theorem kc_93_9 : zcode 93 9 = some (.putfield 9, 3, (8, 1, 677, 0)) := by decide +kernel
theorem kc_93_12 : zcode 93 12 = some (.aload_n 0, 1, (0, 0, 0, 0)) := by decide +kernel
theorem kc_93_13 : zcode 93 13 = some (.iconst 5, 1, (0, 0, 0, 0)) := by decide +kernel
theorem kc_93_14 : zcode 93 14 = some (.newarray .int, 2, (0, 0, 0, 0)) := by decide +kernel
theorem kc_93_16 : zcode 93 16 = some (.putfield 15, 3, (8, 5, 681, 0)) := by decide +kernel
theorem kc_93_19 : zcode 93 19 = some (.aload_n 0, 1, (0, 0, 0, 0)) := by decide +kernel
theorem kc_93_20 : zcode 93 20 = some (.iconst 5, 1, (0, 0, 0, 0)) := by decide +kernel
theorem kc_93_21 : zcode 93 21 = some (.newarray .int, 2, (0, 0, 0, 0)) := by decide +kernel
theorem kc_93_23 : zcode 93 23 = some (.putfield 18, 3, (8, 6, 682, 0)) := by decide +kernel
theorem kc_93_26 : zcode 93 26 = some (.aload_n 0, 1, (0, 0, 0, 0)) := by decide +kernel
theorem kc_93_27 : zcode 93 27 = some (.bipush 8, 2, (0, 0, 0, 0)) := by decide +kernel
theorem kc_93_29 : zcode 93 29 = some (.newarray .int, 2, (0, 0, 0, 0)) := by decide +kernel
theorem kc_93_31 : zcode 93 31 = some (.putfield 21, 3, (8, 8, 684, 0)) := by decide +kernel
theorem kc_93_34 : zcode 93 34 = some (.aload_n 0, 1, (0, 0, 0, 0)) := by decide +kernel
theorem kc_93_35 : zcode 93 35 = some (.bipush 8, 2, (0, 0, 0, 0)) := by decide +kernel
theorem kc_93_37 : zcode 93 37 = some (.newarray .int, 2, (0, 0, 0, 0)) := by decide +kernel
theorem kc_93_39 : zcode 93 39 = some (.putfield 24, 3, (8, 9, 685, 0)) := by decide +kernel
theorem kc_93_42 : zcode 93 42 = some (.aload_n 0, 1, (0, 0, 0, 0)) := by decide +kernel
theorem kc_93_43 : zcode 93 43 = some (.bipush 8, 2, (0, 0, 0, 0)) := by decide +kernel
theorem kc_93_45 : zcode 93 45 = some (.newarray .int, 2, (0, 0, 0, 0)) := by decide +kernel
theorem kc_93_47 : zcode 93 47 = some (.putfield 27, 3, (8, 11, 687, 0)) := by decide +kernel
theorem kc_93_50 : zcode 93 50 = some (.aload_n 0, 1, (0, 0, 0, 0)) := by decide +kernel
theorem kc_93_51 : zcode 93 51 = some (.bipush 8, 2, (0, 0, 0, 0)) := by decide +kernel
theorem kc_93_53 : zcode 93 53 = some (.newarray .int, 2, (0, 0, 0, 0)) := by decide +kernel
theorem kc_93_55 : zcode 93 55 = some (.putfield 30, 3, (8, 12, 688, 0)) := by decide +kernel
theorem kc_93_58 : zcode 93 58 = some (.aload_n 0, 1, (0, 0, 0, 0)) := by decide +kernel
theorem kc_93_59 : zcode 93 59 = some (.bipush 100, 2, (0, 0, 0, 0)) := by decide +kernel
theorem kc_93_61 : zcode 93 61 = some (.newarray .int, 2, (0, 0, 0, 0)) := by decide +kernel
theorem kc_93_63 : zcode 93 63 = some (.putfield 33, 3, (8, 13, 689, 0)) := by decide +kernel
theorem kc_93_66 : zcode 93 66 = some (.aload_n 0, 1, (0, 0, 0, 0)) := by decide +kernel
theorem kc_93_67 : zcode 93 67 = some (.bipush 60, 2, (0, 0, 0, 0)) := by decide +kernel
theorem kc_93_69 : zcode 93 69 = some (.newarray .int, 2, (0, 0, 0, 0)) := by decide +kernel
theorem kc_93_71 : zcode 93 71 = some (.putfield 36, 3, (8, 15, 691, 0)) := by decide +kernel
theorem kc_93_74 : zcode 93 74 = some (.aload_n 0, 1, (0, 0, 0, 0)) := by decide +kernel
theorem kc_93_75 : zcode 93 75 = some (.bipush 60, 2, (0, 0, 0, 0)) := by decide +kernel
theorem kc_93_77 : zcode 93 77 = some (.newarray .int, 2, (0, 0, 0, 0)) := by decide +kernel
theorem kc_93_79 : zcode 93 79 = some (.putfield 39, 3, (8, 16, 692, 0)) := by decide +kernel
theorem kc_93_82 : zcode 93 82 = some (.aload_n 0, 1, (0, 0, 0, 0)) := by decide +kernel
theorem kc_93_83 : zcode 93 83 = some (.bipush 6, 2, (0, 0, 0, 0)) := by decide +kernel
theorem kc_93_85 : zcode 93 85 = some (.newarray .boolean, 2, (0, 0, 0, 0)) := by decide +kernel
theorem kc_93_87 : zcode 93 87 = some (.putfield 42, 3, (8, 24, 700, 0)) := by decide +kernel
theorem kc_93_90 : zcode 93 90 = some (.aload_n 0, 1, (0, 0, 0, 0)) := by decide +kernel
theorem kc_93_91 : zcode 93 91 = some (.bipush 6, 2, (0, 0, 0, 0)) := by decide +kernel
theorem kc_93_93 : zcode 93 93 = some (.newarray .float, 2, (0, 0, 0, 0)) := by decide +kernel
theorem kc_93_95 : zcode 93 95 = some (.putfield 46, 3, (8, 25, 701, 0)) := by decide +kernel
theorem kc_93_98 : zcode 93 98 = some (.aload_n 0, 1, (0, 0, 0, 0)) := by decide +kernel
theorem kc_93_99 : zcode 93 99 = some (.bipush 6, 2, (0, 0, 0, 0)) := by decide +kernel
theorem kc_93_101 : zcode 93 101 = some (.newarray .int, 2, (0, 0, 0, 0)) := by decide +kernel
theorem kc_93_103 : zcode 93 103 = some (.dup, 1, (0, 0, 0, 0)) := by decide +kernel
theorem kc_93_104 : zcode 93 104 = some (.iconst 0, 1, (0, 0, 0, 0)) := by decide +kernel
theorem kc_93_105 : zcode 93 105 = some (.iconst (-1), 1, (0, 0, 0, 0)) := by decide +kernel
theorem kc_93_106 : zcode 93 106 = some (.iastore, 1, (0, 0, 0, 0)) := by decide +kernel
theorem kc_93_107 : zcode 93 107 = some (.dup, 1, (0, 0, 0, 0)) := by decide +kernel
theorem kc_93_108 : zcode 93 108 = some (.iconst 1, 1, (0, 0, 0, 0)) := by decide +kernel
theorem kc_93_109 : zcode 93 109 = some (.iconst (-1), 1, (0, 0, 0, 0)) := by decide +kernel
theorem kc_93_110 : zcode 93 110 = some (.iastore, 1, (0, 0, 0, 0)) := by decide +kernel
theorem kc_93_111 : zcode 93 111 = some (.dup, 1, (0, 0, 0, 0)) := by decide +kernel
theorem kc_93_112 : zcode 93 112 = some (.iconst 2, 1, (0, 0, 0, 0)) := by decide +kernel
theorem kc_93_113 : zcode 93 113 = some (.iconst (-1), 1, (0, 0, 0, 0)) := by decide +kernel
theorem kc_93_114 : zcode 93 114 = some (.iastore, 1, (0, 0, 0, 0)) := by decide +kernel
theorem kc_93_115 : zcode 93 115 = some (.dup, 1, (0, 0, 0, 0)) := by decide +kernel
theorem kc_93_116 : zcode 93 116 = some (.iconst 3, 1, (0, 0, 0, 0)) := by decide +kernel
theorem kc_93_117 : zcode 93 117 = some (.iconst (-1), 1, (0, 0, 0, 0)) := by decide +kernel
theorem kc_93_118 : zcode 93 118 = some (.iastore, 1, (0, 0, 0, 0)) := by decide +kernel
theorem kc_93_119 : zcode 93 119 = some (.dup, 1, (0, 0, 0, 0)) := by decide +kernel
theorem kc_93_120 : zcode 93 120 = some (.iconst 4, 1, (0, 0, 0, 0)) := by decide +kernel
theorem kc_93_121 : zcode 93 121 = some (.iconst (-1), 1, (0, 0, 0, 0)) := by decide +kernel
theorem kc_93_122 : zcode 93 122 = some (.iastore, 1, (0, 0, 0, 0)) := by decide +kernel
theorem kc_93_123 : zcode 93 123 = some (.dup, 1, (0, 0, 0, 0)) := by decide +kernel
theorem kc_93_124 : zcode 93 124 = some (.iconst 5, 1, (0, 0, 0, 0)) := by decide +kernel
theorem kc_93_125 : zcode 93 125 = some (.iconst (-1), 1, (0, 0, 0, 0)) := by decide +kernel
theorem kc_93_126 : zcode 93 126 = some (.iastore, 1, (0, 0, 0, 0)) := by decide +kernel
theorem kc_93_127 : zcode 93 127 = some (.putfield 50, 3, (8, 27, 703, 0)) := by decide +kernel
theorem kc_93_130 : zcode 93 130 = some (.aload_n 0, 1, (0, 0, 0, 0)) := by decide +kernel
theorem kc_93_131 : zcode 93 131 = some (.bipush 6, 2, (0, 0, 0, 0)) := by decide +kernel
theorem kc_93_133 : zcode 93 133 = some (.newarray .int, 2, (0, 0, 0, 0)) := by decide +kernel
theorem kc_93_135 : zcode 93 135 = some (.putfield 53, 3, (8, 28, 704, 0)) := by decide +kernel
theorem kc_93_138 : zcode 93 138 = some (.aload_n 0, 1, (0, 0, 0, 0)) := by decide +kernel
theorem kc_93_139 : zcode 93 139 = some (.sipush 360, 3, (0, 0, 0, 0)) := by decide +kernel
theorem kc_93_142 : zcode 93 142 = some (.newarray .long, 2, (0, 0, 0, 0)) := by decide +kernel
theorem kc_93_144 : zcode 93 144 = some (.putfield 56, 3, (8, 29, 705, 0)) := by decide +kernel
theorem kc_93_147 : zcode 93 147 = some (.aload_n 0, 1, (0, 0, 0, 0)) := by decide +kernel
theorem kc_93_148 : zcode 93 148 = some (.bipush 60, 2, (0, 0, 0, 0)) := by decide +kernel
theorem kc_93_150 : zcode 93 150 = some (.newarray .long, 2, (0, 0, 0, 0)) := by decide +kernel
theorem kc_93_152 : zcode 93 152 = some (.putfield 60, 3, (8, 30, 706, 0)) := by decide +kernel
theorem kc_93_155 : zcode 93 155 = some (.return_, 1, (0, 0, 0, 0)) := by decide +kernel
theorem kc_184_0 : zcode 184 0 = some (.new 7, 3, (7, 0, 67, 0)) := by decide +kernel
theorem kc_184_3 : zcode 184 3 = some (.dup, 1, (0, 0, 0, 0)) := by decide +kernel
theorem kc_184_4 : zcode 184 4 = some (.invokespecial 9, 3, (41, 0, 69, 0)) := by decide +kernel
theorem kc_184_7 : zcode 184 7 = some (.astore_n 1, 1, (0, 0, 0, 0)) := by decide +kernel
theorem kc_184_8 : zcode 184 8 = some (.new 10, 3, (8, 0, 670, 0)) := by decide +kernel
theorem kc_184_11 : zcode 184 11 = some (.dup, 1, (0, 0, 0, 0)) := by decide +kernel
theorem kc_184_12 : zcode 184 12 = some (.invokespecial 12, 3, (93, 0, 672, 0)) := by decide +kernel
theorem kc_184_15 : zcode 184 15 = some (.astore_n 2, 1, (0, 0, 0, 0)) := by decide +kernel
theorem kc_184_16 : zcode 184 16 = some (.iconst 0, 1, (0, 0, 0, 0)) := by decide +kernel
theorem kc_184_17 : zcode 184 17 = some (.istore_n 3, 1, (0, 0, 0, 0)) := by decide +kernel
theorem kc_184_18 : zcode 184 18 = some (.iload_n 3, 1, (0, 0, 0, 0)) := by decide +kernel
theorem kc_184_19 : zcode 184 19 = some (.aload_n 0, 1, (0, 0, 0, 0)) := by decide +kernel
theorem kc_184_20 : zcode 184 20 = some (.arraylength, 1, (0, 0, 0, 0)) := by decide +kernel
theorem kc_184_21 : zcode 184 21 = some (.bipush 6, 2, (0, 0, 0, 0)) := by decide +kernel
theorem kc_184_23 : zcode 184 23 = some (.isub, 1, (0, 0, 0, 0)) := by decide +kernel
theorem kc_184_24 : zcode 184 24 = some (.if_icmp .gt 1372, 3, (1396, 0, 0, 0)) := by decide +kernel
theorem kc_184_27 : zcode 184 27 = some (.aload_n 0, 1, (0, 0, 0, 0)) := by decide +kernel
theorem kc_184_28 : zcode 184 28 = some (.iload_n 3, 1, (0, 0, 0, 0)) := by decide +kernel
theorem kc_184_29 : zcode 184 29 = some (.iaload, 1, (0, 0, 0, 0)) := by decide +kernel
theorem kc_184_30 : zcode 184 30 = some (.bipush 63, 2, (0, 0, 0, 0)) := by decide +kernel
theorem kc_184_32 : zcode 184 32 = some (.iand, 1, (0, 0, 0, 0)) := by decide +kernel
theorem kc_184_33 : zcode 184 33 = some (.tableswitch 1357 0 35 #[159, 182, 215, 238, 261, 284, 307, 330, 343, 387, 420, 464, 518, 541, 605, 648, 681, 704, 737, 781, 825, 858, 891, 935, 959, 992, 1016, 1049, 1062, 1095, 1108, 1121, 1144, 1187, 1260, 1294], 159, (0, 0, 0, 0)) := by decide +kernel
theorem kc_184_192 : zcode 184 192 = some (.aload_n 1, 1, (0, 0, 0, 0)) := by decide +kernel
theorem kc_184_193 : zcode 184 193 = some (.aload_n 0, 1, (0, 0, 0, 0)) := by decide +kernel
theorem kc_184_194 : zcode 184 194 = some (.iload_n 3, 1, (0, 0, 0, 0)) := by decide +kernel
theorem kc_184_195 : zcode 184 195 = some (.iconst 1, 1, (0, 0, 0, 0)) := by decide +kernel
theorem kc_184_196 : zcode 184 196 = some (.iadd, 1, (0, 0, 0, 0)) := by decide +kernel
theorem kc_184_197 : zcode 184 197 = some (.iaload, 1, (0, 0, 0, 0)) := by decide +kernel
theorem kc_184_198 : zcode 184 198 = some (.invokevirtual 13, 3, (42, 0, 292, 0)) := by decide +kernel
theorem kc_184_201 : zcode 184 201 = some (.aload_n 2, 1, (0, 0, 0, 0)) := by decide +kernel
theorem kc_184_202 : zcode 184 202 = some (.aload_n 0, 1, (0, 0, 0, 0)) := by decide +kernel
theorem kc_184_203 : zcode 184 203 = some (.iload_n 3, 1, (0, 0, 0, 0)) := by decide +kernel
theorem kc_184_204 : zcode 184 204 = some (.iconst 1, 1, (0, 0, 0, 0)) := by decide +kernel
theorem kc_184_205 : zcode 184 205 = some (.iadd, 1, (0, 0, 0, 0)) := by decide +kernel
theorem kc_184_206 : zcode 184 206 = some (.iaload, 1, (0, 0, 0, 0)) := by decide +kernel
theorem kc_184_207 : zcode 184 207 = some (.invokevirtual 17, 3, (106, 0, 771, 0)) := by decide +kernel
theorem kc_184_210 : zcode 184 210 = some (.if_icmp .eq 1180, 3, (1390, 0, 0, 0)) := by decide +kernel
theorem kc_184_213 : zcode 184 213 = some (.iconst 0, 1, (0, 0, 0, 0)) := by decide +kernel
theorem kc_184_214 : zcode 184 214 = some (.ireturn, 1, (1, 0, 0, 0)) := by decide +kernel
theorem kc_184_215 : zcode 184 215 = some (.aload_n 1, 1, (0, 0, 0, 0)) := by decide +kernel
theorem kc_184_216 : zcode 184 216 = some (.aload_n 0, 1, (0, 0, 0, 0)) := by decide +kernel
theorem kc_184_217 : zcode 184 217 = some (.iload_n 3, 1, (0, 0, 0, 0)) := by decide +kernel
theorem kc_184_218 : zcode 184 218 = some (.iconst 1, 1, (0, 0, 0, 0)) := by decide +kernel
theorem kc_184_219 : zcode 184 219 = some (.iadd, 1, (0, 0, 0, 0)) := by decide +kernel
theorem kc_184_220 : zcode 184 220 = some (.iaload, 1, (0, 0, 0, 0)) := by decide +kernel
theorem kc_184_221 : zcode 184 221 = some (.aload_n 0, 1, (0, 0, 0, 0)) := by decide +kernel
theorem kc_184_222 : zcode 184 222 = some (.iload_n 3, 1, (0, 0, 0, 0)) := by decide +kernel
theorem kc_184_223 : zcode 184 223 = some (.iconst 2, 1, (0, 0, 0, 0)) := by decide +kernel
theorem kc_184_224 : zcode 184 224 = some (.iadd, 1, (0, 0, 0, 0)) := by decide +kernel
theorem kc_184_225 : zcode 184 225 = some (.iaload, 1, (0, 0, 0, 0)) := by decide +kernel
theorem kc_184_226 : zcode 184 226 = some (.invokevirtual 18, 3, (43, 0, 303, 0)) := by decide +kernel
theorem kc_184_229 : zcode 184 229 = some (.aload_n 2, 1, (0, 0, 0, 0)) := by decide +kernel
theorem kc_184_230 : zcode 184 230 = some (.aload_n 0, 1, (0, 0, 0, 0)) := by decide +kernel
theorem kc_184_231 : zcode 184 231 = some (.iload_n 3, 1, (0, 0, 0, 0)) := by decide +kernel
theorem kc_184_232 : zcode 184 232 = some (.iconst 1, 1, (0, 0, 0, 0)) := by decide +kernel
theorem kc_184_233 : zcode 184 233 = some (.iadd, 1, (0, 0, 0, 0)) := by decide +kernel
theorem kc_184_234 : zcode 184 234 = some (.iaload, 1, (0, 0, 0, 0)) := by decide +kernel
theorem kc_184_235 : zcode 184 235 = some (.aload_n 0, 1, (0, 0, 0, 0)) := by decide +kernel
theorem kc_184_236 : zcode 184 236 = some (.iload_n 3, 1, (0, 0, 0, 0)) := by decide +kernel
theorem kc_184_237 : zcode 184 237 = some (.iconst 2, 1, (0, 0, 0, 0)) := by decide +kernel
theorem kc_184_238 : zcode 184 238 = some (.iadd, 1, (0, 0, 0, 0)) := by decide +kernel
theorem kc_184_239 : zcode 184 239 = some (.iaload, 1, (0, 0, 0, 0)) := by decide +kernel
theorem kc_184_240 : zcode 184 240 = some (.invokevirtual 22, 3, (107, 0, 781, 0)) := by decide +kernel
theorem kc_184_243 : zcode 184 243 = some (.if_icmp .eq 1147, 3, (1390, 0, 0, 0)) := by decide +kernel
theorem kc_184_246 : zcode 184 246 = some (.iconst 0, 1, (0, 0, 0, 0)) := by decide +kernel
theorem kc_184_247 : zcode 184 247 = some (.ireturn, 1, (1, 0, 0, 0)) := by decide +kernel
theorem kc_184_248 : zcode 184 248 = some (.aload_n 1, 1, (0, 0, 0, 0)) := by decide +kernel
theorem kc_184_249 : zcode 184 249 = some (.aload_n 0, 1, (0, 0, 0, 0)) := by decide +kernel
theorem kc_184_250 : zcode 184 250 = some (.iload_n 3, 1, (0, 0, 0, 0)) := by decide +kernel
theorem kc_184_251 : zcode 184 251 = some (.iconst 1, 1, (0, 0, 0, 0)) := by decide +kernel
theorem kc_184_252 : zcode 184 252 = some (.iadd, 1, (0, 0, 0, 0)) := by decide +kernel
theorem kc_184_253 : zcode 184 253 = some (.iaload, 1, (0, 0, 0, 0)) := by decide +kernel
theorem kc_184_254 : zcode 184 254 = some (.invokevirtual 23, 3, (44, 0, 325, 0)) := by decide +kernel
theorem kc_184_257 : zcode 184 257 = some (.aload_n 2, 1, (0, 0, 0, 0)) := by decide +kernel
theorem kc_184_258 : zcode 184 258 = some (.aload_n 0, 1, (0, 0, 0, 0)) := by decide +kernel
theorem kc_184_259 : zcode 184 259 = some (.iload_n 3, 1, (0, 0, 0, 0)) := by decide +kernel
theorem kc_184_260 : zcode 184 260 = some (.iconst 1, 1, (0, 0, 0, 0)) := by decide +kernel
theorem kc_184_261 : zcode 184 261 = some (.iadd, 1, (0, 0, 0, 0)) := by decide +kernel
theorem kc_184_262 : zcode 184 262 = some (.iaload, 1, (0, 0, 0, 0)) := by decide +kernel
theorem kc_184_263 : zcode 184 263 = some (.invokevirtual 26, 3, (108, 0, 789, 0)) := by decide +kernel
theorem kc_184_266 : zcode 184 266 = some (.if_icmp .eq 1124, 3, (1390, 0, 0, 0)) := by decide +kernel
theorem kc_184_269 : zcode 184 269 = some (.iconst 0, 1, (0, 0, 0, 0)) := by decide +kernel
theorem kc_184_270 : zcode 184 270 = some (.ireturn, 1, (1, 0, 0, 0)) := by decide +kernel
theorem kc_184_271 : zcode 184 271 = some (.aload_n 1, 1, (0, 0, 0, 0)) := by decide +kernel
theorem kc_184_272 : zcode 184 272 = some (.aload_n 0, 1, (0, 0, 0, 0)) := by decide +kernel
theorem kc_184_273 : zcode 184 273 = some (.iload_n 3, 1, (0, 0, 0, 0)) := by decide +kernel
theorem kc_184_274 : zcode 184 274 = some (.iconst 1, 1, (0, 0, 0, 0)) := by decide +kernel
theorem kc_184_275 : zcode 184 275 = some (.iadd, 1, (0, 0, 0, 0)) := by decide +kernel
theorem kc_184_276 : zcode 184 276 = some (.iaload, 1, (0, 0, 0, 0)) := by decide +kernel
theorem kc_184_277 : zcode 184 277 = some (.invokevirtual 27, 3, (45, 0, 332, 0)) := by decide +kernel
theorem kc_184_280 : zcode 184 280 = some (.aload_n 2, 1, (0, 0, 0, 0)) := by decide +kernel
theorem kc_184_281 : zcode 184 281 = some (.aload_n 0, 1, (0, 0, 0, 0)) := by decide +kernel
theorem kc_184_282 : zcode 184 282 = some (.iload_n 3, 1, (0, 0, 0, 0)) := by decide +kernel
theorem kc_184_283 : zcode 184 283 = some (.iconst 1, 1, (0, 0, 0, 0)) := by decide +kernel
theorem kc_184_284 : zcode 184 284 = some (.iadd, 1, (0, 0, 0, 0)) := by decide +kernel
theorem kc_184_285 : zcode 184 285 = some (.iaload, 1, (0, 0, 0, 0)) := by decide +kernel
theorem kc_184_286 : zcode 184 286 = some (.invokevirtual 30, 3, (109, 0, 793, 0)) := by decide +kernel
theorem kc_184_289 : zcode 184 289 = some (.if_icmp .eq 1101, 3, (1390, 0, 0, 0)) := by decide +kernel
theorem kc_184_292 : zcode 184 292 = some (.iconst 0, 1, (0, 0, 0, 0)) := by decide +kernel
theorem kc_184_293 : zcode 184 293 = some (.ireturn, 1, (1, 0, 0, 0)) := by decide +kernel
theorem kc_184_294 : zcode 184 294 = some (.aload_n 1, 1, (0, 0, 0, 0)) := by decide +kernel
theorem kc_184_295 : zcode 184 295 = some (.aload_n 0, 1, (0, 0, 0, 0)) := by decide +kernel
theorem kc_184_296 : zcode 184 296 = some (.iload_n 3, 1, (0, 0, 0, 0)) := by decide +kernel
theorem kc_184_297 : zcode 184 297 = some (.iconst 1, 1, (0, 0, 0, 0)) := by decide +kernel
theorem kc_184_298 : zcode 184 298 = some (.iadd, 1, (0, 0, 0, 0)) := by decide +kernel
theorem kc_184_299 : zcode 184 299 = some (.iaload, 1, (0, 0, 0, 0)) := by decide +kernel
theorem kc_184_300 : zcode 184 300 = some (.invokevirtual 31, 3, (46, 0, 339, 0)) := by decide +kernel
theorem kc_184_303 : zcode 184 303 = some (.aload_n 2, 1, (0, 0, 0, 0)) := by decide +kernel
theorem kc_184_304 : zcode 184 304 = some (.aload_n 0, 1, (0, 0, 0, 0)) := by decide +kernel
theorem kc_184_305 : zcode 184 305 = some (.iload_n 3, 1, (0, 0, 0, 0)) := by decide +kernel
theorem kc_184_306 : zcode 184 306 = some (.iconst 1, 1, (0, 0, 0, 0)) := by decide +kernel
theorem kc_184_307 : zcode 184 307 = some (.iadd, 1, (0, 0, 0, 0)) := by decide +kernel
theorem kc_184_308 : zcode 184 308 = some (.iaload, 1, (0, 0, 0, 0)) := by decide +kernel
theorem kc_184_309 : zcode 184 309 = some (.invokevirtual 34, 3, (110, 0, 800, 0)) := by decide +kernel
theorem kc_184_312 : zcode 184 312 = some (.if_icmp .eq 1078, 3, (1390, 0, 0, 0)) := by decide +kernel
theorem kc_184_315 : zcode 184 315 = some (.iconst 0, 1, (0, 0, 0, 0)) := by decide +kernel
theorem kc_184_316 : zcode 184 316 = some (.ireturn, 1, (1, 0, 0, 0)) := by decide +kernel
theorem kc_184_317 : zcode 184 317 = some (.aload_n 1, 1, (0, 0, 0, 0)) := by decide +kernel
theorem kc_184_318 : zcode 184 318 = some (.aload_n 0, 1, (0, 0, 0, 0)) := by decide +kernel
theorem kc_184_319 : zcode 184 319 = some (.iload_n 3, 1, (0, 0, 0, 0)) := by decide +kernel
theorem kc_184_320 : zcode 184 320 = some (.iconst 1, 1, (0, 0, 0, 0)) := by decide +kernel
theorem kc_184_321 : zcode 184 321 = some (.iadd, 1, (0, 0, 0, 0)) := by decide +kernel
theorem kc_184_322 : zcode 184 322 = some (.iaload, 1, (0, 0, 0, 0)) := by decide +kernel
theorem kc_184_323 : zcode 184 323 = some (.invokevirtual 35, 3, (47, 0, 343, 0)) := by decide +kernel
theorem kc_184_326 : zcode 184 326 = some (.aload_n 2, 1, (0, 0, 0, 0)) := by decide +kernel
theorem kc_184_327 : zcode 184 327 = some (.aload_n 0, 1, (0, 0, 0, 0)) := by decide +kernel
theorem kc_184_328 : zcode 184 328 = some (.iload_n 3, 1, (0, 0, 0, 0)) := by decide +kernel
theorem kc_184_329 : zcode 184 329 = some (.iconst 1, 1, (0, 0, 0, 0)) := by decide +kernel
theorem kc_184_330 : zcode 184 330 = some (.iadd, 1, (0, 0, 0, 0)) := by decide +kernel
theorem kc_184_331 : zcode 184 331 = some (.iaload, 1, (0, 0, 0, 0)) := by decide +kernel
theorem kc_184_332 : zcode 184 332 = some (.invokevirtual 38, 3, (111, 0, 804, 0)) := by decide +kernel
theorem kc_184_335 : zcode 184 335 = some (.if_icmp .eq 1055, 3, (1390, 0, 0, 0)) := by decide +kernel
theorem kc_184_338 : zcode 184 338 = some (.iconst 0, 1, (0, 0, 0, 0)) := by decide +kernel
theorem kc_184_339 : zcode 184 339 = some (.ireturn, 1, (1, 0, 0, 0)) := by decide +kernel
theorem kc_184_340 : zcode 184 340 = some (.aload_n 1, 1, (0, 0, 0, 0)) := by decide +kernel
theorem kc_184_341 : zcode 184 341 = some (.aload_n 0, 1, (0, 0, 0, 0)) := by decide +kernel
theorem kc_184_342 : zcode 184 342 = some (.iload_n 3, 1, (0, 0, 0, 0)) := by decide +kernel
theorem kc_184_343 : zcode 184 343 = some (.iconst 1, 1, (0, 0, 0, 0)) := by decide +kernel
theorem kc_184_344 : zcode 184 344 = some (.iadd, 1, (0, 0, 0, 0)) := by decide +kernel
theorem kc_184_345 : zcode 184 345 = some (.iaload, 1, (0, 0, 0, 0)) := by decide +kernel
theorem kc_184_346 : zcode 184 346 = some (.invokevirtual 39, 3, (48, 0, 356, 0)) := by decide +kernel
theorem kc_184_349 : zcode 184 349 = some (.aload_n 2, 1, (0, 0, 0, 0)) := by decide +kernel
theorem kc_184_350 : zcode 184 350 = some (.aload_n 0, 1, (0, 0, 0, 0)) := by decide +kernel
theorem kc_184_351 : zcode 184 351 = some (.iload_n 3, 1, (0, 0, 0, 0)) := by decide +kernel
theorem kc_184_352 : zcode 184 352 = some (.iconst 1, 1, (0, 0, 0, 0)) := by decide +kernel
theorem kc_184_353 : zcode 184 353 = some (.iadd, 1, (0, 0, 0, 0)) := by decide +kernel
theorem kc_184_354 : zcode 184 354 = some (.iaload, 1, (0, 0, 0, 0)) := by decide +kernel
theorem kc_184_355 : zcode 184 355 = some (.invokevirtual 42, 3, (112, 0, 827, 0)) := by decide +kernel
theorem kc_184_358 : zcode 184 358 = some (.if_icmp .eq 1032, 3, (1390, 0, 0, 0)) := by decide +kernel
theorem kc_184_361 : zcode 184 361 = some (.iconst 0, 1, (0, 0, 0, 0)) := by decide +kernel
theorem kc_184_362 : zcode 184 362 = some (.ireturn, 1, (1, 0, 0, 0)) := by decide +kernel
theorem kc_184_363 : zcode 184 363 = some (.aload_n 1, 1, (0, 0, 0, 0)) := by decide +kernel
theorem kc_184_364 : zcode 184 364 = some (.invokevirtual 43, 3, (49, 0, 360, 0)) := by decide +kernel
theorem kc_184_367 : zcode 184 367 = some (.aload_n 2, 1, (0, 0, 0, 0)) := by decide +kernel
theorem kc_184_368 : zcode 184 368 = some (.invokevirtual 47, 3, (117, 0, 831, 0)) := by decide +kernel
theorem kc_184_371 : zcode 184 371 = some (.if_icmp .eq 1019, 3, (1390, 0, 0, 0)) := by decide +kernel
theorem kc_184_374 : zcode 184 374 = some (.iconst 0, 1, (0, 0, 0, 0)) := by decide +kernel
theorem kc_184_375 : zcode 184 375 = some (.ireturn, 1, (1, 0, 0, 0)) := by decide +kernel
theorem kc_184_376 : zcode 184 376 = some (.aload_n 1, 1, (0, 0, 0, 0)) := by decide +kernel
theorem kc_184_377 : zcode 184 377 = some (.aload_n 0, 1, (0, 0, 0, 0)) := by decide +kernel
theorem kc_184_378 : zcode 184 378 = some (.iload_n 3, 1, (0, 0, 0, 0)) := by decide +kernel
theorem kc_184_379 : zcode 184 379 = some (.iconst 1, 1, (0, 0, 0, 0)) := by decide +kernel
theorem kc_184_380 : zcode 184 380 = some (.iadd, 1, (0, 0, 0, 0)) := by decide +kernel
theorem kc_184_381 : zcode 184 381 = some (.iaload, 1, (0, 0, 0, 0)) := by decide +kernel
theorem kc_184_382 : zcode 184 382 = some (.aload_n 0, 1, (0, 0, 0, 0)) := by decide +kernel
theorem kc_184_383 : zcode 184 383 = some (.iload_n 3, 1, (0, 0, 0, 0)) := by decide +kernel
theorem kc_184_384 : zcode 184 384 = some (.iconst 2, 1, (0, 0, 0, 0)) := by decide +kernel
theorem kc_184_385 : zcode 184 385 = some (.iadd, 1, (0, 0, 0, 0)) := by decide +kernel
theorem kc_184_386 : zcode 184 386 = some (.iaload, 1, (0, 0, 0, 0)) := by decide +kernel
theorem kc_184_387 : zcode 184 387 = some (.aload_n 0, 1, (0, 0, 0, 0)) := by decide +kernel
theorem kc_184_388 : zcode 184 388 = some (.iload_n 3, 1, (0, 0, 0, 0)) := by decide +kernel
theorem kc_184_389 : zcode 184 389 = some (.iconst 3, 1, (0, 0, 0, 0)) := by decide +kernel
theorem kc_184_390 : zcode 184 390 = some (.iadd, 1, (0, 0, 0, 0)) := by decide +kernel
theorem kc_184_391 : zcode 184 391 = some (.iaload, 1, (0, 0, 0, 0)) := by decide +kernel
theorem kc_184_392 : zcode 184 392 = some (.invokevirtual 48, 3, (51, 0, 388, 0)) := by decide +kernel
theorem kc_184_395 : zcode 184 395 = some (.aload_n 2, 1, (0, 0, 0, 0)) := by decide +kernel
theorem kc_184_396 : zcode 184 396 = some (.aload_n 0, 1, (0, 0, 0, 0)) := by decide +kernel
theorem kc_184_397 : zcode 184 397 = some (.iload_n 3, 1, (0, 0, 0, 0)) := by decide +kernel
theorem kc_184_398 : zcode 184 398 = some (.iconst 1, 1, (0, 0, 0, 0)) := by decide +kernel
theorem kc_184_399 : zcode 184 399 = some (.iadd, 1, (0, 0, 0, 0)) := by decide +kernel
theorem kc_184_400 : zcode 184 400 = some (.iaload, 1, (0, 0, 0, 0)) := by decide +kernel
theorem kc_184_401 : zcode 184 401 = some (.aload_n 0, 1, (0, 0, 0, 0)) := by decide +kernel
theorem kc_184_402 : zcode 184 402 = some (.iload_n 3, 1, (0, 0, 0, 0)) := by decide +kernel
theorem kc_184_403 : zcode 184 403 = some (.iconst 2, 1, (0, 0, 0, 0)) := by decide +kernel
theorem kc_184_404 : zcode 184 404 = some (.iadd, 1, (0, 0, 0, 0)) := by decide +kernel
theorem kc_184_405 : zcode 184 405 = some (.iaload, 1, (0, 0, 0, 0)) := by decide +kernel
theorem kc_184_406 : zcode 184 406 = some (.aload_n 0, 1, (0, 0, 0, 0)) := by decide +kernel
theorem kc_184_407 : zcode 184 407 = some (.iload_n 3, 1, (0, 0, 0, 0)) := by decide +kernel
theorem kc_184_408 : zcode 184 408 = some (.iconst 3, 1, (0, 0, 0, 0)) := by decide +kernel
theorem kc_184_409 : zcode 184 409 = some (.iadd, 1, (0, 0, 0, 0)) := by decide +kernel
theorem kc_184_410 : zcode 184 410 = some (.iaload, 1, (0, 0, 0, 0)) := by decide +kernel
theorem kc_184_411 : zcode 184 411 = some (.invokevirtual 52, 3, (127, 0, 855, 0)) := by decide +kernel
theorem kc_184_414 : zcode 184 414 = some (.lcmp, 1, (0, 0, 0, 0)) := by decide +kernel
theorem kc_184_415 : zcode 184 415 = some (.ifCond .eq 975, 3, (1390, 0, 0, 0)) := by decide +kernel
theorem kc_184_418 : zcode 184 418 = some (.iconst 0, 1, (0, 0, 0, 0)) := by decide +kernel
theorem kc_184_419 : zcode 184 419 = some (.ireturn, 1, (1, 0, 0, 0)) := by decide +kernel
theorem kc_184_420 : zcode 184 420 = some (.aload_n 1, 1, (0, 0, 0, 0)) := by decide +kernel
theorem kc_184_421 : zcode 184 421 = some (.aload_n 0, 1, (0, 0, 0, 0)) := by decide +kernel
theorem kc_184_422 : zcode 184 422 = some (.iload_n 3, 1, (0, 0, 0, 0)) := by decide +kernel
theorem kc_184_423 : zcode 184 423 = some (.iconst 1, 1, (0, 0, 0, 0)) := by decide +kernel
theorem kc_184_424 : zcode 184 424 = some (.iadd, 1, (0, 0, 0, 0)) := by decide +kernel
theorem kc_184_425 : zcode 184 425 = some (.iaload, 1, (0, 0, 0, 0)) := by decide +kernel
theorem kc_184_426 : zcode 184 426 = some (.aload_n 0, 1, (0, 0, 0, 0)) := by decide +kernel
theorem kc_184_427 : zcode 184 427 = some (.iload_n 3, 1, (0, 0, 0, 0)) := by decide +kernel
theorem kc_184_428 : zcode 184 428 = some (.iconst 2, 1, (0, 0, 0, 0)) := by decide +kernel
theorem kc_184_429 : zcode 184 429 = some (.iadd, 1, (0, 0, 0, 0)) := by decide +kernel
theorem kc_184_430 : zcode 184 430 = some (.iaload, 1, (0, 0, 0, 0)) := by decide +kernel
theorem kc_184_431 : zcode 184 431 = some (.invokevirtual 53, 3, (52, 0, 440, 0)) := by decide +kernel
theorem kc_184_434 : zcode 184 434 = some (.aload_n 2, 1, (0, 0, 0, 0)) := by decide +kernel
theorem kc_184_435 : zcode 184 435 = some (.aload_n 0, 1, (0, 0, 0, 0)) := by decide +kernel
theorem kc_184_436 : zcode 184 436 = some (.iload_n 3, 1, (0, 0, 0, 0)) := by decide +kernel
theorem kc_184_437 : zcode 184 437 = some (.iconst 1, 1, (0, 0, 0, 0)) := by decide +kernel
theorem kc_184_438 : zcode 184 438 = some (.iadd, 1, (0, 0, 0, 0)) := by decide +kernel
theorem kc_184_439 : zcode 184 439 = some (.iaload, 1, (0, 0, 0, 0)) := by decide +kernel
theorem kc_184_440 : zcode 184 440 = some (.aload_n 0, 1, (0, 0, 0, 0)) := by decide +kernel
theorem kc_184_441 : zcode 184 441 = some (.iload_n 3, 1, (0, 0, 0, 0)) := by decide +kernel
theorem kc_184_442 : zcode 184 442 = some (.iconst 2, 1, (0, 0, 0, 0)) := by decide +kernel
theorem kc_184_443 : zcode 184 443 = some (.iadd, 1, (0, 0, 0, 0)) := by decide +kernel
theorem kc_184_444 : zcode 184 444 = some (.iaload, 1, (0, 0, 0, 0)) := by decide +kernel
theorem kc_184_445 : zcode 184 445 = some (.invokevirtual 56, 3, (128, 0, 908, 0)) := by decide +kernel
theorem kc_184_448 : zcode 184 448 = some (.if_icmp .eq 942, 3, (1390, 0, 0, 0)) := by decide +kernel
theorem kc_184_451 : zcode 184 451 = some (.iconst 0, 1, (0, 0, 0, 0)) := by decide +kernel
theorem kc_184_452 : zcode 184 452 = some (.ireturn, 1, (1, 0, 0, 0)) := by decide +kernel
theorem kc_184_453 : zcode 184 453 = some (.aload_n 1, 1, (0, 0, 0, 0)) := by decide +kernel
theorem kc_184_454 : zcode 184 454 = some (.aload_n 0, 1, (0, 0, 0, 0)) := by decide +kernel
theorem kc_184_455 : zcode 184 455 = some (.iload_n 3, 1, (0, 0, 0, 0)) := by decide +kernel
theorem kc_184_456 : zcode 184 456 = some (.iconst 1, 1, (0, 0, 0, 0)) := by decide +kernel
theorem kc_184_457 : zcode 184 457 = some (.iadd, 1, (0, 0, 0, 0)) := by decide +kernel
theorem kc_184_458 : zcode 184 458 = some (.iaload, 1, (0, 0, 0, 0)) := by decide +kernel
theorem kc_184_459 : zcode 184 459 = some (.aload_n 0, 1, (0, 0, 0, 0)) := by decide +kernel
theorem kc_184_460 : zcode 184 460 = some (.iload_n 3, 1, (0, 0, 0, 0)) := by decide +kernel
theorem kc_184_461 : zcode 184 461 = some (.iconst 2, 1, (0, 0, 0, 0)) := by decide +kernel
theorem kc_184_462 : zcode 184 462 = some (.iadd, 1, (0, 0, 0, 0)) := by decide +kernel
theorem kc_184_463 : zcode 184 463 = some (.iaload, 1, (0, 0, 0, 0)) := by decide +kernel
theorem kc_184_464 : zcode 184 464 = some (.aload_n 0, 1, (0, 0, 0, 0)) := by decide +kernel
theorem kc_184_465 : zcode 184 465 = some (.iload_n 3, 1, (0, 0, 0, 0)) := by decide +kernel
theorem kc_184_466 : zcode 184 466 = some (.iconst 3, 1, (0, 0, 0, 0)) := by decide +kernel
theorem kc_184_467 : zcode 184 467 = some (.iadd, 1, (0, 0, 0, 0)) := by decide +kernel
theorem kc_184_468 : zcode 184 468 = some (.iaload, 1, (0, 0, 0, 0)) := by decide +kernel
theorem kc_184_469 : zcode 184 469 = some (.invokevirtual 57, 3, (53, 0, 448, 0)) := by decide +kernel
theorem kc_184_472 : zcode 184 472 = some (.aload_n 2, 1, (0, 0, 0, 0)) := by decide +kernel
theorem kc_184_473 : zcode 184 473 = some (.aload_n 0, 1, (0, 0, 0, 0)) := by decide +kernel
theorem kc_184_474 : zcode 184 474 = some (.iload_n 3, 1, (0, 0, 0, 0)) := by decide +kernel
theorem kc_184_475 : zcode 184 475 = some (.iconst 1, 1, (0, 0, 0, 0)) := by decide +kernel
theorem kc_184_476 : zcode 184 476 = some (.iadd, 1, (0, 0, 0, 0)) := by decide +kernel
theorem kc_184_477 : zcode 184 477 = some (.iaload, 1, (0, 0, 0, 0)) := by decide +kernel
theorem kc_184_478 : zcode 184 478 = some (.aload_n 0, 1, (0, 0, 0, 0)) := by decide +kernel
theorem kc_184_479 : zcode 184 479 = some (.iload_n 3, 1, (0, 0, 0, 0)) := by decide +kernel
theorem kc_184_480 : zcode 184 480 = some (.iconst 2, 1, (0, 0, 0, 0)) := by decide +kernel
theorem kc_184_481 : zcode 184 481 = some (.iadd, 1, (0, 0, 0, 0)) := by decide +kernel
theorem kc_184_482 : zcode 184 482 = some (.iaload, 1, (0, 0, 0, 0)) := by decide +kernel
theorem kc_184_483 : zcode 184 483 = some (.aload_n 0, 1, (0, 0, 0, 0)) := by decide +kernel
theorem kc_184_484 : zcode 184 484 = some (.iload_n 3, 1, (0, 0, 0, 0)) := by decide +kernel
theorem kc_184_485 : zcode 184 485 = some (.iconst 3, 1, (0, 0, 0, 0)) := by decide +kernel
theorem kc_184_486 : zcode 184 486 = some (.iadd, 1, (0, 0, 0, 0)) := by decide +kernel
theorem kc_184_487 : zcode 184 487 = some (.iaload, 1, (0, 0, 0, 0)) := by decide +kernel
theorem kc_184_488 : zcode 184 488 = some (.invokevirtual 60, 3, (129, 0, 916, 0)) := by decide +kernel
theorem kc_184_491 : zcode 184 491 = some (.lcmp, 1, (0, 0, 0, 0)) := by decide +kernel
theorem kc_184_492 : zcode 184 492 = some (.ifCond .eq 898, 3, (1390, 0, 0, 0)) := by decide +kernel
theorem kc_184_495 : zcode 184 495 = some (.iconst 0, 1, (0, 0, 0, 0)) := by decide +kernel
theorem kc_184_496 : zcode 184 496 = some (.ireturn, 1, (1, 0, 0, 0)) := by decide +kernel
theorem kc_184_497 : zcode 184 497 = some (.aload_n 1, 1, (0, 0, 0, 0)) := by decide +kernel
theorem kc_184_498 : zcode 184 498 = some (.aload_n 0, 1, (0, 0, 0, 0)) := by decide +kernel
theorem kc_184_499 : zcode 184 499 = some (.iload_n 3, 1, (0, 0, 0, 0)) := by decide +kernel
theorem kc_184_500 : zcode 184 500 = some (.iconst 1, 1, (0, 0, 0, 0)) := by decide +kernel
theorem kc_184_501 : zcode 184 501 = some (.iadd, 1, (0, 0, 0, 0)) := by decide +kernel
theorem kc_184_502 : zcode 184 502 = some (.iaload, 1, (0, 0, 0, 0)) := by decide +kernel
theorem kc_184_503 : zcode 184 503 = some (.aload_n 0, 1, (0, 0, 0, 0)) := by decide +kernel
theorem kc_184_504 : zcode 184 504 = some (.iload_n 3, 1, (0, 0, 0, 0)) := by decide +kernel
theorem kc_184_505 : zcode 184 505 = some (.iconst 2, 1, (0, 0, 0, 0)) := by decide +kernel
theorem kc_184_506 : zcode 184 506 = some (.iadd, 1, (0, 0, 0, 0)) := by decide +kernel
theorem kc_184_507 : zcode 184 507 = some (.iaload, 1, (0, 0, 0, 0)) := by decide +kernel
theorem kc_184_508 : zcode 184 508 = some (.aload_n 0, 1, (0, 0, 0, 0)) := by decide +kernel
theorem kc_184_509 : zcode 184 509 = some (.iload_n 3, 1, (0, 0, 0, 0)) := by decide +kernel
theorem kc_184_510 : zcode 184 510 = some (.iconst 3, 1, (0, 0, 0, 0)) := by decide +kernel
theorem kc_184_511 : zcode 184 511 = some (.iadd, 1, (0, 0, 0, 0)) := by decide +kernel
theorem kc_184_512 : zcode 184 512 = some (.iaload, 1, (0, 0, 0, 0)) := by decide +kernel
theorem kc_184_513 : zcode 184 513 = some (.aload_n 0, 1, (0, 0, 0, 0)) := by decide +kernel
theorem kc_184_514 : zcode 184 514 = some (.iload_n 3, 1, (0, 0, 0, 0)) := by decide +kernel
theorem kc_184_515 : zcode 184 515 = some (.iconst 4, 1, (0, 0, 0, 0)) := by decide +kernel
theorem kc_184_516 : zcode 184 516 = some (.iadd, 1, (0, 0, 0, 0)) := by decide +kernel
theorem kc_184_517 : zcode 184 517 = some (.iaload, 1, (0, 0, 0, 0)) := by decide +kernel
theorem kc_184_518 : zcode 184 518 = some (.invokevirtual 61, 3, (54, 0, 455, 0)) := by decide +kernel
theorem kc_184_521 : zcode 184 521 = some (.aload_n 2, 1, (0, 0, 0, 0)) := by decide +kernel
theorem kc_184_522 : zcode 184 522 = some (.aload_n 0, 1, (0, 0, 0, 0)) := by decide +kernel
theorem kc_184_523 : zcode 184 523 = some (.iload_n 3, 1, (0, 0, 0, 0)) := by decide +kernel
theorem kc_184_524 : zcode 184 524 = some (.iconst 1, 1, (0, 0, 0, 0)) := by decide +kernel
theorem kc_184_525 : zcode 184 525 = some (.iadd, 1, (0, 0, 0, 0)) := by decide +kernel
theorem kc_184_526 : zcode 184 526 = some (.iaload, 1, (0, 0, 0, 0)) := by decide +kernel
theorem kc_184_527 : zcode 184 527 = some (.aload_n 0, 1, (0, 0, 0, 0)) := by decide +kernel
theorem kc_184_528 : zcode 184 528 = some (.iload_n 3, 1, (0, 0, 0, 0)) := by decide +kernel
theorem kc_184_529 : zcode 184 529 = some (.iconst 2, 1, (0, 0, 0, 0)) := by decide +kernel
theorem kc_184_530 : zcode 184 530 = some (.iadd, 1, (0, 0, 0, 0)) := by decide +kernel
theorem kc_184_531 : zcode 184 531 = some (.iaload, 1, (0, 0, 0, 0)) := by decide +kernel
theorem kc_184_532 : zcode 184 532 = some (.aload_n 0, 1, (0, 0, 0, 0)) := by decide +kernel
theorem kc_184_533 : zcode 184 533 = some (.iload_n 3, 1, (0, 0, 0, 0)) := by decide +kernel
theorem kc_184_534 : zcode 184 534 = some (.iconst 3, 1, (0, 0, 0, 0)) := by decide +kernel
theorem kc_184_535 : zcode 184 535 = some (.iadd, 1, (0, 0, 0, 0)) := by decide +kernel
theorem kc_184_536 : zcode 184 536 = some (.iaload, 1, (0, 0, 0, 0)) := by decide +kernel
theorem kc_184_537 : zcode 184 537 = some (.aload_n 0, 1, (0, 0, 0, 0)) := by decide +kernel
theorem kc_184_538 : zcode 184 538 = some (.iload_n 3, 1, (0, 0, 0, 0)) := by decide +kernel
theorem kc_184_539 : zcode 184 539 = some (.iconst 4, 1, (0, 0, 0, 0)) := by decide +kernel
theorem kc_184_540 : zcode 184 540 = some (.iadd, 1, (0, 0, 0, 0)) := by decide +kernel
theorem kc_184_541 : zcode 184 541 = some (.iaload, 1, (0, 0, 0, 0)) := by decide +kernel
theorem kc_184_542 : zcode 184 542 = some (.invokevirtual 65, 3, (131, 0, 920, 0)) := by decide +kernel
theorem kc_184_545 : zcode 184 545 = some (.lcmp, 1, (0, 0, 0, 0)) := by decide +kernel
theorem kc_184_546 : zcode 184 546 = some (.ifCond .eq 844, 3, (1390, 0, 0, 0)) := by decide +kernel
theorem kc_184_549 : zcode 184 549 = some (.iconst 0, 1, (0, 0, 0, 0)) := by decide +kernel
theorem kc_184_550 : zcode 184 550 = some (.ireturn, 1, (1, 0, 0, 0)) := by decide +kernel
theorem kc_184_551 : zcode 184 551 = some (.aload_n 1, 1, (0, 0, 0, 0)) := by decide +kernel
theorem kc_184_552 : zcode 184 552 = some (.aload_n 0, 1, (0, 0, 0, 0)) := by decide +kernel
theorem kc_184_553 : zcode 184 553 = some (.iload_n 3, 1, (0, 0, 0, 0)) := by decide +kernel
theorem kc_184_554 : zcode 184 554 = some (.iconst 1, 1, (0, 0, 0, 0)) := by decide +kernel
theorem kc_184_555 : zcode 184 555 = some (.iadd, 1, (0, 0, 0, 0)) := by decide +kernel
theorem kc_184_556 : zcode 184 556 = some (.iaload, 1, (0, 0, 0, 0)) := by decide +kernel
theorem kc_184_557 : zcode 184 557 = some (.invokevirtual 66, 3, (56, 0, 464, 0)) := by decide +kernel
theorem kc_184_560 : zcode 184 560 = some (.aload_n 2, 1, (0, 0, 0, 0)) := by decide +kernel
theorem kc_184_561 : zcode 184 561 = some (.aload_n 0, 1, (0, 0, 0, 0)) := by decide +kernel
theorem kc_184_562 : zcode 184 562 = some (.iload_n 3, 1, (0, 0, 0, 0)) := by decide +kernel
theorem kc_184_563 : zcode 184 563 = some (.iconst 1, 1, (0, 0, 0, 0)) := by decide +kernel
theorem kc_184_564 : zcode 184 564 = some (.iadd, 1, (0, 0, 0, 0)) := by decide +kernel
theorem kc_184_565 : zcode 184 565 = some (.iaload, 1, (0, 0, 0, 0)) := by decide +kernel
theorem kc_184_566 : zcode 184 566 = some (.invokevirtual 69, 3, (133, 0, 928, 0)) := by decide +kernel
theorem kc_184_569 : zcode 184 569 = some (.if_icmp .eq 821, 3, (1390, 0, 0, 0)) := by decide +kernel
theorem kc_184_572 : zcode 184 572 = some (.iconst 0, 1, (0, 0, 0, 0)) := by decide +kernel
theorem kc_184_573 : zcode 184 573 = some (.ireturn, 1, (1, 0, 0, 0)) := by decide +kernel
theorem kc_184_574 : zcode 184 574 = some (.aload_n 1, 1, (0, 0, 0, 0)) := by decide +kernel
theorem kc_184_575 : zcode 184 575 = some (.aload_n 0, 1, (0, 0, 0, 0)) := by decide +kernel
theorem kc_184_576 : zcode 184 576 = some (.iload_n 3, 1, (0, 0, 0, 0)) := by decide +kernel
theorem kc_184_577 : zcode 184 577 = some (.iconst 1, 1, (0, 0, 0, 0)) := by decide +kernel
theorem kc_184_578 : zcode 184 578 = some (.iadd, 1, (0, 0, 0, 0)) := by decide +kernel
theorem kc_184_579 : zcode 184 579 = some (.iaload, 1, (0, 0, 0, 0)) := by decide +kernel
theorem kc_184_580 : zcode 184 580 = some (.aload_n 0, 1, (0, 0, 0, 0)) := by decide +kernel
theorem kc_184_581 : zcode 184 581 = some (.iload_n 3, 1, (0, 0, 0, 0)) := by decide +kernel
theorem kc_184_582 : zcode 184 582 = some (.iconst 2, 1, (0, 0, 0, 0)) := by decide +kernel
theorem kc_184_583 : zcode 184 583 = some (.iadd, 1, (0, 0, 0, 0)) := by decide +kernel
theorem kc_184_584 : zcode 184 584 = some (.iaload, 1, (0, 0, 0, 0)) := by decide +kernel
theorem kc_184_585 : zcode 184 585 = some (.aload_n 0, 1, (0, 0, 0, 0)) := by decide +kernel
theorem kc_184_586 : zcode 184 586 = some (.iload_n 3, 1, (0, 0, 0, 0)) := by decide +kernel
theorem kc_184_587 : zcode 184 587 = some (.iconst 3, 1, (0, 0, 0, 0)) := by decide +kernel
theorem kc_184_588 : zcode 184 588 = some (.iadd, 1, (0, 0, 0, 0)) := by decide +kernel
theorem kc_184_589 : zcode 184 589 = some (.iaload, 1, (0, 0, 0, 0)) := by decide +kernel
theorem kc_184_590 : zcode 184 590 = some (.aload_n 0, 1, (0, 0, 0, 0)) := by decide +kernel
theorem kc_184_591 : zcode 184 591 = some (.iload_n 3, 1, (0, 0, 0, 0)) := by decide +kernel
theorem kc_184_592 : zcode 184 592 = some (.iconst 4, 1, (0, 0, 0, 0)) := by decide +kernel
theorem kc_184_593 : zcode 184 593 = some (.iadd, 1, (0, 0, 0, 0)) := by decide +kernel
theorem kc_184_594 : zcode 184 594 = some (.iaload, 1, (0, 0, 0, 0)) := by decide +kernel
theorem kc_184_595 : zcode 184 595 = some (.aload_n 0, 1, (0, 0, 0, 0)) := by decide +kernel
theorem kc_184_596 : zcode 184 596 = some (.iload_n 3, 1, (0, 0, 0, 0)) := by decide +kernel
theorem kc_184_597 : zcode 184 597 = some (.iconst 5, 1, (0, 0, 0, 0)) := by decide +kernel
theorem kc_184_598 : zcode 184 598 = some (.iadd, 1, (0, 0, 0, 0)) := by decide +kernel
theorem kc_184_599 : zcode 184 599 = some (.iaload, 1, (0, 0, 0, 0)) := by decide +kernel
theorem kc_184_600 : zcode 184 600 = some (.invokevirtual 70, 3, (58, 0, 472, 0)) := by decide +kernel
theorem kc_184_603 : zcode 184 603 = some (.aload_n 2, 1, (0, 0, 0, 0)) := by decide +kernel
theorem kc_184_604 : zcode 184 604 = some (.aload_n 0, 1, (0, 0, 0, 0)) := by decide +kernel
theorem kc_184_605 : zcode 184 605 = some (.iload_n 3, 1, (0, 0, 0, 0)) := by decide +kernel
theorem kc_184_606 : zcode 184 606 = some (.iconst 1, 1, (0, 0, 0, 0)) := by decide +kernel
theorem kc_184_607 : zcode 184 607 = some (.iadd, 1, (0, 0, 0, 0)) := by decide +kernel
theorem kc_184_608 : zcode 184 608 = some (.iaload, 1, (0, 0, 0, 0)) := by decide +kernel
theorem kc_184_609 : zcode 184 609 = some (.aload_n 0, 1, (0, 0, 0, 0)) := by decide +kernel
theorem kc_184_610 : zcode 184 610 = some (.iload_n 3, 1, (0, 0, 0, 0)) := by decide +kernel
theorem kc_184_611 : zcode 184 611 = some (.iconst 2, 1, (0, 0, 0, 0)) := by decide +kernel
theorem kc_184_612 : zcode 184 612 = some (.iadd, 1, (0, 0, 0, 0)) := by decide +kernel
theorem kc_184_613 : zcode 184 613 = some (.iaload, 1, (0, 0, 0, 0)) := by decide +kernel
theorem kc_184_614 : zcode 184 614 = some (.aload_n 0, 1, (0, 0, 0, 0)) := by decide +kernel
theorem kc_184_615 : zcode 184 615 = some (.iload_n 3, 1, (0, 0, 0, 0)) := by decide +kernel
theorem kc_184_616 : zcode 184 616 = some (.iconst 3, 1, (0, 0, 0, 0)) := by decide +kernel
theorem kc_184_617 : zcode 184 617 = some (.iadd, 1, (0, 0, 0, 0)) := by decide +kernel
theorem kc_184_618 : zcode 184 618 = some (.iaload, 1, (0, 0, 0, 0)) := by decide +kernel
theorem kc_184_619 : zcode 184 619 = some (.aload_n 0, 1, (0, 0, 0, 0)) := by decide +kernel
theorem kc_184_620 : zcode 184 620 = some (.iload_n 3, 1, (0, 0, 0, 0)) := by decide +kernel
theorem kc_184_621 : zcode 184 621 = some (.iconst 4, 1, (0, 0, 0, 0)) := by decide +kernel
theorem kc_184_622 : zcode 184 622 = some (.iadd, 1, (0, 0, 0, 0)) := by decide +kernel
theorem kc_184_623 : zcode 184 623 = some (.iaload, 1, (0, 0, 0, 0)) := by decide +kernel
theorem kc_184_624 : zcode 184 624 = some (.aload_n 0, 1, (0, 0, 0, 0)) := by decide +kernel
theorem kc_184_625 : zcode 184 625 = some (.iload_n 3, 1, (0, 0, 0, 0)) := by decide +kernel
theorem kc_184_626 : zcode 184 626 = some (.iconst 5, 1, (0, 0, 0, 0)) := by decide +kernel
theorem kc_184_627 : zcode 184 627 = some (.iadd, 1, (0, 0, 0, 0)) := by decide +kernel
theorem kc_184_628 : zcode 184 628 = some (.iaload, 1, (0, 0, 0, 0)) := by decide +kernel
theorem kc_184_629 : zcode 184 629 = some (.invokevirtual 74, 3, (134, 0, 936, 0)) := by decide +kernel
theorem kc_184_632 : zcode 184 632 = some (.lcmp, 1, (0, 0, 0, 0)) := by decide +kernel
theorem kc_184_633 : zcode 184 633 = some (.ifCond .eq 757, 3, (1390, 0, 0, 0)) := by decide +kernel
theorem kc_184_636 : zcode 184 636 = some (.iconst 0, 1, (0, 0, 0, 0)) := by decide +kernel
theorem kc_184_637 : zcode 184 637 = some (.ireturn, 1, (1, 0, 0, 0)) := by decide +kernel
theorem kc_184_638 : zcode 184 638 = some (.aload_n 1, 1, (0, 0, 0, 0)) := by decide +kernel
theorem kc_184_639 : zcode 184 639 = some (.aload_n 0, 1, (0, 0, 0, 0)) := by decide +kernel
theorem kc_184_640 : zcode 184 640 = some (.iload_n 3, 1, (0, 0, 0, 0)) := by decide +kernel
theorem kc_184_641 : zcode 184 641 = some (.iconst 1, 1, (0, 0, 0, 0)) := by decide +kernel
theorem kc_184_642 : zcode 184 642 = some (.iadd, 1, (0, 0, 0, 0)) := by decide +kernel
theorem kc_184_643 : zcode 184 643 = some (.iaload, 1, (0, 0, 0, 0)) := by decide +kernel
theorem kc_184_644 : zcode 184 644 = some (.aload_n 0, 1, (0, 0, 0, 0)) := by decide +kernel
theorem kc_184_645 : zcode 184 645 = some (.iload_n 3, 1, (0, 0, 0, 0)) := by decide +kernel
theorem kc_184_646 : zcode 184 646 = some (.iconst 2, 1, (0, 0, 0, 0)) := by decide +kernel
theorem kc_184_647 : zcode 184 647 = some (.iadd, 1, (0, 0, 0, 0)) := by decide +kernel
theorem kc_184_648 : zcode 184 648 = some (.iaload, 1, (0, 0, 0, 0)) := by decide +kernel
theorem kc_184_649 : zcode 184 649 = some (.aload_n 0, 1, (0, 0, 0, 0)) := by decide +kernel
theorem kc_184_650 : zcode 184 650 = some (.iload_n 3, 1, (0, 0, 0, 0)) := by decide +kernel
theorem kc_184_651 : zcode 184 651 = some (.iconst 3, 1, (0, 0, 0, 0)) := by decide +kernel
theorem kc_184_652 : zcode 184 652 = some (.iadd, 1, (0, 0, 0, 0)) := by decide +kernel
theorem kc_184_653 : zcode 184 653 = some (.iaload, 1, (0, 0, 0, 0)) := by decide +kernel
theorem kc_184_654 : zcode 184 654 = some (.invokevirtual 75, 3, (59, 0, 481, 0)) := by decide +kernel
theorem kc_184_657 : zcode 184 657 = some (.aload_n 2, 1, (0, 0, 0, 0)) := by decide +kernel
theorem kc_184_658 : zcode 184 658 = some (.aload_n 0, 1, (0, 0, 0, 0)) := by decide +kernel
theorem kc_184_659 : zcode 184 659 = some (.iload_n 3, 1, (0, 0, 0, 0)) := by decide +kernel
theorem kc_184_660 : zcode 184 660 = some (.iconst 1, 1, (0, 0, 0, 0)) := by decide +kernel
theorem kc_184_661 : zcode 184 661 = some (.iadd, 1, (0, 0, 0, 0)) := by decide +kernel
theorem kc_184_662 : zcode 184 662 = some (.iaload, 1, (0, 0, 0, 0)) := by decide +kernel
theorem kc_184_663 : zcode 184 663 = some (.aload_n 0, 1, (0, 0, 0, 0)) := by decide +kernel
theorem kc_184_664 : zcode 184 664 = some (.iload_n 3, 1, (0, 0, 0, 0)) := by decide +kernel
theorem kc_184_665 : zcode 184 665 = some (.iconst 2, 1, (0, 0, 0, 0)) := by decide +kernel
theorem kc_184_666 : zcode 184 666 = some (.iadd, 1, (0, 0, 0, 0)) := by decide +kernel
theorem kc_184_667 : zcode 184 667 = some (.iaload, 1, (0, 0, 0, 0)) := by decide +kernel
theorem kc_184_668 : zcode 184 668 = some (.aload_n 0, 1, (0, 0, 0, 0)) := by decide +kernel
theorem kc_184_669 : zcode 184 669 = some (.iload_n 3, 1, (0, 0, 0, 0)) := by decide +kernel
theorem kc_184_670 : zcode 184 670 = some (.iconst 3, 1, (0, 0, 0, 0)) := by decide +kernel
theorem kc_184_671 : zcode 184 671 = some (.iadd, 1, (0, 0, 0, 0)) := by decide +kernel
theorem kc_184_672 : zcode 184 672 = some (.iaload, 1, (0, 0, 0, 0)) := by decide +kernel
theorem kc_184_673 : zcode 184 673 = some (.invokevirtual 79, 3, (136, 0, 940, 0)) := by decide +kernel
theorem kc_184_676 : zcode 184 676 = some (.if_icmp .eq 714, 3, (1390, 0, 0, 0)) := by decide +kernel
theorem kc_184_679 : zcode 184 679 = some (.iconst 0, 1, (0, 0, 0, 0)) := by decide +kernel
theorem kc_184_680 : zcode 184 680 = some (.ireturn, 1, (1, 0, 0, 0)) := by decide +kernel
theorem kc_184_681 : zcode 184 681 = some (.aload_n 1, 1, (0, 0, 0, 0)) := by decide +kernel
theorem kc_184_682 : zcode 184 682 = some (.aload_n 0, 1, (0, 0, 0, 0)) := by decide +kernel
theorem kc_184_683 : zcode 184 683 = some (.iload_n 3, 1, (0, 0, 0, 0)) := by decide +kernel
theorem kc_184_684 : zcode 184 684 = some (.iconst 1, 1, (0, 0, 0, 0)) := by decide +kernel
theorem kc_184_685 : zcode 184 685 = some (.iadd, 1, (0, 0, 0, 0)) := by decide +kernel
theorem kc_184_686 : zcode 184 686 = some (.iaload, 1, (0, 0, 0, 0)) := by decide +kernel
theorem kc_184_687 : zcode 184 687 = some (.aload_n 0, 1, (0, 0, 0, 0)) := by decide +kernel
theorem kc_184_688 : zcode 184 688 = some (.iload_n 3, 1, (0, 0, 0, 0)) := by decide +kernel
theorem kc_184_689 : zcode 184 689 = some (.iconst 2, 1, (0, 0, 0, 0)) := by decide +kernel
theorem kc_184_690 : zcode 184 690 = some (.iadd, 1, (0, 0, 0, 0)) := by decide +kernel
theorem kc_184_691 : zcode 184 691 = some (.iaload, 1, (0, 0, 0, 0)) := by decide +kernel
theorem kc_184_692 : zcode 184 692 = some (.invokevirtual 80, 3, (60, 0, 485, 0)) := by decide +kernel
theorem kc_184_695 : zcode 184 695 = some (.aload_n 2, 1, (0, 0, 0, 0)) := by decide +kernel
theorem kc_184_696 : zcode 184 696 = some (.aload_n 0, 1, (0, 0, 0, 0)) := by decide +kernel
theorem kc_184_697 : zcode 184 697 = some (.iload_n 3, 1, (0, 0, 0, 0)) := by decide +kernel
theorem kc_184_698 : zcode 184 698 = some (.iconst 1, 1, (0, 0, 0, 0)) := by decide +kernel
theorem kc_184_699 : zcode 184 699 = some (.iadd, 1, (0, 0, 0, 0)) := by decide +kernel
theorem kc_184_700 : zcode 184 700 = some (.iaload, 1, (0, 0, 0, 0)) := by decide +kernel
theorem kc_184_701 : zcode 184 701 = some (.aload_n 0, 1, (0, 0, 0, 0)) := by decide +kernel
theorem kc_184_702 : zcode 184 702 = some (.iload_n 3, 1, (0, 0, 0, 0)) := by decide +kernel
theorem kc_184_703 : zcode 184 703 = some (.iconst 2, 1, (0, 0, 0, 0)) := by decide +kernel
theorem kc_184_704 : zcode 184 704 = some (.iadd, 1, (0, 0, 0, 0)) := by decide +kernel
theorem kc_184_705 : zcode 184 705 = some (.iaload, 1, (0, 0, 0, 0)) := by decide +kernel
theorem kc_184_706 : zcode 184 706 = some (.invokevirtual 83, 3, (137, 0, 948, 0)) := by decide +kernel
theorem kc_184_709 : zcode 184 709 = some (.if_icmp .eq 681, 3, (1390, 0, 0, 0)) := by decide +kernel
theorem kc_184_712 : zcode 184 712 = some (.iconst 0, 1, (0, 0, 0, 0)) := by decide +kernel
theorem kc_184_713 : zcode 184 713 = some (.ireturn, 1, (1, 0, 0, 0)) := by decide +kernel
theorem kc_184_714 : zcode 184 714 = some (.aload_n 1, 1, (0, 0, 0, 0)) := by decide +kernel
theorem kc_184_715 : zcode 184 715 = some (.aload_n 0, 1, (0, 0, 0, 0)) := by decide +kernel
theorem kc_184_716 : zcode 184 716 = some (.iload_n 3, 1, (0, 0, 0, 0)) := by decide +kernel
theorem kc_184_717 : zcode 184 717 = some (.iconst 1, 1, (0, 0, 0, 0)) := by decide +kernel
theorem kc_184_718 : zcode 184 718 = some (.iadd, 1, (0, 0, 0, 0)) := by decide +kernel
theorem kc_184_719 : zcode 184 719 = some (.iaload, 1, (0, 0, 0, 0)) := by decide +kernel
theorem kc_184_720 : zcode 184 720 = some (.invokevirtual 84, 3, (61, 0, 489, 0)) := by decide +kernel
theorem kc_184_723 : zcode 184 723 = some (.aload_n 2, 1, (0, 0, 0, 0)) := by decide +kernel
theorem kc_184_724 : zcode 184 724 = some (.aload_n 0, 1, (0, 0, 0, 0)) := by decide +kernel
theorem kc_184_725 : zcode 184 725 = some (.iload_n 3, 1, (0, 0, 0, 0)) := by decide +kernel
theorem kc_184_726 : zcode 184 726 = some (.iconst 1, 1, (0, 0, 0, 0)) := by decide +kernel
theorem kc_184_727 : zcode 184 727 = some (.iadd, 1, (0, 0, 0, 0)) := by decide +kernel
theorem kc_184_728 : zcode 184 728 = some (.iaload, 1, (0, 0, 0, 0)) := by decide +kernel
theorem kc_184_729 : zcode 184 729 = some (.invokevirtual 87, 3, (140, 0, 952, 0)) := by decide +kernel
theorem kc_184_732 : zcode 184 732 = some (.if_icmp .eq 658, 3, (1390, 0, 0, 0)) := by decide +kernel
theorem kc_184_735 : zcode 184 735 = some (.iconst 0, 1, (0, 0, 0, 0)) := by decide +kernel
theorem kc_184_736 : zcode 184 736 = some (.ireturn, 1, (1, 0, 0, 0)) := by decide +kernel
theorem kc_184_737 : zcode 184 737 = some (.aload_n 1, 1, (0, 0, 0, 0)) := by decide +kernel
theorem kc_184_738 : zcode 184 738 = some (.aload_n 0, 1, (0, 0, 0, 0)) := by decide +kernel
theorem kc_184_739 : zcode 184 739 = some (.iload_n 3, 1, (0, 0, 0, 0)) := by decide +kernel
theorem kc_184_740 : zcode 184 740 = some (.iconst 1, 1, (0, 0, 0, 0)) := by decide +kernel
theorem kc_184_741 : zcode 184 741 = some (.iadd, 1, (0, 0, 0, 0)) := by decide +kernel
theorem kc_184_742 : zcode 184 742 = some (.iaload, 1, (0, 0, 0, 0)) := by decide +kernel
theorem kc_184_743 : zcode 184 743 = some (.aload_n 0, 1, (0, 0, 0, 0)) := by decide +kernel
theorem kc_184_744 : zcode 184 744 = some (.iload_n 3, 1, (0, 0, 0, 0)) := by decide +kernel
theorem kc_184_745 : zcode 184 745 = some (.iconst 2, 1, (0, 0, 0, 0)) := by decide +kernel
theorem kc_184_746 : zcode 184 746 = some (.iadd, 1, (0, 0, 0, 0)) := by decide +kernel
theorem kc_184_747 : zcode 184 747 = some (.iaload, 1, (0, 0, 0, 0)) := by decide +kernel
theorem kc_184_748 : zcode 184 748 = some (.invokevirtual 88, 3, (62, 0, 501, 0)) := by decide +kernel
theorem kc_184_751 : zcode 184 751 = some (.aload_n 2, 1, (0, 0, 0, 0)) := by decide +kernel
theorem kc_184_752 : zcode 184 752 = some (.aload_n 0, 1, (0, 0, 0, 0)) := by decide +kernel
theorem kc_184_753 : zcode 184 753 = some (.iload_n 3, 1, (0, 0, 0, 0)) := by decide +kernel
theorem kc_184_754 : zcode 184 754 = some (.iconst 1, 1, (0, 0, 0, 0)) := by decide +kernel
theorem kc_184_755 : zcode 184 755 = some (.iadd, 1, (0, 0, 0, 0)) := by decide +kernel
theorem kc_184_756 : zcode 184 756 = some (.iaload, 1, (0, 0, 0, 0)) := by decide +kernel
theorem kc_184_757 : zcode 184 757 = some (.aload_n 0, 1, (0, 0, 0, 0)) := by decide +kernel
theorem kc_184_758 : zcode 184 758 = some (.iload_n 3, 1, (0, 0, 0, 0)) := by decide +kernel
theorem kc_184_759 : zcode 184 759 = some (.iconst 2, 1, (0, 0, 0, 0)) := by decide +kernel
theorem kc_184_760 : zcode 184 760 = some (.iadd, 1, (0, 0, 0, 0)) := by decide +kernel
theorem kc_184_761 : zcode 184 761 = some (.iaload, 1, (0, 0, 0, 0)) := by decide +kernel
theorem kc_184_762 : zcode 184 762 = some (.invokevirtual 91, 3, (142, 0, 964, 0)) := by decide +kernel
theorem kc_184_765 : zcode 184 765 = some (.if_icmp .eq 625, 3, (1390, 0, 0, 0)) := by decide +kernel
theorem kc_184_768 : zcode 184 768 = some (.iconst 0, 1, (0, 0, 0, 0)) := by decide +kernel
theorem kc_184_769 : zcode 184 769 = some (.ireturn, 1, (1, 0, 0, 0)) := by decide +kernel
theorem kc_184_770 : zcode 184 770 = some (.aload_n 1, 1, (0, 0, 0, 0)) := by decide +kernel
theorem kc_184_771 : zcode 184 771 = some (.aload_n 0, 1, (0, 0, 0, 0)) := by decide +kernel
theorem kc_184_772 : zcode 184 772 = some (.iload_n 3, 1, (0, 0, 0, 0)) := by decide +kernel
theorem kc_184_773 : zcode 184 773 = some (.iconst 1, 1, (0, 0, 0, 0)) := by decide +kernel
theorem kc_184_774 : zcode 184 774 = some (.iadd, 1, (0, 0, 0, 0)) := by decide +kernel
theorem kc_184_775 : zcode 184 775 = some (.iaload, 1, (0, 0, 0, 0)) := by decide +kernel
theorem kc_184_776 : zcode 184 776 = some (.aload_n 0, 1, (0, 0, 0, 0)) := by decide +kernel
theorem kc_184_777 : zcode 184 777 = some (.iload_n 3, 1, (0, 0, 0, 0)) := by decide +kernel
theorem kc_184_778 : zcode 184 778 = some (.iconst 2, 1, (0, 0, 0, 0)) := by decide +kernel
theorem kc_184_779 : zcode 184 779 = some (.iadd, 1, (0, 0, 0, 0)) := by decide +kernel
theorem kc_184_780 : zcode 184 780 = some (.iaload, 1, (0, 0, 0, 0)) := by decide +kernel
theorem kc_184_781 : zcode 184 781 = some (.aload_n 0, 1, (0, 0, 0, 0)) := by decide +kernel
theorem kc_184_782 : zcode 184 782 = some (.iload_n 3, 1, (0, 0, 0, 0)) := by decide +kernel
theorem kc_184_783 : zcode 184 783 = some (.iconst 3, 1, (0, 0, 0, 0)) := by decide +kernel
theorem kc_184_784 : zcode 184 784 = some (.iadd, 1, (0, 0, 0, 0)) := by decide +kernel
theorem kc_184_785 : zcode 184 785 = some (.iaload, 1, (0, 0, 0, 0)) := by decide +kernel
theorem kc_184_786 : zcode 184 786 = some (.invokevirtual 92, 3, (63, 0, 513, 0)) := by decide +kernel
theorem kc_184_789 : zcode 184 789 = some (.aload_n 2, 1, (0, 0, 0, 0)) := by decide +kernel
theorem kc_184_790 : zcode 184 790 = some (.aload_n 0, 1, (0, 0, 0, 0)) := by decide +kernel
theorem kc_184_791 : zcode 184 791 = some (.iload_n 3, 1, (0, 0, 0, 0)) := by decide +kernel
theorem kc_184_792 : zcode 184 792 = some (.iconst 1, 1, (0, 0, 0, 0)) := by decide +kernel
theorem kc_184_793 : zcode 184 793 = some (.iadd, 1, (0, 0, 0, 0)) := by decide +kernel
theorem kc_184_794 : zcode 184 794 = some (.iaload, 1, (0, 0, 0, 0)) := by decide +kernel
theorem kc_184_795 : zcode 184 795 = some (.aload_n 0, 1, (0, 0, 0, 0)) := by decide +kernel
theorem kc_184_796 : zcode 184 796 = some (.iload_n 3, 1, (0, 0, 0, 0)) := by decide +kernel
theorem kc_184_797 : zcode 184 797 = some (.iconst 2, 1, (0, 0, 0, 0)) := by decide +kernel
theorem kc_184_798 : zcode 184 798 = some (.iadd, 1, (0, 0, 0, 0)) := by decide +kernel
theorem kc_184_799 : zcode 184 799 = some (.iaload, 1, (0, 0, 0, 0)) := by decide +kernel
theorem kc_184_800 : zcode 184 800 = some (.aload_n 0, 1, (0, 0, 0, 0)) := by decide +kernel
theorem kc_184_801 : zcode 184 801 = some (.iload_n 3, 1, (0, 0, 0, 0)) := by decide +kernel
theorem kc_184_802 : zcode 184 802 = some (.iconst 3, 1, (0, 0, 0, 0)) := by decide +kernel
theorem kc_184_803 : zcode 184 803 = some (.iadd, 1, (0, 0, 0, 0)) := by decide +kernel
theorem kc_184_804 : zcode 184 804 = some (.iaload, 1, (0, 0, 0, 0)) := by decide +kernel
theorem kc_184_805 : zcode 184 805 = some (.invokevirtual 95, 3, (149, 0, 972, 0)) := by decide +kernel
theorem kc_184_808 : zcode 184 808 = some (.lcmp, 1, (0, 0, 0, 0)) := by decide +kernel
theorem kc_184_809 : zcode 184 809 = some (.ifCond .eq 581, 3, (1390, 0, 0, 0)) := by decide +kernel
theorem kc_184_812 : zcode 184 812 = some (.iconst 0, 1, (0, 0, 0, 0)) := by decide +kernel
theorem kc_184_813 : zcode 184 813 = some (.ireturn, 1, (1, 0, 0, 0)) := by decide +kernel
theorem kc_184_814 : zcode 184 814 = some (.aload_n 1, 1, (0, 0, 0, 0)) := by decide +kernel
theorem kc_184_815 : zcode 184 815 = some (.aload_n 0, 1, (0, 0, 0, 0)) := by decide +kernel
theorem kc_184_816 : zcode 184 816 = some (.iload_n 3, 1, (0, 0, 0, 0)) := by decide +kernel
theorem kc_184_817 : zcode 184 817 = some (.iconst 1, 1, (0, 0, 0, 0)) := by decide +kernel
theorem kc_184_818 : zcode 184 818 = some (.iadd, 1, (0, 0, 0, 0)) := by decide +kernel
theorem kc_184_819 : zcode 184 819 = some (.iaload, 1, (0, 0, 0, 0)) := by decide +kernel
theorem kc_184_820 : zcode 184 820 = some (.aload_n 0, 1, (0, 0, 0, 0)) := by decide +kernel
theorem kc_184_821 : zcode 184 821 = some (.iload_n 3, 1, (0, 0, 0, 0)) := by decide +kernel
theorem kc_184_822 : zcode 184 822 = some (.iconst 2, 1, (0, 0, 0, 0)) := by decide +kernel
theorem kc_184_823 : zcode 184 823 = some (.iadd, 1, (0, 0, 0, 0)) := by decide +kernel
theorem kc_184_824 : zcode 184 824 = some (.iaload, 1, (0, 0, 0, 0)) := by decide +kernel
theorem kc_184_825 : zcode 184 825 = some (.aload_n 0, 1, (0, 0, 0, 0)) := by decide +kernel
theorem kc_184_826 : zcode 184 826 = some (.iload_n 3, 1, (0, 0, 0, 0)) := by decide +kernel
theorem kc_184_827 : zcode 184 827 = some (.iconst 3, 1, (0, 0, 0, 0)) := by decide +kernel
theorem kc_184_828 : zcode 184 828 = some (.iadd, 1, (0, 0, 0, 0)) := by decide +kernel
theorem kc_184_829 : zcode 184 829 = some (.iaload, 1, (0, 0, 0, 0)) := by decide +kernel
theorem kc_184_830 : zcode 184 830 = some (.invokevirtual 96, 3, (64, 0, 546, 0)) := by decide +kernel
theorem kc_184_833 : zcode 184 833 = some (.aload_n 2, 1, (0, 0, 0, 0)) := by decide +kernel
theorem kc_184_834 : zcode 184 834 = some (.aload_n 0, 1, (0, 0, 0, 0)) := by decide +kernel
theorem kc_184_835 : zcode 184 835 = some (.iload_n 3, 1, (0, 0, 0, 0)) := by decide +kernel
theorem kc_184_836 : zcode 184 836 = some (.iconst 1, 1, (0, 0, 0, 0)) := by decide +kernel
theorem kc_184_837 : zcode 184 837 = some (.iadd, 1, (0, 0, 0, 0)) := by decide +kernel
theorem kc_184_838 : zcode 184 838 = some (.iaload, 1, (0, 0, 0, 0)) := by decide +kernel
theorem kc_184_839 : zcode 184 839 = some (.aload_n 0, 1, (0, 0, 0, 0)) := by decide +kernel
theorem kc_184_840 : zcode 184 840 = some (.iload_n 3, 1, (0, 0, 0, 0)) := by decide +kernel
theorem kc_184_841 : zcode 184 841 = some (.iconst 2, 1, (0, 0, 0, 0)) := by decide +kernel
theorem kc_184_842 : zcode 184 842 = some (.iadd, 1, (0, 0, 0, 0)) := by decide +kernel
theorem kc_184_843 : zcode 184 843 = some (.iaload, 1, (0, 0, 0, 0)) := by decide +kernel
theorem kc_184_844 : zcode 184 844 = some (.aload_n 0, 1, (0, 0, 0, 0)) := by decide +kernel
theorem kc_184_845 : zcode 184 845 = some (.iload_n 3, 1, (0, 0, 0, 0)) := by decide +kernel
theorem kc_184_846 : zcode 184 846 = some (.iconst 3, 1, (0, 0, 0, 0)) := by decide +kernel
theorem kc_184_847 : zcode 184 847 = some (.iadd, 1, (0, 0, 0, 0)) := by decide +kernel
theorem kc_184_848 : zcode 184 848 = some (.iaload, 1, (0, 0, 0, 0)) := by decide +kernel
theorem kc_184_849 : zcode 184 849 = some (.invokevirtual 99, 3, (150, 0, 1013, 0)) := by decide +kernel
theorem kc_184_852 : zcode 184 852 = some (.lcmp, 1, (0, 0, 0, 0)) := by decide +kernel
theorem kc_184_853 : zcode 184 853 = some (.ifCond .eq 537, 3, (1390, 0, 0, 0)) := by decide +kernel
theorem kc_184_856 : zcode 184 856 = some (.iconst 0, 1, (0, 0, 0, 0)) := by decide +kernel
theorem kc_184_857 : zcode 184 857 = some (.ireturn, 1, (1, 0, 0, 0)) := by decide +kernel
theorem kc_184_858 : zcode 184 858 = some (.aload_n 1, 1, (0, 0, 0, 0)) := by decide +kernel
theorem kc_184_859 : zcode 184 859 = some (.aload_n 0, 1, (0, 0, 0, 0)) := by decide +kernel
theorem kc_184_860 : zcode 184 860 = some (.iload_n 3, 1, (0, 0, 0, 0)) := by decide +kernel
theorem kc_184_861 : zcode 184 861 = some (.iconst 1, 1, (0, 0, 0, 0)) := by decide +kernel
theorem kc_184_862 : zcode 184 862 = some (.iadd, 1, (0, 0, 0, 0)) := by decide +kernel
theorem kc_184_863 : zcode 184 863 = some (.iaload, 1, (0, 0, 0, 0)) := by decide +kernel
theorem kc_184_864 : zcode 184 864 = some (.aload_n 0, 1, (0, 0, 0, 0)) := by decide +kernel
theorem kc_184_865 : zcode 184 865 = some (.iload_n 3, 1, (0, 0, 0, 0)) := by decide +kernel
theorem kc_184_866 : zcode 184 866 = some (.iconst 2, 1, (0, 0, 0, 0)) := by decide +kernel
theorem kc_184_867 : zcode 184 867 = some (.iadd, 1, (0, 0, 0, 0)) := by decide +kernel
theorem kc_184_868 : zcode 184 868 = some (.iaload, 1, (0, 0, 0, 0)) := by decide +kernel
theorem kc_184_869 : zcode 184 869 = some (.invokevirtual 100, 3, (66, 0, 555, 0)) := by decide +kernel
theorem kc_184_872 : zcode 184 872 = some (.aload_n 2, 1, (0, 0, 0, 0)) := by decide +kernel
theorem kc_184_873 : zcode 184 873 = some (.aload_n 0, 1, (0, 0, 0, 0)) := by decide +kernel
theorem kc_184_874 : zcode 184 874 = some (.iload_n 3, 1, (0, 0, 0, 0)) := by decide +kernel
theorem kc_184_875 : zcode 184 875 = some (.iconst 1, 1, (0, 0, 0, 0)) := by decide +kernel
theorem kc_184_876 : zcode 184 876 = some (.iadd, 1, (0, 0, 0, 0)) := by decide +kernel
theorem kc_184_877 : zcode 184 877 = some (.iaload, 1, (0, 0, 0, 0)) := by decide +kernel
theorem kc_184_878 : zcode 184 878 = some (.aload_n 0, 1, (0, 0, 0, 0)) := by decide +kernel
theorem kc_184_879 : zcode 184 879 = some (.iload_n 3, 1, (0, 0, 0, 0)) := by decide +kernel
theorem kc_184_880 : zcode 184 880 = some (.iconst 2, 1, (0, 0, 0, 0)) := by decide +kernel
theorem kc_184_881 : zcode 184 881 = some (.iadd, 1, (0, 0, 0, 0)) := by decide +kernel
theorem kc_184_882 : zcode 184 882 = some (.iaload, 1, (0, 0, 0, 0)) := by decide +kernel
theorem kc_184_883 : zcode 184 883 = some (.invokevirtual 103, 3, (151, 0, 1041, 0)) := by decide +kernel
theorem kc_184_886 : zcode 184 886 = some (.if_icmp .eq 504, 3, (1390, 0, 0, 0)) := by decide +kernel
theorem kc_184_889 : zcode 184 889 = some (.iconst 0, 1, (0, 0, 0, 0)) := by decide +kernel
theorem kc_184_890 : zcode 184 890 = some (.ireturn, 1, (1, 0, 0, 0)) := by decide +kernel
theorem kc_184_891 : zcode 184 891 = some (.aload_n 1, 1, (0, 0, 0, 0)) := by decide +kernel
theorem kc_184_892 : zcode 184 892 = some (.aload_n 0, 1, (0, 0, 0, 0)) := by decide +kernel
theorem kc_184_893 : zcode 184 893 = some (.iload_n 3, 1, (0, 0, 0, 0)) := by decide +kernel
theorem kc_184_894 : zcode 184 894 = some (.iconst 1, 1, (0, 0, 0, 0)) := by decide +kernel
theorem kc_184_895 : zcode 184 895 = some (.iadd, 1, (0, 0, 0, 0)) := by decide +kernel
theorem kc_184_896 : zcode 184 896 = some (.iaload, 1, (0, 0, 0, 0)) := by decide +kernel
theorem kc_184_897 : zcode 184 897 = some (.aload_n 0, 1, (0, 0, 0, 0)) := by decide +kernel
theorem kc_184_898 : zcode 184 898 = some (.iload_n 3, 1, (0, 0, 0, 0)) := by decide +kernel
theorem kc_184_899 : zcode 184 899 = some (.iconst 2, 1, (0, 0, 0, 0)) := by decide +kernel
theorem kc_184_900 : zcode 184 900 = some (.iadd, 1, (0, 0, 0, 0)) := by decide +kernel
theorem kc_184_901 : zcode 184 901 = some (.iaload, 1, (0, 0, 0, 0)) := by decide +kernel
theorem kc_184_902 : zcode 184 902 = some (.invokevirtual 104, 3, (68, 0, 567, 0)) := by decide +kernel
theorem kc_184_905 : zcode 184 905 = some (.aload_n 2, 1, (0, 0, 0, 0)) := by decide +kernel
theorem kc_184_906 : zcode 184 906 = some (.aload_n 0, 1, (0, 0, 0, 0)) := by decide +kernel
theorem kc_184_907 : zcode 184 907 = some (.iload_n 3, 1, (0, 0, 0, 0)) := by decide +kernel
theorem kc_184_908 : zcode 184 908 = some (.iconst 1, 1, (0, 0, 0, 0)) := by decide +kernel
theorem kc_184_909 : zcode 184 909 = some (.iadd, 1, (0, 0, 0, 0)) := by decide +kernel
theorem kc_184_910 : zcode 184 910 = some (.iaload, 1, (0, 0, 0, 0)) := by decide +kernel
theorem kc_184_911 : zcode 184 911 = some (.aload_n 0, 1, (0, 0, 0, 0)) := by decide +kernel
theorem kc_184_912 : zcode 184 912 = some (.iload_n 3, 1, (0, 0, 0, 0)) := by decide +kernel
theorem kc_184_913 : zcode 184 913 = some (.iconst 2, 1, (0, 0, 0, 0)) := by decide +kernel
theorem kc_184_914 : zcode 184 914 = some (.iadd, 1, (0, 0, 0, 0)) := by decide +kernel
theorem kc_184_915 : zcode 184 915 = some (.iaload, 1, (0, 0, 0, 0)) := by decide +kernel
theorem kc_184_916 : zcode 184 916 = some (.invokevirtual 107, 3, (153, 0, 1045, 0)) := by decide +kernel
theorem kc_184_919 : zcode 184 919 = some (.if_icmp .eq 471, 3, (1390, 0, 0, 0)) := by decide +kernel
theorem kc_184_922 : zcode 184 922 = some (.iconst 0, 1, (0, 0, 0, 0)) := by decide +kernel
theorem kc_184_923 : zcode 184 923 = some (.ireturn, 1, (1, 0, 0, 0)) := by decide +kernel
theorem kc_184_924 : zcode 184 924 = some (.aload_n 1, 1, (0, 0, 0, 0)) := by decide +kernel
theorem kc_184_925 : zcode 184 925 = some (.aload_n 0, 1, (0, 0, 0, 0)) := by decide +kernel
theorem kc_184_926 : zcode 184 926 = some (.iload_n 3, 1, (0, 0, 0, 0)) := by decide +kernel
theorem kc_184_927 : zcode 184 927 = some (.iconst 1, 1, (0, 0, 0, 0)) := by decide +kernel
theorem kc_184_928 : zcode 184 928 = some (.iadd, 1, (0, 0, 0, 0)) := by decide +kernel
theorem kc_184_929 : zcode 184 929 = some (.iaload, 1, (0, 0, 0, 0)) := by decide +kernel
theorem kc_184_930 : zcode 184 930 = some (.aload_n 0, 1, (0, 0, 0, 0)) := by decide +kernel
theorem kc_184_931 : zcode 184 931 = some (.iload_n 3, 1, (0, 0, 0, 0)) := by decide +kernel
theorem kc_184_932 : zcode 184 932 = some (.iconst 2, 1, (0, 0, 0, 0)) := by decide +kernel
theorem kc_184_933 : zcode 184 933 = some (.iadd, 1, (0, 0, 0, 0)) := by decide +kernel
theorem kc_184_934 : zcode 184 934 = some (.iaload, 1, (0, 0, 0, 0)) := by decide +kernel
theorem kc_184_935 : zcode 184 935 = some (.aload_n 0, 1, (0, 0, 0, 0)) := by decide +kernel
theorem kc_184_936 : zcode 184 936 = some (.iload_n 3, 1, (0, 0, 0, 0)) := by decide +kernel
theorem kc_184_937 : zcode 184 937 = some (.iconst 3, 1, (0, 0, 0, 0)) := by decide +kernel
theorem kc_184_938 : zcode 184 938 = some (.iadd, 1, (0, 0, 0, 0)) := by decide +kernel
theorem kc_184_939 : zcode 184 939 = some (.iaload, 1, (0, 0, 0, 0)) := by decide +kernel
theorem kc_184_940 : zcode 184 940 = some (.invokevirtual 108, 3, (70, 0, 574, 0)) := by decide +kernel
theorem kc_184_943 : zcode 184 943 = some (.aload_n 2, 1, (0, 0, 0, 0)) := by decide +kernel
theorem kc_184_944 : zcode 184 944 = some (.aload_n 0, 1, (0, 0, 0, 0)) := by decide +kernel
theorem kc_184_945 : zcode 184 945 = some (.iload_n 3, 1, (0, 0, 0, 0)) := by decide +kernel
theorem kc_184_946 : zcode 184 946 = some (.iconst 1, 1, (0, 0, 0, 0)) := by decide +kernel
theorem kc_184_947 : zcode 184 947 = some (.iadd, 1, (0, 0, 0, 0)) := by decide +kernel
theorem kc_184_948 : zcode 184 948 = some (.iaload, 1, (0, 0, 0, 0)) := by decide +kernel
theorem kc_184_949 : zcode 184 949 = some (.aload_n 0, 1, (0, 0, 0, 0)) := by decide +kernel
theorem kc_184_950 : zcode 184 950 = some (.iload_n 3, 1, (0, 0, 0, 0)) := by decide +kernel
theorem kc_184_951 : zcode 184 951 = some (.iconst 2, 1, (0, 0, 0, 0)) := by decide +kernel
theorem kc_184_952 : zcode 184 952 = some (.iadd, 1, (0, 0, 0, 0)) := by decide +kernel
theorem kc_184_953 : zcode 184 953 = some (.iaload, 1, (0, 0, 0, 0)) := by decide +kernel
theorem kc_184_954 : zcode 184 954 = some (.aload_n 0, 1, (0, 0, 0, 0)) := by decide +kernel
theorem kc_184_955 : zcode 184 955 = some (.iload_n 3, 1, (0, 0, 0, 0)) := by decide +kernel
theorem kc_184_956 : zcode 184 956 = some (.iconst 3, 1, (0, 0, 0, 0)) := by decide +kernel
theorem kc_184_957 : zcode 184 957 = some (.iadd, 1, (0, 0, 0, 0)) := by decide +kernel
theorem kc_184_958 : zcode 184 958 = some (.iaload, 1, (0, 0, 0, 0)) := by decide +kernel
theorem kc_184_959 : zcode 184 959 = some (.invokevirtual 111, 3, (154, 0, 1053, 0)) := by decide +kernel
theorem kc_184_962 : zcode 184 962 = some (.lcmp, 1, (0, 0, 0, 0)) := by decide +kernel
theorem kc_184_963 : zcode 184 963 = some (.ifCond .eq 427, 3, (1390, 0, 0, 0)) := by decide +kernel
theorem kc_184_966 : zcode 184 966 = some (.iconst 0, 1, (0, 0, 0, 0)) := by decide +kernel
theorem kc_184_967 : zcode 184 967 = some (.ireturn, 1, (1, 0, 0, 0)) := by decide +kernel
theorem kc_184_968 : zcode 184 968 = some (.aload_n 1, 1, (0, 0, 0, 0)) := by decide +kernel
theorem kc_184_969 : zcode 184 969 = some (.aload_n 0, 1, (0, 0, 0, 0)) := by decide +kernel
theorem kc_184_970 : zcode 184 970 = some (.iload_n 3, 1, (0, 0, 0, 0)) := by decide +kernel
theorem kc_184_971 : zcode 184 971 = some (.iconst 1, 1, (0, 0, 0, 0)) := by decide +kernel
theorem kc_184_972 : zcode 184 972 = some (.iadd, 1, (0, 0, 0, 0)) := by decide +kernel
theorem kc_184_973 : zcode 184 973 = some (.iaload, 1, (0, 0, 0, 0)) := by decide +kernel
theorem kc_184_974 : zcode 184 974 = some (.invokevirtual 112, 3, (71, 0, 579, 0)) := by decide +kernel
theorem kc_184_977 : zcode 184 977 = some (.aload_n 2, 1, (0, 0, 0, 0)) := by decide +kernel
theorem kc_184_978 : zcode 184 978 = some (.aload_n 0, 1, (0, 0, 0, 0)) := by decide +kernel
theorem kc_184_979 : zcode 184 979 = some (.iload_n 3, 1, (0, 0, 0, 0)) := by decide +kernel
theorem kc_184_980 : zcode 184 980 = some (.iconst 1, 1, (0, 0, 0, 0)) := by decide +kernel
theorem kc_184_981 : zcode 184 981 = some (.iadd, 1, (0, 0, 0, 0)) := by decide +kernel
theorem kc_184_982 : zcode 184 982 = some (.iaload, 1, (0, 0, 0, 0)) := by decide +kernel
theorem kc_184_983 : zcode 184 983 = some (.invokevirtual 116, 3, (155, 0, 1057, 0)) := by decide +kernel
theorem kc_184_986 : zcode 184 986 = some (.lcmp, 1, (0, 0, 0, 0)) := by decide +kernel
theorem kc_184_987 : zcode 184 987 = some (.ifCond .eq 403, 3, (1390, 0, 0, 0)) := by decide +kernel
theorem kc_184_990 : zcode 184 990 = some (.iconst 0, 1, (0, 0, 0, 0)) := by decide +kernel
theorem kc_184_991 : zcode 184 991 = some (.ireturn, 1, (1, 0, 0, 0)) := by decide +kernel
theorem kc_184_992 : zcode 184 992 = some (.aload_n 1, 1, (0, 0, 0, 0)) := by decide +kernel
theorem kc_184_993 : zcode 184 993 = some (.aload_n 0, 1, (0, 0, 0, 0)) := by decide +kernel
theorem kc_184_994 : zcode 184 994 = some (.iload_n 3, 1, (0, 0, 0, 0)) := by decide +kernel
theorem kc_184_995 : zcode 184 995 = some (.iconst 1, 1, (0, 0, 0, 0)) := by decide +kernel
theorem kc_184_996 : zcode 184 996 = some (.iadd, 1, (0, 0, 0, 0)) := by decide +kernel
theorem kc_184_997 : zcode 184 997 = some (.iaload, 1, (0, 0, 0, 0)) := by decide +kernel
theorem kc_184_998 : zcode 184 998 = some (.aload_n 0, 1, (0, 0, 0, 0)) := by decide +kernel
theorem kc_184_999 : zcode 184 999 = some (.iload_n 3, 1, (0, 0, 0, 0)) := by decide +kernel
theorem kc_184_1000 : zcode 184 1000 = some (.iconst 2, 1, (0, 0, 0, 0)) := by decide +kernel
theorem kc_184_1001 : zcode 184 1001 = some (.iadd, 1, (0, 0, 0, 0)) := by decide +kernel
theorem kc_184_1002 : zcode 184 1002 = some (.iaload, 1, (0, 0, 0, 0)) := by decide +kernel
theorem kc_184_1003 : zcode 184 1003 = some (.invokevirtual 117, 3, (72, 0, 583, 0)) := by decide +kernel
theorem kc_184_1006 : zcode 184 1006 = some (.aload_n 2, 1, (0, 0, 0, 0)) := by decide +kernel
theorem kc_184_1007 : zcode 184 1007 = some (.aload_n 0, 1, (0, 0, 0, 0)) := by decide +kernel
theorem kc_184_1008 : zcode 184 1008 = some (.iload_n 3, 1, (0, 0, 0, 0)) := by decide +kernel
theorem kc_184_1009 : zcode 184 1009 = some (.iconst 1, 1, (0, 0, 0, 0)) := by decide +kernel
theorem kc_184_1010 : zcode 184 1010 = some (.iadd, 1, (0, 0, 0, 0)) := by decide +kernel
theorem kc_184_1011 : zcode 184 1011 = some (.iaload, 1, (0, 0, 0, 0)) := by decide +kernel
theorem kc_184_1012 : zcode 184 1012 = some (.aload_n 0, 1, (0, 0, 0, 0)) := by decide +kernel
theorem kc_184_1013 : zcode 184 1013 = some (.iload_n 3, 1, (0, 0, 0, 0)) := by decide +kernel
theorem kc_184_1014 : zcode 184 1014 = some (.iconst 2, 1, (0, 0, 0, 0)) := by decide +kernel
theorem kc_184_1015 : zcode 184 1015 = some (.iadd, 1, (0, 0, 0, 0)) := by decide +kernel
theorem kc_184_1016 : zcode 184 1016 = some (.iaload, 1, (0, 0, 0, 0)) := by decide +kernel
theorem kc_184_1017 : zcode 184 1017 = some (.invokevirtual 120, 3, (156, 0, 1061, 0)) := by decide +kernel
theorem kc_184_1020 : zcode 184 1020 = some (.if_icmp .eq 370, 3, (1390, 0, 0, 0)) := by decide +kernel
theorem kc_184_1023 : zcode 184 1023 = some (.iconst 0, 1, (0, 0, 0, 0)) := by decide +kernel
theorem kc_184_1024 : zcode 184 1024 = some (.ireturn, 1, (1, 0, 0, 0)) := by decide +kernel
theorem kc_184_1025 : zcode 184 1025 = some (.aload_n 1, 1, (0, 0, 0, 0)) := by decide +kernel
theorem kc_184_1026 : zcode 184 1026 = some (.aload_n 0, 1, (0, 0, 0, 0)) := by decide +kernel
theorem kc_184_1027 : zcode 184 1027 = some (.iload_n 3, 1, (0, 0, 0, 0)) := by decide +kernel
theorem kc_184_1028 : zcode 184 1028 = some (.iconst 1, 1, (0, 0, 0, 0)) := by decide +kernel
theorem kc_184_1029 : zcode 184 1029 = some (.iadd, 1, (0, 0, 0, 0)) := by decide +kernel
theorem kc_184_1030 : zcode 184 1030 = some (.iaload, 1, (0, 0, 0, 0)) := by decide +kernel
theorem kc_184_1031 : zcode 184 1031 = some (.invokevirtual 121, 3, (73, 0, 587, 0)) := by decide +kernel
theorem kc_184_1034 : zcode 184 1034 = some (.aload_n 2, 1, (0, 0, 0, 0)) := by decide +kernel
theorem kc_184_1035 : zcode 184 1035 = some (.aload_n 0, 1, (0, 0, 0, 0)) := by decide +kernel
theorem kc_184_1036 : zcode 184 1036 = some (.iload_n 3, 1, (0, 0, 0, 0)) := by decide +kernel
theorem kc_184_1037 : zcode 184 1037 = some (.iconst 1, 1, (0, 0, 0, 0)) := by decide +kernel
theorem kc_184_1038 : zcode 184 1038 = some (.iadd, 1, (0, 0, 0, 0)) := by decide +kernel
theorem kc_184_1039 : zcode 184 1039 = some (.iaload, 1, (0, 0, 0, 0)) := by decide +kernel
theorem kc_184_1040 : zcode 184 1040 = some (.invokevirtual 124, 3, (158, 0, 1065, 0)) := by decide +kernel
theorem kc_184_1043 : zcode 184 1043 = some (.lcmp, 1, (0, 0, 0, 0)) := by decide +kernel
theorem kc_184_1044 : zcode 184 1044 = some (.ifCond .eq 346, 3, (1390, 0, 0, 0)) := by decide +kernel
theorem kc_184_1047 : zcode 184 1047 = some (.iconst 0, 1, (0, 0, 0, 0)) := by decide +kernel
theorem kc_184_1048 : zcode 184 1048 = some (.ireturn, 1, (1, 0, 0, 0)) := by decide +kernel
theorem kc_184_1049 : zcode 184 1049 = some (.aload_n 1, 1, (0, 0, 0, 0)) := by decide +kernel
theorem kc_184_1050 : zcode 184 1050 = some (.aload_n 0, 1, (0, 0, 0, 0)) := by decide +kernel
theorem kc_184_1051 : zcode 184 1051 = some (.iload_n 3, 1, (0, 0, 0, 0)) := by decide +kernel
theorem kc_184_1052 : zcode 184 1052 = some (.iconst 1, 1, (0, 0, 0, 0)) := by decide +kernel
theorem kc_184_1053 : zcode 184 1053 = some (.iadd, 1, (0, 0, 0, 0)) := by decide +kernel
theorem kc_184_1054 : zcode 184 1054 = some (.iaload, 1, (0, 0, 0, 0)) := by decide +kernel
theorem kc_184_1055 : zcode 184 1055 = some (.aload_n 0, 1, (0, 0, 0, 0)) := by decide +kernel
theorem kc_184_1056 : zcode 184 1056 = some (.iload_n 3, 1, (0, 0, 0, 0)) := by decide +kernel
theorem kc_184_1057 : zcode 184 1057 = some (.iconst 2, 1, (0, 0, 0, 0)) := by decide +kernel
theorem kc_184_1058 : zcode 184 1058 = some (.iadd, 1, (0, 0, 0, 0)) := by decide +kernel
theorem kc_184_1059 : zcode 184 1059 = some (.iaload, 1, (0, 0, 0, 0)) := by decide +kernel
theorem kc_184_1060 : zcode 184 1060 = some (.invokevirtual 125, 3, (74, 0, 600, 0)) := by decide +kernel
theorem kc_184_1063 : zcode 184 1063 = some (.aload_n 2, 1, (0, 0, 0, 0)) := by decide +kernel
theorem kc_184_1064 : zcode 184 1064 = some (.aload_n 0, 1, (0, 0, 0, 0)) := by decide +kernel
theorem kc_184_1065 : zcode 184 1065 = some (.iload_n 3, 1, (0, 0, 0, 0)) := by decide +kernel
theorem kc_184_1066 : zcode 184 1066 = some (.iconst 1, 1, (0, 0, 0, 0)) := by decide +kernel
theorem kc_184_1067 : zcode 184 1067 = some (.iadd, 1, (0, 0, 0, 0)) := by decide +kernel
theorem kc_184_1068 : zcode 184 1068 = some (.iaload, 1, (0, 0, 0, 0)) := by decide +kernel
theorem kc_184_1069 : zcode 184 1069 = some (.aload_n 0, 1, (0, 0, 0, 0)) := by decide +kernel
theorem kc_184_1070 : zcode 184 1070 = some (.iload_n 3, 1, (0, 0, 0, 0)) := by decide +kernel
theorem kc_184_1071 : zcode 184 1071 = some (.iconst 2, 1, (0, 0, 0, 0)) := by decide +kernel
theorem kc_184_1072 : zcode 184 1072 = some (.iadd, 1, (0, 0, 0, 0)) := by decide +kernel
theorem kc_184_1073 : zcode 184 1073 = some (.iaload, 1, (0, 0, 0, 0)) := by decide +kernel
theorem kc_184_1074 : zcode 184 1074 = some (.invokevirtual 128, 3, (159, 0, 1082, 0)) := by decide +kernel
theorem kc_184_1077 : zcode 184 1077 = some (.if_icmp .eq 313, 3, (1390, 0, 0, 0)) := by decide +kernel
theorem kc_184_1080 : zcode 184 1080 = some (.iconst 0, 1, (0, 0, 0, 0)) := by decide +kernel
theorem kc_184_1081 : zcode 184 1081 = some (.ireturn, 1, (1, 0, 0, 0)) := by decide +kernel
theorem kc_184_1082 : zcode 184 1082 = some (.aload_n 1, 1, (0, 0, 0, 0)) := by decide +kernel
theorem kc_184_1083 : zcode 184 1083 = some (.invokevirtual 129, 3, (75, 0, 604, 0)) := by decide +kernel
theorem kc_184_1086 : zcode 184 1086 = some (.aload_n 2, 1, (0, 0, 0, 0)) := by decide +kernel
theorem kc_184_1087 : zcode 184 1087 = some (.invokevirtual 132, 3, (160, 0, 1086, 0)) := by decide +kernel
theorem kc_184_1090 : zcode 184 1090 = some (.if_icmp .eq 300, 3, (1390, 0, 0, 0)) := by decide +kernel
theorem kc_184_1093 : zcode 184 1093 = some (.iconst 0, 1, (0, 0, 0, 0)) := by decide +kernel
theorem kc_184_1094 : zcode 184 1094 = some (.ireturn, 1, (1, 0, 0, 0)) := by decide +kernel
theorem kc_184_1095 : zcode 184 1095 = some (.aload_n 1, 1, (0, 0, 0, 0)) := by decide +kernel
theorem kc_184_1096 : zcode 184 1096 = some (.aload_n 0, 1, (0, 0, 0, 0)) := by decide +kernel
theorem kc_184_1097 : zcode 184 1097 = some (.iload_n 3, 1, (0, 0, 0, 0)) := by decide +kernel
theorem kc_184_1098 : zcode 184 1098 = some (.iconst 1, 1, (0, 0, 0, 0)) := by decide +kernel
theorem kc_184_1099 : zcode 184 1099 = some (.iadd, 1, (0, 0, 0, 0)) := by decide +kernel
theorem kc_184_1100 : zcode 184 1100 = some (.iaload, 1, (0, 0, 0, 0)) := by decide +kernel
theorem kc_184_1101 : zcode 184 1101 = some (.aload_n 0, 1, (0, 0, 0, 0)) := by decide +kernel
theorem kc_184_1102 : zcode 184 1102 = some (.iload_n 3, 1, (0, 0, 0, 0)) := by decide +kernel
theorem kc_184_1103 : zcode 184 1103 = some (.iconst 2, 1, (0, 0, 0, 0)) := by decide +kernel
theorem kc_184_1104 : zcode 184 1104 = some (.iadd, 1, (0, 0, 0, 0)) := by decide +kernel
theorem kc_184_1105 : zcode 184 1105 = some (.iaload, 1, (0, 0, 0, 0)) := by decide +kernel
theorem kc_184_1106 : zcode 184 1106 = some (.invokevirtual 133, 3, (76, 0, 608, 0)) := by decide +kernel
theorem kc_184_1109 : zcode 184 1109 = some (.aload_n 2, 1, (0, 0, 0, 0)) := by decide +kernel
theorem kc_184_1110 : zcode 184 1110 = some (.aload_n 0, 1, (0, 0, 0, 0)) := by decide +kernel
theorem kc_184_1111 : zcode 184 1111 = some (.iload_n 3, 1, (0, 0, 0, 0)) := by decide +kernel
theorem kc_184_1112 : zcode 184 1112 = some (.iconst 1, 1, (0, 0, 0, 0)) := by decide +kernel
theorem kc_184_1113 : zcode 184 1113 = some (.iadd, 1, (0, 0, 0, 0)) := by decide +kernel
theorem kc_184_1114 : zcode 184 1114 = some (.iaload, 1, (0, 0, 0, 0)) := by decide +kernel
theorem kc_184_1115 : zcode 184 1115 = some (.aload_n 0, 1, (0, 0, 0, 0)) := by decide +kernel
theorem kc_184_1116 : zcode 184 1116 = some (.iload_n 3, 1, (0, 0, 0, 0)) := by decide +kernel
theorem kc_184_1117 : zcode 184 1117 = some (.iconst 2, 1, (0, 0, 0, 0)) := by decide +kernel
theorem kc_184_1118 : zcode 184 1118 = some (.iadd, 1, (0, 0, 0, 0)) := by decide +kernel
theorem kc_184_1119 : zcode 184 1119 = some (.iaload, 1, (0, 0, 0, 0)) := by decide +kernel
theorem kc_184_1120 : zcode 184 1120 = some (.invokevirtual 136, 3, (167, 0, 1102, 0)) := by decide +kernel
theorem kc_184_1123 : zcode 184 1123 = some (.if_icmp .eq 267, 3, (1390, 0, 0, 0)) := by decide +kernel
theorem kc_184_1126 : zcode 184 1126 = some (.iconst 0, 1, (0, 0, 0, 0)) := by decide +kernel
theorem kc_184_1127 : zcode 184 1127 = some (.ireturn, 1, (1, 0, 0, 0)) := by decide +kernel
theorem kc_184_1128 : zcode 184 1128 = some (.aload_n 1, 1, (0, 0, 0, 0)) := by decide +kernel
theorem kc_184_1129 : zcode 184 1129 = some (.invokevirtual 137, 3, (77, 0, 615, 0)) := by decide +kernel
theorem kc_184_1132 : zcode 184 1132 = some (.aload_n 2, 1, (0, 0, 0, 0)) := by decide +kernel
theorem kc_184_1133 : zcode 184 1133 = some (.invokevirtual 140, 3, (163, 0, 1090, 0)) := by decide +kernel
theorem kc_184_1136 : zcode 184 1136 = some (.if_icmp .eq 254, 3, (1390, 0, 0, 0)) := by decide +kernel
theorem kc_184_1139 : zcode 184 1139 = some (.iconst 0, 1, (0, 0, 0, 0)) := by decide +kernel
theorem kc_184_1140 : zcode 184 1140 = some (.ireturn, 1, (1, 0, 0, 0)) := by decide +kernel
theorem kc_184_1141 : zcode 184 1141 = some (.aload_n 1, 1, (0, 0, 0, 0)) := by decide +kernel
theorem kc_184_1142 : zcode 184 1142 = some (.invokevirtual 141, 3, (78, 0, 624, 0)) := by decide +kernel
theorem kc_184_1145 : zcode 184 1145 = some (.aload_n 2, 1, (0, 0, 0, 0)) := by decide +kernel
theorem kc_184_1146 : zcode 184 1146 = some (.invokevirtual 144, 3, (164, 0, 1094, 0)) := by decide +kernel
theorem kc_184_1149 : zcode 184 1149 = some (.if_icmp .eq 241, 3, (1390, 0, 0, 0)) := by decide +kernel
theorem kc_184_1152 : zcode 184 1152 = some (.iconst 0, 1, (0, 0, 0, 0)) := by decide +kernel
theorem kc_184_1153 : zcode 184 1153 = some (.ireturn, 1, (1, 0, 0, 0)) := by decide +kernel
theorem kc_184_1154 : zcode 184 1154 = some (.aload_n 1, 1, (0, 0, 0, 0)) := by decide +kernel
theorem kc_184_1155 : zcode 184 1155 = some (.aload_n 0, 1, (0, 0, 0, 0)) := by decide +kernel
theorem kc_184_1156 : zcode 184 1156 = some (.iload_n 3, 1, (0, 0, 0, 0)) := by decide +kernel
theorem kc_184_1157 : zcode 184 1157 = some (.iconst 1, 1, (0, 0, 0, 0)) := by decide +kernel
theorem kc_184_1158 : zcode 184 1158 = some (.iadd, 1, (0, 0, 0, 0)) := by decide +kernel
theorem kc_184_1159 : zcode 184 1159 = some (.iaload, 1, (0, 0, 0, 0)) := by decide +kernel
theorem kc_184_1160 : zcode 184 1160 = some (.invokevirtual 145, 3, (79, 0, 628, 0)) := by decide +kernel
theorem kc_184_1163 : zcode 184 1163 = some (.aload_n 2, 1, (0, 0, 0, 0)) := by decide +kernel
theorem kc_184_1164 : zcode 184 1164 = some (.aload_n 0, 1, (0, 0, 0, 0)) := by decide +kernel
theorem kc_184_1165 : zcode 184 1165 = some (.iload_n 3, 1, (0, 0, 0, 0)) := by decide +kernel
theorem kc_184_1166 : zcode 184 1166 = some (.iconst 1, 1, (0, 0, 0, 0)) := by decide +kernel
theorem kc_184_1167 : zcode 184 1167 = some (.iadd, 1, (0, 0, 0, 0)) := by decide +kernel
theorem kc_184_1168 : zcode 184 1168 = some (.iaload, 1, (0, 0, 0, 0)) := by decide +kernel
theorem kc_184_1169 : zcode 184 1169 = some (.invokevirtual 148, 3, (165, 0, 1098, 0)) := by decide +kernel
theorem kc_184_1172 : zcode 184 1172 = some (.if_icmp .eq 218, 3, (1390, 0, 0, 0)) := by decide +kernel
theorem kc_184_1175 : zcode 184 1175 = some (.iconst 0, 1, (0, 0, 0, 0)) := by decide +kernel
theorem kc_184_1176 : zcode 184 1176 = some (.ireturn, 1, (1, 0, 0, 0)) := by decide +kernel
theorem kc_184_1177 : zcode 184 1177 = some (.aload_n 1, 1, (0, 0, 0, 0)) := by decide +kernel
theorem kc_184_1178 : zcode 184 1178 = some (.aload_n 0, 1, (0, 0, 0, 0)) := by decide +kernel
theorem kc_184_1179 : zcode 184 1179 = some (.iload_n 3, 1, (0, 0, 0, 0)) := by decide +kernel
theorem kc_184_1180 : zcode 184 1180 = some (.iconst 1, 1, (0, 0, 0, 0)) := by decide +kernel
theorem kc_184_1181 : zcode 184 1181 = some (.iadd, 1, (0, 0, 0, 0)) := by decide +kernel
theorem kc_184_1182 : zcode 184 1182 = some (.iaload, 1, (0, 0, 0, 0)) := by decide +kernel
theorem kc_184_1183 : zcode 184 1183 = some (.aload_n 0, 1, (0, 0, 0, 0)) := by decide +kernel
theorem kc_184_1184 : zcode 184 1184 = some (.iload_n 3, 1, (0, 0, 0, 0)) := by decide +kernel
theorem kc_184_1185 : zcode 184 1185 = some (.iconst 2, 1, (0, 0, 0, 0)) := by decide +kernel
theorem kc_184_1186 : zcode 184 1186 = some (.iadd, 1, (0, 0, 0, 0)) := by decide +kernel
theorem kc_184_1187 : zcode 184 1187 = some (.iaload, 1, (0, 0, 0, 0)) := by decide +kernel
theorem kc_184_1188 : zcode 184 1188 = some (.aload_n 0, 1, (0, 0, 0, 0)) := by decide +kernel
theorem kc_184_1189 : zcode 184 1189 = some (.iload_n 3, 1, (0, 0, 0, 0)) := by decide +kernel
theorem kc_184_1190 : zcode 184 1190 = some (.iconst 3, 1, (0, 0, 0, 0)) := by decide +kernel
theorem kc_184_1191 : zcode 184 1191 = some (.iadd, 1, (0, 0, 0, 0)) := by decide +kernel
theorem kc_184_1192 : zcode 184 1192 = some (.iaload, 1, (0, 0, 0, 0)) := by decide +kernel
theorem kc_184_1193 : zcode 184 1193 = some (.invokevirtual 149, 3, (80, 0, 632, 0)) := by decide +kernel
theorem kc_184_1196 : zcode 184 1196 = some (.aload_n 2, 1, (0, 0, 0, 0)) := by decide +kernel
theorem kc_184_1197 : zcode 184 1197 = some (.aload_n 0, 1, (0, 0, 0, 0)) := by decide +kernel
theorem kc_184_1198 : zcode 184 1198 = some (.iload_n 3, 1, (0, 0, 0, 0)) := by decide +kernel
theorem kc_184_1199 : zcode 184 1199 = some (.iconst 1, 1, (0, 0, 0, 0)) := by decide +kernel
theorem kc_184_1200 : zcode 184 1200 = some (.iadd, 1, (0, 0, 0, 0)) := by decide +kernel
theorem kc_184_1201 : zcode 184 1201 = some (.iaload, 1, (0, 0, 0, 0)) := by decide +kernel
theorem kc_184_1202 : zcode 184 1202 = some (.aload_n 0, 1, (0, 0, 0, 0)) := by decide +kernel
theorem kc_184_1203 : zcode 184 1203 = some (.iload_n 3, 1, (0, 0, 0, 0)) := by decide +kernel
theorem kc_184_1204 : zcode 184 1204 = some (.iconst 2, 1, (0, 0, 0, 0)) := by decide +kernel
theorem kc_184_1205 : zcode 184 1205 = some (.iadd, 1, (0, 0, 0, 0)) := by decide +kernel
theorem kc_184_1206 : zcode 184 1206 = some (.iaload, 1, (0, 0, 0, 0)) := by decide +kernel
theorem kc_184_1207 : zcode 184 1207 = some (.aload_n 0, 1, (0, 0, 0, 0)) := by decide +kernel
theorem kc_184_1208 : zcode 184 1208 = some (.iload_n 3, 1, (0, 0, 0, 0)) := by decide +kernel
theorem kc_184_1209 : zcode 184 1209 = some (.iconst 3, 1, (0, 0, 0, 0)) := by decide +kernel
theorem kc_184_1210 : zcode 184 1210 = some (.iadd, 1, (0, 0, 0, 0)) := by decide +kernel
theorem kc_184_1211 : zcode 184 1211 = some (.iaload, 1, (0, 0, 0, 0)) := by decide +kernel
theorem kc_184_1212 : zcode 184 1212 = some (.invokevirtual 152, 3, (168, 0, 1109, 0)) := by decide +kernel
theorem kc_184_1215 : zcode 184 1215 = some (.if_icmp .eq 175, 3, (1390, 0, 0, 0)) := by decide +kernel
theorem kc_184_1218 : zcode 184 1218 = some (.iconst 0, 1, (0, 0, 0, 0)) := by decide +kernel
theorem kc_184_1219 : zcode 184 1219 = some (.ireturn, 1, (1, 0, 0, 0)) := by decide +kernel
theorem kc_184_1220 : zcode 184 1220 = some (.aload_n 1, 1, (0, 0, 0, 0)) := by decide +kernel
theorem kc_184_1221 : zcode 184 1221 = some (.aload_n 0, 1, (0, 0, 0, 0)) := by decide +kernel
theorem kc_184_1222 : zcode 184 1222 = some (.iload_n 3, 1, (0, 0, 0, 0)) := by decide +kernel
theorem kc_184_1223 : zcode 184 1223 = some (.iconst 1, 1, (0, 0, 0, 0)) := by decide +kernel
theorem kc_184_1224 : zcode 184 1224 = some (.iadd, 1, (0, 0, 0, 0)) := by decide +kernel
theorem kc_184_1225 : zcode 184 1225 = some (.iaload, 1, (0, 0, 0, 0)) := by decide +kernel
theorem kc_184_1226 : zcode 184 1226 = some (.aload_n 0, 1, (0, 0, 0, 0)) := by decide +kernel
theorem kc_184_1227 : zcode 184 1227 = some (.iload_n 3, 1, (0, 0, 0, 0)) := by decide +kernel
theorem kc_184_1228 : zcode 184 1228 = some (.iconst 2, 1, (0, 0, 0, 0)) := by decide +kernel
theorem kc_184_1229 : zcode 184 1229 = some (.iadd, 1, (0, 0, 0, 0)) := by decide +kernel
theorem kc_184_1230 : zcode 184 1230 = some (.iaload, 1, (0, 0, 0, 0)) := by decide +kernel
theorem kc_184_1231 : zcode 184 1231 = some (.aload_n 0, 1, (0, 0, 0, 0)) := by decide +kernel
theorem kc_184_1232 : zcode 184 1232 = some (.iload_n 3, 1, (0, 0, 0, 0)) := by decide +kernel
theorem kc_184_1233 : zcode 184 1233 = some (.iconst 3, 1, (0, 0, 0, 0)) := by decide +kernel
theorem kc_184_1234 : zcode 184 1234 = some (.iadd, 1, (0, 0, 0, 0)) := by decide +kernel
theorem kc_184_1235 : zcode 184 1235 = some (.iaload, 1, (0, 0, 0, 0)) := by decide +kernel
theorem kc_184_1236 : zcode 184 1236 = some (.i2l, 1, (0, 0, 0, 0)) := by decide +kernel
theorem kc_184_1237 : zcode 184 1237 = some (.bipush 32, 2, (0, 0, 0, 0)) := by decide +kernel
theorem kc_184_1239 : zcode 184 1239 = some (.lshl, 1, (0, 0, 0, 0)) := by decide +kernel
theorem kc_184_1240 : zcode 184 1240 = some (.aload_n 0, 1, (0, 0, 0, 0)) := by decide +kernel
theorem kc_184_1241 : zcode 184 1241 = some (.iload_n 3, 1, (0, 0, 0, 0)) := by decide +kernel
theorem kc_184_1242 : zcode 184 1242 = some (.iconst 4, 1, (0, 0, 0, 0)) := by decide +kernel
theorem kc_184_1243 : zcode 184 1243 = some (.iadd, 1, (0, 0, 0, 0)) := by decide +kernel
theorem kc_184_1244 : zcode 184 1244 = some (.iaload, 1, (0, 0, 0, 0)) := by decide +kernel
theorem kc_184_1245 : zcode 184 1245 = some (.i2l, 1, (0, 0, 0, 0)) := by decide +kernel
theorem kc_184_1246 : zcode 184 1246 = some (.ldc2_w 153, 3, (0, 0, 1128, 4294967295)) := by decide +kernel
theorem kc_184_1249 : zcode 184 1249 = some (.land, 1, (0, 0, 0, 0)) := by decide +kernel
theorem kc_184_1250 : zcode 184 1250 = some (.lor, 1, (0, 0, 0, 0)) := by decide +kernel
theorem kc_184_1251 : zcode 184 1251 = some (.invokevirtual 155, 3, (81, 0, 643, 0)) := by decide +kernel
theorem kc_184_1254 : zcode 184 1254 = some (.aload_n 2, 1, (0, 0, 0, 0)) := by decide +kernel
theorem kc_184_1255 : zcode 184 1255 = some (.aload_n 0, 1, (0, 0, 0, 0)) := by decide +kernel
theorem kc_184_1256 : zcode 184 1256 = some (.iload_n 3, 1, (0, 0, 0, 0)) := by decide +kernel
theorem kc_184_1257 : zcode 184 1257 = some (.iconst 1, 1, (0, 0, 0, 0)) := by decide +kernel
theorem kc_184_1258 : zcode 184 1258 = some (.iadd, 1, (0, 0, 0, 0)) := by decide +kernel
theorem kc_184_1259 : zcode 184 1259 = some (.iaload, 1, (0, 0, 0, 0)) := by decide +kernel
theorem kc_184_1260 : zcode 184 1260 = some (.aload_n 0, 1, (0, 0, 0, 0)) := by decide +kernel
theorem kc_184_1261 : zcode 184 1261 = some (.iload_n 3, 1, (0, 0, 0, 0)) := by decide +kernel
theorem kc_184_1262 : zcode 184 1262 = some (.iconst 2, 1, (0, 0, 0, 0)) := by decide +kernel
theorem kc_184_1263 : zcode 184 1263 = some (.iadd, 1, (0, 0, 0, 0)) := by decide +kernel
theorem kc_184_1264 : zcode 184 1264 = some (.iaload, 1, (0, 0, 0, 0)) := by decide +kernel
theorem kc_184_1265 : zcode 184 1265 = some (.aload_n 0, 1, (0, 0, 0, 0)) := by decide +kernel
theorem kc_184_1266 : zcode 184 1266 = some (.iload_n 3, 1, (0, 0, 0, 0)) := by decide +kernel
theorem kc_184_1267 : zcode 184 1267 = some (.iconst 3, 1, (0, 0, 0, 0)) := by decide +kernel
theorem kc_184_1268 : zcode 184 1268 = some (.iadd, 1, (0, 0, 0, 0)) := by decide +kernel
theorem kc_184_1269 : zcode 184 1269 = some (.iaload, 1, (0, 0, 0, 0)) := by decide +kernel
theorem kc_184_1270 : zcode 184 1270 = some (.i2l, 1, (0, 0, 0, 0)) := by decide +kernel
theorem kc_184_1271 : zcode 184 1271 = some (.bipush 32, 2, (0, 0, 0, 0)) := by decide +kernel
theorem kc_184_1273 : zcode 184 1273 = some (.lshl, 1, (0, 0, 0, 0)) := by decide +kernel
theorem kc_184_1274 : zcode 184 1274 = some (.aload_n 0, 1, (0, 0, 0, 0)) := by decide +kernel
theorem kc_184_1275 : zcode 184 1275 = some (.iload_n 3, 1, (0, 0, 0, 0)) := by decide +kernel
theorem kc_184_1276 : zcode 184 1276 = some (.iconst 4, 1, (0, 0, 0, 0)) := by decide +kernel
theorem kc_184_1277 : zcode 184 1277 = some (.iadd, 1, (0, 0, 0, 0)) := by decide +kernel
theorem kc_184_1278 : zcode 184 1278 = some (.iaload, 1, (0, 0, 0, 0)) := by decide +kernel
theorem kc_184_1279 : zcode 184 1279 = some (.i2l, 1, (0, 0, 0, 0)) := by decide +kernel
theorem kc_184_1280 : zcode 184 1280 = some (.ldc2_w 153, 3, (0, 0, 1128, 4294967295)) := by decide +kernel
theorem kc_184_1283 : zcode 184 1283 = some (.land, 1, (0, 0, 0, 0)) := by decide +kernel
theorem kc_184_1284 : zcode 184 1284 = some (.lor, 1, (0, 0, 0, 0)) := by decide +kernel
theorem kc_184_1285 : zcode 184 1285 = some (.invokevirtual 159, 3, (170, 0, 1113, 0)) := by decide +kernel
theorem kc_184_1288 : zcode 184 1288 = some (.if_icmp .eq 102, 3, (1390, 0, 0, 0)) := by decide +kernel
theorem kc_184_1291 : zcode 184 1291 = some (.iconst 0, 1, (0, 0, 0, 0)) := by decide +kernel
theorem kc_184_1292 : zcode 184 1292 = some (.ireturn, 1, (1, 0, 0, 0)) := by decide +kernel
theorem kc_184_1293 : zcode 184 1293 = some (.aload_n 1, 1, (0, 0, 0, 0)) := by decide +kernel
theorem kc_184_1294 : zcode 184 1294 = some (.aload_n 0, 1, (0, 0, 0, 0)) := by decide +kernel
theorem kc_184_1295 : zcode 184 1295 = some (.iload_n 3, 1, (0, 0, 0, 0)) := by decide +kernel
theorem kc_184_1296 : zcode 184 1296 = some (.iconst 1, 1, (0, 0, 0, 0)) := by decide +kernel
theorem kc_184_1297 : zcode 184 1297 = some (.iadd, 1, (0, 0, 0, 0)) := by decide +kernel
theorem kc_184_1298 : zcode 184 1298 = some (.iaload, 1, (0, 0, 0, 0)) := by decide +kernel
theorem kc_184_1299 : zcode 184 1299 = some (.aload_n 0, 1, (0, 0, 0, 0)) := by decide +kernel
theorem kc_184_1300 : zcode 184 1300 = some (.iload_n 3, 1, (0, 0, 0, 0)) := by decide +kernel
theorem kc_184_1301 : zcode 184 1301 = some (.iconst 2, 1, (0, 0, 0, 0)) := by decide +kernel
theorem kc_184_1302 : zcode 184 1302 = some (.iadd, 1, (0, 0, 0, 0)) := by decide +kernel
theorem kc_184_1303 : zcode 184 1303 = some (.iaload, 1, (0, 0, 0, 0)) := by decide +kernel
theorem kc_184_1304 : zcode 184 1304 = some (.invokevirtual 160, 3, (82, 0, 655, 0)) := by decide +kernel
theorem kc_184_1307 : zcode 184 1307 = some (.aload_n 2, 1, (0, 0, 0, 0)) := by decide +kernel
theorem kc_184_1308 : zcode 184 1308 = some (.aload_n 0, 1, (0, 0, 0, 0)) := by decide +kernel
theorem kc_184_1309 : zcode 184 1309 = some (.iload_n 3, 1, (0, 0, 0, 0)) := by decide +kernel
theorem kc_184_1310 : zcode 184 1310 = some (.iconst 1, 1, (0, 0, 0, 0)) := by decide +kernel
theorem kc_184_1311 : zcode 184 1311 = some (.iadd, 1, (0, 0, 0, 0)) := by decide +kernel
theorem kc_184_1312 : zcode 184 1312 = some (.iaload, 1, (0, 0, 0, 0)) := by decide +kernel
theorem kc_184_1313 : zcode 184 1313 = some (.aload_n 0, 1, (0, 0, 0, 0)) := by decide +kernel
theorem kc_184_1314 : zcode 184 1314 = some (.iload_n 3, 1, (0, 0, 0, 0)) := by decide +kernel
theorem kc_184_1315 : zcode 184 1315 = some (.iconst 2, 1, (0, 0, 0, 0)) := by decide +kernel
theorem kc_184_1316 : zcode 184 1316 = some (.iadd, 1, (0, 0, 0, 0)) := by decide +kernel
theorem kc_184_1317 : zcode 184 1317 = some (.iaload, 1, (0, 0, 0, 0)) := by decide +kernel
theorem kc_184_1318 : zcode 184 1318 = some (.invokevirtual 164, 3, (171, 0, 1120, 0)) := by decide +kernel
theorem kc_184_1321 : zcode 184 1321 = some (.lcmp, 1, (0, 0, 0, 0)) := by decide +kernel
theorem kc_184_1322 : zcode 184 1322 = some (.ifCond .eq 68, 3, (1390, 0, 0, 0)) := by decide +kernel
theorem kc_184_1325 : zcode 184 1325 = some (.iconst 0, 1, (0, 0, 0, 0)) := by decide +kernel
theorem kc_184_1326 : zcode 184 1326 = some (.ireturn, 1, (1, 0, 0, 0)) := by decide +kernel
theorem kc_184_1327 : zcode 184 1327 = some (.aload_n 1, 1, (0, 0, 0, 0)) := by decide +kernel
theorem kc_184_1328 : zcode 184 1328 = some (.aload_n 0, 1, (0, 0, 0, 0)) := by decide +kernel
theorem kc_184_1329 : zcode 184 1329 = some (.iload_n 3, 1, (0, 0, 0, 0)) := by decide +kernel
theorem kc_184_1330 : zcode 184 1330 = some (.iconst 1, 1, (0, 0, 0, 0)) := by decide +kernel
theorem kc_184_1331 : zcode 184 1331 = some (.iadd, 1, (0, 0, 0, 0)) := by decide +kernel
theorem kc_184_1332 : zcode 184 1332 = some (.iaload, 1, (0, 0, 0, 0)) := by decide +kernel
theorem kc_184_1333 : zcode 184 1333 = some (.aload_n 0, 1, (0, 0, 0, 0)) := by decide +kernel
theorem kc_184_1334 : zcode 184 1334 = some (.iload_n 3, 1, (0, 0, 0, 0)) := by decide +kernel
theorem kc_184_1335 : zcode 184 1335 = some (.iconst 2, 1, (0, 0, 0, 0)) := by decide +kernel
theorem kc_184_1336 : zcode 184 1336 = some (.iadd, 1, (0, 0, 0, 0)) := by decide +kernel
theorem kc_184_1337 : zcode 184 1337 = some (.iaload, 1, (0, 0, 0, 0)) := by decide +kernel
theorem kc_184_1338 : zcode 184 1338 = some (.aload_n 0, 1, (0, 0, 0, 0)) := by decide +kernel
theorem kc_184_1339 : zcode 184 1339 = some (.iload_n 3, 1, (0, 0, 0, 0)) := by decide +kernel
theorem kc_184_1340 : zcode 184 1340 = some (.iconst 3, 1, (0, 0, 0, 0)) := by decide +kernel
theorem kc_184_1341 : zcode 184 1341 = some (.iadd, 1, (0, 0, 0, 0)) := by decide +kernel
theorem kc_184_1342 : zcode 184 1342 = some (.iaload, 1, (0, 0, 0, 0)) := by decide +kernel
theorem kc_184_1343 : zcode 184 1343 = some (.aload_n 0, 1, (0, 0, 0, 0)) := by decide +kernel
theorem kc_184_1344 : zcode 184 1344 = some (.iload_n 3, 1, (0, 0, 0, 0)) := by decide +kernel
theorem kc_184_1345 : zcode 184 1345 = some (.iconst 4, 1, (0, 0, 0, 0)) := by decide +kernel
theorem kc_184_1346 : zcode 184 1346 = some (.iadd, 1, (0, 0, 0, 0)) := by decide +kernel
theorem kc_184_1347 : zcode 184 1347 = some (.iaload, 1, (0, 0, 0, 0)) := by decide +kernel
theorem kc_184_1348 : zcode 184 1348 = some (.aload_n 0, 1, (0, 0, 0, 0)) := by decide +kernel
theorem kc_184_1349 : zcode 184 1349 = some (.iload_n 3, 1, (0, 0, 0, 0)) := by decide +kernel
theorem kc_184_1350 : zcode 184 1350 = some (.iconst 5, 1, (0, 0, 0, 0)) := by decide +kernel
theorem kc_184_1351 : zcode 184 1351 = some (.iadd, 1, (0, 0, 0, 0)) := by decide +kernel
theorem kc_184_1352 : zcode 184 1352 = some (.iaload, 1, (0, 0, 0, 0)) := by decide +kernel
theorem kc_184_1353 : zcode 184 1353 = some (.invokevirtual 165, 3, (83, 0, 659, 0)) := by decide +kernel
theorem kc_184_1356 : zcode 184 1356 = some (.aload_n 2, 1, (0, 0, 0, 0)) := by decide +kernel
theorem kc_184_1357 : zcode 184 1357 = some (.aload_n 0, 1, (0, 0, 0, 0)) := by decide +kernel
theorem kc_184_1358 : zcode 184 1358 = some (.iload_n 3, 1, (0, 0, 0, 0)) := by decide +kernel
theorem kc_184_1359 : zcode 184 1359 = some (.iconst 1, 1, (0, 0, 0, 0)) := by decide +kernel
theorem kc_184_1360 : zcode 184 1360 = some (.iadd, 1, (0, 0, 0, 0)) := by decide +kernel
theorem kc_184_1361 : zcode 184 1361 = some (.iaload, 1, (0, 0, 0, 0)) := by decide +kernel
theorem kc_184_1362 : zcode 184 1362 = some (.aload_n 0, 1, (0, 0, 0, 0)) := by decide +kernel
theorem kc_184_1363 : zcode 184 1363 = some (.iload_n 3, 1, (0, 0, 0, 0)) := by decide +kernel
theorem kc_184_1364 : zcode 184 1364 = some (.iconst 2, 1, (0, 0, 0, 0)) := by decide +kernel
theorem kc_184_1365 : zcode 184 1365 = some (.iadd, 1, (0, 0, 0, 0)) := by decide +kernel
theorem kc_184_1366 : zcode 184 1366 = some (.iaload, 1, (0, 0, 0, 0)) := by decide +kernel
theorem kc_184_1367 : zcode 184 1367 = some (.aload_n 0, 1, (0, 0, 0, 0)) := by decide +kernel
theorem kc_184_1368 : zcode 184 1368 = some (.iload_n 3, 1, (0, 0, 0, 0)) := by decide +kernel
theorem kc_184_1369 : zcode 184 1369 = some (.iconst 3, 1, (0, 0, 0, 0)) := by decide +kernel
theorem kc_184_1370 : zcode 184 1370 = some (.iadd, 1, (0, 0, 0, 0)) := by decide +kernel
theorem kc_184_1371 : zcode 184 1371 = some (.iaload, 1, (0, 0, 0, 0)) := by decide +kernel
theorem kc_184_1372 : zcode 184 1372 = some (.aload_n 0, 1, (0, 0, 0, 0)) := by decide +kernel
theorem kc_184_1373 : zcode 184 1373 = some (.iload_n 3, 1, (0, 0, 0, 0)) := by decide +kernel
theorem kc_184_1374 : zcode 184 1374 = some (.iconst 4, 1, (0, 0, 0, 0)) := by decide +kernel
theorem kc_184_1375 : zcode 184 1375 = some (.iadd, 1, (0, 0, 0, 0)) := by decide +kernel
theorem kc_184_1376 : zcode 184 1376 = some (.iaload, 1, (0, 0, 0, 0)) := by decide +kernel
theorem kc_184_1377 : zcode 184 1377 = some (.aload_n 0, 1, (0, 0, 0, 0)) := by decide +kernel
theorem kc_184_1378 : zcode 184 1378 = some (.iload_n 3, 1, (0, 0, 0, 0)) := by decide +kernel
theorem kc_184_1379 : zcode 184 1379 = some (.iconst 5, 1, (0, 0, 0, 0)) := by decide +kernel
theorem kc_184_1380 : zcode 184 1380 = some (.iadd, 1, (0, 0, 0, 0)) := by decide +kernel
theorem kc_184_1381 : zcode 184 1381 = some (.iaload, 1, (0, 0, 0, 0)) := by decide +kernel
theorem kc_184_1382 : zcode 184 1382 = some (.invokevirtual 169, 3, (172, 0, 1124, 0)) := by decide +kernel
theorem kc_184_1385 : zcode 184 1385 = some (.if_icmp .eq 5, 3, (1390, 0, 0, 0)) := by decide +kernel
theorem kc_184_1388 : zcode 184 1388 = some (.iconst 0, 1, (0, 0, 0, 0)) := by decide +kernel
theorem kc_184_1389 : zcode 184 1389 = some (.ireturn, 1, (1, 0, 0, 0)) := by decide +kernel
theorem kc_184_1390 : zcode 184 1390 = some (.iinc 3 6, 3, (0, 0, 0, 0)) := by decide +kernel
theorem kc_184_1393 : zcode 184 1393 = some (.goto (-1375), 3, (18, 0, 0, 0)) := by decide +kernel
theorem kc_184_1396 : zcode 184 1396 = some (.iconst 1, 1, (0, 0, 0, 0)) := by decide +kernel
theorem kc_184_1397 : zcode 184 1397 = some (.ireturn, 1, (1, 0, 0, 0)) := by decide +kernel
