theorem t94_16 : am_T 94 16 = some (0, .iconst 0, 17, [], .int (0)) := by decide +kernel
theorem t94_17 : am_T 94 17 = some (2, .putfield 21, 20, [4, 0, 9], .null) := by decide +kernel
theorem t94_20 : am_T 94 20 = some (0, .aload_n 0, 21, [], .null) := by decide +kernel
theorem t94_21 : am_T 94 21 = some (0, .iconst 0, 22, [], .int (0)) := by decide +kernel
theorem t94_22 : am_T 94 22 = some (2, .putfield 24, 25, [5, 0, 9], .null) := by decide +kernel
theorem t94_25 : am_T 94 25 = some (0, .aload_n 0, 26, [], .null) := by decide +kernel
theorem t94_26 : am_T 94 26 = some (0, .iload_n 3, 27, [], .null) := by decide +kernel
theorem t94_27 : am_T 94 27 = some (2, .putfield 27, 30, [6, 0, 9], .null) := by decide +kernel
theorem t94_30 : am_T 94 30 = some (0, .aload_n 0, 31, [], .null) := by decide +kernel
theorem t94_31 : am_T 94 31 = some (3, .invokevirtual 52, 34, [1, 9, 114], .null) := by decide +kernel
theorem t94_34 : am_T 94 34 = some (4, .return_, 35, [], .null) := by decide +kernel
theorem t95_0 : am_T 95 0 = some (0, .aload_n 0, 1, [], .null) := by decide +kernel
theorem t95_1 : am_T 95 1 = some (0, .aload_n 1, 2, [], .null) := by decide +kernel
theorem t95_2 : am_T 95 2 = some (2, .getfield 9, 5, [1, 9], .null) := by decide +kernel
theorem t95_5 : am_T 95 5 = some (2, .putfield 9, 8, [1, 0, 9], .null) := by decide +kernel
theorem t95_8 : am_T 95 8 = some (0, .aload_n 0, 9, [], .null) := by decide +kernel
theorem t95_9 : am_T 95 9 = some (0, .aload_n 1, 10, [], .null) := by decide +kernel
theorem t95_10 : am_T 95 10 = some (2, .getfield 15, 13, [2, 9], .null) := by decide +kernel
theorem t95_13 : am_T 95 13 = some (2, .putfield 15, 16, [2, 0, 9], .null) := by decide +kernel
theorem t95_16 : am_T 95 16 = some (0, .aload_n 0, 17, [], .null) := by decide +kernel
theorem t95_17 : am_T 95 17 = some (0, .aload_n 1, 18, [], .null) := by decide +kernel
theorem t95_18 : am_T 95 18 = some (2, .getfield 18, 21, [3, 9], .null) := by decide +kernel
theorem t95_21 : am_T 95 21 = some (2, .putfield 18, 24, [3, 0, 9], .null) := by decide +kernel
theorem t95_24 : am_T 95 24 = some (0, .aload_n 0, 25, [], .null) := by decide +kernel
theorem t95_25 : am_T 95 25 = some (0, .aload_n 1, 26, [], .null) := by decide +kernel
theorem t95_26 : am_T 95 26 = some (2, .getfield 21, 29, [4, 9], .null) := by decide +kernel
theorem t95_29 : am_T 95 29 = some (2, .putfield 21, 32, [4, 0, 9], .null) := by decide +kernel
theorem t95_32 : am_T 95 32 = some (0, .aload_n 0, 33, [], .null) := by decide +kernel
theorem t95_33 : am_T 95 33 = some (0, .aload_n 1, 34, [], .null) := by decide +kernel
theorem t95_34 : am_T 95 34 = some (2, .getfield 24, 37, [5, 9], .null) := by decide +kernel
theorem t95_37 : am_T 95 37 = some (2, .putfield 24, 40, [5, 0, 9], .null) := by decide +kernel
theorem t95_40 : am_T 95 40 = some (0, .aload_n 0, 41, [], .null) := by decide +kernel
theorem t95_41 : am_T 95 41 = some (0, .aload_n 1, 42, [], .null) := by decide +kernel
theorem t95_42 : am_T 95 42 = some (2, .getfield 27, 45, [6, 9], .null) := by decide +kernel
theorem t95_45 : am_T 95 45 = some (2, .putfield 27, 48, [6, 0, 9], .null) := by decide +kernel
theorem t95_48 : am_T 95 48 = some (0, .aload_n 0, 49, [], .null) := by decide +kernel
theorem t95_49 : am_T 95 49 = some (2, .getfield 35, 52, [7, 9], .null) := by decide +kernel
theorem t95_52 : am_T 95 52 = some (0, .aload_n 1, 53, [], .null) := by decide +kernel
theorem t95_53 : am_T 95 53 = some (2, .getfield 35, 56, [7, 9], .null) := by decide +kernel
theorem t95_56 : am_T 95 56 = some (3, .invokevirtual 55, 59, [2, 4, 36], .null) := by decide +kernel
theorem t95_59 : am_T 95 59 = some (4, .return_, 60, [], .null) := by decide +kernel
theorem t96_0 : am_T 96 0 = some (0, .aload_n 0, 1, [], .null) := by decide +kernel
theorem t96_1 : am_T 96 1 = some (2, .getfield 21, 4, [4, 9], .null) := by decide +kernel
theorem t96_4 : am_T 96 4 = some (4, .ireturn, 5, [0], .null) := by decide +kernel
theorem t97_0 : am_T 97 0 = some (0, .aload_n 0, 1, [], .null) := by decide +kernel
theorem t97_1 : am_T 97 1 = some (2, .getfield 24, 4, [5, 9], .null) := by decide +kernel
theorem t97_4 : am_T 97 4 = some (4, .ireturn, 5, [0], .null) := by decide +kernel
theorem t98_0 : am_T 98 0 = some (0, .aload_n 0, 1, [], .null) := by decide +kernel
theorem t98_1 : am_T 98 1 = some (2, .getfield 27, 4, [6, 9], .null) := by decide +kernel
theorem t98_4 : am_T 98 4 = some (4, .ireturn, 5, [0], .null) := by decide +kernel
theorem t99_0 : am_T 99 0 = some (0, .aload_n 0, 1, [], .null) := by decide +kernel
theorem t99_1 : am_T 99 1 = some (2, .getfield 18, 4, [3, 9], .null) := by decide +kernel
theorem t99_4 : am_T 99 4 = some (4, .ireturn, 5, [0], .null) := by decide +kernel
theorem t100_0 : am_T 100 0 = some (0, .iload_n 1, 1, [], .null) := by decide +kernel
theorem t100_1 : am_T 100 1 = some (0, .iconst 1, 2, [], .int (1)) := by decide +kernel
theorem t100_2 : am_T 100 2 = some (1, .if_icmp .ne 10, 5, [12], .null) := by decide +kernel
theorem t100_5 : am_T 100 5 = some (0, .aload_n 0, 6, [], .null) := by decide +kernel
theorem t100_6 : am_T 100 6 = some (2, .getfield 9, 9, [1, 9], .null) := by decide +kernel
theorem t100_9 : am_T 100 9 = some (1, .goto 7, 12, [16], .null) := by decide +kernel
theorem t100_12 : am_T 100 12 = some (0, .aload_n 0, 13, [], .null) := by decide +kernel
theorem t100_13 : am_T 100 13 = some (2, .getfield 15, 16, [2, 9], .null) := by decide +kernel
theorem t100_16 : am_T 100 16 = some (4, .ireturn, 17, [0], .null) := by decide +kernel
theorem t101_0 : am_T 101 0 = some (0, .iload_n 1, 1, [], .null) := by decide +kernel
theorem t101_1 : am_T 101 1 = some (0, .iconst 1, 2, [], .int (1)) := by decide +kernel
theorem t101_2 : am_T 101 2 = some (1, .if_icmp .ne 22, 5, [24], .null) := by decide +kernel
theorem t101_5 : am_T 101 5 = some (0, .aload_n 0, 6, [], .null) := by decide +kernel
theorem t101_6 : am_T 101 6 = some (2, .getfield 9, 9, [1, 9], .null) := by decide +kernel
theorem t101_9 : am_T 101 9 = some (0, .aload_n 0, 10, [], .null) := by decide +kernel
theorem t101_10 : am_T 101 10 = some (2, .getfield 48, 13, [0, 9], .null) := by decide +kernel
theorem t101_13 : am_T 101 13 = some (0, .aload_n 0, 14, [], .null) := by decide +kernel
theorem t101_14 : am_T 101 14 = some (2, .getfield 21, 17, [4, 9], .null) := by decide +kernel
theorem t101_17 : am_T 101 17 = some (3, .invokevirtual 59, 20, [2, 7, 78], .null) := by decide +kernel
theorem t101_20 : am_T 101 20 = some (0, .isub, 21, [], .null) := by decide +kernel
theorem t101_21 : am_T 101 21 = some (1, .goto 19, 24, [40], .null) := by decide +kernel
theorem t101_24 : am_T 101 24 = some (0, .aload_n 0, 25, [], .null) := by decide +kernel
theorem t101_25 : am_T 101 25 = some (2, .getfield 15, 28, [2, 9], .null) := by decide +kernel
theorem t101_28 : am_T 101 28 = some (0, .aload_n 0, 29, [], .null) := by decide +kernel
theorem t101_29 : am_T 101 29 = some (2, .getfield 48, 32, [0, 9], .null) := by decide +kernel
theorem t101_32 : am_T 101 32 = some (0, .aload_n 0, 33, [], .null) := by decide +kernel
theorem t101_33 : am_T 101 33 = some (2, .getfield 21, 36, [4, 9], .null) := by decide +kernel
theorem t101_36 : am_T 101 36 = some (3, .invokevirtual 65, 39, [2, 7, 79], .null) := by decide +kernel
theorem t101_39 : am_T 101 39 = some (0, .isub, 40, [], .null) := by decide +kernel
theorem t101_40 : am_T 101 40 = some (4, .ireturn, 41, [0], .null) := by decide +kernel
theorem t102_0 : am_T 102 0 = some (0, .aload_n 0, 1, [], .null) := by decide +kernel
theorem t102_1 : am_T 102 1 = some (2, .getfield 48, 4, [0, 9], .null) := by decide +kernel
theorem t102_4 : am_T 102 4 = some (0, .aload_n 0, 5, [], .null) := by decide +kernel
theorem t102_5 : am_T 102 5 = some (2, .getfield 21, 8, [4, 9], .null) := by decide +kernel
theorem t102_8 : am_T 102 8 = some (0, .iload_n 1, 9, [], .null) := by decide +kernel
theorem t102_9 : am_T 102 9 = some (3, .invokevirtual 68, 12, [3, 7, 77], .null) := by decide +kernel
theorem t102_12 : am_T 102 12 = some (4, .ireturn, 13, [0], .null) := by decide +kernel
theorem t103_0 : am_T 103 0 = some (0, .iload_n 1, 1, [], .null) := by decide +kernel
theorem t103_1 : am_T 103 1 = some (1, .ifCond .lt 48, 4, [49], .null) := by decide +kernel
theorem t103_4 : am_T 103 4 = some (0, .iload_n 1, 5, [], .null) := by decide +kernel
theorem t103_5 : am_T 103 5 = some (0, .aload_n 0, 6, [], .null) := by decide +kernel
theorem t103_6 : am_T 103 6 = some (2, .getfield 48, 9, [0, 9], .null) := by decide +kernel
theorem t103_9 : am_T 103 9 = some (3, .invokevirtual 72, 12, [1, 7, 76], .null) := by decide +kernel
theorem t103_12 : am_T 103 12 = some (1, .if_icmp .ge 37, 15, [49], .null) := by decide +kernel
theorem t103_15 : am_T 103 15 = some (0, .aload_n 0, 16, [], .null) := by decide +kernel
theorem t103_16 : am_T 103 16 = some (2, .getfield 48, 19, [0, 9], .null) := by decide +kernel
theorem t103_19 : am_T 103 19 = some (0, .iload_n 1, 20, [], .null) := by decide +kernel
theorem t103_20 : am_T 103 20 = some (3, .invokevirtual 59, 23, [2, 7, 78], .null) := by decide +kernel
theorem t103_23 : am_T 103 23 = some (0, .aload_n 0, 24, [], .null) := by decide +kernel
theorem t103_24 : am_T 103 24 = some (2, .getfield 9, 27, [1, 9], .null) := by decide +kernel
theorem t103_27 : am_T 103 27 = some (1, .if_icmp .gt 22, 30, [49], .null) := by decide +kernel
theorem t103_30 : am_T 103 30 = some (0, .aload_n 0, 31, [], .null) := by decide +kernel
theorem t103_31 : am_T 103 31 = some (2, .getfield 48, 34, [0, 9], .null) := by decide +kernel
theorem t103_34 : am_T 103 34 = some (0, .iload_n 1, 35, [], .null) := by decide +kernel
theorem t103_35 : am_T 103 35 = some (3, .invokevirtual 65, 38, [2, 7, 79], .null) := by decide +kernel
theorem t103_38 : am_T 103 38 = some (0, .aload_n 0, 39, [], .null) := by decide +kernel
theorem t103_39 : am_T 103 39 = some (2, .getfield 15, 42, [2, 9], .null) := by decide +kernel
theorem t103_42 : am_T 103 42 = some (1, .if_icmp .gt 7, 45, [49], .null) := by decide +kernel
theorem t103_45 : am_T 103 45 = some (0, .iconst 1, 46, [], .int (1)) := by decide +kernel
theorem t103_46 : am_T 103 46 = some (1, .goto 4, 49, [50], .null) := by decide +kernel
theorem t103_49 : am_T 103 49 = some (0, .iconst 0, 50, [], .int (0)) := by decide +kernel
theorem t103_50 : am_T 103 50 = some (4, .ireturn, 51, [1], .null) := by decide +kernel
theorem t104_0 : am_T 104 0 = some (0, .aload_n 0, 1, [], .null) := by decide +kernel
theorem t104_1 : am_T 104 1 = some (3, .invokevirtual 76, 4, [1, 9, 111], .null) := by decide +kernel
theorem t104_4 : am_T 104 4 = some (0, .aload_n 0, 5, [], .null) := by decide +kernel
theorem t104_5 : am_T 104 5 = some (0, .iload_n 1, 6, [], .null) := by decide +kernel
theorem t104_6 : am_T 104 6 = some (2, .putfield 21, 9, [4, 0, 9], .null) := by decide +kernel
theorem t104_9 : am_T 104 9 = some (0, .aload_n 0, 10, [], .null) := by decide +kernel
theorem t104_10 : am_T 104 10 = some (0, .dup, 11, [], .null) := by decide +kernel
theorem t104_11 : am_T 104 11 = some (2, .getfield 27, 14, [6, 9], .null) := by decide +kernel
theorem t104_14 : am_T 104 14 = some (0, .iconst 1, 15, [], .int (1)) := by decide +kernel
theorem t104_15 : am_T 104 15 = some (0, .isub, 16, [], .null) := by decide +kernel
theorem t104_16 : am_T 104 16 = some (2, .putfield 27, 19, [6, 0, 9], .null) := by decide +kernel
theorem t104_19 : am_T 104 19 = some (4, .return_, 20, [], .null) := by decide +kernel
theorem t105_0 : am_T 105 0 = some (0, .iload_n 1, 1, [], .null) := by decide +kernel
theorem t105_1 : am_T 105 1 = some (0, .bipush 60, 3, [], .int (60)) := by decide +kernel
theorem t105_3 : am_T 105 3 = some (0, .aload_n 0, 4, [], .null) := by decide +kernel
theorem t105_4 : am_T 105 4 = some (2, .getfield 24, 7, [5, 9], .null) := by decide +kernel
theorem t105_7 : am_T 105 7 = some (0, .isub, 8, [], .null) := by decide +kernel
theorem t105_8 : am_T 105 8 = some (1, .if_icmp .gt 7, 11, [15], .null) := by decide +kernel
theorem t105_11 : am_T 105 11 = some (0, .iconst 1, 12, [], .int (1)) := by decide +kernel
theorem t105_12 : am_T 105 12 = some (1, .goto 4, 15, [16], .null) := by decide +kernel
theorem t105_15 : am_T 105 15 = some (0, .iconst 0, 16, [], .int (0)) := by decide +kernel
theorem t105_16 : am_T 105 16 = some (4, .ireturn, 17, [1], .null) := by decide +kernel
theorem t106_0 : am_T 106 0 = some (0, .aload_n 0, 1, [], .null) := by decide +kernel
theorem t106_1 : am_T 106 1 = some (3, .invokevirtual 76, 4, [1, 9, 111], .null) := by decide +kernel
theorem t106_4 : am_T 106 4 = some (0, .aload_n 0, 5, [], .null) := by decide +kernel
theorem t106_5 : am_T 106 5 = some (2, .getfield 35, 8, [7, 9], .null) := by decide +kernel
theorem t106_8 : am_T 106 8 = some (0, .aload_n 0, 9, [], .null) := by decide +kernel
theorem t106_9 : am_T 106 9 = some (2, .getfield 24, 12, [5, 9], .null) := by decide +kernel
theorem t106_12 : am_T 106 12 = some (0, .aload_n 0, 13, [], .null) := by decide +kernel
theorem t106_13 : am_T 106 13 = some (2, .getfield 21, 16, [4, 9], .null) := by decide +kernel
theorem t106_16 : am_T 106 16 = some (3, .invokevirtual 79, 19, [3, 4, 31], .null) := by decide +kernel
theorem t106_19 : am_T 106 19 = some (0, .aload_n 0, 20, [], .null) := by decide +kernel
theorem t106_20 : am_T 106 20 = some (0, .dup, 21, [], .null) := by decide +kernel
theorem t106_21 : am_T 106 21 = some (2, .getfield 24, 24, [5, 9], .null) := by decide +kernel
theorem t106_24 : am_T 106 24 = some (0, .iconst 1, 25, [], .int (1)) := by decide +kernel
theorem t106_25 : am_T 106 25 = some (0, .iadd, 26, [], .null) := by decide +kernel
theorem t106_26 : am_T 106 26 = some (2, .putfield 24, 29, [5, 0, 9], .null) := by decide +kernel
theorem t106_29 : am_T 106 29 = some (0, .aload_n 0, 30, [], .null) := by decide +kernel
theorem t106_30 : am_T 106 30 = some (0, .aload_n 0, 31, [], .null) := by decide +kernel
theorem t106_31 : am_T 106 31 = some (2, .getfield 18, 34, [3, 9], .null) := by decide +kernel
theorem t106_34 : am_T 106 34 = some (2, .putfield 27, 37, [6, 0, 9], .null) := by decide +kernel
theorem t106_37 : am_T 106 37 = some (4, .return_, 38, [], .null) := by decide +kernel
theorem t107_0 : am_T 107 0 = some (0, .iconst 0, 1, [], .int (0)) := by decide +kernel
theorem t107_1 : am_T 107 1 = some (0, .istore_n 3, 2, [], .null) := by decide +kernel
theorem t107_2 : am_T 107 2 = some (0, .iconst 0, 3, [], .int (0)) := by decide +kernel
theorem t107_3 : am_T 107 3 = some (0, .istore 4, 5, [], .null) := by decide +kernel
theorem t107_5 : am_T 107 5 = some (0, .iload 4, 7, [], .null) := by decide +kernel
theorem t107_7 : am_T 107 7 = some (0, .aload_n 0, 8, [], .null) := by decide +kernel
theorem t107_8 : am_T 107 8 = some (2, .getfield 48, 11, [0, 9], .null) := by decide +kernel
theorem t107_11 : am_T 107 11 = some (0, .aload_n 0, 12, [], .null) := by decide +kernel
theorem t107_12 : am_T 107 12 = some (2, .getfield 21, 15, [4, 9], .null) := by decide +kernel
theorem t107_15 : am_T 107 15 = some (3, .invokevirtual 83, 18, [2, 7, 81], .null) := by decide +kernel
theorem t107_18 : am_T 107 18 = some (1, .if_icmp .ge 37, 21, [55], .null) := by decide +kernel
theorem t107_21 : am_T 107 21 = some (0, .iload_n 3, 22, [], .null) := by decide +kernel
theorem t107_22 : am_T 107 22 = some (0, .aload_n 0, 23, [], .null) := by decide +kernel
theorem t107_23 : am_T 107 23 = some (0, .aload_n 0, 24, [], .null) := by decide +kernel
theorem t107_24 : am_T 107 24 = some (2, .getfield 48, 27, [0, 9], .null) := by decide +kernel
theorem t107_27 : am_T 107 27 = some (0, .aload_n 0, 28, [], .null) := by decide +kernel
theorem t107_28 : am_T 107 28 = some (2, .getfield 21, 31, [4, 9], .null) := by decide +kernel
theorem t107_31 : am_T 107 31 = some (0, .iload 4, 33, [], .null) := by decide +kernel
theorem t107_33 : am_T 107 33 = some (3, .invokevirtual 86, 36, [3, 7, 82], .null) := by decide +kernel
theorem t107_36 : am_T 107 36 = some (3, .invokevirtual 89, 39, [2, 9, 103], .null) := by decide +kernel
theorem t107_39 : am_T 107 39 = some (1, .ifCond .eq 7, 42, [46], .null) := by decide +kernel
theorem t107_42 : am_T 107 42 = some (0, .iconst 1, 43, [], .int (1)) := by decide +kernel
theorem t107_43 : am_T 107 43 = some (1, .goto 4, 46, [47], .null) := by decide +kernel
theorem t107_46 : am_T 107 46 = some (0, .iconst 0, 47, [], .int (0)) := by decide +kernel
theorem t107_47 : am_T 107 47 = some (0, .iadd, 48, [], .null) := by decide +kernel
theorem t107_48 : am_T 107 48 = some (0, .istore_n 3, 49, [], .null) := by decide +kernel
theorem t107_49 : am_T 107 49 = some (0, .iinc 4 1, 52, [], .int (1)) := by decide +kernel
theorem t107_52 : am_T 107 52 = some (1, .goto (-47), 55, [5], .null) := by decide +kernel
theorem t107_55 : am_T 107 55 = some (0, .iload_n 3, 56, [], .null) := by decide +kernel
theorem t107_56 : am_T 107 56 = some (0, .iconst 1, 57, [], .int (1)) := by decide +kernel
theorem t107_57 : am_T 107 57 = some (0, .iadd, 58, [], .null) := by decide +kernel
theorem t107_58 : am_T 107 58 = some (0, .istore 4, 60, [], .null) := by decide +kernel
theorem t107_60 : am_T 107 60 = some (0, .iload 4, 62, [], .null) := by decide +kernel
theorem t107_62 : am_T 107 62 = some (1, .ifCond .le 12, 65, [74], .null) := by decide +kernel
theorem t107_65 : am_T 107 65 = some (0, .lload_n 1, 66, [], .null) := by decide +kernel
theorem t107_66 : am_T 107 66 = some (0, .iload 4, 68, [], .null) := by decide +kernel
theorem t107_68 : am_T 107 68 = some (0, .i2l, 69, [], .null) := by decide +kernel
theorem t107_69 : am_T 107 69 = some (0, .lrem, 70, [], .null) := by decide +kernel
theorem t107_70 : am_T 107 70 = some (0, .l2i, 71, [], .null) := by decide +kernel
theorem t107_71 : am_T 107 71 = some (1, .goto 4, 74, [75], .null) := by decide +kernel
theorem t107_74 : am_T 107 74 = some (0, .iconst 0, 75, [], .int (0)) := by decide +kernel
theorem t107_75 : am_T 107 75 = some (0, .istore 5, 77, [], .null) := by decide +kernel
theorem t107_77 : am_T 107 77 = some (0, .aload_n 0, 78, [], .null) := by decide +kernel
theorem t107_78 : am_T 107 78 = some (2, .getfield 21, 81, [4, 9], .null) := by decide +kernel
theorem t107_81 : am_T 107 81 = some (0, .istore 6, 83, [], .null) := by decide +kernel
theorem t107_83 : am_T 107 83 = some (0, .iconst 0, 84, [], .int (0)) := by decide +kernel
theorem t107_84 : am_T 107 84 = some (0, .istore 7, 86, [], .null) := by decide +kernel
theorem t107_86 : am_T 107 86 = some (0, .iload 7, 88, [], .null) := by decide +kernel
theorem t107_88 : am_T 107 88 = some (0, .aload_n 0, 89, [], .null) := by decide +kernel
theorem t107_89 : am_T 107 89 = some (2, .getfield 48, 92, [0, 9], .null) := by decide +kernel
theorem t107_92 : am_T 107 92 = some (0, .iload 6, 94, [], .null) := by decide +kernel
theorem t107_94 : am_T 107 94 = some (3, .invokevirtual 83, 97, [2, 7, 81], .null) := by decide +kernel
theorem t107_97 : am_T 107 97 = some (1, .if_icmp .ge 50, 100, [147], .null) := by decide +kernel
theorem t107_100 : am_T 107 100 = some (0, .iload 5, 102, [], .null) := by decide +kernel
theorem t107_102 : am_T 107 102 = some (1, .ifCond .le 45, 105, [147], .null) := by decide +kernel
theorem t107_105 : am_T 107 105 = some (0, .aload_n 0, 106, [], .null) := by decide +kernel
theorem t107_106 : am_T 107 106 = some (2, .getfield 48, 109, [0, 9], .null) := by decide +kernel
theorem t107_109 : am_T 107 109 = some (0, .iload 6, 111, [], .null) := by decide +kernel
theorem t107_111 : am_T 107 111 = some (0, .iload 7, 113, [], .null) := by decide +kernel
theorem t107_113 : am_T 107 113 = some (3, .invokevirtual 86, 116, [3, 7, 82], .null) := by decide +kernel
theorem t107_116 : am_T 107 116 = some (0, .istore 8, 118, [], .null) := by decide +kernel
theorem t107_118 : am_T 107 118 = some (0, .aload_n 0, 119, [], .null) := by decide +kernel
theorem t107_119 : am_T 107 119 = some (0, .iload 8, 121, [], .null) := by decide +kernel
theorem t107_121 : am_T 107 121 = some (3, .invokevirtual 89, 124, [2, 9, 103], .null) := by decide +kernel
theorem t107_124 : am_T 107 124 = some (1, .ifCond .eq 17, 127, [141], .null) := by decide +kernel
theorem t107_127 : am_T 107 127 = some (0, .iinc 5 (-1), 130, [], .int (-1)) := by decide +kernel
theorem t107_130 : am_T 107 130 = some (0, .iload 5, 132, [], .null) := by decide +kernel
theorem t107_132 : am_T 107 132 = some (1, .ifCond .ne 9, 135, [141], .null) := by decide +kernel
theorem t107_135 : am_T 107 135 = some (0, .aload_n 0, 136, [], .null) := by decide +kernel
theorem t107_136 : am_T 107 136 = some (0, .iload 8, 138, [], .null) := by decide +kernel
theorem t107_138 : am_T 107 138 = some (2, .putfield 21, 141, [4, 0, 9], .null) := by decide +kernel
theorem t107_141 : am_T 107 141 = some (0, .iinc 7 1, 144, [], .int (1)) := by decide +kernel
theorem t107_144 : am_T 107 144 = some (1, .goto (-58), 147, [86], .null) := by decide +kernel
theorem t107_147 : am_T 107 147 = some (4, .return_, 148, [], .null) := by decide +kernel
theorem t108_0 : am_T 108 0 = some (0, .aload_n 0, 1, [], .null) := by decide +kernel
theorem t108_1 : am_T 108 1 = some (0, .dup, 2, [], .null) := by decide +kernel
theorem t108_2 : am_T 108 2 = some (2, .getfield 9, 5, [1, 9], .null) := by decide +kernel
theorem t108_5 : am_T 108 5 = some (0, .iload_n 1, 6, [], .null) := by decide +kernel
theorem t108_6 : am_T 108 6 = some (0, .iconst 1, 7, [], .int (1)) := by decide +kernel
theorem t108_7 : am_T 108 7 = some (1, .if_icmp .ne 7, 10, [14], .null) := by decide +kernel
theorem t108_10 : am_T 108 10 = some (0, .iconst 1, 11, [], .int (1)) := by decide +kernel
theorem t108_11 : am_T 108 11 = some (1, .goto 4, 14, [15], .null) := by decide +kernel
theorem t108_14 : am_T 108 14 = some (0, .iconst 0, 15, [], .int (0)) := by decide +kernel
theorem t108_15 : am_T 108 15 = some (0, .isub, 16, [], .null) := by decide +kernel
theorem t108_16 : am_T 108 16 = some (2, .putfield 9, 19, [1, 0, 9], .null) := by decide +kernel
theorem t108_19 : am_T 108 19 = some (0, .aload_n 0, 20, [], .null) := by decide +kernel
theorem t108_20 : am_T 108 20 = some (0, .dup, 21, [], .null) := by decide +kernel
theorem t108_21 : am_T 108 21 = some (2, .getfield 15, 24, [2, 9], .null) := by decide +kernel
theorem t108_24 : am_T 108 24 = some (0, .iload_n 1, 25, [], .null) := by decide +kernel
theorem t108_25 : am_T 108 25 = some (0, .iconst 2, 26, [], .int (2)) := by decide +kernel
theorem t108_26 : am_T 108 26 = some (1, .if_icmp .ne 7, 29, [33], .null) := by decide +kernel
theorem t108_29 : am_T 108 29 = some (0, .iconst 1, 30, [], .int (1)) := by decide +kernel
theorem t108_30 : am_T 108 30 = some (1, .goto 4, 33, [34], .null) := by decide +kernel
theorem t108_33 : am_T 108 33 = some (0, .iconst 0, 34, [], .int (0)) := by decide +kernel
theorem t108_34 : am_T 108 34 = some (0, .isub, 35, [], .null) := by decide +kernel
theorem t108_35 : am_T 108 35 = some (2, .putfield 15, 38, [2, 0, 9], .null) := by decide +kernel
theorem t108_38 : am_T 108 38 = some (0, .aload_n 0, 39, [], .null) := by decide +kernel
theorem t108_39 : am_T 108 39 = some (3, .invokevirtual 52, 42, [1, 9, 114], .null) := by decide +kernel
theorem t108_42 : am_T 108 42 = some (4, .return_, 43, [], .null) := by decide +kernel
theorem t109_0 : am_T 109 0 = some (0, .iload_n 1, 1, [], .null) := by decide +kernel
theorem t109_1 : am_T 109 1 = some (1, .ifCond .lt 15, 4, [16], .null) := by decide +kernel
theorem t109_4 : am_T 109 4 = some (0, .iload_n 1, 5, [], .null) := by decide +kernel
theorem t109_5 : am_T 109 5 = some (0, .aload_n 0, 6, [], .null) := by decide +kernel
theorem t109_6 : am_T 109 6 = some (2, .getfield 24, 9, [5, 9], .null) := by decide +kernel
theorem t109_9 : am_T 109 9 = some (1, .if_icmp .ge 7, 12, [16], .null) := by decide +kernel
theorem t109_12 : am_T 109 12 = some (0, .iconst 1, 13, [], .int (1)) := by decide +kernel
theorem t109_13 : am_T 109 13 = some (1, .goto 4, 16, [17], .null) := by decide +kernel
theorem t109_16 : am_T 109 16 = some (0, .iconst 0, 17, [], .int (0)) := by decide +kernel
theorem t109_17 : am_T 109 17 = some (4, .ireturn, 18, [1], .null) := by decide +kernel
theorem t110_0 : am_T 110 0 = some (0, .aload_n 0, 1, [], .null) := by decide +kernel
theorem t110_1 : am_T 110 1 = some (2, .getfield 35, 4, [7, 9], .null) := by decide +kernel
theorem t110_4 : am_T 110 4 = some (0, .iload_n 1, 5, [], .null) := by decide +kernel
theorem t110_5 : am_T 110 5 = some (3, .invokevirtual 93, 8, [2, 4, 30], .null) := by decide +kernel
theorem t110_8 : am_T 110 8 = some (4, .ireturn, 9, [0], .null) := by decide +kernel
theorem t111_0 : am_T 111 0 = some (0, .aload_n 0, 1, [], .null) := by decide +kernel
theorem t111_1 : am_T 111 1 = some (2, .getfield 39, 4, [8, 9], .null) := by decide +kernel
theorem t111_4 : am_T 111 4 = some (3, .invokevirtual 96, 7, [1, 4, 29], .null) := by decide +kernel
theorem t111_7 : am_T 111 7 = some (0, .bipush 60, 9, [], .int (60)) := by decide +kernel
theorem t111_9 : am_T 111 9 = some (1, .if_icmp .lt 24, 12, [33], .null) := by decide +kernel
theorem t111_12 : am_T 111 12 = some (0, .aload_n 0, 13, [], .null) := by decide +kernel
theorem t111_13 : am_T 111 13 = some (2, .getfield 39, 16, [8, 9], .null) := by decide +kernel
theorem t111_16 : am_T 111 16 = some (3, .invokevirtual 99, 19, [1, 4, 35], .null) := by decide +kernel
theorem t111_19 : am_T 111 19 = some (0, .aload_n 0, 20, [], .null) := by decide +kernel
theorem t111_20 : am_T 111 20 = some (2, .getfield 42, 23, [9, 9], .null) := by decide +kernel
theorem t111_23 : am_T 111 23 = some (3, .invokevirtual 99, 26, [1, 4, 35], .null) := by decide +kernel
theorem t111_26 : am_T 111 26 = some (0, .aload_n 0, 27, [], .null) := by decide +kernel
theorem t111_27 : am_T 111 27 = some (2, .getfield 45, 30, [10, 9], .null) := by decide +kernel
theorem t111_30 : am_T 111 30 = some (3, .invokevirtual 99, 33, [1, 4, 35], .null) := by decide +kernel
theorem t111_33 : am_T 111 33 = some (0, .aload_n 0, 34, [], .null) := by decide +kernel
theorem t111_34 : am_T 111 34 = some (2, .getfield 39, 37, [8, 9], .null) := by decide +kernel
theorem t111_37 : am_T 111 37 = some (0, .aload_n 0, 38, [], .null) := by decide +kernel
theorem t111_38 : am_T 111 38 = some (2, .getfield 21, 41, [4, 9], .null) := by decide +kernel
theorem t111_41 : am_T 111 41 = some (3, .invokevirtual 102, 44, [2, 4, 33], .null) := by decide +kernel
theorem t111_44 : am_T 111 44 = some (0, .pop, 45, [], .null) := by decide +kernel
theorem t111_45 : am_T 111 45 = some (0, .aload_n 0, 46, [], .null) := by decide +kernel
theorem t111_46 : am_T 111 46 = some (2, .getfield 42, 49, [9, 9], .null) := by decide +kernel
theorem t111_49 : am_T 111 49 = some (0, .aload_n 0, 50, [], .null) := by decide +kernel
theorem t111_50 : am_T 111 50 = some (2, .getfield 24, 53, [5, 9], .null) := by decide +kernel
theorem t111_53 : am_T 111 53 = some (3, .invokevirtual 102, 56, [2, 4, 33], .null) := by decide +kernel
theorem t111_56 : am_T 111 56 = some (0, .pop, 57, [], .null) := by decide +kernel
theorem t111_57 : am_T 111 57 = some (0, .aload_n 0, 58, [], .null) := by decide +kernel
theorem t111_58 : am_T 111 58 = some (2, .getfield 45, 61, [10, 9], .null) := by decide +kernel
theorem t111_61 : am_T 111 61 = some (0, .aload_n 0, 62, [], .null) := by decide +kernel
theorem t111_62 : am_T 111 62 = some (2, .getfield 27, 65, [6, 9], .null) := by decide +kernel
theorem t111_65 : am_T 111 65 = some (3, .invokevirtual 102, 68, [2, 4, 33], .null) := by decide +kernel
theorem t111_68 : am_T 111 68 = some (0, .pop, 69, [], .null) := by decide +kernel
theorem t111_69 : am_T 111 69 = some (4, .return_, 70, [], .null) := by decide +kernel
theorem t112_0 : am_T 112 0 = some (0, .aload_n 0, 1, [], .null) := by decide +kernel
theorem t112_1 : am_T 112 1 = some (2, .getfield 39, 4, [8, 9], .null) := by decide +kernel
theorem t112_4 : am_T 112 4 = some (3, .invokevirtual 96, 7, [1, 4, 29], .null) := by decide +kernel
theorem t112_7 : am_T 112 7 = some (0, .iconst 1, 8, [], .int (1)) := by decide +kernel
theorem t112_8 : am_T 112 8 = some (0, .isub, 9, [], .null) := by decide +kernel
theorem t112_9 : am_T 112 9 = some (0, .istore_n 1, 10, [], .null) := by decide +kernel
theorem t112_10 : am_T 112 10 = some (0, .iload_n 1, 11, [], .null) := by decide +kernel
theorem t112_11 : am_T 112 11 = some (1, .ifCond .ge 5, 14, [16], .null) := by decide +kernel
theorem t112_14 : am_T 112 14 = some (0, .iconst (-1), 15, [], .int (-1)) := by decide +kernel
theorem t112_15 : am_T 112 15 = some (4, .ireturn, 16, [0], .null) := by decide +kernel
theorem t112_16 : am_T 112 16 = some (0, .aload_n 0, 17, [], .null) := by decide +kernel
theorem t112_17 : am_T 112 17 = some (0, .aload_n 0, 18, [], .null) := by decide +kernel
theorem t112_18 : am_T 112 18 = some (2, .getfield 39, 21, [8, 9], .null) := by decide +kernel
theorem t112_21 : am_T 112 21 = some (0, .iload_n 1, 22, [], .null) := by decide +kernel
theorem t112_22 : am_T 112 22 = some (3, .invokevirtual 93, 25, [2, 4, 30], .null) := by decide +kernel
theorem t112_25 : am_T 112 25 = some (2, .putfield 21, 28, [4, 0, 9], .null) := by decide +kernel
theorem t112_28 : am_T 112 28 = some (0, .aload_n 0, 29, [], .null) := by decide +kernel
theorem t112_29 : am_T 112 29 = some (0, .aload_n 0, 30, [], .null) := by decide +kernel
theorem t112_30 : am_T 112 30 = some (2, .getfield 42, 33, [9, 9], .null) := by decide +kernel
theorem t112_33 : am_T 112 33 = some (0, .iload_n 1, 34, [], .null) := by decide +kernel
theorem t112_34 : am_T 112 34 = some (3, .invokevirtual 93, 37, [2, 4, 30], .null) := by decide +kernel
theorem t112_37 : am_T 112 37 = some (2, .putfield 24, 40, [5, 0, 9], .null) := by decide +kernel
theorem t112_40 : am_T 112 40 = some (0, .aload_n 0, 41, [], .null) := by decide +kernel
theorem t112_41 : am_T 112 41 = some (0, .aload_n 0, 42, [], .null) := by decide +kernel
theorem t112_42 : am_T 112 42 = some (2, .getfield 45, 45, [10, 9], .null) := by decide +kernel
theorem t112_45 : am_T 112 45 = some (0, .iload_n 1, 46, [], .null) := by decide +kernel
theorem t112_46 : am_T 112 46 = some (3, .invokevirtual 93, 49, [2, 4, 30], .null) := by decide +kernel
theorem t112_49 : am_T 112 49 = some (2, .putfield 27, 52, [6, 0, 9], .null) := by decide +kernel
theorem t112_52 : am_T 112 52 = some (0, .aload_n 0, 53, [], .null) := by decide +kernel
theorem t112_53 : am_T 112 53 = some (2, .getfield 39, 56, [8, 9], .null) := by decide +kernel
theorem t112_56 : am_T 112 56 = some (0, .iload_n 1, 57, [], .null) := by decide +kernel
theorem t112_57 : am_T 112 57 = some (3, .invokevirtual 105, 60, [2, 4, 34], .null) := by decide +kernel
theorem t112_60 : am_T 112 60 = some (0, .aload_n 0, 61, [], .null) := by decide +kernel
theorem t112_61 : am_T 112 61 = some (2, .getfield 42, 64, [9, 9], .null) := by decide +kernel
theorem t112_64 : am_T 112 64 = some (0, .iload_n 1, 65, [], .null) := by decide +kernel
theorem t112_65 : am_T 112 65 = some (3, .invokevirtual 105, 68, [2, 4, 34], .null) := by decide +kernel
theorem t112_68 : am_T 112 68 = some (0, .aload_n 0, 69, [], .null) := by decide +kernel
theorem t112_69 : am_T 112 69 = some (2, .getfield 45, 72, [10, 9], .null) := by decide +kernel
theorem t112_72 : am_T 112 72 = some (0, .iload_n 1, 73, [], .null) := by decide +kernel
theorem t112_73 : am_T 112 73 = some (3, .invokevirtual 105, 76, [2, 4, 34], .null) := by decide +kernel
theorem t112_76 : am_T 112 76 = some (0, .iload_n 1, 77, [], .null) := by decide +kernel
theorem t112_77 : am_T 112 77 = some (4, .ireturn, 78, [0], .null) := by decide +kernel
theorem t113_0 : am_T 113 0 = some (0, .aload_n 0, 1, [], .null) := by decide +kernel
theorem t113_1 : am_T 113 1 = some (2, .getfield 39, 4, [8, 9], .null) := by decide +kernel
theorem t113_4 : am_T 113 4 = some (3, .invokevirtual 96, 7, [1, 4, 29], .null) := by decide +kernel
theorem t113_7 : am_T 113 7 = some (4, .ireturn, 8, [0], .null) := by decide +kernel
theorem t114_0 : am_T 114 0 = some (0, .aload_n 0, 1, [], .null) := by decide +kernel
theorem t114_1 : am_T 114 1 = some (2, .getfield 39, 4, [8, 9], .null) := by decide +kernel
theorem t114_4 : am_T 114 4 = some (0, .iconst 0, 5, [], .int (0)) := by decide +kernel
theorem t114_5 : am_T 114 5 = some (3, .invokevirtual 105, 8, [2, 4, 34], .null) := by decide +kernel
theorem t114_8 : am_T 114 8 = some (0, .aload_n 0, 9, [], .null) := by decide +kernel
theorem t114_9 : am_T 114 9 = some (2, .getfield 42, 12, [9, 9], .null) := by decide +kernel
theorem t114_12 : am_T 114 12 = some (0, .iconst 0, 13, [], .int (0)) := by decide +kernel
theorem t114_13 : am_T 114 13 = some (3, .invokevirtual 105, 16, [2, 4, 34], .null) := by decide +kernel
theorem t114_16 : am_T 114 16 = some (0, .aload_n 0, 17, [], .null) := by decide +kernel
theorem t114_17 : am_T 114 17 = some (2, .getfield 45, 20, [10, 9], .null) := by decide +kernel
theorem t114_20 : am_T 114 20 = some (0, .iconst 0, 21, [], .int (0)) := by decide +kernel
theorem t114_21 : am_T 114 21 = some (3, .invokevirtual 105, 24, [2, 4, 34], .null) := by decide +kernel
theorem t114_24 : am_T 114 24 = some (4, .return_, 25, [], .null) := by decide +kernel
theorem t115_0 : am_T 115 0 = some (0, .aload_n 0, 1, [], .null) := by decide +kernel
theorem t115_1 : am_T 115 1 = some (3, .invokespecial 1, 4, [1, 50], .null) := by decide +kernel
theorem t115_4 : am_T 115 4 = some (0, .aload_n 0, 5, [], .null) := by decide +kernel
theorem t115_5 : am_T 115 5 = some (2, .new 7, 8, [4, 2], .null) := by decide +kernel
theorem t115_8 : am_T 115 8 = some (0, .dup, 9, [], .null) := by decide +kernel
theorem t115_9 : am_T 115 9 = some (0, .bipush 8, 11, [], .int (8)) := by decide +kernel
theorem t115_11 : am_T 115 11 = some (3, .invokespecial 11, 14, [2, 28], .null) := by decide +kernel
theorem t115_14 : am_T 115 14 = some (2, .putfield 14, 17, [4, 2, 10], .null) := by decide +kernel
theorem t115_17 : am_T 115 17 = some (4, .return_, 18, [], .null) := by decide +kernel
theorem t116_0 : am_T 116 0 = some (0, .aload_n 0, 1, [], .null) := by decide +kernel
theorem t116_1 : am_T 116 1 = some (0, .aload_n 1, 2, [], .null) := by decide +kernel
theorem t116_2 : am_T 116 2 = some (3, .invokevirtual 18, 5, [2, 10, 51], .null) := by decide +kernel
theorem t116_5 : am_T 116 5 = some (0, .aload_n 0, 6, [], .null) := by decide +kernel
theorem t116_6 : am_T 116 6 = some (2, .getfield 14, 9, [4, 10], .null) := by decide +kernel
theorem t116_9 : am_T 116 9 = some (0, .iconst 0, 10, [], .int (0)) := by decide +kernel
theorem t116_10 : am_T 116 10 = some (3, .invokevirtual 22, 13, [2, 4, 34], .null) := by decide +kernel
theorem t116_13 : am_T 116 13 = some (0, .aload_n 0, 14, [], .null) := by decide +kernel
theorem t116_14 : am_T 116 14 = some (2, .getfield 14, 17, [4, 10], .null) := by decide +kernel
theorem t116_17 : am_T 116 17 = some (0, .aload_n 0, 18, [], .null) := by decide +kernel
theorem t116_18 : am_T 116 18 = some (3, .invokevirtual 25, 21, [1, 10, 58], .null) := by decide +kernel
theorem t116_21 : am_T 116 21 = some (3, .invokevirtual 29, 24, [2, 4, 33], .null) := by decide +kernel
theorem t116_24 : am_T 116 24 = some (0, .pop, 25, [], .null) := by decide +kernel
theorem t116_25 : am_T 116 25 = some (0, .iconst 1, 26, [], .int (1)) := by decide +kernel
theorem t116_26 : am_T 116 26 = some (0, .istore_n 2, 27, [], .null) := by decide +kernel
theorem t116_27 : am_T 116 27 = some (0, .iload_n 2, 28, [], .null) := by decide +kernel
theorem t116_28 : am_T 116 28 = some (0, .bipush 8, 30, [], .int (8)) := by decide +kernel
theorem t116_30 : am_T 116 30 = some (1, .if_icmp .ge 28, 33, [58], .null) := by decide +kernel
theorem t116_33 : am_T 116 33 = some (0, .aload_n 0, 34, [], .null) := by decide +kernel
theorem t116_34 : am_T 116 34 = some (3, .invokevirtual 33, 37, [1, 10, 52], .null) := by decide +kernel
theorem t116_37 : am_T 116 37 = some (1, .ifCond .eq 21, 40, [58], .null) := by decide +kernel
theorem t116_40 : am_T 116 40 = some (0, .aload_n 0, 41, [], .null) := by decide +kernel
theorem t116_41 : am_T 116 41 = some (2, .getfield 14, 44, [4, 10], .null) := by decide +kernel
theorem t116_44 : am_T 116 44 = some (0, .aload_n 0, 45, [], .null) := by decide +kernel
theorem t116_45 : am_T 116 45 = some (3, .invokevirtual 25, 48, [1, 10, 58], .null) := by decide +kernel
theorem t116_48 : am_T 116 48 = some (3, .invokevirtual 29, 51, [2, 4, 33], .null) := by decide +kernel
theorem t116_51 : am_T 116 51 = some (0, .pop, 52, [], .null) := by decide +kernel
theorem t116_52 : am_T 116 52 = some (0, .iinc 2 1, 55, [], .int (1)) := by decide +kernel
theorem t116_55 : am_T 116 55 = some (1, .goto (-28), 58, [27], .null) := by decide +kernel
theorem t116_58 : am_T 116 58 = some (0, .aload_n 0, 59, [], .null) := by decide +kernel
theorem t116_59 : am_T 116 59 = some (3, .invokevirtual 36, 62, [1, 10, 60], .null) := by decide +kernel
theorem t116_62 : am_T 116 62 = some (4, .ireturn, 63, [0], .null) := by decide +kernel
theorem t117_0 : am_T 117 0 = some (0, .aload_n 0, 1, [], .null) := by decide +kernel
theorem t117_1 : am_T 117 1 = some (2, .getfield 14, 4, [4, 10], .null) := by decide +kernel
theorem t117_4 : am_T 117 4 = some (4, .areturn, 5, [], .null) := by decide +kernel
theorem t118_0 : am_T 118 0 = some (0, .aload_n 0, 1, [], .null) := by decide +kernel
theorem t118_1 : am_T 118 1 = some (2, .invokespecial 1, 4, [], .null) := by decide +kernel
theorem t118_4 : am_T 118 4 = some (0, .aload_n 0, 5, [], .null) := by decide +kernel
theorem t118_5 : am_T 118 5 = some (2, .new 7, 8, [4, 2], .null) := by decide +kernel
theorem t118_8 : am_T 118 8 = some (0, .dup, 9, [], .null) := by decide +kernel
theorem t118_9 : am_T 118 9 = some (0, .bipush 120, 11, [], .int (120)) := by decide +kernel
theorem t118_11 : am_T 118 11 = some (3, .invokespecial 11, 14, [2, 28], .null) := by decide +kernel
theorem t118_14 : am_T 118 14 = some (2, .putfield 14, 17, [0, 2, 11], .null) := by decide +kernel
theorem t118_17 : am_T 118 17 = some (0, .aload_n 0, 18, [], .null) := by decide +kernel
theorem t118_18 : am_T 118 18 = some (2, .new 18, 21, [8, 8], .null) := by decide +kernel
theorem t118_21 : am_T 118 21 = some (0, .dup, 22, [], .null) := by decide +kernel
theorem t118_22 : am_T 118 22 = some (3, .invokespecial 20, 25, [1, 86], .null) := by decide +kernel
theorem t118_25 : am_T 118 25 = some (2, .putfield 21, 28, [1, 2, 11], .null) := by decide +kernel
theorem t118_28 : am_T 118 28 = some (0, .aload_n 0, 29, [], .null) := by decide +kernel
theorem t118_29 : am_T 118 29 = some (2, .new 25, 32, [2, 5], .null) := by decide +kernel
theorem t118_32 : am_T 118 32 = some (0, .dup, 33, [], .null) := by decide +kernel
theorem t118_33 : am_T 118 33 = some (3, .invokespecial 27, 36, [1, 11], .null) := by decide +kernel
theorem t118_36 : am_T 118 36 = some (2, .putfield 28, 39, [2, 2, 11], .null) := by decide +kernel
theorem t118_39 : am_T 118 39 = some (0, .aload_n 0, 40, [], .null) := by decide +kernel
theorem t118_40 : am_T 118 40 = some (2, .new 32, 43, [10, 5], .null) := by decide +kernel
theorem t118_43 : am_T 118 43 = some (0, .dup, 44, [], .null) := by decide +kernel
theorem t118_44 : am_T 118 44 = some (3, .invokespecial 34, 47, [1, 115], .null) := by decide +kernel
theorem t118_47 : am_T 118 47 = some (2, .putfield 35, 50, [3, 2, 11], .null) := by decide +kernel
theorem t118_50 : am_T 118 50 = some (0, .aload_n 0, 51, [], .null) := by decide +kernel
theorem t118_51 : am_T 118 51 = some (2, .new 39, 54, [3, 10], .null) := by decide +kernel
theorem t118_54 : am_T 118 54 = some (0, .dup, 55, [], .null) := by decide +kernel
theorem t118_55 : am_T 118 55 = some (3, .invokespecial 41, 58, [1, 16], .null) := by decide +kernel
theorem t118_58 : am_T 118 58 = some (2, .putfield 42, 61, [4, 2, 11], .null) := by decide +kernel
theorem t118_61 : am_T 118 61 = some (0, .aload_n 0, 62, [], .null) := by decide +kernel
theorem t118_62 : am_T 118 62 = some (2, .new 46, 65, [0, 3], .null) := by decide +kernel
theorem t118_65 : am_T 118 65 = some (0, .dup, 66, [], .null) := by decide +kernel
theorem t118_66 : am_T 118 66 = some (3, .invokespecial 48, 69, [1, 275], .null) := by decide +kernel
theorem t118_69 : am_T 118 69 = some (2, .putfield 49, 72, [5, 2, 11], .null) := by decide +kernel
theorem t118_72 : am_T 118 72 = some (0, .aload_n 0, 73, [], .null) := by decide +kernel
theorem t118_73 : am_T 118 73 = some (2, .new 46, 76, [0, 3], .null) := by decide +kernel
theorem t118_76 : am_T 118 76 = some (0, .dup, 77, [], .null) := by decide +kernel
theorem t118_77 : am_T 118 77 = some (3, .invokespecial 48, 80, [1, 275], .null) := by decide +kernel
theorem t118_80 : am_T 118 80 = some (2, .putfield 53, 83, [6, 2, 11], .null) := by decide +kernel
theorem t118_83 : am_T 118 83 = some (0, .aload_n 0, 84, [], .null) := by decide +kernel
theorem t118_84 : am_T 118 84 = some (2, .new 46, 87, [0, 3], .null) := by decide +kernel
theorem t118_87 : am_T 118 87 = some (0, .dup, 88, [], .null) := by decide +kernel
theorem t118_88 : am_T 118 88 = some (3, .invokespecial 48, 91, [1, 275], .null) := by decide +kernel
theorem t118_91 : am_T 118 91 = some (2, .putfield 56, 94, [7, 2, 11], .null) := by decide +kernel
theorem t118_94 : am_T 118 94 = some (0, .aload_n 0, 95, [], .null) := by decide +kernel
theorem t118_95 : am_T 118 95 = some (2, .new 59, 98, [7, 8], .null) := by decide +kernel
theorem t118_98 : am_T 118 98 = some (0, .dup, 99, [], .null) := by decide +kernel
theorem t118_99 : am_T 118 99 = some (3, .invokespecial 61, 102, [1, 69], .null) := by decide +kernel
theorem t118_102 : am_T 118 102 = some (2, .putfield 62, 105, [8, 2, 11], .null) := by decide +kernel
theorem t118_105 : am_T 118 105 = some (0, .aload_n 0, 106, [], .null) := by decide +kernel
theorem t118_106 : am_T 118 106 = some (2, .new 66, 109, [9, 11], .null) := by decide +kernel
theorem t118_109 : am_T 118 109 = some (0, .dup, 110, [], .null) := by decide +kernel
theorem t118_110 : am_T 118 110 = some (0, .aload_n 0, 111, [], .null) := by decide +kernel
theorem t118_111 : am_T 118 111 = some (2, .getfield 62, 114, [8, 11], .null) := by decide +kernel
theorem t118_114 : am_T 118 114 = some (3, .invokespecial 68, 117, [2, 93], .null) := by decide +kernel
theorem t118_117 : am_T 118 117 = some (2, .putfield 71, 120, [9, 2, 11], .null) := by decide +kernel
theorem t118_120 : am_T 118 120 = some (0, .aload_n 0, 121, [], .null) := by decide +kernel
theorem t118_121 : am_T 118 121 = some (2, .new 66, 124, [9, 11], .null) := by decide +kernel
theorem t118_124 : am_T 118 124 = some (0, .dup, 125, [], .null) := by decide +kernel
theorem t118_125 : am_T 118 125 = some (0, .aload_n 0, 126, [], .null) := by decide +kernel
theorem t118_126 : am_T 118 126 = some (2, .getfield 62, 129, [8, 11], .null) := by decide +kernel
theorem t118_129 : am_T 118 129 = some (3, .invokespecial 68, 132, [2, 93], .null) := by decide +kernel
theorem t118_132 : am_T 118 132 = some (2, .putfield 75, 135, [10, 2, 11], .null) := by decide +kernel
theorem t118_135 : am_T 118 135 = some (0, .aload_n 0, 136, [], .null) := by decide +kernel
theorem t118_136 : am_T 118 136 = some (2, .new 78, 139, [6, 7], .null) := by decide +kernel
theorem t118_139 : am_T 118 139 = some (0, .dup, 140, [], .null) := by decide +kernel
theorem t118_140 : am_T 118 140 = some (0, .aload_n 0, 141, [], .null) := by decide +kernel
theorem t118_141 : am_T 118 141 = some (2, .getfield 62, 144, [8, 11], .null) := by decide +kernel
theorem t118_144 : am_T 118 144 = some (0, .aload_n 0, 145, [], .null) := by decide +kernel
theorem t118_145 : am_T 118 145 = some (2, .getfield 71, 148, [9, 11], .null) := by decide +kernel
theorem t118_148 : am_T 118 148 = some (3, .invokespecial 80, 151, [3, 61], .null) := by decide +kernel
theorem t118_151 : am_T 118 151 = some (2, .putfield 83, 154, [11, 2, 11], .null) := by decide +kernel
theorem t118_154 : am_T 118 154 = some (0, .aload_n 0, 155, [], .null) := by decide +kernel
theorem t118_155 : am_T 118 155 = some (2, .new 87, 158, [5, 11], .null) := by decide +kernel
theorem t118_158 : am_T 118 158 = some (0, .dup, 159, [], .null) := by decide +kernel
theorem t118_159 : am_T 118 159 = some (0, .aload_n 0, 160, [], .null) := by decide +kernel
theorem t118_160 : am_T 118 160 = some (2, .getfield 62, 163, [8, 11], .null) := by decide +kernel
theorem t118_163 : am_T 118 163 = some (0, .aload_n 0, 164, [], .null) := by decide +kernel
theorem t118_164 : am_T 118 164 = some (2, .getfield 71, 167, [9, 11], .null) := by decide +kernel
theorem t118_167 : am_T 118 167 = some (0, .aload_n 0, 168, [], .null) := by decide +kernel
theorem t118_168 : am_T 118 168 = some (2, .getfield 83, 171, [11, 11], .null) := by decide +kernel
theorem t118_171 : am_T 118 171 = some (3, .invokespecial 89, 174, [4, 37], .null) := by decide +kernel
theorem t118_174 : am_T 118 174 = some (2, .putfield 92, 177, [12, 2, 11], .null) := by decide +kernel
theorem t118_177 : am_T 118 177 = some (0, .aload_n 0, 178, [], .null) := by decide +kernel
theorem t118_178 : am_T 118 178 = some (2, .new 7, 181, [4, 2], .null) := by decide +kernel
theorem t118_181 : am_T 118 181 = some (0, .dup, 182, [], .null) := by decide +kernel
theorem t118_182 : am_T 118 182 = some (0, .bipush 12, 184, [], .int (12)) := by decide +kernel
theorem t118_184 : am_T 118 184 = some (3, .invokespecial 11, 187, [2, 28], .null) := by decide +kernel
theorem t118_187 : am_T 118 187 = some (2, .putfield 96, 190, [13, 2, 11], .null) := by decide +kernel
theorem t118_190 : am_T 118 190 = some (0, .aload_n 0, 191, [], .null) := by decide +kernel
theorem t118_191 : am_T 118 191 = some (2, .new 7, 194, [4, 2], .null) := by decide +kernel
theorem t118_194 : am_T 118 194 = some (0, .dup, 195, [], .null) := by decide +kernel
theorem t118_195 : am_T 118 195 = some (0, .bipush 12, 197, [], .int (12)) := by decide +kernel
theorem t118_197 : am_T 118 197 = some (3, .invokespecial 11, 200, [2, 28], .null) := by decide +kernel
theorem t118_200 : am_T 118 200 = some (2, .putfield 99, 203, [14, 2, 11], .null) := by decide +kernel
theorem t118_203 : am_T 118 203 = some (0, .aload_n 0, 204, [], .null) := by decide +kernel
theorem t118_204 : am_T 118 204 = some (0, .aconst_null, 205, [], .null) := by decide +kernel
theorem t118_205 : am_T 118 205 = some (2, .putfield 102, 208, [15, 2, 11], .null) := by decide +kernel
theorem t118_208 : am_T 118 208 = some (0, .aload_n 0, 209, [], .null) := by decide +kernel
theorem t118_209 : am_T 118 209 = some (0, .iconst 0, 210, [], .int (0)) := by decide +kernel
theorem t118_210 : am_T 118 210 = some (2, .putfield 105, 213, [16, 1, 11], .null) := by decide +kernel
theorem t118_213 : am_T 118 213 = some (4, .return_, 214, [], .null) := by decide +kernel
theorem t119_0 : am_T 119 0 = some (0, .aload_n 0, 1, [], .null) := by decide +kernel
theorem t119_1 : am_T 119 1 = some (2, .getfield 14, 4, [0, 11], .null) := by decide +kernel
theorem t119_4 : am_T 119 4 = some (3, .invokevirtual 109, 7, [1, 4, 29], .null) := by decide +kernel
theorem t119_7 : am_T 119 7 = some (0, .istore 6, 9, [], .null) := by decide +kernel
theorem t119_9 : am_T 119 9 = some (0, .aload_n 0, 10, [], .null) := by decide +kernel
theorem t119_10 : am_T 119 10 = some (0, .iload_n 1, 11, [], .null) := by decide +kernel
theorem t119_11 : am_T 119 11 = some (3, .invokevirtual 113, 14, [2, 11, 120], .null) := by decide +kernel
theorem t119_14 : am_T 119 14 = some (1, .ifCond .eq 41, 17, [55], .null) := by decide +kernel
theorem t119_17 : am_T 119 17 = some (0, .aload_n 0, 18, [], .null) := by decide +kernel
theorem t119_18 : am_T 119 18 = some (0, .iload_n 2, 19, [], .null) := by decide +kernel
theorem t119_19 : am_T 119 19 = some (3, .invokevirtual 113, 22, [2, 11, 120], .null) := by decide +kernel
theorem t119_22 : am_T 119 22 = some (1, .ifCond .eq 33, 25, [55], .null) := by decide +kernel
theorem t119_25 : am_T 119 25 = some (0, .aload_n 0, 26, [], .null) := by decide +kernel
theorem t119_26 : am_T 119 26 = some (0, .iload_n 3, 27, [], .null) := by decide +kernel
theorem t119_27 : am_T 119 27 = some (3, .invokevirtual 113, 30, [2, 11, 120], .null) := by decide +kernel
theorem t119_30 : am_T 119 30 = some (1, .ifCond .eq 25, 33, [55], .null) := by decide +kernel
theorem t119_33 : am_T 119 33 = some (0, .aload_n 0, 34, [], .null) := by decide +kernel
theorem t119_34 : am_T 119 34 = some (0, .iload 4, 36, [], .null) := by decide +kernel
theorem t119_36 : am_T 119 36 = some (3, .invokevirtual 113, 39, [2, 11, 120], .null) := by decide +kernel
theorem t119_39 : am_T 119 39 = some (1, .ifCond .eq 16, 42, [55], .null) := by decide +kernel
theorem t119_42 : am_T 119 42 = some (0, .aload_n 0, 43, [], .null) := by decide +kernel
theorem t119_43 : am_T 119 43 = some (0, .iload 5, 45, [], .null) := by decide +kernel
theorem t119_45 : am_T 119 45 = some (3, .invokevirtual 113, 48, [2, 11, 120], .null) := by decide +kernel
theorem t119_48 : am_T 119 48 = some (1, .ifCond .eq 7, 51, [55], .null) := by decide +kernel
theorem t119_51 : am_T 119 51 = some (0, .iconst 1, 52, [], .int (1)) := by decide +kernel
theorem t119_52 : am_T 119 52 = some (1, .goto 4, 55, [56], .null) := by decide +kernel
theorem t119_55 : am_T 119 55 = some (0, .iconst 0, 56, [], .int (0)) := by decide +kernel
theorem t119_56 : am_T 119 56 = some (0, .istore 7, 58, [], .null) := by decide +kernel
theorem t119_58 : am_T 119 58 = some (0, .iload 7, 60, [], .null) := by decide +kernel
theorem t119_60 : am_T 119 60 = some (1, .ifCond .ne 14, 63, [74], .null) := by decide +kernel
theorem t119_63 : am_T 119 63 = some (0, .aload_n 0, 64, [], .null) := by decide +kernel
theorem t119_64 : am_T 119 64 = some (2, .getfield 14, 67, [0, 11], .null) := by decide +kernel
theorem t119_67 : am_T 119 67 = some (0, .iload 6, 69, [], .null) := by decide +kernel
theorem t119_69 : am_T 119 69 = some (3, .invokevirtual 117, 72, [2, 4, 34], .null) := by decide +kernel
theorem t119_72 : am_T 119 72 = some (0, .iconst (-1), 73, [], .int (-1)) := by decide +kernel
theorem t119_73 : am_T 119 73 = some (4, .ireturn, 74, [0], .null) := by decide +kernel
theorem t119_74 : am_T 119 74 = some (0, .aload_n 0, 75, [], .null) := by decide +kernel
theorem t119_75 : am_T 119 75 = some (2, .getfield 14, 78, [0, 11], .null) := by decide +kernel
theorem t119_78 : am_T 119 78 = some (3, .invokevirtual 109, 81, [1, 4, 29], .null) := by decide +kernel
theorem t119_81 : am_T 119 81 = some (4, .ireturn, 82, [0], .null) := by decide +kernel
theorem t120_0 : am_T 120 0 = some (0, .iconst 1, 1, [], .int (1)) := by decide +kernel
theorem t120_1 : am_T 120 1 = some (0, .istore_n 2, 2, [], .null) := by decide +kernel
theorem t120_2 : am_T 120 2 = some (0, .bipush 24, 4, [], .int (24)) := by decide +kernel
theorem t120_4 : am_T 120 4 = some (0, .istore_n 3, 5, [], .null) := by decide +kernel
theorem t120_5 : am_T 120 5 = some (0, .iload_n 3, 6, [], .null) := by decide +kernel
theorem t120_6 : am_T 120 6 = some (1, .ifCond .lt 37, 9, [43], .null) := by decide +kernel
theorem t120_9 : am_T 120 9 = some (0, .iload_n 1, 10, [], .null) := by decide +kernel
theorem t120_10 : am_T 120 10 = some (0, .iload_n 3, 11, [], .null) := by decide +kernel
theorem t120_11 : am_T 120 11 = some (0, .iushr, 12, [], .null) := by decide +kernel
theorem t120_12 : am_T 120 12 = some (0, .sipush 255, 15, [], .int (255)) := by decide +kernel
theorem t120_15 : am_T 120 15 = some (0, .iand, 16, [], .null) := by decide +kernel
theorem t120_16 : am_T 120 16 = some (0, .istore 4, 18, [], .null) := by decide +kernel
theorem t120_18 : am_T 120 18 = some (0, .iload 4, 20, [], .null) := by decide +kernel
theorem t120_20 : am_T 120 20 = some (1, .ifCond .eq 17, 23, [37], .null) := by decide +kernel
theorem t120_23 : am_T 120 23 = some (0, .aload_n 0, 24, [], .null) := by decide +kernel
theorem t120_24 : am_T 120 24 = some (2, .getfield 14, 27, [0, 11], .null) := by decide +kernel
theorem t120_27 : am_T 120 27 = some (0, .iload 4, 29, [], .null) := by decide +kernel
theorem t120_29 : am_T 120 29 = some (3, .invokevirtual 120, 32, [2, 4, 33], .null) := by decide +kernel
theorem t120_32 : am_T 120 32 = some (1, .ifCond .ne 5, 35, [37], .null) := by decide +kernel
theorem t120_35 : am_T 120 35 = some (0, .iconst 0, 36, [], .int (0)) := by decide +kernel
theorem t120_36 : am_T 120 36 = some (0, .istore_n 2, 37, [], .null) := by decide +kernel
theorem t120_37 : am_T 120 37 = some (0, .iinc 3 (-8), 40, [], .int (-8)) := by decide +kernel
theorem t120_40 : am_T 120 40 = some (1, .goto (-35), 43, [5], .null) := by decide +kernel
theorem t120_43 : am_T 120 43 = some (0, .iload_n 2, 44, [], .null) := by decide +kernel
theorem t120_44 : am_T 120 44 = some (4, .ireturn, 45, [1], .null) := by decide +kernel
theorem t121_0 : am_T 121 0 = some (0, .iload_n 1, 1, [], .null) := by decide +kernel
theorem t121_1 : am_T 121 1 = some (1, .ifCond .lt 14, 4, [15], .null) := by decide +kernel
theorem t121_4 : am_T 121 4 = some (0, .iload_n 1, 5, [], .null) := by decide +kernel
theorem t121_5 : am_T 121 5 = some (0, .aload_n 0, 6, [], .null) := by decide +kernel
theorem t121_6 : am_T 121 6 = some (2, .getfield 14, 9, [0, 11], .null) := by decide +kernel
theorem t121_9 : am_T 121 9 = some (3, .invokevirtual 109, 12, [1, 4, 29], .null) := by decide +kernel
theorem t121_12 : am_T 121 12 = some (1, .if_icmp .le 5, 15, [17], .null) := by decide +kernel
theorem t121_15 : am_T 121 15 = some (0, .iconst 0, 16, [], .int (0)) := by decide +kernel
theorem t121_16 : am_T 121 16 = some (4, .ireturn, 17, [1], .null) := by decide +kernel
theorem t121_17 : am_T 121 17 = some (0, .aload_n 0, 18, [], .null) := by decide +kernel
theorem t121_18 : am_T 121 18 = some (2, .getfield 14, 21, [0, 11], .null) := by decide +kernel
theorem t121_21 : am_T 121 21 = some (0, .iload_n 1, 22, [], .null) := by decide +kernel
theorem t121_22 : am_T 121 22 = some (3, .invokevirtual 117, 25, [2, 4, 34], .null) := by decide +kernel
theorem t121_25 : am_T 121 25 = some (0, .iconst 1, 26, [], .int (1)) := by decide +kernel
theorem t121_26 : am_T 121 26 = some (4, .ireturn, 27, [1], .null) := by decide +kernel
theorem t122_0 : am_T 122 0 = some (0, .aload_n 0, 1, [], .null) := by decide +kernel
theorem t122_1 : am_T 122 1 = some (0, .iload_n 1, 2, [], .null) := by decide +kernel
theorem t122_2 : am_T 122 2 = some (3, .invokevirtual 123, 5, [2, 11, 123], .null) := by decide +kernel
theorem t122_5 : am_T 122 5 = some (0, .astore_n 2, 6, [], .null) := by decide +kernel
theorem t122_6 : am_T 122 6 = some (0, .aload_n 2, 7, [], .null) := by decide +kernel
theorem t122_7 : am_T 122 7 = some (1, .ifnonnull 8, 10, [15], .null) := by decide +kernel
theorem t122_10 : am_T 122 10 = some (0, .bipush (-2), 12, [], .int (-2)) := by decide +kernel
theorem t122_12 : am_T 122 12 = some (1, .goto 11, 15, [23], .null) := by decide +kernel
theorem t122_15 : am_T 122 15 = some (0, .aload_n 2, 16, [], .null) := by decide +kernel
theorem t122_16 : am_T 122 16 = some (0, .aload_n 0, 17, [], .null) := by decide +kernel
theorem t122_17 : am_T 122 17 = some (2, .getfield 14, 20, [0, 11], .null) := by decide +kernel
theorem t122_20 : am_T 122 20 = some (3, .invokevirtual 127, 23, [2, 2, 12, 3, 17, 8, 87, 10, 116], .null) := by decide +kernel
theorem t122_23 : am_T 122 23 = some (4, .ireturn, 24, [0], .null) := by decide +kernel
theorem t123_0 : am_T 123 0 = some (0, .iload_n 1, 1, [], .null) := by decide +kernel
theorem t123_1 : am_T 123 1 = some (5, .tableswitch 51 0 3 #[31, 36, 41, 46], 32, [52, 32, 37, 42, 47], .int (0)) := by decide +kernel
theorem t123_32 : am_T 123 32 = some (0, .aload_n 0, 33, [], .null) := by decide +kernel
theorem t123_33 : am_T 123 33 = some (2, .getfield 21, 36, [1, 11], .null) := by decide +kernel
theorem t123_36 : am_T 123 36 = some (4, .areturn, 37, [], .null) := by decide +kernel
theorem t123_37 : am_T 123 37 = some (0, .aload_n 0, 38, [], .null) := by decide +kernel
theorem t123_38 : am_T 123 38 = some (2, .getfield 28, 41, [2, 11], .null) := by decide +kernel
theorem t123_41 : am_T 123 41 = some (4, .areturn, 42, [], .null) := by decide +kernel
theorem t123_42 : am_T 123 42 = some (0, .aload_n 0, 43, [], .null) := by decide +kernel
theorem t123_43 : am_T 123 43 = some (2, .getfield 35, 46, [3, 11], .null) := by decide +kernel
theorem t123_46 : am_T 123 46 = some (4, .areturn, 47, [], .null) := by decide +kernel
theorem t123_47 : am_T 123 47 = some (0, .aload_n 0, 48, [], .null) := by decide +kernel
theorem t123_48 : am_T 123 48 = some (2, .getfield 42, 51, [4, 11], .null) := by decide +kernel
theorem t123_51 : am_T 123 51 = some (4, .areturn, 52, [], .null) := by decide +kernel
theorem t123_52 : am_T 123 52 = some (0, .aconst_null, 53, [], .null) := by decide +kernel
theorem t123_53 : am_T 123 53 = some (4, .areturn, 54, [], .null) := by decide +kernel
theorem t124_0 : am_T 124 0 = some (0, .aload_n 0, 1, [], .null) := by decide +kernel
theorem t124_1 : am_T 124 1 = some (0, .iload_n 1, 2, [], .null) := by decide +kernel
theorem t124_2 : am_T 124 2 = some (3, .invokevirtual 123, 5, [2, 11, 123], .null) := by decide +kernel
theorem t124_5 : am_T 124 5 = some (0, .astore_n 2, 6, [], .null) := by decide +kernel
theorem t124_6 : am_T 124 6 = some (0, .aload_n 2, 7, [], .null) := by decide +kernel
theorem t124_7 : am_T 124 7 = some (1, .ifnull 23, 10, [30], .null) := by decide +kernel
theorem t124_10 : am_T 124 10 = some (0, .aload_n 0, 11, [], .null) := by decide +kernel
theorem t124_11 : am_T 124 11 = some (0, .iload_n 1, 12, [], .null) := by decide +kernel
theorem t124_12 : am_T 124 12 = some (3, .invokevirtual 133, 15, [2, 11, 125], .null) := by decide +kernel
theorem t124_15 : am_T 124 15 = some (1, .ifCond .ne 15, 18, [30], .null) := by decide +kernel
theorem t124_18 : am_T 124 18 = some (0, .aload_n 2, 19, [], .null) := by decide +kernel
theorem t124_19 : am_T 124 19 = some (0, .aload_n 0, 20, [], .null) := by decide +kernel
theorem t124_20 : am_T 124 20 = some (2, .getfield 14, 23, [0, 11], .null) := by decide +kernel
theorem t124_23 : am_T 124 23 = some (3, .invokevirtual 127, 26, [2, 2, 12, 3, 17, 8, 87, 10, 116], .null) := by decide +kernel
theorem t124_26 : am_T 124 26 = some (0, .iconst (-1), 27, [], .int (-1)) := by decide +kernel
theorem t124_27 : am_T 124 27 = some (1, .if_icmp .eq 5, 30, [32], .null) := by decide +kernel
theorem t124_30 : am_T 124 30 = some (0, .iconst (-1), 31, [], .int (-1)) := by decide +kernel
theorem t124_31 : am_T 124 31 = some (4, .ireturn, 32, [0], .null) := by decide +kernel
theorem t124_32 : am_T 124 32 = some (0, .aload_n 0, 33, [], .null) := by decide +kernel
theorem t124_33 : am_T 124 33 = some (0, .iload_n 1, 34, [], .null) := by decide +kernel
theorem t124_34 : am_T 124 34 = some (3, .invokevirtual 136, 37, [2, 11, 126], .null) := by decide +kernel
theorem t124_37 : am_T 124 37 = some (0, .istore_n 3, 38, [], .null) := by decide +kernel
theorem t124_38 : am_T 124 38 = some (0, .aload_n 0, 39, [], .null) := by decide +kernel
theorem t124_39 : am_T 124 39 = some (2, .getfield 14, 42, [0, 11], .null) := by decide +kernel
theorem t124_42 : am_T 124 42 = some (0, .iconst 0, 43, [], .int (0)) := by decide +kernel
theorem t124_43 : am_T 124 43 = some (3, .invokevirtual 117, 46, [2, 4, 34], .null) := by decide +kernel
theorem t124_46 : am_T 124 46 = some (0, .iload_n 3, 47, [], .null) := by decide +kernel
theorem t124_47 : am_T 124 47 = some (4, .ireturn, 48, [0], .null) := by decide +kernel
theorem t125_0 : am_T 125 0 = some (0, .iload_n 1, 1, [], .null) := by decide +kernel
theorem t125_1 : am_T 125 1 = some (0, .iconst 1, 2, [], .int (1)) := by decide +kernel
theorem t125_2 : am_T 125 2 = some (1, .if_icmp .ne 14, 5, [16], .null) := by decide +kernel
theorem t125_5 : am_T 125 5 = some (0, .aload_n 0, 6, [], .null) := by decide +kernel
theorem t125_6 : am_T 125 6 = some (2, .getfield 49, 9, [5, 11], .null) := by decide +kernel
theorem t125_9 : am_T 125 9 = some (3, .invokevirtual 140, 12, [1, 0, 278], .null) := by decide +kernel
theorem t125_12 : am_T 125 12 = some (0, .iconst 3, 13, [], .int (3)) := by decide +kernel
theorem t125_13 : am_T 125 13 = some (1, .if_icmp .ge 35, 16, [48], .null) := by decide +kernel
theorem t125_16 : am_T 125 16 = some (0, .iload_n 1, 17, [], .null) := by decide +kernel
theorem t125_17 : am_T 125 17 = some (0, .iconst 2, 18, [], .int (2)) := by decide +kernel
theorem t125_18 : am_T 125 18 = some (1, .if_icmp .ne 14, 21, [32], .null) := by decide +kernel
theorem t125_21 : am_T 125 21 = some (0, .aload_n 0, 22, [], .null) := by decide +kernel
theorem t125_22 : am_T 125 22 = some (2, .getfield 53, 25, [6, 11], .null) := by decide +kernel
theorem t125_25 : am_T 125 25 = some (3, .invokevirtual 140, 28, [1, 0, 278], .null) := by decide +kernel
theorem t125_28 : am_T 125 28 = some (0, .iconst 4, 29, [], .int (4)) := by decide +kernel
theorem t125_29 : am_T 125 29 = some (1, .if_icmp .ge 19, 32, [48], .null) := by decide +kernel
theorem t125_32 : am_T 125 32 = some (0, .iload_n 1, 33, [], .null) := by decide +kernel
theorem t125_33 : am_T 125 33 = some (0, .iconst 3, 34, [], .int (3)) := by decide +kernel
theorem t125_34 : am_T 125 34 = some (1, .if_icmp .ne 18, 37, [52], .null) := by decide +kernel
theorem t125_37 : am_T 125 37 = some (0, .aload_n 0, 38, [], .null) := by decide +kernel
theorem t125_38 : am_T 125 38 = some (2, .getfield 56, 41, [7, 11], .null) := by decide +kernel
theorem t125_41 : am_T 125 41 = some (3, .invokevirtual 140, 44, [1, 0, 278], .null) := by decide +kernel
theorem t125_44 : am_T 125 44 = some (0, .iconst 4, 45, [], .int (4)) := by decide +kernel
theorem t125_45 : am_T 125 45 = some (1, .if_icmp .lt 7, 48, [52], .null) := by decide +kernel
theorem t125_48 : am_T 125 48 = some (0, .iconst 1, 49, [], .int (1)) := by decide +kernel
theorem t125_49 : am_T 125 49 = some (1, .goto 4, 52, [53], .null) := by decide +kernel
theorem t125_52 : am_T 125 52 = some (0, .iconst 0, 53, [], .int (0)) := by decide +kernel
theorem t125_53 : am_T 125 53 = some (4, .ireturn, 54, [1], .null) := by decide +kernel
theorem t126_0 : am_T 126 0 = some (0, .iload_n 1, 1, [], .null) := by decide +kernel
theorem t126_1 : am_T 126 1 = some (1, .ifCond .ne 8, 4, [9], .null) := by decide +kernel
theorem t126_4 : am_T 126 4 = some (0, .aload_n 0, 5, [], .null) := by decide +kernel
theorem t126_5 : am_T 126 5 = some (3, .invokevirtual 143, 8, [1, 11, 128], .null) := by decide +kernel
theorem t126_8 : am_T 126 8 = some (4, .ireturn, 9, [0], .null) := by decide +kernel
theorem t126_9 : am_T 126 9 = some (0, .iload_n 1, 10, [], .null) := by decide +kernel
theorem t126_10 : am_T 126 10 = some (0, .iconst 1, 11, [], .int (1)) := by decide +kernel
theorem t126_11 : am_T 126 11 = some (1, .if_icmp .ne 49, 14, [60], .null) := by decide +kernel
theorem t126_14 : am_T 126 14 = some (2, .new 146, 17, [1, 4], .null) := by decide +kernel
theorem t126_17 : am_T 126 17 = some (0, .dup, 18, [], .null) := by decide +kernel
theorem t126_18 : am_T 126 18 = some (3, .invokespecial 148, 21, [1, 0], .null) := by decide +kernel
theorem t126_21 : am_T 126 21 = some (0, .astore_n 2, 22, [], .null) := by decide +kernel
theorem t126_22 : am_T 126 22 = some (0, .aload_n 2, 23, [], .null) := by decide +kernel
theorem t126_23 : am_T 126 23 = some (0, .aload_n 0, 24, [], .null) := by decide +kernel
theorem t126_24 : am_T 126 24 = some (2, .getfield 28, 27, [2, 11], .null) := by decide +kernel
theorem t126_27 : am_T 126 27 = some (3, .invokevirtual 149, 30, [1, 2, 15], .null) := by decide +kernel
theorem t126_30 : am_T 126 30 = some (3, .invokevirtual 153, 33, [2, 1, 6], .null) := by decide +kernel
theorem t126_33 : am_T 126 33 = some (0, .aload_n 2, 34, [], .null) := by decide +kernel
theorem t126_34 : am_T 126 34 = some (0, .aload_n 0, 35, [], .null) := by decide +kernel
theorem t126_35 : am_T 126 35 = some (2, .getfield 62, 38, [8, 11], .null) := by decide +kernel
theorem t126_38 : am_T 126 38 = some (3, .invokevirtual 157, 41, [2, 1, 7], .null) := by decide +kernel
theorem t126_41 : am_T 126 41 = some (0, .aload_n 0, 42, [], .null) := by decide +kernel
theorem t126_42 : am_T 126 42 = some (2, .getfield 49, 45, [5, 11], .null) := by decide +kernel
theorem t126_45 : am_T 126 45 = some (0, .aload_n 2, 46, [], .null) := by decide +kernel
theorem t126_46 : am_T 126 46 = some (3, .invokevirtual 160, 49, [2, 0, 282], .null) := by decide +kernel
theorem t126_49 : am_T 126 49 = some (0, .pop, 50, [], .null) := by decide +kernel
theorem t126_50 : am_T 126 50 = some (0, .aload_n 0, 51, [], .null) := by decide +kernel
theorem t126_51 : am_T 126 51 = some (2, .getfield 49, 54, [5, 11], .null) := by decide +kernel
theorem t126_54 : am_T 126 54 = some (3, .invokevirtual 140, 57, [1, 0, 278], .null) := by decide +kernel
theorem t126_57 : am_T 126 57 = some (0, .iconst 1, 58, [], .int (1)) := by decide +kernel
theorem t126_58 : am_T 126 58 = some (0, .isub, 59, [], .null) := by decide +kernel
theorem t126_59 : am_T 126 59 = some (4, .ireturn, 60, [0], .null) := by decide +kernel
theorem t126_60 : am_T 126 60 = some (0, .iload_n 1, 61, [], .null) := by decide +kernel
theorem t126_61 : am_T 126 61 = some (0, .iconst 2, 62, [], .int (2)) := by decide +kernel
theorem t126_62 : am_T 126 62 = some (1, .if_icmp .ne 31, 65, [93], .null) := by decide +kernel
theorem t126_65 : am_T 126 65 = some (0, .aload_n 0, 66, [], .null) := by decide +kernel
theorem t126_66 : am_T 126 66 = some (2, .getfield 53, 69, [6, 11], .null) := by decide +kernel
theorem t126_69 : am_T 126 69 = some (0, .aload_n 0, 70, [], .null) := by decide +kernel
theorem t126_70 : am_T 126 70 = some (2, .getfield 35, 73, [3, 11], .null) := by decide +kernel
theorem t126_73 : am_T 126 73 = some (3, .invokevirtual 163, 76, [1, 10, 117], .null) := by decide +kernel
theorem t126_76 : am_T 126 76 = some (3, .invokestatic 166, 79, [1, 127], .null) := by decide +kernel
theorem t126_79 : am_T 126 79 = some (3, .invokevirtual 160, 82, [2, 0, 282], .null) := by decide +kernel
theorem t126_82 : am_T 126 82 = some (0, .pop, 83, [], .null) := by decide +kernel
theorem t126_83 : am_T 126 83 = some (0, .aload_n 0, 84, [], .null) := by decide +kernel
theorem t126_84 : am_T 126 84 = some (2, .getfield 53, 87, [6, 11], .null) := by decide +kernel
theorem t126_87 : am_T 126 87 = some (3, .invokevirtual 140, 90, [1, 0, 278], .null) := by decide +kernel
theorem t126_90 : am_T 126 90 = some (0, .iconst 1, 91, [], .int (1)) := by decide +kernel
theorem t126_91 : am_T 126 91 = some (0, .isub, 92, [], .null) := by decide +kernel
theorem t126_92 : am_T 126 92 = some (4, .ireturn, 93, [0], .null) := by decide +kernel
theorem t126_93 : am_T 126 93 = some (0, .aload_n 0, 94, [], .null) := by decide +kernel
theorem t126_94 : am_T 126 94 = some (2, .getfield 56, 97, [7, 11], .null) := by decide +kernel
theorem t126_97 : am_T 126 97 = some (0, .aload_n 0, 98, [], .null) := by decide +kernel
theorem t126_98 : am_T 126 98 = some (2, .getfield 14, 101, [0, 11], .null) := by decide +kernel
theorem t126_101 : am_T 126 101 = some (3, .invokestatic 166, 104, [1, 127], .null) := by decide +kernel
theorem t126_104 : am_T 126 104 = some (3, .invokevirtual 160, 107, [2, 0, 282], .null) := by decide +kernel
theorem t126_107 : am_T 126 107 = some (0, .pop, 108, [], .null) := by decide +kernel
theorem t126_108 : am_T 126 108 = some (0, .aload_n 0, 109, [], .null) := by decide +kernel
theorem t126_109 : am_T 126 109 = some (2, .getfield 56, 112, [7, 11], .null) := by decide +kernel
theorem t126_112 : am_T 126 112 = some (3, .invokevirtual 140, 115, [1, 0, 278], .null) := by decide +kernel
theorem t126_115 : am_T 126 115 = some (0, .iconst 1, 116, [], .int (1)) := by decide +kernel
theorem t126_116 : am_T 126 116 = some (0, .isub, 117, [], .null) := by decide +kernel
theorem t126_117 : am_T 126 117 = some (4, .ireturn, 118, [0], .null) := by decide +kernel
theorem t127_0 : am_T 127 0 = some (2, .new 7, 3, [4, 2], .null) := by decide +kernel
theorem t127_3 : am_T 127 3 = some (0, .dup, 4, [], .null) := by decide +kernel
theorem t127_4 : am_T 127 4 = some (0, .aload_n 0, 5, [], .null) := by decide +kernel
theorem t127_5 : am_T 127 5 = some (3, .invokevirtual 109, 8, [1, 4, 29], .null) := by decide +kernel
theorem t127_8 : am_T 127 8 = some (3, .invokespecial 11, 11, [2, 28], .null) := by decide +kernel
theorem t127_11 : am_T 127 11 = some (0, .astore_n 1, 12, [], .null) := by decide +kernel
theorem t127_12 : am_T 127 12 = some (0, .aload_n 1, 13, [], .null) := by decide +kernel
theorem t127_13 : am_T 127 13 = some (0, .aload_n 0, 14, [], .null) := by decide +kernel
theorem t127_14 : am_T 127 14 = some (3, .invokevirtual 170, 17, [2, 4, 36], .null) := by decide +kernel
theorem t127_17 : am_T 127 17 = some (0, .aload_n 1, 18, [], .null) := by decide +kernel
theorem t127_18 : am_T 127 18 = some (4, .areturn, 19, [], .null) := by decide +kernel
theorem t128_0 : am_T 128 0 = some (0, .aload_n 0, 1, [], .null) := by decide +kernel
theorem t128_1 : am_T 128 1 = some (2, .getfield 62, 4, [8, 11], .null) := by decide +kernel
theorem t128_4 : am_T 128 4 = some (0, .aload_n 0, 5, [], .null) := by decide +kernel
theorem t128_5 : am_T 128 5 = some (2, .getfield 21, 8, [1, 11], .null) := by decide +kernel
theorem t128_8 : am_T 128 8 = some (3, .invokevirtual 173, 11, [1, 8, 89], .null) := by decide +kernel
theorem t128_11 : am_T 128 11 = some (3, .invokevirtual 176, 14, [2, 7, 70], .null) := by decide +kernel
theorem t128_14 : am_T 128 14 = some (0, .aload_n 0, 15, [], .null) := by decide +kernel
theorem t128_15 : am_T 128 15 = some (2, .getfield 71, 18, [9, 11], .null) := by decide +kernel
theorem t128_18 : am_T 128 18 = some (0, .aload_n 0, 19, [], .null) := by decide +kernel
theorem t128_19 : am_T 128 19 = some (2, .getfield 21, 22, [1, 11], .null) := by decide +kernel
theorem t128_22 : am_T 128 22 = some (3, .invokevirtual 178, 25, [1, 8, 90], .null) := by decide +kernel
theorem t128_25 : am_T 128 25 = some (0, .aload_n 0, 26, [], .null) := by decide +kernel
theorem t128_26 : am_T 128 26 = some (2, .getfield 21, 29, [1, 11], .null) := by decide +kernel
theorem t128_29 : am_T 128 29 = some (3, .invokevirtual 181, 32, [1, 8, 91], .null) := by decide +kernel
theorem t128_32 : am_T 128 32 = some (0, .aload_n 0, 33, [], .null) := by decide +kernel
theorem t128_33 : am_T 128 33 = some (2, .getfield 21, 36, [1, 11], .null) := by decide +kernel
theorem t128_36 : am_T 128 36 = some (3, .invokevirtual 184, 39, [1, 8, 92], .null) := by decide +kernel
theorem t128_39 : am_T 128 39 = some (3, .invokevirtual 187, 42, [4, 9, 94], .null) := by decide +kernel
theorem t128_42 : am_T 128 42 = some (0, .aload_n 0, 43, [], .null) := by decide +kernel
theorem t128_43 : am_T 128 43 = some (2, .getfield 83, 46, [11, 11], .null) := by decide +kernel
theorem t128_46 : am_T 128 46 = some (3, .invokevirtual 191, 49, [1, 6, 62], .null) := by decide +kernel
theorem t128_49 : am_T 128 49 = some (0, .aload_n 0, 50, [], .null) := by decide +kernel
theorem t128_50 : am_T 128 50 = some (2, .getfield 92, 53, [12, 11], .null) := by decide +kernel
theorem t128_53 : am_T 128 53 = some (3, .invokevirtual 194, 56, [1, 5, 38], .null) := by decide +kernel
theorem t128_56 : am_T 128 56 = some (0, .aload_n 0, 57, [], .null) := by decide +kernel
theorem t128_57 : am_T 128 57 = some (2, .getfield 96, 60, [13, 11], .null) := by decide +kernel
theorem t128_60 : am_T 128 60 = some (0, .iconst 0, 61, [], .int (0)) := by decide +kernel
theorem t128_61 : am_T 128 61 = some (3, .invokevirtual 117, 64, [2, 4, 34], .null) := by decide +kernel
theorem t128_64 : am_T 128 64 = some (0, .aload_n 0, 65, [], .null) := by decide +kernel
theorem t128_65 : am_T 128 65 = some (2, .getfield 99, 68, [14, 11], .null) := by decide +kernel
theorem t128_68 : am_T 128 68 = some (0, .iconst 0, 69, [], .int (0)) := by decide +kernel
theorem t128_69 : am_T 128 69 = some (3, .invokevirtual 117, 72, [2, 4, 34], .null) := by decide +kernel
theorem t128_72 : am_T 128 72 = some (0, .aload_n 0, 73, [], .null) := by decide +kernel
theorem t128_73 : am_T 128 73 = some (0, .aconst_null, 74, [], .null) := by decide +kernel
theorem t128_74 : am_T 128 74 = some (2, .putfield 102, 77, [15, 2, 11], .null) := by decide +kernel
theorem t128_77 : am_T 128 77 = some (0, .aload_n 0, 78, [], .null) := by decide +kernel
theorem t128_78 : am_T 128 78 = some (0, .iconst 0, 79, [], .int (0)) := by decide +kernel
theorem t128_79 : am_T 128 79 = some (2, .putfield 105, 82, [16, 1, 11], .null) := by decide +kernel
theorem t128_82 : am_T 128 82 = some (0, .iconst 0, 83, [], .int (0)) := by decide +kernel
theorem t128_83 : am_T 128 83 = some (0, .istore_n 1, 84, [], .null) := by decide +kernel
theorem t128_84 : am_T 128 84 = some (0, .iload_n 1, 85, [], .null) := by decide +kernel
theorem t128_85 : am_T 128 85 = some (0, .aload_n 0, 86, [], .null) := by decide +kernel
theorem t128_86 : am_T 128 86 = some (2, .getfield 49, 89, [5, 11], .null) := by decide +kernel
theorem t128_89 : am_T 128 89 = some (3, .invokevirtual 140, 92, [1, 0, 278], .null) := by decide +kernel
theorem t128_92 : am_T 128 92 = some (1, .if_icmp .ge 27, 95, [119], .null) := by decide +kernel
theorem t128_95 : am_T 128 95 = some (0, .aload_n 0, 96, [], .null) := by decide +kernel
theorem t128_96 : am_T 128 96 = some (2, .getfield 49, 99, [5, 11], .null) := by decide +kernel
theorem t128_99 : am_T 128 99 = some (0, .iload_n 1, 100, [], .null) := by decide +kernel
theorem t128_100 : am_T 128 100 = some (3, .invokevirtual 195, 103, [2, 0, 280], .null) := by decide +kernel
theorem t128_103 : am_T 128 103 = some (2, .checkcast 146, 106, [1], .null) := by decide +kernel
theorem t128_106 : am_T 128 106 = some (0, .aload_n 0, 107, [], .null) := by decide +kernel
theorem t128_107 : am_T 128 107 = some (2, .getfield 62, 110, [8, 11], .null) := by decide +kernel
theorem t128_110 : am_T 128 110 = some (3, .invokevirtual 157, 113, [2, 1, 7], .null) := by decide +kernel
theorem t128_113 : am_T 128 113 = some (0, .iinc 1 1, 116, [], .int (1)) := by decide +kernel
theorem t128_116 : am_T 128 116 = some (1, .goto (-32), 119, [84], .null) := by decide +kernel
theorem t128_119 : am_T 128 119 = some (0, .aload_n 0, 120, [], .null) := by decide +kernel
theorem t128_120 : am_T 128 120 = some (2, .getfield 62, 123, [8, 11], .null) := by decide +kernel
theorem t128_123 : am_T 128 123 = some (3, .invokevirtual 199, 126, [1, 7, 74], .null) := by decide +kernel
theorem t128_126 : am_T 128 126 = some (4, .ireturn, 127, [0], .null) := by decide +kernel
theorem t129_0 : am_T 129 0 = some (0, .aload_n 0, 1, [], .null) := by decide +kernel
theorem t129_1 : am_T 129 1 = some (2, .getfield 62, 4, [8, 11], .null) := by decide +kernel
theorem t129_4 : am_T 129 4 = some (3, .invokevirtual 199, 7, [1, 7, 74], .null) := by decide +kernel
theorem t129_7 : am_T 129 7 = some (1, .ifCond .le 7, 10, [14], .null) := by decide +kernel
theorem t129_10 : am_T 129 10 = some (0, .iconst 1, 11, [], .int (1)) := by decide +kernel
theorem t129_11 : am_T 129 11 = some (1, .goto 4, 14, [15], .null) := by decide +kernel
theorem t129_14 : am_T 129 14 = some (0, .iconst 0, 15, [], .int (0)) := by decide +kernel
theorem t129_15 : am_T 129 15 = some (4, .ireturn, 16, [1], .null) := by decide +kernel
theorem t130_0 : am_T 130 0 = some (0, .aload_n 0, 1, [], .null) := by decide +kernel
theorem t130_1 : am_T 130 1 = some (3, .invokevirtual 200, 4, [1, 11, 129], .null) := by decide +kernel
theorem t130_4 : am_T 130 4 = some (1, .ifCond .eq 32, 7, [36], .null) := by decide +kernel
theorem t130_7 : am_T 130 7 = some (0, .iload_n 1, 8, [], .null) := by decide +kernel
theorem t130_8 : am_T 130 8 = some (1, .ifCond .lt 28, 11, [36], .null) := by decide +kernel
theorem t130_11 : am_T 130 11 = some (0, .iload_n 1, 12, [], .null) := by decide +kernel
theorem t130_12 : am_T 130 12 = some (0, .aload_n 0, 13, [], .null) := by decide +kernel
theorem t130_13 : am_T 130 13 = some (2, .getfield 49, 16, [5, 11], .null) := by decide +kernel
theorem t130_16 : am_T 130 16 = some (3, .invokevirtual 140, 19, [1, 0, 278], .null) := by decide +kernel
theorem t130_19 : am_T 130 19 = some (1, .if_icmp .ge 17, 22, [36], .null) := by decide +kernel
theorem t130_22 : am_T 130 22 = some (0, .aload_n 0, 23, [], .null) := by decide +kernel
theorem t130_23 : am_T 130 23 = some (2, .getfield 49, 26, [5, 11], .null) := by decide +kernel
theorem t130_26 : am_T 130 26 = some (0, .iload_n 1, 27, [], .null) := by decide +kernel
theorem t130_27 : am_T 130 27 = some (3, .invokevirtual 195, 30, [2, 0, 280], .null) := by decide +kernel
theorem t130_30 : am_T 130 30 = some (2, .checkcast 146, 33, [1], .null) := by decide +kernel
theorem t130_33 : am_T 130 33 = some (1, .goto 4, 36, [37], .null) := by decide +kernel
theorem t130_36 : am_T 130 36 = some (0, .aconst_null, 37, [], .null) := by decide +kernel
theorem t130_37 : am_T 130 37 = some (4, .areturn, 38, [], .null) := by decide +kernel
theorem t131_0 : am_T 131 0 = some (0, .iload_n 1, 1, [], .null) := by decide +kernel
theorem t131_1 : am_T 131 1 = some (1, .ifCond .lt 28, 4, [29], .null) := by decide +kernel
theorem t131_4 : am_T 131 4 = some (0, .iload_n 1, 5, [], .null) := by decide +kernel
theorem t131_5 : am_T 131 5 = some (0, .aload_n 0, 6, [], .null) := by decide +kernel
theorem t131_6 : am_T 131 6 = some (2, .getfield 53, 9, [6, 11], .null) := by decide +kernel
theorem t131_9 : am_T 131 9 = some (3, .invokevirtual 140, 12, [1, 0, 278], .null) := by decide +kernel
theorem t131_12 : am_T 131 12 = some (1, .if_icmp .ge 17, 15, [29], .null) := by decide +kernel
theorem t131_15 : am_T 131 15 = some (0, .aload_n 0, 16, [], .null) := by decide +kernel
theorem t131_16 : am_T 131 16 = some (2, .getfield 53, 19, [6, 11], .null) := by decide +kernel
theorem t131_19 : am_T 131 19 = some (0, .iload_n 1, 20, [], .null) := by decide +kernel
theorem t131_20 : am_T 131 20 = some (3, .invokevirtual 195, 23, [2, 0, 280], .null) := by decide +kernel
theorem t131_23 : am_T 131 23 = some (2, .checkcast 7, 26, [4], .null) := by decide +kernel
theorem t131_26 : am_T 131 26 = some (1, .goto 4, 29, [30], .null) := by decide +kernel
theorem t131_29 : am_T 131 29 = some (0, .aconst_null, 30, [], .null) := by decide +kernel
theorem t131_30 : am_T 131 30 = some (4, .areturn, 31, [], .null) := by decide +kernel
theorem t132_0 : am_T 132 0 = some (0, .iload_n 0, 1, [], .null) := by decide +kernel
theorem t132_1 : am_T 132 1 = some (1, .ifCond .lt 13, 4, [14], .null) := by decide +kernel
theorem t132_4 : am_T 132 4 = some (0, .iload_n 0, 5, [], .null) := by decide +kernel
theorem t132_5 : am_T 132 5 = some (0, .bipush 8, 7, [], .int (8)) := by decide +kernel
theorem t132_7 : am_T 132 7 = some (1, .if_icmp .ge 7, 10, [14], .null) := by decide +kernel
theorem t132_10 : am_T 132 10 = some (0, .iconst 1, 11, [], .int (1)) := by decide +kernel
theorem t132_11 : am_T 132 11 = some (1, .goto 4, 14, [15], .null) := by decide +kernel
theorem t132_14 : am_T 132 14 = some (0, .iconst 0, 15, [], .int (0)) := by decide +kernel
theorem t132_15 : am_T 132 15 = some (4, .ireturn, 16, [1], .null) := by decide +kernel
theorem t133_0 : am_T 133 0 = some (0, .iload_n 0, 1, [], .null) := by decide +kernel
theorem t133_1 : am_T 133 1 = some (0, .iconst (-1), 2, [], .int (-1)) := by decide +kernel
theorem t133_2 : am_T 133 2 = some (1, .if_icmp .eq 10, 5, [12], .null) := by decide +kernel
theorem t133_5 : am_T 133 5 = some (0, .iload_n 0, 6, [], .null) := by decide +kernel
theorem t133_6 : am_T 133 6 = some (3, .invokestatic 204, 9, [1, 132], .null) := by decide +kernel
theorem t133_9 : am_T 133 9 = some (1, .ifCond .eq 7, 12, [16], .null) := by decide +kernel
theorem t133_12 : am_T 133 12 = some (0, .iconst 1, 13, [], .int (1)) := by decide +kernel
theorem t133_13 : am_T 133 13 = some (1, .goto 4, 16, [17], .null) := by decide +kernel
theorem t133_16 : am_T 133 16 = some (0, .iconst 0, 17, [], .int (0)) := by decide +kernel
theorem t133_17 : am_T 133 17 = some (4, .ireturn, 18, [1], .null) := by decide +kernel
theorem t134_0 : am_T 134 0 = some (0, .iload_n 0, 1, [], .null) := by decide +kernel
theorem t134_1 : am_T 134 1 = some (0, .iconst 1, 2, [], .int (1)) := by decide +kernel
theorem t134_2 : am_T 134 2 = some (1, .if_icmp .eq 8, 5, [10], .null) := by decide +kernel
theorem t134_5 : am_T 134 5 = some (0, .iload_n 0, 6, [], .null) := by decide +kernel
theorem t134_6 : am_T 134 6 = some (0, .iconst 2, 7, [], .int (2)) := by decide +kernel
theorem t134_7 : am_T 134 7 = some (1, .if_icmp .ne 7, 10, [14], .null) := by decide +kernel
theorem t134_10 : am_T 134 10 = some (0, .iconst 1, 11, [], .int (1)) := by decide +kernel
theorem t134_11 : am_T 134 11 = some (1, .goto 4, 14, [15], .null) := by decide +kernel
theorem t134_14 : am_T 134 14 = some (0, .iconst 0, 15, [], .int (0)) := by decide +kernel
theorem t134_15 : am_T 134 15 = some (4, .ireturn, 16, [1], .null) := by decide +kernel
theorem t135_0 : am_T 135 0 = some (0, .iload_n 0, 1, [], .null) := by decide +kernel
theorem t135_1 : am_T 135 1 = some (1, .ifCond .eq 8, 4, [9], .null) := by decide +kernel
theorem t135_4 : am_T 135 4 = some (0, .iload_n 0, 5, [], .null) := by decide +kernel
theorem t135_5 : am_T 135 5 = some (0, .iconst 1, 6, [], .int (1)) := by decide +kernel
theorem t135_6 : am_T 135 6 = some (1, .if_icmp .ne 7, 9, [13], .null) := by decide +kernel
theorem t135_9 : am_T 135 9 = some (0, .iconst 1, 10, [], .int (1)) := by decide +kernel
theorem t135_10 : am_T 135 10 = some (1, .goto 4, 13, [14], .null) := by decide +kernel
theorem t135_13 : am_T 135 13 = some (0, .iconst 0, 14, [], .int (0)) := by decide +kernel
theorem t135_14 : am_T 135 14 = some (4, .ireturn, 15, [1], .null) := by decide +kernel
theorem t136_0 : am_T 136 0 = some (0, .aload_n 0, 1, [], .null) := by decide +kernel
theorem t136_1 : am_T 136 1 = some (2, .getfield 62, 4, [8, 11], .null) := by decide +kernel
theorem t136_4 : am_T 136 4 = some (0, .iload_n 1, 5, [], .null) := by decide +kernel
theorem t136_5 : am_T 136 5 = some (3, .invokevirtual 207, 8, [2, 7, 75], .null) := by decide +kernel
theorem t136_8 : am_T 136 8 = some (1, .ifCond .ne 13, 11, [21], .null) := by decide +kernel
theorem t136_11 : am_T 136 11 = some (7, .new 210, 14, [1, 6], .null) := by decide +kernel
theorem t136_14 : am_T 136 14 = some (0, .dup, 15, [], .null) := by decide +kernel
theorem t136_21 : am_T 136 21 = some (0, .aload_n 0, 22, [], .null) := by decide +kernel
theorem t136_22 : am_T 136 22 = some (2, .getfield 71, 25, [9, 11], .null) := by decide +kernel
theorem t136_25 : am_T 136 25 = some (0, .iload_n 1, 26, [], .null) := by decide +kernel
theorem t136_26 : am_T 136 26 = some (3, .invokevirtual 217, 29, [2, 9, 102], .null) := by decide +kernel
theorem t136_29 : am_T 136 29 = some (4, .ireturn, 30, [0], .null) := by decide +kernel
theorem t137_0 : am_T 137 0 = some (0, .aload_n 0, 1, [], .null) := by decide +kernel
theorem t137_1 : am_T 137 1 = some (2, .getfield 62, 4, [8, 11], .null) := by decide +kernel
theorem t137_4 : am_T 137 4 = some (0, .iload_n 1, 5, [], .null) := by decide +kernel
theorem t137_5 : am_T 137 5 = some (3, .invokevirtual 207, 8, [2, 7, 75], .null) := by decide +kernel
theorem t137_8 : am_T 137 8 = some (1, .ifCond .eq 10, 11, [18], .null) := by decide +kernel
theorem t137_11 : am_T 137 11 = some (0, .iload_n 2, 12, [], .null) := by decide +kernel
theorem t137_12 : am_T 137 12 = some (3, .invokestatic 220, 15, [1, 134], .null) := by decide +kernel
theorem t137_15 : am_T 137 15 = some (1, .ifCond .ne 6, 18, [21], .null) := by decide +kernel
theorem t137_18 : am_T 137 18 = some (0, .ldc 223, 20, [], .int (-1000000)) := by decide +kernel
theorem t137_20 : am_T 137 20 = some (4, .ireturn, 21, [0], .null) := by decide +kernel
theorem t137_21 : am_T 137 21 = some (0, .aload_n 0, 22, [], .null) := by decide +kernel
theorem t137_22 : am_T 137 22 = some (2, .getfield 102, 25, [15, 11], .null) := by decide +kernel
theorem t137_25 : am_T 137 25 = some (1, .ifnonnull 7, 28, [32], .null) := by decide +kernel
theorem t137_28 : am_T 137 28 = some (0, .iconst 0, 29, [], .int (0)) := by decide +kernel
theorem t137_29 : am_T 137 29 = some (1, .goto 30, 32, [59], .null) := by decide +kernel
theorem t137_32 : am_T 137 32 = some (0, .aload_n 0, 33, [], .null) := by decide +kernel
theorem t137_33 : am_T 137 33 = some (2, .getfield 42, 36, [4, 11], .null) := by decide +kernel
theorem t137_36 : am_T 137 36 = some (0, .aload_n 0, 37, [], .null) := by decide +kernel
theorem t137_37 : am_T 137 37 = some (2, .getfield 102, 40, [15, 11], .null) := by decide +kernel
theorem t137_40 : am_T 137 40 = some (0, .iload_n 1, 41, [], .null) := by decide +kernel
theorem t137_41 : am_T 137 41 = some (0, .aload_n 0, 42, [], .null) := by decide +kernel
theorem t137_42 : am_T 137 42 = some (2, .getfield 71, 45, [9, 11], .null) := by decide +kernel
theorem t137_45 : am_T 137 45 = some (3, .invokevirtual 224, 48, [1, 9, 97], .null) := by decide +kernel
theorem t137_48 : am_T 137 48 = some (0, .iload_n 2, 49, [], .null) := by decide +kernel
theorem t137_49 : am_T 137 49 = some (0, .aload_n 0, 50, [], .null) := by decide +kernel
theorem t137_50 : am_T 137 50 = some (2, .getfield 62, 53, [8, 11], .null) := by decide +kernel
theorem t137_53 : am_T 137 53 = some (3, .invokevirtual 199, 56, [1, 7, 74], .null) := by decide +kernel
theorem t137_56 : am_T 137 56 = some (3, .invokevirtual 227, 59, [6, 3, 18], .null) := by decide +kernel
theorem t137_59 : am_T 137 59 = some (4, .ireturn, 60, [0], .null) := by decide +kernel
theorem t138_0 : am_T 138 0 = some (0, .aload_n 0, 1, [], .null) := by decide +kernel
theorem t138_1 : am_T 138 1 = some (3, .invokevirtual 200, 4, [1, 11, 129], .null) := by decide +kernel
theorem t138_4 : am_T 138 4 = some (1, .ifCond .eq 19, 7, [23], .null) := by decide +kernel
theorem t138_7 : am_T 138 7 = some (0, .iload_n 1, 8, [], .null) := by decide +kernel
theorem t138_8 : am_T 138 8 = some (0, .iconst (-1), 9, [], .int (-1)) := by decide +kernel
theorem t138_9 : am_T 138 9 = some (1, .if_icmp .lt 14, 12, [23], .null) := by decide +kernel
theorem t138_12 : am_T 138 12 = some (0, .iload_n 1, 13, [], .null) := by decide +kernel
theorem t138_13 : am_T 138 13 = some (0, .aload_n 0, 14, [], .null) := by decide +kernel
theorem t138_14 : am_T 138 14 = some (2, .getfield 56, 17, [7, 11], .null) := by decide +kernel
theorem t138_17 : am_T 138 17 = some (3, .invokevirtual 140, 20, [1, 0, 278], .null) := by decide +kernel
theorem t138_20 : am_T 138 20 = some (1, .if_icmp .lt 5, 23, [25], .null) := by decide +kernel
theorem t138_23 : am_T 138 23 = some (0, .iconst 0, 24, [], .int (0)) := by decide +kernel
theorem t138_24 : am_T 138 24 = some (4, .ireturn, 25, [1], .null) := by decide +kernel
theorem t138_25 : am_T 138 25 = some (0, .aload_n 0, 26, [], .null) := by decide +kernel
theorem t138_26 : am_T 138 26 = some (0, .iload_n 1, 27, [], .null) := by decide +kernel
theorem t138_27 : am_T 138 27 = some (1, .ifCond .lt 17, 30, [44], .null) := by decide +kernel
theorem t138_30 : am_T 138 30 = some (0, .aload_n 0, 31, [], .null) := by decide +kernel
theorem t138_31 : am_T 138 31 = some (2, .getfield 56, 34, [7, 11], .null) := by decide +kernel
theorem t138_34 : am_T 138 34 = some (0, .iload_n 1, 35, [], .null) := by decide +kernel
theorem t138_35 : am_T 138 35 = some (3, .invokevirtual 195, 38, [2, 0, 280], .null) := by decide +kernel
theorem t138_38 : am_T 138 38 = some (2, .checkcast 7, 41, [4], .null) := by decide +kernel
theorem t138_41 : am_T 138 41 = some (1, .goto 4, 44, [45], .null) := by decide +kernel
theorem t138_44 : am_T 138 44 = some (0, .aconst_null, 45, [], .null) := by decide +kernel
theorem t138_45 : am_T 138 45 = some (2, .putfield 102, 48, [15, 2, 11], .null) := by decide +kernel
theorem t138_48 : am_T 138 48 = some (0, .iconst 1, 49, [], .int (1)) := by decide +kernel
theorem t138_49 : am_T 138 49 = some (4, .ireturn, 50, [1], .null) := by decide +kernel
theorem t139_0 : am_T 139 0 = some (0, .aload_n 0, 1, [], .null) := by decide +kernel
theorem t139_1 : am_T 139 1 = some (2, .getfield 62, 4, [8, 11], .null) := by decide +kernel
theorem t139_4 : am_T 139 4 = some (0, .iload_n 1, 5, [], .null) := by decide +kernel
theorem t139_5 : am_T 139 5 = some (3, .invokevirtual 207, 8, [2, 7, 75], .null) := by decide +kernel
theorem t139_8 : am_T 139 8 = some (1, .ifCond .eq 42, 11, [50], .null) := by decide +kernel
theorem t139_11 : am_T 139 11 = some (0, .iload_n 2, 12, [], .null) := by decide +kernel
theorem t139_12 : am_T 139 12 = some (3, .invokestatic 220, 15, [1, 134], .null) := by decide +kernel
theorem t139_15 : am_T 139 15 = some (1, .ifCond .eq 35, 18, [50], .null) := by decide +kernel
theorem t139_18 : am_T 139 18 = some (0, .aload_n 0, 19, [], .null) := by decide +kernel
theorem t139_19 : am_T 139 19 = some (2, .getfield 71, 22, [9, 11], .null) := by decide +kernel
theorem t139_22 : am_T 139 22 = some (3, .invokevirtual 231, 25, [1, 9, 98], .null) := by decide +kernel
theorem t139_25 : am_T 139 25 = some (1, .ifCond .le 25, 28, [50], .null) := by decide +kernel
theorem t139_28 : am_T 139 28 = some (0, .aload_n 0, 29, [], .null) := by decide +kernel
theorem t139_29 : am_T 139 29 = some (2, .getfield 71, 32, [9, 11], .null) := by decide +kernel
theorem t139_32 : am_T 139 32 = some (0, .iload_n 1, 33, [], .null) := by decide +kernel
theorem t139_33 : am_T 139 33 = some (3, .invokevirtual 217, 36, [2, 9, 102], .null) := by decide +kernel
theorem t139_36 : am_T 139 36 = some (1, .ifCond .ne 14, 39, [50], .null) := by decide +kernel
theorem t139_39 : am_T 139 39 = some (0, .aload_n 0, 40, [], .null) := by decide +kernel
theorem t139_40 : am_T 139 40 = some (2, .getfield 71, 43, [9, 11], .null) := by decide +kernel
theorem t139_43 : am_T 139 43 = some (0, .iload_n 2, 44, [], .null) := by decide +kernel
theorem t139_44 : am_T 139 44 = some (3, .invokevirtual 234, 47, [2, 9, 101], .null) := by decide +kernel
theorem t139_47 : am_T 139 47 = some (1, .ifCond .gt 5, 50, [52], .null) := by decide +kernel
theorem t139_50 : am_T 139 50 = some (0, .iconst (-1), 51, [], .int (-1)) := by decide +kernel
theorem t139_51 : am_T 139 51 = some (4, .ireturn, 52, [0], .null) := by decide +kernel
theorem t139_52 : am_T 139 52 = some (0, .aload_n 0, 53, [], .null) := by decide +kernel
theorem t139_53 : am_T 139 53 = some (2, .getfield 71, 56, [9, 11], .null) := by decide +kernel
theorem t139_56 : am_T 139 56 = some (0, .aload_n 0, 57, [], .null) := by decide +kernel
theorem t139_57 : am_T 139 57 = some (2, .getfield 62, 60, [8, 11], .null) := by decide +kernel
theorem t139_60 : am_T 139 60 = some (0, .aload_n 0, 61, [], .null) := by decide +kernel
theorem t139_61 : am_T 139 61 = some (2, .getfield 71, 64, [9, 11], .null) := by decide +kernel
theorem t139_64 : am_T 139 64 = some (3, .invokevirtual 237, 67, [1, 9, 96], .null) := by decide +kernel
theorem t139_67 : am_T 139 67 = some (0, .iload_n 1, 68, [], .null) := by decide +kernel
theorem t139_68 : am_T 139 68 = some (0, .iload_n 2, 69, [], .null) := by decide +kernel
theorem t139_69 : am_T 139 69 = some (3, .invokevirtual 240, 72, [4, 7, 80], .null) := by decide +kernel
theorem t139_72 : am_T 139 72 = some (3, .invokevirtual 244, 75, [2, 9, 104], .null) := by decide +kernel
theorem t139_75 : am_T 139 75 = some (0, .aload_n 0, 76, [], .null) := by decide +kernel
theorem t139_76 : am_T 139 76 = some (2, .getfield 71, 79, [9, 11], .null) := by decide +kernel
theorem t139_79 : am_T 139 79 = some (3, .invokevirtual 231, 82, [1, 9, 98], .null) := by decide +kernel
theorem t139_82 : am_T 139 82 = some (4, .ireturn, 83, [0], .null) := by decide +kernel
theorem t140_0 : am_T 140 0 = some (0, .aload_n 0, 1, [], .null) := by decide +kernel
theorem t140_1 : am_T 140 1 = some (2, .getfield 62, 4, [8, 11], .null) := by decide +kernel
theorem t140_4 : am_T 140 4 = some (0, .iload_n 1, 5, [], .null) := by decide +kernel
theorem t140_5 : am_T 140 5 = some (3, .invokevirtual 207, 8, [2, 7, 75], .null) := by decide +kernel
theorem t140_8 : am_T 140 8 = some (1, .ifCond .eq 24, 11, [32], .null) := by decide +kernel
theorem t140_11 : am_T 140 11 = some (0, .aload_n 0, 12, [], .null) := by decide +kernel
theorem t140_12 : am_T 140 12 = some (2, .getfield 71, 15, [9, 11], .null) := by decide +kernel
theorem t140_15 : am_T 140 15 = some (3, .invokevirtual 231, 18, [1, 9, 98], .null) := by decide +kernel
theorem t140_18 : am_T 140 18 = some (1, .ifCond .le 14, 21, [32], .null) := by decide +kernel
theorem t140_21 : am_T 140 21 = some (0, .aload_n 0, 22, [], .null) := by decide +kernel
theorem t140_22 : am_T 140 22 = some (2, .getfield 71, 25, [9, 11], .null) := by decide +kernel
theorem t140_25 : am_T 140 25 = some (0, .iload_n 1, 26, [], .null) := by decide +kernel
theorem t140_26 : am_T 140 26 = some (3, .invokevirtual 217, 29, [2, 9, 102], .null) := by decide +kernel
theorem t140_29 : am_T 140 29 = some (1, .ifCond .ne 5, 32, [34], .null) := by decide +kernel
theorem t140_32 : am_T 140 32 = some (0, .iconst (-1), 33, [], .int (-1)) := by decide +kernel
theorem t140_33 : am_T 140 33 = some (4, .ireturn, 34, [0], .null) := by decide +kernel
theorem t140_34 : am_T 140 34 = some (0, .aload_n 0, 35, [], .null) := by decide +kernel
theorem t140_35 : am_T 140 35 = some (2, .getfield 71, 38, [9, 11], .null) := by decide +kernel
theorem t140_38 : am_T 140 38 = some (0, .aload_n 0, 39, [], .null) := by decide +kernel
theorem t140_39 : am_T 140 39 = some (2, .getfield 62, 42, [8, 11], .null) := by decide +kernel
theorem t140_42 : am_T 140 42 = some (0, .aload_n 0, 43, [], .null) := by decide +kernel
theorem t140_43 : am_T 140 43 = some (2, .getfield 71, 46, [9, 11], .null) := by decide +kernel
theorem t140_46 : am_T 140 46 = some (3, .invokevirtual 237, 49, [1, 9, 96], .null) := by decide +kernel
theorem t140_49 : am_T 140 49 = some (0, .iload_n 1, 50, [], .null) := by decide +kernel
theorem t140_50 : am_T 140 50 = some (0, .iconst 0, 51, [], .int (0)) := by decide +kernel
theorem t140_51 : am_T 140 51 = some (3, .invokevirtual 240, 54, [4, 7, 80], .null) := by decide +kernel
theorem t140_54 : am_T 140 54 = some (3, .invokevirtual 244, 57, [2, 9, 104], .null) := by decide +kernel
theorem t140_57 : am_T 140 57 = some (0, .aload_n 0, 58, [], .null) := by decide +kernel
theorem t140_58 : am_T 140 58 = some (2, .getfield 71, 61, [9, 11], .null) := by decide +kernel
theorem t140_61 : am_T 140 61 = some (3, .invokevirtual 231, 64, [1, 9, 98], .null) := by decide +kernel
theorem t140_64 : am_T 140 64 = some (4, .ireturn, 65, [0], .null) := by decide +kernel
theorem t141_0 : am_T 141 0 = some (0, .aload_n 0, 1, [], .null) := by decide +kernel
theorem t141_1 : am_T 141 1 = some (2, .getfield 62, 4, [8, 11], .null) := by decide +kernel
theorem t141_4 : am_T 141 4 = some (0, .iload_n 1, 5, [], .null) := by decide +kernel
theorem t141_5 : am_T 141 5 = some (3, .invokevirtual 207, 8, [2, 7, 75], .null) := by decide +kernel
theorem t141_8 : am_T 141 8 = some (1, .ifCond .eq 46, 11, [54], .null) := by decide +kernel
theorem t141_11 : am_T 141 11 = some (0, .aload_n 0, 12, [], .null) := by decide +kernel
theorem t141_12 : am_T 141 12 = some (2, .getfield 62, 15, [8, 11], .null) := by decide +kernel
theorem t141_15 : am_T 141 15 = some (0, .iload_n 2, 16, [], .null) := by decide +kernel
theorem t141_16 : am_T 141 16 = some (3, .invokevirtual 207, 19, [2, 7, 75], .null) := by decide +kernel
theorem t141_19 : am_T 141 19 = some (1, .ifCond .eq 35, 22, [54], .null) := by decide +kernel
theorem t141_22 : am_T 141 22 = some (0, .aload_n 0, 23, [], .null) := by decide +kernel
theorem t141_23 : am_T 141 23 = some (2, .getfield 71, 26, [9, 11], .null) := by decide +kernel
theorem t141_26 : am_T 141 26 = some (3, .invokevirtual 231, 29, [1, 9, 98], .null) := by decide +kernel
theorem t141_29 : am_T 141 29 = some (1, .ifCond .le 25, 32, [54], .null) := by decide +kernel
theorem t141_32 : am_T 141 32 = some (0, .aload_n 0, 33, [], .null) := by decide +kernel
theorem t141_33 : am_T 141 33 = some (2, .getfield 71, 36, [9, 11], .null) := by decide +kernel
theorem t141_36 : am_T 141 36 = some (0, .iload_n 1, 37, [], .null) := by decide +kernel
theorem t141_37 : am_T 141 37 = some (3, .invokevirtual 217, 40, [2, 9, 102], .null) := by decide +kernel
theorem t141_40 : am_T 141 40 = some (1, .ifCond .eq 14, 43, [54], .null) := by decide +kernel
theorem t141_43 : am_T 141 43 = some (0, .aload_n 0, 44, [], .null) := by decide +kernel
theorem t141_44 : am_T 141 44 = some (2, .getfield 71, 47, [9, 11], .null) := by decide +kernel
theorem t141_47 : am_T 141 47 = some (0, .iload_n 2, 48, [], .null) := by decide +kernel
theorem t141_48 : am_T 141 48 = some (3, .invokevirtual 217, 51, [2, 9, 102], .null) := by decide +kernel
theorem t141_51 : am_T 141 51 = some (1, .ifCond .eq 5, 54, [56], .null) := by decide +kernel
theorem t141_54 : am_T 141 54 = some (0, .iconst (-1), 55, [], .int (-1)) := by decide +kernel
theorem t141_55 : am_T 141 55 = some (4, .ireturn, 56, [0], .null) := by decide +kernel
theorem t141_56 : am_T 141 56 = some (0, .aload_n 0, 57, [], .null) := by decide +kernel
theorem t141_57 : am_T 141 57 = some (2, .getfield 71, 60, [9, 11], .null) := by decide +kernel
theorem t141_60 : am_T 141 60 = some (0, .iload_n 1, 61, [], .null) := by decide +kernel
theorem t141_61 : am_T 141 61 = some (3, .invokevirtual 217, 64, [2, 9, 102], .null) := by decide +kernel
theorem t141_64 : am_T 141 64 = some (0, .istore_n 3, 65, [], .null) := by decide +kernel
theorem t141_65 : am_T 141 65 = some (0, .aload_n 0, 66, [], .null) := by decide +kernel
theorem t141_66 : am_T 141 66 = some (2, .getfield 71, 69, [9, 11], .null) := by decide +kernel
theorem t141_69 : am_T 141 69 = some (0, .aload_n 0, 70, [], .null) := by decide +kernel
theorem t141_70 : am_T 141 70 = some (2, .getfield 62, 73, [8, 11], .null) := by decide +kernel
theorem t141_73 : am_T 141 73 = some (0, .aload_n 0, 74, [], .null) := by decide +kernel
theorem t141_74 : am_T 141 74 = some (2, .getfield 62, 77, [8, 11], .null) := by decide +kernel
theorem t141_77 : am_T 141 77 = some (0, .aload_n 0, 78, [], .null) := by decide +kernel
theorem t141_78 : am_T 141 78 = some (2, .getfield 71, 81, [9, 11], .null) := by decide +kernel
theorem t141_81 : am_T 141 81 = some (3, .invokevirtual 237, 84, [1, 9, 96], .null) := by decide +kernel
theorem t141_84 : am_T 141 84 = some (0, .iload_n 1, 85, [], .null) := by decide +kernel
theorem t141_85 : am_T 141 85 = some (0, .iconst 0, 86, [], .int (0)) := by decide +kernel
theorem t141_86 : am_T 141 86 = some (3, .invokevirtual 240, 89, [4, 7, 80], .null) := by decide +kernel
theorem t141_89 : am_T 141 89 = some (0, .iload_n 2, 90, [], .null) := by decide +kernel
theorem t141_90 : am_T 141 90 = some (0, .iload_n 3, 91, [], .null) := by decide +kernel
theorem t141_91 : am_T 141 91 = some (3, .invokevirtual 240, 94, [4, 7, 80], .null) := by decide +kernel
theorem t141_94 : am_T 141 94 = some (3, .invokevirtual 244, 97, [2, 9, 104], .null) := by decide +kernel
theorem t141_97 : am_T 141 97 = some (0, .aload_n 0, 98, [], .null) := by decide +kernel
theorem t141_98 : am_T 141 98 = some (2, .getfield 71, 101, [9, 11], .null) := by decide +kernel
theorem t141_101 : am_T 141 101 = some (3, .invokevirtual 231, 104, [1, 9, 98], .null) := by decide +kernel
theorem t141_104 : am_T 141 104 = some (4, .ireturn, 105, [0], .null) := by decide +kernel
theorem t142_0 : am_T 142 0 = some (0, .aload_n 0, 1, [], .null) := by decide +kernel
theorem t142_1 : am_T 142 1 = some (0, .iload_n 1, 2, [], .null) := by decide +kernel
theorem t142_2 : am_T 142 2 = some (3, .invokevirtual 247, 5, [2, 11, 130], .null) := by decide +kernel
theorem t142_5 : am_T 142 5 = some (0, .astore_n 2, 6, [], .null) := by decide +kernel
theorem t142_6 : am_T 142 6 = some (0, .aload_n 2, 7, [], .null) := by decide +kernel
theorem t142_7 : am_T 142 7 = some (1, .ifnull 14, 10, [21], .null) := by decide +kernel
theorem t142_10 : am_T 142 10 = some (0, .aload_n 0, 11, [], .null) := by decide +kernel
theorem t142_11 : am_T 142 11 = some (2, .getfield 71, 14, [9, 11], .null) := by decide +kernel
theorem t142_14 : am_T 142 14 = some (0, .iconst 1, 15, [], .int (1)) := by decide +kernel
theorem t142_15 : am_T 142 15 = some (3, .invokevirtual 251, 18, [2, 9, 105], .null) := by decide +kernel
theorem t142_18 : am_T 142 18 = some (1, .ifCond .ne 6, 21, [24], .null) := by decide +kernel
theorem t142_21 : am_T 142 21 = some (0, .ldc 223, 23, [], .int (-1000000)) := by decide +kernel
theorem t142_23 : am_T 142 23 = some (4, .ireturn, 24, [0], .null) := by decide +kernel
theorem t142_24 : am_T 142 24 = some (0, .aload_n 2, 25, [], .null) := by decide +kernel
theorem t142_25 : am_T 142 25 = some (0, .aload_n 0, 26, [], .null) := by decide +kernel
theorem t142_26 : am_T 142 26 = some (2, .getfield 71, 29, [9, 11], .null) := by decide +kernel
theorem t142_29 : am_T 142 29 = some (3, .invokevirtual 237, 32, [1, 9, 96], .null) := by decide +kernel
theorem t142_32 : am_T 142 32 = some (3, .invokevirtual 254, 35, [2, 1, 10], .null) := by decide +kernel
theorem t142_35 : am_T 142 35 = some (0, .istore_n 3, 36, [], .null) := by decide +kernel
theorem t142_36 : am_T 142 36 = some (0, .aload_n 0, 37, [], .null) := by decide +kernel
theorem t142_37 : am_T 142 37 = some (2, .getfield 71, 40, [9, 11], .null) := by decide +kernel
theorem t142_40 : am_T 142 40 = some (3, .invokevirtual 257, 43, [1, 9, 106], .null) := by decide +kernel
theorem t142_43 : am_T 142 43 = some (0, .iload_n 3, 44, [], .null) := by decide +kernel
theorem t142_44 : am_T 142 44 = some (4, .ireturn, 45, [0], .null) := by decide +kernel
theorem t143_0 : am_T 143 0 = some (0, .aload_n 0, 1, [], .null) := by decide +kernel
theorem t143_1 : am_T 143 1 = some (2, .getfield 71, 4, [9, 11], .null) := by decide +kernel
theorem t143_4 : am_T 143 4 = some (3, .invokevirtual 260, 7, [1, 9, 112], .null) := by decide +kernel
theorem t143_7 : am_T 143 7 = some (4, .ireturn, 8, [0], .null) := by decide +kernel
theorem t144_0 : am_T 144 0 = some (0, .aload_n 0, 1, [], .null) := by decide +kernel
theorem t144_1 : am_T 144 1 = some (0, .iload_n 1, 2, [], .null) := by decide +kernel
theorem t144_2 : am_T 144 2 = some (3, .invokevirtual 247, 5, [2, 11, 130], .null) := by decide +kernel
theorem t144_5 : am_T 144 5 = some (0, .astore_n 3, 6, [], .null) := by decide +kernel
theorem t144_6 : am_T 144 6 = some (0, .aload_n 0, 7, [], .null) := by decide +kernel
theorem t144_7 : am_T 144 7 = some (2, .getfield 62, 10, [8, 11], .null) := by decide +kernel
theorem t144_10 : am_T 144 10 = some (0, .iload_n 2, 11, [], .null) := by decide +kernel
theorem t144_11 : am_T 144 11 = some (3, .invokevirtual 263, 14, [2, 7, 84], .null) := by decide +kernel
theorem t144_14 : am_T 144 14 = some (0, .istore 4, 16, [], .null) := by decide +kernel
theorem t144_16 : am_T 144 16 = some (0, .aload_n 3, 17, [], .null) := by decide +kernel
theorem t144_17 : am_T 144 17 = some (1, .ifnull 9, 20, [26], .null) := by decide +kernel
theorem t144_20 : am_T 144 20 = some (0, .iload 4, 22, [], .null) := by decide +kernel
theorem t144_22 : am_T 144 22 = some (0, .iconst (-1), 23, [], .int (-1)) := by decide +kernel
theorem t144_23 : am_T 144 23 = some (1, .if_icmp .ne 8, 26, [31], .null) := by decide +kernel
theorem t144_26 : am_T 144 26 = some (0, .ldc 223, 28, [], .int (-1000000)) := by decide +kernel
theorem t144_28 : am_T 144 28 = some (1, .goto 9, 31, [37], .null) := by decide +kernel
theorem t144_31 : am_T 144 31 = some (0, .aload_n 3, 32, [], .null) := by decide +kernel
theorem t144_32 : am_T 144 32 = some (0, .iload 4, 34, [], .null) := by decide +kernel
theorem t144_34 : am_T 144 34 = some (3, .invokevirtual 254, 37, [2, 1, 10], .null) := by decide +kernel
theorem t144_37 : am_T 144 37 = some (4, .ireturn, 38, [0], .null) := by decide +kernel
theorem t145_0 : am_T 145 0 = some (0, .aload_n 0, 1, [], .null) := by decide +kernel
theorem t145_1 : am_T 145 1 = some (2, .getfield 62, 4, [8, 11], .null) := by decide +kernel
theorem t145_4 : am_T 145 4 = some (0, .iload_n 1, 5, [], .null) := by decide +kernel
theorem t145_5 : am_T 145 5 = some (3, .invokevirtual 263, 8, [2, 7, 84], .null) := by decide +kernel
theorem t145_8 : am_T 145 8 = some (0, .istore_n 3, 9, [], .null) := by decide +kernel
theorem t145_9 : am_T 145 9 = some (0, .aload_n 0, 10, [], .null) := by decide +kernel
theorem t145_10 : am_T 145 10 = some (2, .getfield 62, 13, [8, 11], .null) := by decide +kernel
theorem t145_13 : am_T 145 13 = some (0, .iload_n 2, 14, [], .null) := by decide +kernel
theorem t145_14 : am_T 145 14 = some (3, .invokevirtual 263, 17, [2, 7, 84], .null) := by decide +kernel
theorem t145_17 : am_T 145 17 = some (0, .istore 4, 19, [], .null) := by decide +kernel
theorem t145_19 : am_T 145 19 = some (0, .aload_n 0, 20, [], .null) := by decide +kernel
theorem t145_20 : am_T 145 20 = some (2, .getfield 71, 23, [9, 11], .null) := by decide +kernel
theorem t145_23 : am_T 145 23 = some (0, .iload_n 3, 24, [], .null) := by decide +kernel
theorem t145_24 : am_T 145 24 = some (3, .invokevirtual 266, 27, [2, 9, 103], .null) := by decide +kernel
theorem t145_27 : am_T 145 27 = some (1, .ifCond .eq 28, 30, [55], .null) := by decide +kernel
theorem t145_30 : am_T 145 30 = some (0, .aload_n 0, 31, [], .null) := by decide +kernel
theorem t145_31 : am_T 145 31 = some (2, .getfield 71, 34, [9, 11], .null) := by decide +kernel
theorem t145_34 : am_T 145 34 = some (0, .iload 4, 36, [], .null) := by decide +kernel
theorem t145_36 : am_T 145 36 = some (3, .invokevirtual 266, 39, [2, 9, 103], .null) := by decide +kernel
theorem t145_39 : am_T 145 39 = some (1, .ifCond .eq 16, 42, [55], .null) := by decide +kernel
theorem t145_42 : am_T 145 42 = some (0, .aload_n 0, 43, [], .null) := by decide +kernel
theorem t145_43 : am_T 145 43 = some (2, .getfield 83, 46, [11, 11], .null) := by decide +kernel
theorem t145_46 : am_T 145 46 = some (0, .iload_n 3, 47, [], .null) := by decide +kernel
theorem t145_47 : am_T 145 47 = some (0, .iload 4, 49, [], .null) := by decide +kernel
theorem t145_49 : am_T 145 49 = some (3, .invokevirtual 269, 52, [3, 6, 67], .null) := by decide +kernel
theorem t145_52 : am_T 145 52 = some (1, .goto 4, 55, [56], .null) := by decide +kernel
theorem t145_55 : am_T 145 55 = some (0, .iconst (-1), 56, [], .int (-1)) := by decide +kernel
theorem t145_56 : am_T 145 56 = some (4, .ireturn, 57, [0], .null) := by decide +kernel
theorem t146_0 : am_T 146 0 = some (0, .aload_n 0, 1, [], .null) := by decide +kernel
theorem t146_1 : am_T 146 1 = some (0, .iload_n 1, 2, [], .null) := by decide +kernel
theorem t146_2 : am_T 146 2 = some (3, .invokevirtual 247, 5, [2, 11, 130], .null) := by decide +kernel
theorem t146_5 : am_T 146 5 = some (0, .astore 5, 7, [], .null) := by decide +kernel
theorem t146_7 : am_T 146 7 = some (0, .aload 5, 9, [], .null) := by decide +kernel
theorem t146_9 : am_T 146 9 = some (1, .ifnull 18, 12, [27], .null) := by decide +kernel
theorem t146_12 : am_T 146 12 = some (0, .iload_n 2, 13, [], .null) := by decide +kernel
theorem t146_13 : am_T 146 13 = some (3, .invokestatic 204, 16, [1, 132], .null) := by decide +kernel
theorem t146_16 : am_T 146 16 = some (1, .ifCond .eq 11, 19, [27], .null) := by decide +kernel
theorem t146_19 : am_T 146 19 = some (0, .iload 4, 21, [], .null) := by decide +kernel
theorem t146_21 : am_T 146 21 = some (3, .invokestatic 273, 24, [1, 135], .null) := by decide +kernel
theorem t146_24 : am_T 146 24 = some (1, .ifCond .ne 5, 27, [29], .null) := by decide +kernel
theorem t146_27 : am_T 146 27 = some (0, .iconst (-1), 28, [], .int (-1)) := by decide +kernel
theorem t146_28 : am_T 146 28 = some (4, .ireturn, 29, [0], .null) := by decide +kernel
theorem t146_29 : am_T 146 29 = some (0, .aload_n 0, 30, [], .null) := by decide +kernel
theorem t146_30 : am_T 146 30 = some (0, .iload_n 3, 31, [], .null) := by decide +kernel
theorem t146_31 : am_T 146 31 = some (3, .invokevirtual 276, 34, [2, 11, 147], .null) := by decide +kernel
theorem t146_34 : am_T 146 34 = some (0, .aload_n 0, 35, [], .null) := by decide +kernel
theorem t146_35 : am_T 146 35 = some (0, .aload 5, 37, [], .null) := by decide +kernel
theorem t146_37 : am_T 146 37 = some (0, .iload_n 2, 38, [], .null) := by decide +kernel
theorem t146_38 : am_T 146 38 = some (0, .aconst_null, 39, [], .null) := by decide +kernel
theorem t146_39 : am_T 146 39 = some (0, .iconst (-1), 40, [], .int (-1)) := by decide +kernel
theorem t146_40 : am_T 146 40 = some (0, .iload 4, 42, [], .null) := by decide +kernel
theorem t146_42 : am_T 146 42 = some (3, .invokevirtual 280, 45, [6, 11, 148], .null) := by decide +kernel
theorem t146_45 : am_T 146 45 = some (4, .ireturn, 46, [0], .null) := by decide +kernel
theorem t147_0 : am_T 147 0 = some (0, .iload_n 1, 1, [], .null) := by decide +kernel
theorem t147_1 : am_T 147 1 = some (1, .ifCond .eq 14, 4, [15], .null) := by decide +kernel
theorem t147_4 : am_T 147 4 = some (0, .aload_n 0, 5, [], .null) := by decide +kernel
theorem t147_5 : am_T 147 5 = some (2, .getfield 102, 8, [15, 11], .null) := by decide +kernel
theorem t147_8 : am_T 147 8 = some (1, .ifnull 7, 11, [15], .null) := by decide +kernel
theorem t147_11 : am_T 147 11 = some (0, .iconst 1, 12, [], .int (1)) := by decide +kernel
theorem t147_12 : am_T 147 12 = some (1, .goto 4, 15, [16], .null) := by decide +kernel
theorem t147_15 : am_T 147 15 = some (0, .iconst 0, 16, [], .int (0)) := by decide +kernel
theorem t147_16 : am_T 147 16 = some (0, .istore_n 2, 17, [], .null) := by decide +kernel
theorem t147_17 : am_T 147 17 = some (0, .iload_n 2, 18, [], .null) := by decide +kernel
theorem t147_18 : am_T 147 18 = some (1, .ifCond .eq 75, 21, [93], .null) := by decide +kernel
theorem t147_21 : am_T 147 21 = some (0, .iconst 0, 22, [], .int (0)) := by decide +kernel
theorem t147_22 : am_T 147 22 = some (0, .istore_n 3, 23, [], .null) := by decide +kernel
theorem t147_23 : am_T 147 23 = some (0, .iload_n 3, 24, [], .null) := by decide +kernel
theorem t147_24 : am_T 147 24 = some (0, .aload_n 0, 25, [], .null) := by decide +kernel
theorem t147_25 : am_T 147 25 = some (2, .getfield 62, 28, [8, 11], .null) := by decide +kernel
theorem t147_28 : am_T 147 28 = some (3, .invokevirtual 199, 31, [1, 7, 74], .null) := by decide +kernel
theorem t147_31 : am_T 147 31 = some (1, .if_icmp .ge 62, 34, [93], .null) := by decide +kernel
theorem t147_34 : am_T 147 34 = some (0, .iconst 1, 35, [], .int (1)) := by decide +kernel
theorem t147_35 : am_T 147 35 = some (0, .istore 4, 37, [], .null) := by decide +kernel
theorem t147_37 : am_T 147 37 = some (0, .iload 4, 39, [], .null) := by decide +kernel
theorem t147_39 : am_T 147 39 = some (0, .iconst 2, 40, [], .int (2)) := by decide +kernel
theorem t147_40 : am_T 147 40 = some (1, .if_icmp .gt 47, 43, [87], .null) := by decide +kernel
theorem t147_43 : am_T 147 43 = some (0, .aload_n 0, 44, [], .null) := by decide +kernel
theorem t147_44 : am_T 147 44 = some (2, .getfield 83, 47, [11, 11], .null) := by decide +kernel
theorem t147_47 : am_T 147 47 = some (0, .iload_n 3, 48, [], .null) := by decide +kernel
theorem t147_48 : am_T 147 48 = some (0, .iload 4, 50, [], .null) := by decide +kernel
theorem t147_50 : am_T 147 50 = some (0, .aload_n 0, 51, [], .null) := by decide +kernel
theorem t147_51 : am_T 147 51 = some (2, .getfield 42, 54, [4, 11], .null) := by decide +kernel
theorem t147_54 : am_T 147 54 = some (0, .aload_n 0, 55, [], .null) := by decide +kernel
theorem t147_55 : am_T 147 55 = some (2, .getfield 102, 58, [15, 11], .null) := by decide +kernel
theorem t147_58 : am_T 147 58 = some (0, .iload_n 3, 59, [], .null) := by decide +kernel
theorem t147_59 : am_T 147 59 = some (0, .aload_n 0, 60, [], .null) := by decide +kernel
theorem t147_60 : am_T 147 60 = some (2, .getfield 71, 63, [9, 11], .null) := by decide +kernel
theorem t147_63 : am_T 147 63 = some (3, .invokevirtual 224, 66, [1, 9, 97], .null) := by decide +kernel
theorem t147_66 : am_T 147 66 = some (0, .iload 4, 68, [], .null) := by decide +kernel
theorem t147_68 : am_T 147 68 = some (0, .aload_n 0, 69, [], .null) := by decide +kernel
theorem t147_69 : am_T 147 69 = some (2, .getfield 62, 72, [8, 11], .null) := by decide +kernel
theorem t147_72 : am_T 147 72 = some (3, .invokevirtual 199, 75, [1, 7, 74], .null) := by decide +kernel
theorem t147_75 : am_T 147 75 = some (3, .invokevirtual 227, 78, [6, 3, 18], .null) := by decide +kernel
theorem t147_78 : am_T 147 78 = some (3, .invokevirtual 284, 81, [4, 6, 63], .null) := by decide +kernel
theorem t147_81 : am_T 147 81 = some (0, .iinc 4 1, 84, [], .int (1)) := by decide +kernel
theorem t147_84 : am_T 147 84 = some (1, .goto (-47), 87, [37], .null) := by decide +kernel
theorem t147_87 : am_T 147 87 = some (0, .iinc 3 1, 90, [], .int (1)) := by decide +kernel
theorem t147_90 : am_T 147 90 = some (1, .goto (-67), 93, [23], .null) := by decide +kernel
theorem t147_93 : am_T 147 93 = some (0, .aload_n 0, 94, [], .null) := by decide +kernel
theorem t147_94 : am_T 147 94 = some (2, .getfield 83, 97, [11, 11], .null) := by decide +kernel
theorem t147_97 : am_T 147 97 = some (0, .aload_n 0, 98, [], .null) := by decide +kernel
theorem t147_98 : am_T 147 98 = some (2, .getfield 71, 101, [9, 11], .null) := by decide +kernel
theorem t147_101 : am_T 147 101 = some (3, .invokevirtual 237, 104, [1, 9, 96], .null) := by decide +kernel
theorem t147_104 : am_T 147 104 = some (0, .iload_n 2, 105, [], .null) := by decide +kernel
theorem t147_105 : am_T 147 105 = some (3, .invokevirtual 287, 108, [3, 6, 64], .null) := by decide +kernel
theorem t147_108 : am_T 147 108 = some (4, .return_, 109, [], .null) := by decide +kernel
theorem t148_0 : am_T 148 0 = some (0, .iconst (-1), 1, [], .int (-1)) := by decide +kernel
theorem t148_1 : am_T 148 1 = some (0, .istore 6, 3, [], .null) := by decide +kernel
theorem t148_3 : am_T 148 3 = some (0, .bipush 15, 5, [], .int (15)) := by decide +kernel
theorem t148_5 : am_T 148 5 = some (0, .istore 7, 7, [], .null) := by decide +kernel
theorem t148_7 : am_T 148 7 = some (0, .iconst 0, 8, [], .int (0)) := by decide +kernel
theorem t148_8 : am_T 148 8 = some (0, .istore 8, 10, [], .null) := by decide +kernel
theorem t148_10 : am_T 148 10 = some (0, .iload 8, 12, [], .null) := by decide +kernel
theorem t148_12 : am_T 148 12 = some (0, .aload_n 0, 13, [], .null) := by decide +kernel
theorem t148_13 : am_T 148 13 = some (2, .getfield 62, 16, [8, 11], .null) := by decide +kernel
theorem t148_16 : am_T 148 16 = some (3, .invokevirtual 291, 19, [1, 7, 76], .null) := by decide +kernel
theorem t148_19 : am_T 148 19 = some (1, .if_icmp .ge 75, 22, [94], .null) := by decide +kernel
theorem t148_22 : am_T 148 22 = some (0, .aload_n 1, 23, [], .null) := by decide +kernel
theorem t148_23 : am_T 148 23 = some (0, .iload 8, 25, [], .null) := by decide +kernel
theorem t148_25 : am_T 148 25 = some (3, .invokevirtual 254, 28, [2, 1, 10], .null) := by decide +kernel
theorem t148_28 : am_T 148 28 = some (0, .iload_n 2, 29, [], .null) := by decide +kernel
theorem t148_29 : am_T 148 29 = some (1, .if_icmp .ne 22, 32, [51], .null) := by decide +kernel
theorem t148_32 : am_T 148 32 = some (0, .aload_n 3, 33, [], .null) := by decide +kernel
theorem t148_33 : am_T 148 33 = some (1, .ifnull 14, 36, [47], .null) := by decide +kernel
theorem t148_36 : am_T 148 36 = some (0, .aload_n 3, 37, [], .null) := by decide +kernel
theorem t148_37 : am_T 148 37 = some (0, .iload 8, 39, [], .null) := by decide +kernel
theorem t148_39 : am_T 148 39 = some (3, .invokevirtual 254, 42, [2, 1, 10], .null) := by decide +kernel
theorem t148_42 : am_T 148 42 = some (0, .iload 4, 44, [], .null) := by decide +kernel
theorem t148_44 : am_T 148 44 = some (1, .if_icmp .ne 7, 47, [51], .null) := by decide +kernel
theorem t148_47 : am_T 148 47 = some (0, .iconst 1, 48, [], .int (1)) := by decide +kernel
theorem t148_48 : am_T 148 48 = some (1, .goto 4, 51, [52], .null) := by decide +kernel
theorem t148_51 : am_T 148 51 = some (0, .iconst 0, 52, [], .int (0)) := by decide +kernel
theorem t148_52 : am_T 148 52 = some (0, .istore 9, 54, [], .null) := by decide +kernel
theorem t148_54 : am_T 148 54 = some (0, .iload 9, 56, [], .null) := by decide +kernel
theorem t148_56 : am_T 148 56 = some (1, .ifCond .eq 32, 59, [88], .null) := by decide +kernel
theorem t148_59 : am_T 148 59 = some (0, .aload_n 0, 60, [], .null) := by decide +kernel
theorem t148_60 : am_T 148 60 = some (2, .getfield 83, 63, [11, 11], .null) := by decide +kernel
theorem t148_63 : am_T 148 63 = some (0, .iload 8, 65, [], .null) := by decide +kernel
theorem t148_65 : am_T 148 65 = some (3, .invokevirtual 294, 68, [2, 6, 66], .null) := by decide +kernel
theorem t148_68 : am_T 148 68 = some (0, .iload 7, 70, [], .null) := by decide +kernel
theorem t148_70 : am_T 148 70 = some (1, .if_icmp .ge 18, 73, [88], .null) := by decide +kernel
theorem t148_73 : am_T 148 73 = some (0, .iload 8, 75, [], .null) := by decide +kernel
theorem t148_75 : am_T 148 75 = some (0, .istore 6, 77, [], .null) := by decide +kernel
theorem t148_77 : am_T 148 77 = some (0, .aload_n 0, 78, [], .null) := by decide +kernel
theorem t148_78 : am_T 148 78 = some (2, .getfield 83, 81, [11, 11], .null) := by decide +kernel
theorem t148_81 : am_T 148 81 = some (0, .iload 8, 83, [], .null) := by decide +kernel
theorem t148_83 : am_T 148 83 = some (3, .invokevirtual 294, 86, [2, 6, 66], .null) := by decide +kernel
theorem t148_86 : am_T 148 86 = some (0, .istore 7, 88, [], .null) := by decide +kernel
theorem t148_88 : am_T 148 88 = some (0, .iinc 8 1, 91, [], .int (1)) := by decide +kernel
theorem t148_91 : am_T 148 91 = some (1, .goto (-81), 94, [10], .null) := by decide +kernel
theorem t148_94 : am_T 148 94 = some (0, .iload 6, 96, [], .null) := by decide +kernel
theorem t148_96 : am_T 148 96 = some (0, .iconst (-1), 97, [], .int (-1)) := by decide +kernel
theorem t148_97 : am_T 148 97 = some (1, .if_icmp .ne 5, 100, [102], .null) := by decide +kernel
theorem t148_100 : am_T 148 100 = some (0, .iconst (-1), 101, [], .int (-1)) := by decide +kernel
theorem t148_101 : am_T 148 101 = some (4, .ireturn, 102, [0], .null) := by decide +kernel
theorem t148_102 : am_T 148 102 = some (0, .iload 5, 104, [], .null) := by decide +kernel
theorem t148_104 : am_T 148 104 = some (1, .ifCond .ne 8, 107, [112], .null) := by decide +kernel
theorem t148_107 : am_T 148 107 = some (0, .iload 7, 109, [], .null) := by decide +kernel
theorem t148_109 : am_T 148 109 = some (1, .goto 12, 112, [121], .null) := by decide +kernel
theorem t148_112 : am_T 148 112 = some (0, .aload_n 0, 113, [], .null) := by decide +kernel
theorem t148_113 : am_T 148 113 = some (2, .getfield 62, 116, [8, 11], .null) := by decide +kernel
theorem t148_116 : am_T 148 116 = some (0, .iload 6, 118, [], .null) := by decide +kernel
theorem t148_118 : am_T 148 118 = some (3, .invokevirtual 297, 121, [2, 7, 85], .null) := by decide +kernel
theorem t148_121 : am_T 148 121 = some (4, .ireturn, 122, [0], .null) := by decide +kernel
theorem t149_0 : am_T 149 0 = some (0, .aload_n 0, 1, [], .null) := by decide +kernel
theorem t149_1 : am_T 149 1 = some (0, .iload_n 1, 2, [], .null) := by decide +kernel
theorem t149_2 : am_T 149 2 = some (3, .invokevirtual 247, 5, [2, 11, 130], .null) := by decide +kernel
theorem t149_5 : am_T 149 5 = some (0, .astore_n 2, 6, [], .null) := by decide +kernel
theorem t149_6 : am_T 149 6 = some (0, .aload_n 2, 7, [], .null) := by decide +kernel
theorem t149_7 : am_T 149 7 = some (1, .ifnonnull 7, 10, [14], .null) := by decide +kernel
theorem t149_10 : am_T 149 10 = some (0, .iconst (-1), 11, [], .int (-1)) := by decide +kernel
theorem t149_11 : am_T 149 11 = some (1, .goto 8, 14, [19], .null) := by decide +kernel
theorem t149_14 : am_T 149 14 = some (0, .aload_n 0, 15, [], .null) := by decide +kernel
theorem t149_15 : am_T 149 15 = some (0, .aload_n 2, 16, [], .null) := by decide +kernel
theorem t149_16 : am_T 149 16 = some (3, .invokevirtual 300, 19, [2, 11, 150], .null) := by decide +kernel
theorem t149_19 : am_T 149 19 = some (4, .ireturn, 20, [0], .null) := by decide +kernel
theorem t150_0 : am_T 150 0 = some (0, .iconst 0, 1, [], .int (0)) := by decide +kernel
theorem t150_1 : am_T 150 1 = some (0, .istore_n 2, 2, [], .null) := by decide +kernel
theorem t150_2 : am_T 150 2 = some (0, .iconst 0, 3, [], .int (0)) := by decide +kernel
theorem t150_3 : am_T 150 3 = some (0, .istore_n 3, 4, [], .null) := by decide +kernel
theorem t150_4 : am_T 150 4 = some (0, .iload_n 3, 5, [], .null) := by decide +kernel
theorem t150_5 : am_T 150 5 = some (0, .aload_n 0, 6, [], .null) := by decide +kernel
theorem t150_6 : am_T 150 6 = some (2, .getfield 62, 9, [8, 11], .null) := by decide +kernel
theorem t150_9 : am_T 150 9 = some (3, .invokevirtual 291, 12, [1, 7, 76], .null) := by decide +kernel
theorem t150_12 : am_T 150 12 = some (1, .if_icmp .ge 40, 15, [52], .null) := by decide +kernel
theorem t150_15 : am_T 150 15 = some (0, .aload_n 1, 16, [], .null) := by decide +kernel
theorem t150_16 : am_T 150 16 = some (0, .iload_n 3, 17, [], .null) := by decide +kernel
theorem t150_17 : am_T 150 17 = some (3, .invokevirtual 254, 20, [2, 1, 10], .null) := by decide +kernel
theorem t150_20 : am_T 150 20 = some (0, .istore 4, 22, [], .null) := by decide +kernel
theorem t150_22 : am_T 150 22 = some (0, .iload 4, 24, [], .null) := by decide +kernel
theorem t150_24 : am_T 150 24 = some (0, .iconst (-1), 25, [], .int (-1)) := by decide +kernel
theorem t150_25 : am_T 150 25 = some (1, .if_icmp .eq 21, 28, [46], .null) := by decide +kernel
theorem t150_28 : am_T 150 28 = some (0, .aload_n 0, 29, [], .null) := by decide +kernel
theorem t150_29 : am_T 150 29 = some (2, .getfield 71, 32, [9, 11], .null) := by decide +kernel
theorem t150_32 : am_T 150 32 = some (0, .iload_n 3, 33, [], .null) := by decide +kernel
theorem t150_33 : am_T 150 33 = some (3, .invokevirtual 266, 36, [2, 9, 103], .null) := by decide +kernel
theorem t150_36 : am_T 150 36 = some (1, .ifCond .eq 10, 39, [46], .null) := by decide +kernel
theorem t150_39 : am_T 150 39 = some (0, .iload_n 2, 40, [], .null) := by decide +kernel
theorem t150_40 : am_T 150 40 = some (0, .iconst 1, 41, [], .int (1)) := by decide +kernel
theorem t150_41 : am_T 150 41 = some (0, .iload 4, 43, [], .null) := by decide +kernel
theorem t150_43 : am_T 150 43 = some (0, .ishl, 44, [], .null) := by decide +kernel
theorem t150_44 : am_T 150 44 = some (0, .ior, 45, [], .null) := by decide +kernel
theorem t150_45 : am_T 150 45 = some (0, .istore_n 2, 46, [], .null) := by decide +kernel
theorem t150_46 : am_T 150 46 = some (0, .iinc 3 1, 49, [], .int (1)) := by decide +kernel
theorem t150_49 : am_T 150 49 = some (1, .goto (-45), 52, [4], .null) := by decide +kernel
theorem t150_52 : am_T 150 52 = some (0, .iload_n 2, 53, [], .null) := by decide +kernel
theorem t150_53 : am_T 150 53 = some (4, .ireturn, 54, [0], .null) := by decide +kernel
theorem t151_0 : am_T 151 0 = some (0, .aload_n 0, 1, [], .null) := by decide +kernel
theorem t151_1 : am_T 151 1 = some (0, .iload_n 1, 2, [], .null) := by decide +kernel
theorem t151_2 : am_T 151 2 = some (3, .invokevirtual 247, 5, [2, 11, 130], .null) := by decide +kernel
theorem t151_5 : am_T 151 5 = some (0, .astore 4, 7, [], .null) := by decide +kernel
theorem t151_7 : am_T 151 7 = some (0, .aload_n 0, 8, [], .null) := by decide +kernel
theorem t151_8 : am_T 151 8 = some (0, .iload_n 2, 9, [], .null) := by decide +kernel
theorem t151_9 : am_T 151 9 = some (3, .invokevirtual 304, 12, [2, 11, 131], .null) := by decide +kernel
theorem t151_12 : am_T 151 12 = some (0, .astore 5, 14, [], .null) := by decide +kernel
theorem t151_14 : am_T 151 14 = some (0, .aload 4, 16, [], .null) := by decide +kernel
theorem t151_16 : am_T 151 16 = some (1, .ifnull 15, 19, [31], .null) := by decide +kernel
theorem t151_19 : am_T 151 19 = some (0, .aload 5, 21, [], .null) := by decide +kernel
theorem t151_21 : am_T 151 21 = some (1, .ifnull 10, 24, [31], .null) := by decide +kernel
theorem t151_24 : am_T 151 24 = some (0, .iload_n 3, 25, [], .null) := by decide +kernel
theorem t151_25 : am_T 151 25 = some (3, .invokestatic 273, 28, [1, 135], .null) := by decide +kernel
theorem t151_28 : am_T 151 28 = some (1, .ifCond .ne 5, 31, [33], .null) := by decide +kernel
theorem t151_31 : am_T 151 31 = some (0, .iconst (-1), 32, [], .int (-1)) := by decide +kernel
theorem t151_32 : am_T 151 32 = some (4, .ireturn, 33, [0], .null) := by decide +kernel
theorem t151_33 : am_T 151 33 = some (0, .aload_n 0, 34, [], .null) := by decide +kernel
theorem t151_34 : am_T 151 34 = some (2, .getfield 92, 37, [12, 11], .null) := by decide +kernel
theorem t151_37 : am_T 151 37 = some (0, .aload 4, 39, [], .null) := by decide +kernel
theorem t151_39 : am_T 151 39 = some (0, .aload 5, 41, [], .null) := by decide +kernel
theorem t151_41 : am_T 151 41 = some (0, .iload_n 3, 42, [], .null) := by decide +kernel
theorem t151_42 : am_T 151 42 = some (3, .invokevirtual 308, 45, [4, 5, 42], .null) := by decide +kernel
theorem t151_45 : am_T 151 45 = some (4, .ireturn, 46, [0], .null) := by decide +kernel
theorem t152_0 : am_T 152 0 = some (0, .aload_n 0, 1, [], .null) := by decide +kernel
theorem t152_1 : am_T 152 1 = some (0, .iload_n 1, 2, [], .null) := by decide +kernel
theorem t152_2 : am_T 152 2 = some (3, .invokevirtual 247, 5, [2, 11, 130], .null) := by decide +kernel
theorem t152_5 : am_T 152 5 = some (0, .astore_n 3, 6, [], .null) := by decide +kernel
theorem t152_6 : am_T 152 6 = some (0, .aload_n 0, 7, [], .null) := by decide +kernel
theorem t152_7 : am_T 152 7 = some (0, .iload_n 2, 8, [], .null) := by decide +kernel
theorem t152_8 : am_T 152 8 = some (3, .invokevirtual 304, 11, [2, 11, 131], .null) := by decide +kernel
theorem t152_11 : am_T 152 11 = some (0, .astore 4, 13, [], .null) := by decide +kernel
theorem t152_13 : am_T 152 13 = some (0, .aload_n 3, 14, [], .null) := by decide +kernel
theorem t152_14 : am_T 152 14 = some (1, .ifnull 8, 17, [22], .null) := by decide +kernel
theorem t152_17 : am_T 152 17 = some (0, .aload 4, 19, [], .null) := by decide +kernel
theorem t152_19 : am_T 152 19 = some (1, .ifnonnull 7, 22, [26], .null) := by decide +kernel
theorem t152_22 : am_T 152 22 = some (0, .iconst (-1), 23, [], .int (-1)) := by decide +kernel
theorem t152_23 : am_T 152 23 = some (1, .goto 13, 26, [36], .null) := by decide +kernel
theorem t152_26 : am_T 152 26 = some (0, .aload_n 0, 27, [], .null) := by decide +kernel
theorem t152_27 : am_T 152 27 = some (2, .getfield 92, 30, [12, 11], .null) := by decide +kernel
theorem t152_30 : am_T 152 30 = some (0, .aload_n 3, 31, [], .null) := by decide +kernel
theorem t152_31 : am_T 152 31 = some (0, .aload 4, 33, [], .null) := by decide +kernel
theorem t152_33 : am_T 152 33 = some (3, .invokevirtual 312, 36, [3, 5, 44], .null) := by decide +kernel
theorem t152_36 : am_T 152 36 = some (4, .ireturn, 37, [0], .null) := by decide +kernel
theorem t153_0 : am_T 153 0 = some (0, .aload_n 0, 1, [], .null) := by decide +kernel
theorem t153_1 : am_T 153 1 = some (0, .iload_n 1, 2, [], .null) := by decide +kernel
theorem t153_2 : am_T 153 2 = some (3, .invokevirtual 247, 5, [2, 11, 130], .null) := by decide +kernel
theorem t153_5 : am_T 153 5 = some (0, .astore 4, 7, [], .null) := by decide +kernel
theorem t153_7 : am_T 153 7 = some (0, .aload 4, 9, [], .null) := by decide +kernel
theorem t153_9 : am_T 153 9 = some (1, .ifnull 17, 12, [26], .null) := by decide +kernel
theorem t153_12 : am_T 153 12 = some (0, .iload_n 2, 13, [], .null) := by decide +kernel
theorem t153_13 : am_T 153 13 = some (3, .invokestatic 316, 16, [1, 133], .null) := by decide +kernel
theorem t153_16 : am_T 153 16 = some (1, .ifCond .eq 10, 19, [26], .null) := by decide +kernel
theorem t153_19 : am_T 153 19 = some (0, .iload_n 3, 20, [], .null) := by decide +kernel
theorem t153_20 : am_T 153 20 = some (3, .invokestatic 273, 23, [1, 135], .null) := by decide +kernel
theorem t153_23 : am_T 153 23 = some (1, .ifCond .ne 6, 26, [29], .null) := by decide +kernel
theorem t153_26 : am_T 153 26 = some (0, .ldc 223, 28, [], .int (-1000000)) := by decide +kernel
theorem t153_28 : am_T 153 28 = some (4, .ireturn, 29, [0], .null) := by decide +kernel
theorem t153_29 : am_T 153 29 = some (0, .iconst 1, 30, [], .int (1)) := by decide +kernel
theorem t153_30 : am_T 153 30 = some (0, .istore 5, 32, [], .null) := by decide +kernel
theorem t153_32 : am_T 153 32 = some (0, .aload 4, 34, [], .null) := by decide +kernel
theorem t153_34 : am_T 153 34 = some (0, .aload_n 0, 35, [], .null) := by decide +kernel
theorem t153_35 : am_T 153 35 = some (2, .getfield 71, 38, [9, 11], .null) := by decide +kernel
theorem t153_38 : am_T 153 38 = some (3, .invokevirtual 237, 41, [1, 9, 96], .null) := by decide +kernel
theorem t153_41 : am_T 153 41 = some (3, .invokevirtual 254, 44, [2, 1, 10], .null) := by decide +kernel
theorem t153_44 : am_T 153 44 = some (0, .iload_n 2, 45, [], .null) := by decide +kernel
theorem t153_45 : am_T 153 45 = some (1, .if_icmp .ne 7, 48, [52], .null) := by decide +kernel
theorem t153_48 : am_T 153 48 = some (0, .iconst 1, 49, [], .int (1)) := by decide +kernel
theorem t153_49 : am_T 153 49 = some (1, .goto 4, 52, [53], .null) := by decide +kernel
theorem t153_52 : am_T 153 52 = some (0, .iconst 0, 53, [], .int (0)) := by decide +kernel
theorem t153_53 : am_T 153 53 = some (0, .istore 6, 55, [], .null) := by decide +kernel
theorem t153_55 : am_T 153 55 = some (0, .iconst 0, 56, [], .int (0)) := by decide +kernel
theorem t153_56 : am_T 153 56 = some (0, .istore 7, 58, [], .null) := by decide +kernel
theorem t153_58 : am_T 153 58 = some (0, .iload 7, 60, [], .null) := by decide +kernel
theorem t153_60 : am_T 153 60 = some (0, .aload_n 0, 61, [], .null) := by decide +kernel
theorem t153_61 : am_T 153 61 = some (2, .getfield 62, 64, [8, 11], .null) := by decide +kernel
theorem t153_64 : am_T 153 64 = some (0, .aload_n 0, 65, [], .null) := by decide +kernel
theorem t153_65 : am_T 153 65 = some (2, .getfield 71, 68, [9, 11], .null) := by decide +kernel
theorem t153_68 : am_T 153 68 = some (3, .invokevirtual 237, 71, [1, 9, 96], .null) := by decide +kernel
theorem t153_71 : am_T 153 71 = some (3, .invokevirtual 319, 74, [2, 7, 81], .null) := by decide +kernel
theorem t153_74 : am_T 153 74 = some (1, .if_icmp .ge 63, 77, [137], .null) := by decide +kernel
theorem t153_77 : am_T 153 77 = some (0, .aload_n 0, 78, [], .null) := by decide +kernel
theorem t153_78 : am_T 153 78 = some (2, .getfield 62, 81, [8, 11], .null) := by decide +kernel
theorem t153_81 : am_T 153 81 = some (0, .aload_n 0, 82, [], .null) := by decide +kernel
theorem t153_82 : am_T 153 82 = some (2, .getfield 71, 85, [9, 11], .null) := by decide +kernel
theorem t153_85 : am_T 153 85 = some (3, .invokevirtual 237, 88, [1, 9, 96], .null) := by decide +kernel
theorem t153_88 : am_T 153 88 = some (0, .iload 7, 90, [], .null) := by decide +kernel
theorem t153_90 : am_T 153 90 = some (3, .invokevirtual 322, 93, [3, 7, 82], .null) := by decide +kernel
theorem t153_93 : am_T 153 93 = some (0, .istore 8, 95, [], .null) := by decide +kernel
theorem t153_95 : am_T 153 95 = some (0, .aload_n 0, 96, [], .null) := by decide +kernel
theorem t153_96 : am_T 153 96 = some (2, .getfield 71, 99, [9, 11], .null) := by decide +kernel
theorem t153_99 : am_T 153 99 = some (0, .iload 8, 101, [], .null) := by decide +kernel
theorem t153_101 : am_T 153 101 = some (3, .invokevirtual 266, 104, [2, 9, 103], .null) := by decide +kernel
theorem t153_104 : am_T 153 104 = some (1, .ifCond .eq 27, 107, [131], .null) := by decide +kernel
theorem t153_107 : am_T 153 107 = some (0, .iinc 5 1, 110, [], .int (1)) := by decide +kernel
theorem t153_110 : am_T 153 110 = some (0, .iload 6, 112, [], .null) := by decide +kernel
theorem t153_112 : am_T 153 112 = some (0, .aload 4, 114, [], .null) := by decide +kernel
theorem t153_114 : am_T 153 114 = some (0, .iload 8, 116, [], .null) := by decide +kernel
theorem t153_116 : am_T 153 116 = some (3, .invokevirtual 254, 119, [2, 1, 10], .null) := by decide +kernel
theorem t153_119 : am_T 153 119 = some (0, .iload_n 2, 120, [], .null) := by decide +kernel
theorem t153_120 : am_T 153 120 = some (1, .if_icmp .ne 7, 123, [127], .null) := by decide +kernel
theorem t153_123 : am_T 153 123 = some (0, .iconst 1, 124, [], .int (1)) := by decide +kernel
theorem t153_124 : am_T 153 124 = some (1, .goto 4, 127, [128], .null) := by decide +kernel
theorem t153_127 : am_T 153 127 = some (0, .iconst 0, 128, [], .int (0)) := by decide +kernel
theorem t153_128 : am_T 153 128 = some (0, .iadd, 129, [], .null) := by decide +kernel
theorem t153_129 : am_T 153 129 = some (0, .istore 6, 131, [], .null) := by decide +kernel
theorem t153_131 : am_T 153 131 = some (0, .iinc 7 1, 134, [], .int (1)) := by decide +kernel
theorem t153_134 : am_T 153 134 = some (1, .goto (-76), 137, [58], .null) := by decide +kernel
theorem t153_137 : am_T 153 137 = some (0, .iload_n 3, 138, [], .null) := by decide +kernel
theorem t153_138 : am_T 153 138 = some (1, .ifCond .ne 8, 141, [146], .null) := by decide +kernel
theorem t153_141 : am_T 153 141 = some (0, .iload 6, 143, [], .null) := by decide +kernel
theorem t153_143 : am_T 153 143 = some (1, .goto 5, 146, [148], .null) := by decide +kernel
theorem t153_146 : am_T 153 146 = some (0, .iload 5, 148, [], .null) := by decide +kernel
theorem t153_148 : am_T 153 148 = some (4, .ireturn, 149, [0], .null) := by decide +kernel
theorem t154_0 : am_T 154 0 = some (0, .aload_n 0, 1, [], .null) := by decide +kernel
theorem t154_1 : am_T 154 1 = some (0, .iload_n 1, 2, [], .null) := by decide +kernel
theorem t154_2 : am_T 154 2 = some (3, .invokevirtual 247, 5, [2, 11, 130], .null) := by decide +kernel
theorem t154_5 : am_T 154 5 = some (0, .astore 4, 7, [], .null) := by decide +kernel
theorem t154_7 : am_T 154 7 = some (0, .aload 4, 9, [], .null) := by decide +kernel
theorem t154_9 : am_T 154 9 = some (1, .ifnull 15, 12, [24], .null) := by decide +kernel
theorem t154_12 : am_T 154 12 = some (0, .iload_n 2, 13, [], .null) := by decide +kernel
theorem t154_13 : am_T 154 13 = some (3, .invokestatic 204, 16, [1, 132], .null) := by decide +kernel
theorem t154_16 : am_T 154 16 = some (1, .ifCond .eq 8, 19, [24], .null) := by decide +kernel
theorem t154_19 : am_T 154 19 = some (0, .iload_n 3, 20, [], .null) := by decide +kernel
theorem t154_20 : am_T 154 20 = some (0, .iconst (-1), 21, [], .int (-1)) := by decide +kernel
theorem t154_21 : am_T 154 21 = some (1, .if_icmp .ge 5, 24, [26], .null) := by decide +kernel
theorem t154_24 : am_T 154 24 = some (0, .iconst (-1), 25, [], .int (-1)) := by decide +kernel
theorem t154_25 : am_T 154 25 = some (4, .ireturn, 26, [0], .null) := by decide +kernel
theorem t154_26 : am_T 154 26 = some (0, .iconst 0, 27, [], .int (0)) := by decide +kernel
theorem t154_27 : am_T 154 27 = some (0, .istore 5, 29, [], .null) := by decide +kernel
theorem t154_29 : am_T 154 29 = some (0, .iconst 0, 30, [], .int (0)) := by decide +kernel
theorem t154_30 : am_T 154 30 = some (0, .istore 6, 32, [], .null) := by decide +kernel
theorem t154_32 : am_T 154 32 = some (0, .iload 6, 34, [], .null) := by decide +kernel
theorem t154_34 : am_T 154 34 = some (0, .aload_n 0, 35, [], .null) := by decide +kernel
theorem t154_35 : am_T 154 35 = some (2, .getfield 62, 38, [8, 11], .null) := by decide +kernel
theorem t154_38 : am_T 154 38 = some (3, .invokevirtual 291, 41, [1, 7, 76], .null) := by decide +kernel
theorem t154_41 : am_T 154 41 = some (1, .if_icmp .ge 63, 44, [104], .null) := by decide +kernel
theorem t154_44 : am_T 154 44 = some (0, .aload_n 0, 45, [], .null) := by decide +kernel
theorem t154_45 : am_T 154 45 = some (2, .getfield 71, 48, [9, 11], .null) := by decide +kernel
theorem t154_48 : am_T 154 48 = some (0, .iload 6, 50, [], .null) := by decide +kernel
theorem t154_50 : am_T 154 50 = some (3, .invokevirtual 266, 53, [2, 9, 103], .null) := by decide +kernel
theorem t154_53 : am_T 154 53 = some (1, .ifCond .eq 45, 56, [98], .null) := by decide +kernel
theorem t154_56 : am_T 154 56 = some (0, .aload 4, 58, [], .null) := by decide +kernel
theorem t154_58 : am_T 154 58 = some (0, .iload 6, 60, [], .null) := by decide +kernel
theorem t154_60 : am_T 154 60 = some (3, .invokevirtual 254, 63, [2, 1, 10], .null) := by decide +kernel
theorem t154_63 : am_T 154 63 = some (0, .iload_n 2, 64, [], .null) := by decide +kernel
theorem t154_64 : am_T 154 64 = some (1, .if_icmp .ne 34, 67, [98], .null) := by decide +kernel
theorem t154_67 : am_T 154 67 = some (0, .aload_n 0, 68, [], .null) := by decide +kernel
theorem t154_68 : am_T 154 68 = some (0, .aload 4, 70, [], .null) := by decide +kernel
theorem t154_70 : am_T 154 70 = some (0, .iload 6, 72, [], .null) := by decide +kernel
theorem t154_72 : am_T 154 72 = some (0, .iload_n 2, 73, [], .null) := by decide +kernel
theorem t154_73 : am_T 154 73 = some (3, .invokevirtual 325, 76, [4, 11, 155], .null) := by decide +kernel
theorem t154_76 : am_T 154 76 = some (1, .ifCond .eq 22, 79, [98], .null) := by decide +kernel
theorem t154_79 : am_T 154 79 = some (0, .iload 5, 81, [], .null) := by decide +kernel
theorem t154_81 : am_T 154 81 = some (0, .iload_n 3, 82, [], .null) := by decide +kernel
theorem t154_82 : am_T 154 82 = some (1, .if_icmp .ne 13, 85, [95], .null) := by decide +kernel
theorem t154_85 : am_T 154 85 = some (0, .aload_n 0, 86, [], .null) := by decide +kernel
theorem t154_86 : am_T 154 86 = some (2, .getfield 62, 89, [8, 11], .null) := by decide +kernel
theorem t154_89 : am_T 154 89 = some (0, .iload 6, 91, [], .null) := by decide +kernel
theorem t154_91 : am_T 154 91 = some (3, .invokevirtual 297, 94, [2, 7, 85], .null) := by decide +kernel
theorem t154_94 : am_T 154 94 = some (4, .ireturn, 95, [0], .null) := by decide +kernel
theorem t154_95 : am_T 154 95 = some (0, .iinc 5 1, 98, [], .int (1)) := by decide +kernel
theorem t154_98 : am_T 154 98 = some (0, .iinc 6 1, 101, [], .int (1)) := by decide +kernel
theorem t154_101 : am_T 154 101 = some (1, .goto (-69), 104, [32], .null) := by decide +kernel
theorem t154_104 : am_T 154 104 = some (0, .iload_n 3, 105, [], .null) := by decide +kernel
theorem t154_105 : am_T 154 105 = some (0, .iconst (-1), 106, [], .int (-1)) := by decide +kernel
theorem t154_106 : am_T 154 106 = some (1, .if_icmp .ne 8, 109, [114], .null) := by decide +kernel
theorem t154_109 : am_T 154 109 = some (0, .iload 5, 111, [], .null) := by decide +kernel
theorem t154_111 : am_T 154 111 = some (1, .goto 4, 114, [115], .null) := by decide +kernel
theorem t154_114 : am_T 154 114 = some (0, .iconst (-1), 115, [], .int (-1)) := by decide +kernel
theorem t154_115 : am_T 154 115 = some (4, .ireturn, 116, [0], .null) := by decide +kernel
theorem t155_0 : am_T 155 0 = some (0, .iconst 0, 1, [], .int (0)) := by decide +kernel
theorem t155_1 : am_T 155 1 = some (0, .istore 4, 3, [], .null) := by decide +kernel
theorem t155_3 : am_T 155 3 = some (0, .iload 4, 5, [], .null) := by decide +kernel
theorem t155_5 : am_T 155 5 = some (0, .aload_n 0, 6, [], .null) := by decide +kernel
theorem t155_6 : am_T 155 6 = some (2, .getfield 62, 9, [8, 11], .null) := by decide +kernel
theorem t155_9 : am_T 155 9 = some (0, .iload_n 2, 10, [], .null) := by decide +kernel
theorem t155_10 : am_T 155 10 = some (3, .invokevirtual 319, 13, [2, 7, 81], .null) := by decide +kernel
theorem t155_13 : am_T 155 13 = some (1, .if_icmp .ge 55, 16, [68], .null) := by decide +kernel
theorem t155_16 : am_T 155 16 = some (0, .aload_n 0, 17, [], .null) := by decide +kernel
theorem t155_17 : am_T 155 17 = some (2, .getfield 62, 20, [8, 11], .null) := by decide +kernel
theorem t155_20 : am_T 155 20 = some (0, .iload_n 2, 21, [], .null) := by decide +kernel
theorem t155_21 : am_T 155 21 = some (0, .iload 4, 23, [], .null) := by decide +kernel
theorem t155_23 : am_T 155 23 = some (3, .invokevirtual 322, 26, [3, 7, 82], .null) := by decide +kernel
theorem t155_26 : am_T 155 26 = some (0, .istore 5, 28, [], .null) := by decide +kernel
theorem t155_28 : am_T 155 28 = some (0, .aload_n 1, 29, [], .null) := by decide +kernel
theorem t155_29 : am_T 155 29 = some (0, .iload 5, 31, [], .null) := by decide +kernel
theorem t155_31 : am_T 155 31 = some (3, .invokevirtual 254, 34, [2, 1, 10], .null) := by decide +kernel
theorem t155_34 : am_T 155 34 = some (0, .istore 6, 36, [], .null) := by decide +kernel
theorem t155_36 : am_T 155 36 = some (0, .aload_n 0, 37, [], .null) := by decide +kernel
theorem t155_37 : am_T 155 37 = some (2, .getfield 71, 40, [9, 11], .null) := by decide +kernel
theorem t155_40 : am_T 155 40 = some (0, .iload 5, 42, [], .null) := by decide +kernel
theorem t155_42 : am_T 155 42 = some (3, .invokevirtual 266, 45, [2, 9, 103], .null) := by decide +kernel
theorem t155_45 : am_T 155 45 = some (1, .ifCond .eq 17, 48, [62], .null) := by decide +kernel
theorem t155_48 : am_T 155 48 = some (0, .iload 6, 50, [], .null) := by decide +kernel
theorem t155_50 : am_T 155 50 = some (0, .iconst (-1), 51, [], .int (-1)) := by decide +kernel
theorem t155_51 : am_T 155 51 = some (1, .if_icmp .eq 11, 54, [62], .null) := by decide +kernel
theorem t155_54 : am_T 155 54 = some (0, .iload 6, 56, [], .null) := by decide +kernel
theorem t155_56 : am_T 155 56 = some (0, .iload_n 3, 57, [], .null) := by decide +kernel
theorem t155_57 : am_T 155 57 = some (1, .if_icmp .eq 5, 60, [62], .null) := by decide +kernel
theorem t155_60 : am_T 155 60 = some (0, .iconst 0, 61, [], .int (0)) := by decide +kernel
theorem t155_61 : am_T 155 61 = some (4, .ireturn, 62, [1], .null) := by decide +kernel
theorem t155_62 : am_T 155 62 = some (0, .iinc 4 1, 65, [], .int (1)) := by decide +kernel
theorem t155_65 : am_T 155 65 = some (1, .goto (-62), 68, [3], .null) := by decide +kernel
theorem t155_68 : am_T 155 68 = some (0, .iconst 1, 69, [], .int (1)) := by decide +kernel
theorem t155_69 : am_T 155 69 = some (4, .ireturn, 70, [1], .null) := by decide +kernel
theorem t156_0 : am_T 156 0 = some (0, .aload_n 0, 1, [], .null) := by decide +kernel
theorem t156_1 : am_T 156 1 = some (0, .iload_n 1, 2, [], .null) := by decide +kernel
theorem t156_2 : am_T 156 2 = some (3, .invokevirtual 247, 5, [2, 11, 130], .null) := by decide +kernel
theorem t156_5 : am_T 156 5 = some (0, .astore_n 2, 6, [], .null) := by decide +kernel
theorem t156_6 : am_T 156 6 = some (0, .aload_n 2, 7, [], .null) := by decide +kernel
theorem t156_7 : am_T 156 7 = some (1, .ifnonnull 5, 10, [12], .null) := by decide +kernel
theorem t156_10 : am_T 156 10 = some (0, .iconst (-1), 11, [], .int (-1)) := by decide +kernel
theorem t156_11 : am_T 156 11 = some (4, .ireturn, 12, [0], .null) := by decide +kernel
theorem t156_12 : am_T 156 12 = some (0, .bipush 15, 14, [], .int (15)) := by decide +kernel
theorem t156_14 : am_T 156 14 = some (0, .istore_n 3, 15, [], .null) := by decide +kernel
theorem t156_15 : am_T 156 15 = some (0, .iconst 0, 16, [], .int (0)) := by decide +kernel
theorem t156_16 : am_T 156 16 = some (0, .istore 4, 18, [], .null) := by decide +kernel
theorem t156_18 : am_T 156 18 = some (0, .iload 4, 20, [], .null) := by decide +kernel
theorem t156_20 : am_T 156 20 = some (0, .aload_n 0, 21, [], .null) := by decide +kernel
theorem t156_21 : am_T 156 21 = some (2, .getfield 62, 24, [8, 11], .null) := by decide +kernel
theorem t156_24 : am_T 156 24 = some (3, .invokevirtual 291, 27, [1, 7, 76], .null) := by decide +kernel
theorem t156_27 : am_T 156 27 = some (1, .if_icmp .ge 48, 30, [75], .null) := by decide +kernel
theorem t156_30 : am_T 156 30 = some (0, .iload_n 3, 31, [], .null) := by decide +kernel
theorem t156_31 : am_T 156 31 = some (0, .iconst 1, 32, [], .int (1)) := by decide +kernel
theorem t156_32 : am_T 156 32 = some (1, .if_icmp .le 43, 35, [75], .null) := by decide +kernel
theorem t156_35 : am_T 156 35 = some (0, .aload_n 0, 36, [], .null) := by decide +kernel
theorem t156_36 : am_T 156 36 = some (2, .getfield 71, 39, [9, 11], .null) := by decide +kernel
theorem t156_39 : am_T 156 39 = some (0, .iload 4, 41, [], .null) := by decide +kernel
theorem t156_41 : am_T 156 41 = some (3, .invokevirtual 266, 44, [2, 9, 103], .null) := by decide +kernel
theorem t156_44 : am_T 156 44 = some (1, .ifCond .eq 25, 47, [69], .null) := by decide +kernel
theorem t156_47 : am_T 156 47 = some (0, .aload_n 2, 48, [], .null) := by decide +kernel
theorem t156_48 : am_T 156 48 = some (0, .iload 4, 50, [], .null) := by decide +kernel
theorem t156_50 : am_T 156 50 = some (3, .invokevirtual 254, 53, [2, 1, 10], .null) := by decide +kernel
theorem t156_53 : am_T 156 53 = some (0, .iconst (-1), 54, [], .int (-1)) := by decide +kernel
theorem t156_54 : am_T 156 54 = some (1, .if_icmp .eq 15, 57, [69], .null) := by decide +kernel
theorem t156_57 : am_T 156 57 = some (0, .iload_n 3, 58, [], .null) := by decide +kernel
theorem t156_58 : am_T 156 58 = some (0, .aload_n 0, 59, [], .null) := by decide +kernel
theorem t156_59 : am_T 156 59 = some (0, .aload_n 2, 60, [], .null) := by decide +kernel
theorem t156_60 : am_T 156 60 = some (0, .iload 4, 62, [], .null) := by decide +kernel
theorem t156_62 : am_T 156 62 = some (3, .invokevirtual 329, 65, [3, 11, 157], .null) := by decide +kernel
theorem t156_65 : am_T 156 65 = some (2, .invokestatic 333, 68, [0], .null) := by decide +kernel
theorem t156_68 : am_T 156 68 = some (0, .istore_n 3, 69, [], .null) := by decide +kernel
theorem t156_69 : am_T 156 69 = some (0, .iinc 4 1, 72, [], .int (1)) := by decide +kernel
theorem t156_72 : am_T 156 72 = some (1, .goto (-54), 75, [18], .null) := by decide +kernel
theorem t156_75 : am_T 156 75 = some (0, .iload_n 3, 76, [], .null) := by decide +kernel
theorem t156_76 : am_T 156 76 = some (0, .bipush 15, 78, [], .int (15)) := by decide +kernel
theorem t156_78 : am_T 156 78 = some (1, .if_icmp .ge 7, 81, [85], .null) := by decide +kernel
theorem t156_81 : am_T 156 81 = some (0, .iload_n 3, 82, [], .null) := by decide +kernel
theorem t156_82 : am_T 156 82 = some (1, .goto 4, 85, [86], .null) := by decide +kernel
theorem t156_85 : am_T 156 85 = some (0, .iconst (-1), 86, [], .int (-1)) := by decide +kernel
theorem t156_86 : am_T 156 86 = some (4, .ireturn, 87, [0], .null) := by decide +kernel
theorem t157_0 : am_T 157 0 = some (0, .aload_n 1, 1, [], .null) := by decide +kernel
theorem t157_1 : am_T 157 1 = some (0, .iload_n 2, 2, [], .null) := by decide +kernel
theorem t157_2 : am_T 157 2 = some (3, .invokevirtual 254, 5, [2, 1, 10], .null) := by decide +kernel
theorem t157_5 : am_T 157 5 = some (0, .istore_n 3, 6, [], .null) := by decide +kernel
theorem t157_6 : am_T 157 6 = some (0, .bipush 15, 8, [], .int (15)) := by decide +kernel
theorem t157_8 : am_T 157 8 = some (0, .istore 4, 10, [], .null) := by decide +kernel
theorem t157_10 : am_T 157 10 = some (0, .iconst 0, 11, [], .int (0)) := by decide +kernel
theorem t157_11 : am_T 157 11 = some (0, .istore 5, 13, [], .null) := by decide +kernel
theorem t157_13 : am_T 157 13 = some (0, .iload 5, 15, [], .null) := by decide +kernel
theorem t157_15 : am_T 157 15 = some (0, .iload_n 2, 16, [], .null) := by decide +kernel
theorem t157_16 : am_T 157 16 = some (1, .if_icmp .ge 46, 19, [62], .null) := by decide +kernel
theorem t157_19 : am_T 157 19 = some (0, .aload_n 1, 20, [], .null) := by decide +kernel
theorem t157_20 : am_T 157 20 = some (0, .iload 5, 22, [], .null) := by decide +kernel
theorem t157_22 : am_T 157 22 = some (3, .invokevirtual 254, 25, [2, 1, 10], .null) := by decide +kernel
theorem t157_25 : am_T 157 25 = some (0, .istore 6, 27, [], .null) := by decide +kernel
theorem t157_27 : am_T 157 27 = some (0, .iload 6, 29, [], .null) := by decide +kernel
theorem t157_29 : am_T 157 29 = some (0, .iconst (-1), 30, [], .int (-1)) := by decide +kernel
theorem t157_30 : am_T 157 30 = some (1, .if_icmp .eq 26, 33, [56], .null) := by decide +kernel
theorem t157_33 : am_T 157 33 = some (0, .iload 6, 35, [], .null) := by decide +kernel
theorem t157_35 : am_T 157 35 = some (0, .iload_n 3, 36, [], .null) := by decide +kernel
theorem t157_36 : am_T 157 36 = some (1, .if_icmp .eq 20, 39, [56], .null) := by decide +kernel
theorem t157_39 : am_T 157 39 = some (0, .iload 4, 41, [], .null) := by decide +kernel
theorem t157_41 : am_T 157 41 = some (0, .aload_n 0, 42, [], .null) := by decide +kernel
theorem t157_42 : am_T 157 42 = some (2, .getfield 83, 45, [11, 11], .null) := by decide +kernel
theorem t157_45 : am_T 157 45 = some (0, .iload_n 2, 46, [], .null) := by decide +kernel
theorem t157_46 : am_T 157 46 = some (0, .iload 5, 48, [], .null) := by decide +kernel
theorem t157_48 : am_T 157 48 = some (3, .invokevirtual 269, 51, [3, 6, 67], .null) := by decide +kernel
theorem t157_51 : am_T 157 51 = some (2, .invokestatic 333, 54, [0], .null) := by decide +kernel
theorem t157_54 : am_T 157 54 = some (0, .istore 4, 56, [], .null) := by decide +kernel
theorem t157_56 : am_T 157 56 = some (0, .iinc 5 1, 59, [], .int (1)) := by decide +kernel
theorem t157_59 : am_T 157 59 = some (1, .goto (-46), 62, [13], .null) := by decide +kernel
theorem t157_62 : am_T 157 62 = some (0, .iload 4, 64, [], .null) := by decide +kernel
theorem t157_64 : am_T 157 64 = some (4, .ireturn, 65, [0], .null) := by decide +kernel
theorem t158_0 : am_T 158 0 = some (0, .aload_n 0, 1, [], .null) := by decide +kernel
theorem t158_1 : am_T 158 1 = some (0, .iload_n 1, 2, [], .null) := by decide +kernel
theorem t158_2 : am_T 158 2 = some (3, .invokevirtual 247, 5, [2, 11, 130], .null) := by decide +kernel
theorem t158_5 : am_T 158 5 = some (0, .astore_n 3, 6, [], .null) := by decide +kernel
theorem t158_6 : am_T 158 6 = some (0, .aload_n 0, 7, [], .null) := by decide +kernel
theorem t158_7 : am_T 158 7 = some (2, .getfield 62, 10, [8, 11], .null) := by decide +kernel
theorem t158_10 : am_T 158 10 = some (0, .iload_n 2, 11, [], .null) := by decide +kernel
theorem t158_11 : am_T 158 11 = some (3, .invokevirtual 263, 14, [2, 7, 84], .null) := by decide +kernel
theorem t158_14 : am_T 158 14 = some (0, .istore 4, 16, [], .null) := by decide +kernel
theorem t158_16 : am_T 158 16 = some (0, .aload_n 3, 17, [], .null) := by decide +kernel
theorem t158_17 : am_T 158 17 = some (1, .ifnull 15, 20, [32], .null) := by decide +kernel
theorem t158_20 : am_T 158 20 = some (0, .aload_n 0, 21, [], .null) := by decide +kernel
theorem t158_21 : am_T 158 21 = some (2, .getfield 71, 24, [9, 11], .null) := by decide +kernel
theorem t158_24 : am_T 158 24 = some (0, .iload 4, 26, [], .null) := by decide +kernel
theorem t158_26 : am_T 158 26 = some (3, .invokevirtual 266, 29, [2, 9, 103], .null) := by decide +kernel
theorem t158_29 : am_T 158 29 = some (1, .ifCond .ne 6, 32, [35], .null) := by decide +kernel
theorem t158_32 : am_T 158 32 = some (0, .ldc 223, 34, [], .int (-1000000)) := by decide +kernel
theorem t158_34 : am_T 158 34 = some (4, .ireturn, 35, [0], .null) := by decide +kernel
theorem t158_35 : am_T 158 35 = some (0, .bipush 15, 37, [], .int (15)) := by decide +kernel
theorem t158_37 : am_T 158 37 = some (0, .istore 5, 39, [], .null) := by decide +kernel
theorem t158_39 : am_T 158 39 = some (0, .iconst (-1), 40, [], .int (-1)) := by decide +kernel
theorem t158_40 : am_T 158 40 = some (0, .istore 6, 42, [], .null) := by decide +kernel
theorem t158_42 : am_T 158 42 = some (0, .iconst 0, 43, [], .int (0)) := by decide +kernel
theorem t158_43 : am_T 158 43 = some (0, .istore 7, 45, [], .null) := by decide +kernel
theorem t158_45 : am_T 158 45 = some (0, .iload 7, 47, [], .null) := by decide +kernel
theorem t158_47 : am_T 158 47 = some (0, .aload_n 0, 48, [], .null) := by decide +kernel
theorem t158_48 : am_T 158 48 = some (2, .getfield 62, 51, [8, 11], .null) := by decide +kernel
theorem t158_51 : am_T 158 51 = some (3, .invokevirtual 291, 54, [1, 7, 76], .null) := by decide +kernel
theorem t158_54 : am_T 158 54 = some (1, .if_icmp .ge 83, 57, [137], .null) := by decide +kernel
theorem t158_57 : am_T 158 57 = some (0, .aload_n 3, 58, [], .null) := by decide +kernel
theorem t158_58 : am_T 158 58 = some (0, .iload 7, 60, [], .null) := by decide +kernel
theorem t158_60 : am_T 158 60 = some (3, .invokevirtual 254, 63, [2, 1, 10], .null) := by decide +kernel
theorem t158_63 : am_T 158 63 = some (0, .istore 8, 65, [], .null) := by decide +kernel
theorem t158_65 : am_T 158 65 = some (0, .iload 8, 67, [], .null) := by decide +kernel
theorem t158_67 : am_T 158 67 = some (0, .iconst (-1), 68, [], .int (-1)) := by decide +kernel
theorem t158_68 : am_T 158 68 = some (1, .if_icmp .ne 8, 71, [76], .null) := by decide +kernel
theorem t158_71 : am_T 158 71 = some (0, .bipush 15, 73, [], .int (15)) := by decide +kernel
theorem t158_73 : am_T 158 73 = some (1, .goto 14, 76, [87], .null) := by decide +kernel
theorem t158_76 : am_T 158 76 = some (0, .aload_n 0, 77, [], .null) := by decide +kernel
theorem t158_77 : am_T 158 77 = some (2, .getfield 83, 80, [11, 11], .null) := by decide +kernel
theorem t158_80 : am_T 158 80 = some (0, .iload 4, 82, [], .null) := by decide +kernel
theorem t158_82 : am_T 158 82 = some (0, .iload 7, 84, [], .null) := by decide +kernel
theorem t158_84 : am_T 158 84 = some (3, .invokevirtual 269, 87, [3, 6, 67], .null) := by decide +kernel
theorem t158_87 : am_T 158 87 = some (0, .istore 9, 89, [], .null) := by decide +kernel
theorem t158_89 : am_T 158 89 = some (0, .iload 9, 91, [], .null) := by decide +kernel
theorem t158_91 : am_T 158 91 = some (0, .iload 5, 93, [], .null) := by decide +kernel
theorem t158_93 : am_T 158 93 = some (1, .if_icmp .ge 14, 96, [107], .null) := by decide +kernel
theorem t158_96 : am_T 158 96 = some (0, .iload 9, 98, [], .null) := by decide +kernel
theorem t158_98 : am_T 158 98 = some (0, .istore 5, 100, [], .null) := by decide +kernel
theorem t158_100 : am_T 158 100 = some (0, .iload 8, 102, [], .null) := by decide +kernel
theorem t158_102 : am_T 158 102 = some (0, .istore 6, 104, [], .null) := by decide +kernel
theorem t158_104 : am_T 158 104 = some (1, .goto 27, 107, [131], .null) := by decide +kernel
theorem t158_107 : am_T 158 107 = some (0, .iload 9, 109, [], .null) := by decide +kernel
theorem t158_109 : am_T 158 109 = some (0, .iload 5, 111, [], .null) := by decide +kernel
theorem t158_111 : am_T 158 111 = some (1, .if_icmp .ne 20, 114, [131], .null) := by decide +kernel
theorem t158_114 : am_T 158 114 = some (0, .iload 9, 116, [], .null) := by decide +kernel
theorem t158_116 : am_T 158 116 = some (0, .bipush 15, 118, [], .int (15)) := by decide +kernel
theorem t158_118 : am_T 158 118 = some (1, .if_icmp .ge 13, 121, [131], .null) := by decide +kernel
theorem t158_121 : am_T 158 121 = some (0, .iload 8, 123, [], .null) := by decide +kernel
theorem t158_123 : am_T 158 123 = some (0, .iload 6, 125, [], .null) := by decide +kernel
theorem t158_125 : am_T 158 125 = some (1, .if_icmp .eq 6, 128, [131], .null) := by decide +kernel
theorem t158_128 : am_T 158 128 = some (0, .iconst (-1), 129, [], .int (-1)) := by decide +kernel
theorem t158_129 : am_T 158 129 = some (0, .istore 6, 131, [], .null) := by decide +kernel
theorem t158_131 : am_T 158 131 = some (0, .iinc 7 1, 134, [], .int (1)) := by decide +kernel
theorem t158_134 : am_T 158 134 = some (1, .goto (-89), 137, [45], .null) := by decide +kernel
theorem t158_137 : am_T 158 137 = some (0, .iload 6, 139, [], .null) := by decide +kernel
theorem t158_139 : am_T 158 139 = some (4, .ireturn, 140, [0], .null) := by decide +kernel
theorem t159_0 : am_T 159 0 = some (0, .aload_n 0, 1, [], .null) := by decide +kernel
theorem t159_1 : am_T 159 1 = some (0, .iload_n 1, 2, [], .null) := by decide +kernel
theorem t159_2 : am_T 159 2 = some (3, .invokevirtual 247, 5, [2, 11, 130], .null) := by decide +kernel
theorem t159_5 : am_T 159 5 = some (0, .astore 6, 7, [], .null) := by decide +kernel
theorem t159_7 : am_T 159 7 = some (0, .aload_n 0, 8, [], .null) := by decide +kernel
theorem t159_8 : am_T 159 8 = some (0, .iload_n 3, 9, [], .null) := by decide +kernel
theorem t159_9 : am_T 159 9 = some (3, .invokevirtual 247, 12, [2, 11, 130], .null) := by decide +kernel
theorem t159_12 : am_T 159 12 = some (0, .astore 7, 14, [], .null) := by decide +kernel
theorem t159_14 : am_T 159 14 = some (0, .aload 6, 16, [], .null) := by decide +kernel
theorem t159_16 : am_T 159 16 = some (1, .ifnull 31, 19, [47], .null) := by decide +kernel
theorem t159_19 : am_T 159 19 = some (0, .aload 7, 21, [], .null) := by decide +kernel
theorem t159_21 : am_T 159 21 = some (1, .ifnull 26, 24, [47], .null) := by decide +kernel
theorem t159_24 : am_T 159 24 = some (0, .iload_n 2, 25, [], .null) := by decide +kernel
theorem t159_25 : am_T 159 25 = some (3, .invokestatic 204, 28, [1, 132], .null) := by decide +kernel
theorem t159_28 : am_T 159 28 = some (1, .ifCond .eq 19, 31, [47], .null) := by decide +kernel
theorem t159_31 : am_T 159 31 = some (0, .iload 4, 33, [], .null) := by decide +kernel
theorem t159_33 : am_T 159 33 = some (3, .invokestatic 316, 36, [1, 133], .null) := by decide +kernel
theorem t159_36 : am_T 159 36 = some (1, .ifCond .eq 11, 39, [47], .null) := by decide +kernel
theorem t159_39 : am_T 159 39 = some (0, .iload 5, 41, [], .null) := by decide +kernel
theorem t159_41 : am_T 159 41 = some (3, .invokestatic 273, 44, [1, 135], .null) := by decide +kernel
theorem t159_44 : am_T 159 44 = some (1, .ifCond .ne 5, 47, [49], .null) := by decide +kernel
theorem t159_47 : am_T 159 47 = some (0, .iconst (-1), 48, [], .int (-1)) := by decide +kernel
theorem t159_48 : am_T 159 48 = some (4, .ireturn, 49, [0], .null) := by decide +kernel
theorem t159_49 : am_T 159 49 = some (0, .aload_n 0, 50, [], .null) := by decide +kernel
theorem t159_50 : am_T 159 50 = some (0, .iconst 0, 51, [], .int (0)) := by decide +kernel
theorem t159_51 : am_T 159 51 = some (3, .invokevirtual 276, 54, [2, 11, 147], .null) := by decide +kernel
theorem t159_54 : am_T 159 54 = some (0, .aload_n 0, 55, [], .null) := by decide +kernel
theorem t159_55 : am_T 159 55 = some (0, .aload 6, 57, [], .null) := by decide +kernel
theorem t159_57 : am_T 159 57 = some (0, .iload_n 2, 58, [], .null) := by decide +kernel
theorem t159_58 : am_T 159 58 = some (0, .aload 7, 60, [], .null) := by decide +kernel
theorem t159_60 : am_T 159 60 = some (0, .iload 4, 62, [], .null) := by decide +kernel
theorem t159_62 : am_T 159 62 = some (0, .iload 5, 64, [], .null) := by decide +kernel
theorem t159_64 : am_T 159 64 = some (3, .invokevirtual 280, 67, [6, 11, 148], .null) := by decide +kernel
theorem t159_67 : am_T 159 67 = some (4, .ireturn, 68, [0], .null) := by decide +kernel
theorem t160_0 : am_T 160 0 = some (0, .iload_n 1, 1, [], .null) := by decide +kernel
theorem t160_1 : am_T 160 1 = some (0, .iconst 1, 2, [], .int (1)) := by decide +kernel
theorem t160_2 : am_T 160 2 = some (1, .if_icmp .lt 29, 5, [31], .null) := by decide +kernel
theorem t160_5 : am_T 160 5 = some (0, .iload_n 1, 6, [], .null) := by decide +kernel
theorem t160_6 : am_T 160 6 = some (0, .bipush 6, 8, [], .int (6)) := by decide +kernel
theorem t160_8 : am_T 160 8 = some (1, .if_icmp .gt 23, 11, [31], .null) := by decide +kernel
theorem t160_11 : am_T 160 11 = some (0, .aload_n 0, 12, [], .null) := by decide +kernel
theorem t160_12 : am_T 160 12 = some (2, .getfield 62, 15, [8, 11], .null) := by decide +kernel
theorem t160_15 : am_T 160 15 = some (0, .iload_n 2, 16, [], .null) := by decide +kernel
theorem t160_16 : am_T 160 16 = some (3, .invokevirtual 207, 19, [2, 7, 75], .null) := by decide +kernel
theorem t160_19 : am_T 160 19 = some (1, .ifCond .eq 12, 22, [31], .null) := by decide +kernel
theorem t160_22 : am_T 160 22 = some (0, .iload_n 3, 23, [], .null) := by decide +kernel
theorem t160_23 : am_T 160 23 = some (1, .ifCond .lt 8, 26, [31], .null) := by decide +kernel
theorem t160_26 : am_T 160 26 = some (0, .iload_n 3, 27, [], .null) := by decide +kernel
theorem t160_27 : am_T 160 27 = some (0, .iconst 2, 28, [], .int (2)) := by decide +kernel
theorem t160_28 : am_T 160 28 = some (1, .if_icmp .le 5, 31, [33], .null) := by decide +kernel
theorem t160_31 : am_T 160 31 = some (0, .iconst (-1), 32, [], .int (-1)) := by decide +kernel
theorem t160_32 : am_T 160 32 = some (4, .ireturn, 33, [0], .null) := by decide +kernel
theorem t160_33 : am_T 160 33 = some (0, .aload_n 0, 34, [], .null) := by decide +kernel
theorem t160_34 : am_T 160 34 = some (2, .getfield 92, 37, [12, 11], .null) := by decide +kernel
theorem t160_37 : am_T 160 37 = some (0, .iload_n 1, 38, [], .null) := by decide +kernel
theorem t160_38 : am_T 160 38 = some (0, .iload_n 2, 39, [], .null) := by decide +kernel
theorem t160_39 : am_T 160 39 = some (0, .iload_n 3, 40, [], .null) := by decide +kernel
theorem t160_40 : am_T 160 40 = some (3, .invokevirtual 338, 43, [4, 5, 40], .null) := by decide +kernel
theorem t160_43 : am_T 160 43 = some (4, .ireturn, 44, [0], .null) := by decide +kernel
theorem t161_0 : am_T 161 0 = some (0, .aload_n 0, 1, [], .null) := by decide +kernel
theorem t161_1 : am_T 161 1 = some (3, .invokevirtual 200, 4, [1, 11, 129], .null) := by decide +kernel
theorem t161_4 : am_T 161 4 = some (1, .ifCond .eq 14, 7, [18], .null) := by decide +kernel
theorem t161_7 : am_T 161 7 = some (0, .iload_n 1, 8, [], .null) := by decide +kernel
theorem t161_8 : am_T 161 8 = some (0, .iconst 1, 9, [], .int (1)) := by decide +kernel
theorem t161_9 : am_T 161 9 = some (1, .if_icmp .lt 9, 12, [18], .null) := by decide +kernel
theorem t161_12 : am_T 161 12 = some (0, .iload_n 1, 13, [], .null) := by decide +kernel
theorem t161_13 : am_T 161 13 = some (0, .bipush 6, 15, [], .int (6)) := by decide +kernel
theorem t161_15 : am_T 161 15 = some (1, .if_icmp .le 7, 18, [22], .null) := by decide +kernel
theorem t161_18 : am_T 161 18 = some (0, .ldc2_w 341, 21, [], .long (-1)) := by decide +kernel
theorem t161_21 : am_T 161 21 = some (4, .lreturn, 22, [], .null) := by decide +kernel
theorem t161_22 : am_T 161 22 = some (0, .aload_n 0, 23, [], .null) := by decide +kernel
theorem t161_23 : am_T 161 23 = some (2, .getfield 92, 26, [12, 11], .null) := by decide +kernel
theorem t161_26 : am_T 161 26 = some (0, .iload_n 1, 27, [], .null) := by decide +kernel
theorem t161_27 : am_T 161 27 = some (0, .aconst_null, 28, [], .null) := by decide +kernel
theorem t161_28 : am_T 161 28 = some (0, .iconst 0, 29, [], .int (0)) := by decide +kernel
theorem t161_29 : am_T 161 29 = some (0, .iconst (-1), 30, [], .int (-1)) := by decide +kernel
theorem t161_30 : am_T 161 30 = some (3, .invokevirtual 343, 33, [5, 5, 47], .null) := by decide +kernel
theorem t161_33 : am_T 161 33 = some (4, .lreturn, 34, [], .null) := by decide +kernel
theorem t162_0 : am_T 162 0 = some (0, .aload_n 0, 1, [], .null) := by decide +kernel
theorem t162_1 : am_T 162 1 = some (0, .iload_n 1, 2, [], .null) := by decide +kernel
theorem t162_2 : am_T 162 2 = some (3, .invokevirtual 247, 5, [2, 11, 130], .null) := by decide +kernel
theorem t162_5 : am_T 162 5 = some (0, .astore 5, 7, [], .null) := by decide +kernel
theorem t162_7 : am_T 162 7 = some (0, .aload 5, 9, [], .null) := by decide +kernel
theorem t162_9 : am_T 162 9 = some (1, .ifnull 32, 12, [41], .null) := by decide +kernel
theorem t162_12 : am_T 162 12 = some (0, .iload_n 2, 13, [], .null) := by decide +kernel
theorem t162_13 : am_T 162 13 = some (0, .iconst 1, 14, [], .int (1)) := by decide +kernel
theorem t162_14 : am_T 162 14 = some (1, .if_icmp .lt 27, 17, [41], .null) := by decide +kernel
theorem t162_17 : am_T 162 17 = some (0, .iload_n 2, 18, [], .null) := by decide +kernel
theorem t162_18 : am_T 162 18 = some (0, .bipush 6, 20, [], .int (6)) := by decide +kernel
theorem t162_20 : am_T 162 20 = some (1, .if_icmp .gt 21, 23, [41], .null) := by decide +kernel
theorem t162_23 : am_T 162 23 = some (0, .iload_n 3, 24, [], .null) := by decide +kernel
theorem t162_24 : am_T 162 24 = some (0, .iconst 1, 25, [], .int (1)) := by decide +kernel
theorem t162_25 : am_T 162 25 = some (1, .if_icmp .lt 16, 28, [41], .null) := by decide +kernel
theorem t162_28 : am_T 162 28 = some (0, .iload_n 3, 29, [], .null) := by decide +kernel
theorem t162_29 : am_T 162 29 = some (0, .iload_n 2, 30, [], .null) := by decide +kernel
theorem t162_30 : am_T 162 30 = some (1, .if_icmp .gt 11, 33, [41], .null) := by decide +kernel
theorem t162_33 : am_T 162 33 = some (0, .iload 4, 35, [], .null) := by decide +kernel
theorem t162_35 : am_T 162 35 = some (3, .invokestatic 316, 38, [1, 133], .null) := by decide +kernel
theorem t162_38 : am_T 162 38 = some (1, .ifCond .ne 7, 41, [45], .null) := by decide +kernel
theorem t162_41 : am_T 162 41 = some (0, .ldc2_w 341, 44, [], .long (-1)) := by decide +kernel
theorem t162_44 : am_T 162 44 = some (4, .lreturn, 45, [], .null) := by decide +kernel
theorem t162_45 : am_T 162 45 = some (0, .aload_n 0, 46, [], .null) := by decide +kernel
theorem t162_46 : am_T 162 46 = some (2, .getfield 92, 49, [12, 11], .null) := by decide +kernel
theorem t162_49 : am_T 162 49 = some (0, .iload_n 2, 50, [], .null) := by decide +kernel
theorem t162_50 : am_T 162 50 = some (0, .aload 5, 52, [], .null) := by decide +kernel
theorem t162_52 : am_T 162 52 = some (0, .iload_n 3, 53, [], .null) := by decide +kernel
theorem t162_53 : am_T 162 53 = some (0, .iload 4, 55, [], .null) := by decide +kernel
theorem t162_55 : am_T 162 55 = some (3, .invokevirtual 343, 58, [5, 5, 47], .null) := by decide +kernel
theorem t162_58 : am_T 162 58 = some (4, .lreturn, 59, [], .null) := by decide +kernel
theorem t163_0 : am_T 163 0 = some (0, .aload_n 0, 1, [], .null) := by decide +kernel
theorem t163_1 : am_T 163 1 = some (2, .getfield 62, 4, [8, 11], .null) := by decide +kernel
theorem t163_4 : am_T 163 4 = some (0, .iload_n 1, 5, [], .null) := by decide +kernel
theorem t163_5 : am_T 163 5 = some (3, .invokevirtual 263, 8, [2, 7, 84], .null) := by decide +kernel
theorem t163_8 : am_T 163 8 = some (0, .istore_n 3, 9, [], .null) := by decide +kernel
theorem t163_9 : am_T 163 9 = some (0, .iload_n 3, 10, [], .null) := by decide +kernel
theorem t163_10 : am_T 163 10 = some (0, .iconst (-1), 11, [], .int (-1)) := by decide +kernel
theorem t163_11 : am_T 163 11 = some (1, .if_icmp .eq 22, 14, [33], .null) := by decide +kernel
theorem t163_14 : am_T 163 14 = some (0, .iload_n 2, 15, [], .null) := by decide +kernel
theorem t163_15 : am_T 163 15 = some (3, .invokestatic 204, 18, [1, 132], .null) := by decide +kernel
theorem t163_18 : am_T 163 18 = some (1, .ifCond .eq 15, 21, [33], .null) := by decide +kernel
theorem t163_21 : am_T 163 21 = some (0, .aload_n 0, 22, [], .null) := by decide +kernel
theorem t163_22 : am_T 163 22 = some (2, .getfield 96, 25, [13, 11], .null) := by decide +kernel
theorem t163_25 : am_T 163 25 = some (3, .invokevirtual 109, 28, [1, 4, 29], .null) := by decide +kernel
theorem t163_28 : am_T 163 28 = some (0, .bipush 12, 30, [], .int (12)) := by decide +kernel
theorem t163_30 : am_T 163 30 = some (1, .if_icmp .lt 5, 33, [35], .null) := by decide +kernel
theorem t163_33 : am_T 163 33 = some (0, .iconst (-1), 34, [], .int (-1)) := by decide +kernel
theorem t163_34 : am_T 163 34 = some (4, .ireturn, 35, [0], .null) := by decide +kernel
theorem t163_35 : am_T 163 35 = some (0, .aload_n 0, 36, [], .null) := by decide +kernel
theorem t163_36 : am_T 163 36 = some (2, .getfield 96, 39, [13, 11], .null) := by decide +kernel
theorem t163_39 : am_T 163 39 = some (0, .iload_n 3, 40, [], .null) := by decide +kernel
theorem t163_40 : am_T 163 40 = some (3, .invokevirtual 120, 43, [2, 4, 33], .null) := by decide +kernel
theorem t163_43 : am_T 163 43 = some (0, .pop, 44, [], .null) := by decide +kernel
theorem t163_44 : am_T 163 44 = some (0, .aload_n 0, 45, [], .null) := by decide +kernel
theorem t163_45 : am_T 163 45 = some (2, .getfield 99, 48, [14, 11], .null) := by decide +kernel
theorem t163_48 : am_T 163 48 = some (0, .iload_n 2, 49, [], .null) := by decide +kernel
theorem t163_49 : am_T 163 49 = some (3, .invokevirtual 120, 52, [2, 4, 33], .null) := by decide +kernel
theorem t163_52 : am_T 163 52 = some (0, .pop, 53, [], .null) := by decide +kernel
theorem t163_53 : am_T 163 53 = some (0, .aload_n 0, 54, [], .null) := by decide +kernel
theorem t163_54 : am_T 163 54 = some (2, .getfield 96, 57, [13, 11], .null) := by decide +kernel
theorem t163_57 : am_T 163 57 = some (3, .invokevirtual 109, 60, [1, 4, 29], .null) := by decide +kernel
theorem t163_60 : am_T 163 60 = some (4, .ireturn, 61, [0], .null) := by decide +kernel
theorem t164_0 : am_T 164 0 = some (0, .aload_n 0, 1, [], .null) := by decide +kernel
theorem t164_1 : am_T 164 1 = some (3, .invokevirtual 200, 4, [1, 11, 129], .null) := by decide +kernel
theorem t164_4 : am_T 164 4 = some (1, .ifCond .ne 5, 7, [9], .null) := by decide +kernel
theorem t164_7 : am_T 164 7 = some (0, .iconst (-1), 8, [], .int (-1)) := by decide +kernel
theorem t164_8 : am_T 164 8 = some (4, .ireturn, 9, [0], .null) := by decide +kernel
theorem t164_9 : am_T 164 9 = some (0, .iconst 0, 10, [], .int (0)) := by decide +kernel
theorem t164_10 : am_T 164 10 = some (0, .istore_n 1, 11, [], .null) := by decide +kernel
theorem t164_11 : am_T 164 11 = some (0, .iconst 0, 12, [], .int (0)) := by decide +kernel
theorem t164_12 : am_T 164 12 = some (0, .istore_n 2, 13, [], .null) := by decide +kernel
theorem t164_13 : am_T 164 13 = some (0, .iload_n 2, 14, [], .null) := by decide +kernel
theorem t164_14 : am_T 164 14 = some (0, .aload_n 0, 15, [], .null) := by decide +kernel
theorem t164_15 : am_T 164 15 = some (2, .getfield 49, 18, [5, 11], .null) := by decide +kernel
theorem t164_18 : am_T 164 18 = some (3, .invokevirtual 140, 21, [1, 0, 278], .null) := by decide +kernel
theorem t164_21 : am_T 164 21 = some (1, .if_icmp .ge 33, 24, [54], .null) := by decide +kernel
theorem t164_24 : am_T 164 24 = some (0, .aload_n 0, 25, [], .null) := by decide +kernel
theorem t164_25 : am_T 164 25 = some (0, .aload_n 0, 26, [], .null) := by decide +kernel
theorem t164_26 : am_T 164 26 = some (2, .getfield 49, 29, [5, 11], .null) := by decide +kernel
theorem t164_29 : am_T 164 29 = some (0, .iload_n 2, 30, [], .null) := by decide +kernel
theorem t164_30 : am_T 164 30 = some (3, .invokevirtual 195, 33, [2, 0, 280], .null) := by decide +kernel
theorem t164_33 : am_T 164 33 = some (2, .checkcast 146, 36, [1], .null) := by decide +kernel
theorem t164_36 : am_T 164 36 = some (3, .invokevirtual 347, 39, [2, 11, 165], .null) := by decide +kernel
theorem t164_39 : am_T 164 39 = some (1, .ifCond .eq 9, 42, [48], .null) := by decide +kernel
theorem t164_42 : am_T 164 42 = some (0, .iload_n 1, 43, [], .null) := by decide +kernel
theorem t164_43 : am_T 164 43 = some (0, .iconst 1, 44, [], .int (1)) := by decide +kernel
theorem t164_44 : am_T 164 44 = some (0, .iload_n 2, 45, [], .null) := by decide +kernel
theorem t164_45 : am_T 164 45 = some (0, .ishl, 46, [], .null) := by decide +kernel
theorem t164_46 : am_T 164 46 = some (0, .ior, 47, [], .null) := by decide +kernel
theorem t164_47 : am_T 164 47 = some (0, .istore_n 1, 48, [], .null) := by decide +kernel
theorem t164_48 : am_T 164 48 = some (0, .iinc 2 1, 51, [], .int (1)) := by decide +kernel
theorem t164_51 : am_T 164 51 = some (1, .goto (-38), 54, [13], .null) := by decide +kernel
theorem t164_54 : am_T 164 54 = some (0, .iload_n 1, 55, [], .null) := by decide +kernel
theorem t164_55 : am_T 164 55 = some (4, .ireturn, 56, [0], .null) := by decide +kernel
theorem t165_0 : am_T 165 0 = some (0, .iconst 0, 1, [], .int (0)) := by decide +kernel
theorem t165_1 : am_T 165 1 = some (0, .istore_n 2, 2, [], .null) := by decide +kernel
theorem t165_2 : am_T 165 2 = some (0, .iload_n 2, 3, [], .null) := by decide +kernel
theorem t165_3 : am_T 165 3 = some (0, .aload_n 0, 4, [], .null) := by decide +kernel
theorem t165_4 : am_T 165 4 = some (2, .getfield 96, 7, [13, 11], .null) := by decide +kernel
theorem t165_7 : am_T 165 7 = some (3, .invokevirtual 109, 10, [1, 4, 29], .null) := by decide +kernel
theorem t165_10 : am_T 165 10 = some (1, .if_icmp .ge 34, 13, [44], .null) := by decide +kernel
theorem t165_13 : am_T 165 13 = some (0, .aload_n 1, 14, [], .null) := by decide +kernel
theorem t165_14 : am_T 165 14 = some (0, .aload_n 0, 15, [], .null) := by decide +kernel
theorem t165_15 : am_T 165 15 = some (2, .getfield 96, 18, [13, 11], .null) := by decide +kernel
theorem t165_18 : am_T 165 18 = some (0, .iload_n 2, 19, [], .null) := by decide +kernel
theorem t165_19 : am_T 165 19 = some (3, .invokevirtual 351, 22, [2, 4, 30], .null) := by decide +kernel
theorem t165_22 : am_T 165 22 = some (3, .invokevirtual 254, 25, [2, 1, 10], .null) := by decide +kernel
theorem t165_25 : am_T 165 25 = some (0, .aload_n 0, 26, [], .null) := by decide +kernel
theorem t165_26 : am_T 165 26 = some (2, .getfield 99, 29, [14, 11], .null) := by decide +kernel
theorem t165_29 : am_T 165 29 = some (0, .iload_n 2, 30, [], .null) := by decide +kernel
theorem t165_30 : am_T 165 30 = some (3, .invokevirtual 351, 33, [2, 4, 30], .null) := by decide +kernel
theorem t165_33 : am_T 165 33 = some (1, .if_icmp .eq 5, 36, [38], .null) := by decide +kernel
theorem t165_36 : am_T 165 36 = some (0, .iconst 0, 37, [], .int (0)) := by decide +kernel
theorem t165_37 : am_T 165 37 = some (4, .ireturn, 38, [1], .null) := by decide +kernel
theorem t165_38 : am_T 165 38 = some (0, .iinc 2 1, 41, [], .int (1)) := by decide +kernel
theorem t165_41 : am_T 165 41 = some (1, .goto (-39), 44, [2], .null) := by decide +kernel
theorem t165_44 : am_T 165 44 = some (0, .iconst 1, 45, [], .int (1)) := by decide +kernel
theorem t165_45 : am_T 165 45 = some (4, .ireturn, 46, [1], .null) := by decide +kernel
theorem t166_0 : am_T 166 0 = some (0, .aload_n 0, 1, [], .null) := by decide +kernel
theorem t166_1 : am_T 166 1 = some (3, .invokevirtual 200, 4, [1, 11, 129], .null) := by decide +kernel
theorem t166_4 : am_T 166 4 = some (1, .ifCond .ne 5, 7, [9], .null) := by decide +kernel
theorem t166_7 : am_T 166 7 = some (0, .iconst (-1), 8, [], .int (-1)) := by decide +kernel
theorem t166_8 : am_T 166 8 = some (4, .ireturn, 9, [0], .null) := by decide +kernel
theorem t166_9 : am_T 166 9 = some (0, .iconst (-1), 10, [], .int (-1)) := by decide +kernel
theorem t166_10 : am_T 166 10 = some (0, .istore_n 1, 11, [], .null) := by decide +kernel
theorem t166_11 : am_T 166 11 = some (0, .iconst 0, 12, [], .int (0)) := by decide +kernel
theorem t166_12 : am_T 166 12 = some (0, .istore_n 2, 13, [], .null) := by decide +kernel
theorem t166_13 : am_T 166 13 = some (0, .iload_n 2, 14, [], .null) := by decide +kernel
theorem t166_14 : am_T 166 14 = some (0, .iconst 1, 15, [], .int (1)) := by decide +kernel
theorem t166_15 : am_T 166 15 = some (0, .aload_n 0, 16, [], .null) := by decide +kernel
theorem t166_16 : am_T 166 16 = some (2, .getfield 62, 19, [8, 11], .null) := by decide +kernel
theorem t166_19 : am_T 166 19 = some (3, .invokevirtual 199, 22, [1, 7, 74], .null) := by decide +kernel
theorem t166_22 : am_T 166 22 = some (0, .ishl, 23, [], .null) := by decide +kernel
theorem t166_23 : am_T 166 23 = some (1, .if_icmp .ge 45, 26, [68], .null) := by decide +kernel
theorem t166_26 : am_T 166 26 = some (0, .iload_n 1, 27, [], .null) := by decide +kernel
theorem t166_27 : am_T 166 27 = some (0, .iconst (-1), 28, [], .int (-1)) := by decide +kernel
theorem t166_28 : am_T 166 28 = some (1, .if_icmp .eq 14, 31, [42], .null) := by decide +kernel
theorem t166_31 : am_T 166 31 = some (0, .iload_n 2, 32, [], .null) := by decide +kernel
theorem t166_32 : am_T 166 32 = some (3, .invokestatic 353, 35, [1, 266], .null) := by decide +kernel
theorem t166_35 : am_T 166 35 = some (0, .iload_n 1, 36, [], .null) := by decide +kernel
theorem t166_36 : am_T 166 36 = some (3, .invokestatic 353, 39, [1, 266], .null) := by decide +kernel
theorem t166_39 : am_T 166 39 = some (1, .if_icmp .ge 7, 42, [46], .null) := by decide +kernel
theorem t166_42 : am_T 166 42 = some (0, .iconst 1, 43, [], .int (1)) := by decide +kernel
theorem t166_43 : am_T 166 43 = some (1, .goto 4, 46, [47], .null) := by decide +kernel
theorem t166_46 : am_T 166 46 = some (0, .iconst 0, 47, [], .int (0)) := by decide +kernel
theorem t166_47 : am_T 166 47 = some (0, .istore_n 3, 48, [], .null) := by decide +kernel
theorem t166_48 : am_T 166 48 = some (0, .iload_n 3, 49, [], .null) := by decide +kernel
theorem t166_49 : am_T 166 49 = some (1, .ifCond .eq 13, 52, [62], .null) := by decide +kernel
theorem t166_52 : am_T 166 52 = some (0, .aload_n 0, 53, [], .null) := by decide +kernel
theorem t166_53 : am_T 166 53 = some (0, .iload_n 2, 54, [], .null) := by decide +kernel
theorem t166_54 : am_T 166 54 = some (3, .invokevirtual 358, 57, [2, 11, 167], .null) := by decide +kernel
theorem t166_57 : am_T 166 57 = some (1, .ifCond .eq 5, 60, [62], .null) := by decide +kernel
theorem t166_60 : am_T 166 60 = some (0, .iload_n 2, 61, [], .null) := by decide +kernel
theorem t166_61 : am_T 166 61 = some (0, .istore_n 1, 62, [], .null) := by decide +kernel
theorem t166_62 : am_T 166 62 = some (0, .iinc 2 1, 65, [], .int (1)) := by decide +kernel
theorem t166_65 : am_T 166 65 = some (1, .goto (-52), 68, [13], .null) := by decide +kernel
theorem t166_68 : am_T 166 68 = some (0, .iload_n 1, 69, [], .null) := by decide +kernel
theorem t166_69 : am_T 166 69 = some (4, .ireturn, 70, [0], .null) := by decide +kernel
theorem t167_0 : am_T 167 0 = some (0, .iconst 0, 1, [], .int (0)) := by decide +kernel
theorem t167_1 : am_T 167 1 = some (0, .istore_n 2, 2, [], .null) := by decide +kernel
theorem t167_2 : am_T 167 2 = some (0, .iload_n 2, 3, [], .null) := by decide +kernel
theorem t167_3 : am_T 167 3 = some (0, .aload_n 0, 4, [], .null) := by decide +kernel
theorem t167_4 : am_T 167 4 = some (2, .getfield 96, 7, [13, 11], .null) := by decide +kernel
theorem t167_7 : am_T 167 7 = some (3, .invokevirtual 109, 10, [1, 4, 29], .null) := by decide +kernel
theorem t167_10 : am_T 167 10 = some (1, .if_icmp .ge 71, 13, [81], .null) := by decide +kernel
theorem t167_13 : am_T 167 13 = some (0, .iconst 0, 14, [], .int (0)) := by decide +kernel
theorem t167_14 : am_T 167 14 = some (0, .istore_n 3, 15, [], .null) := by decide +kernel
theorem t167_15 : am_T 167 15 = some (0, .iload_n 3, 16, [], .null) := by decide +kernel
theorem t167_16 : am_T 167 16 = some (0, .iload_n 2, 17, [], .null) := by decide +kernel
theorem t167_17 : am_T 167 17 = some (1, .if_icmp .ge 58, 20, [75], .null) := by decide +kernel
theorem t167_20 : am_T 167 20 = some (0, .aload_n 0, 21, [], .null) := by decide +kernel
theorem t167_21 : am_T 167 21 = some (2, .getfield 99, 24, [14, 11], .null) := by decide +kernel
theorem t167_24 : am_T 167 24 = some (0, .iload_n 2, 25, [], .null) := by decide +kernel
theorem t167_25 : am_T 167 25 = some (3, .invokevirtual 351, 28, [2, 4, 30], .null) := by decide +kernel
theorem t167_28 : am_T 167 28 = some (0, .aload_n 0, 29, [], .null) := by decide +kernel
theorem t167_29 : am_T 167 29 = some (2, .getfield 99, 32, [14, 11], .null) := by decide +kernel
theorem t167_32 : am_T 167 32 = some (0, .iload_n 3, 33, [], .null) := by decide +kernel
theorem t167_33 : am_T 167 33 = some (3, .invokevirtual 351, 36, [2, 4, 30], .null) := by decide +kernel
theorem t167_36 : am_T 167 36 = some (1, .if_icmp .eq 33, 39, [69], .null) := by decide +kernel
theorem t167_39 : am_T 167 39 = some (0, .aload_n 0, 40, [], .null) := by decide +kernel
theorem t167_40 : am_T 167 40 = some (2, .getfield 62, 43, [8, 11], .null) := by decide +kernel
theorem t167_43 : am_T 167 43 = some (0, .aload_n 0, 44, [], .null) := by decide +kernel
theorem t167_44 : am_T 167 44 = some (2, .getfield 96, 47, [13, 11], .null) := by decide +kernel
theorem t167_47 : am_T 167 47 = some (0, .iload_n 2, 48, [], .null) := by decide +kernel
theorem t167_48 : am_T 167 48 = some (3, .invokevirtual 351, 51, [2, 4, 30], .null) := by decide +kernel
theorem t167_51 : am_T 167 51 = some (0, .aload_n 0, 52, [], .null) := by decide +kernel
theorem t167_52 : am_T 167 52 = some (2, .getfield 96, 55, [13, 11], .null) := by decide +kernel
theorem t167_55 : am_T 167 55 = some (0, .iload_n 3, 56, [], .null) := by decide +kernel
theorem t167_56 : am_T 167 56 = some (3, .invokevirtual 351, 59, [2, 4, 30], .null) := by decide +kernel
theorem t167_59 : am_T 167 59 = some (3, .invokevirtual 361, 62, [3, 7, 83], .null) := by decide +kernel
theorem t167_62 : am_T 167 62 = some (0, .iload_n 1, 63, [], .null) := by decide +kernel
theorem t167_63 : am_T 167 63 = some (0, .iand, 64, [], .null) := by decide +kernel
theorem t167_64 : am_T 167 64 = some (1, .ifCond .ne 5, 67, [69], .null) := by decide +kernel
theorem t167_67 : am_T 167 67 = some (0, .iconst 0, 68, [], .int (0)) := by decide +kernel
theorem t167_68 : am_T 167 68 = some (4, .ireturn, 69, [1], .null) := by decide +kernel
theorem t167_69 : am_T 167 69 = some (0, .iinc 3 1, 72, [], .int (1)) := by decide +kernel
theorem t167_72 : am_T 167 72 = some (1, .goto (-57), 75, [15], .null) := by decide +kernel
theorem t167_75 : am_T 167 75 = some (0, .iinc 2 1, 78, [], .int (1)) := by decide +kernel
theorem t167_78 : am_T 167 78 = some (1, .goto (-76), 81, [2], .null) := by decide +kernel
theorem t167_81 : am_T 167 81 = some (0, .iconst 1, 82, [], .int (1)) := by decide +kernel
theorem t167_82 : am_T 167 82 = some (4, .ireturn, 83, [1], .null) := by decide +kernel
theorem t168_0 : am_T 168 0 = some (0, .aload_n 0, 1, [], .null) := by decide +kernel
theorem t168_1 : am_T 168 1 = some (3, .invokevirtual 200, 4, [1, 11, 129], .null) := by decide +kernel
theorem t168_4 : am_T 168 4 = some (1, .ifCond .eq 21, 7, [25], .null) := by decide +kernel
theorem t168_7 : am_T 168 7 = some (0, .iload_n 1, 8, [], .null) := by decide +kernel
theorem t168_8 : am_T 168 8 = some (3, .invokestatic 220, 11, [1, 134], .null) := by decide +kernel
theorem t168_11 : am_T 168 11 = some (1, .ifCond .eq 14, 14, [25], .null) := by decide +kernel
theorem t168_14 : am_T 168 14 = some (0, .aload_n 0, 15, [], .null) := by decide +kernel
theorem t168_15 : am_T 168 15 = some (2, .getfield 71, 18, [9, 11], .null) := by decide +kernel
theorem t168_18 : am_T 168 18 = some (0, .iload_n 1, 19, [], .null) := by decide +kernel
theorem t168_19 : am_T 168 19 = some (3, .invokevirtual 234, 22, [2, 9, 101], .null) := by decide +kernel
theorem t168_22 : am_T 168 22 = some (1, .ifCond .gt 5, 25, [27], .null) := by decide +kernel
theorem t168_25 : am_T 168 25 = some (0, .iconst (-1), 26, [], .int (-1)) := by decide +kernel
theorem t168_26 : am_T 168 26 = some (4, .ireturn, 27, [0], .null) := by decide +kernel
theorem t168_27 : am_T 168 27 = some (0, .aload_n 0, 28, [], .null) := by decide +kernel
theorem t168_28 : am_T 168 28 = some (2, .getfield 71, 31, [9, 11], .null) := by decide +kernel
theorem t168_31 : am_T 168 31 = some (0, .iload_n 1, 32, [], .null) := by decide +kernel
theorem t168_32 : am_T 168 32 = some (3, .invokevirtual 364, 35, [2, 9, 108], .null) := by decide +kernel
theorem t168_35 : am_T 168 35 = some (0, .aload_n 0, 36, [], .null) := by decide +kernel
theorem t168_36 : am_T 168 36 = some (2, .getfield 83, 39, [11, 11], .null) := by decide +kernel
theorem t168_39 : am_T 168 39 = some (3, .invokevirtual 191, 42, [1, 6, 62], .null) := by decide +kernel
theorem t168_42 : am_T 168 42 = some (0, .aload_n 0, 43, [], .null) := by decide +kernel
theorem t168_43 : am_T 168 43 = some (2, .getfield 71, 46, [9, 11], .null) := by decide +kernel
theorem t168_46 : am_T 168 46 = some (0, .iload_n 1, 47, [], .null) := by decide +kernel
theorem t168_47 : am_T 168 47 = some (3, .invokevirtual 367, 50, [2, 9, 100], .null) := by decide +kernel
theorem t168_50 : am_T 168 50 = some (4, .ireturn, 51, [0], .null) := by decide +kernel
theorem t169_0 : am_T 169 0 = some (0, .aload_n 0, 1, [], .null) := by decide +kernel
theorem t169_1 : am_T 169 1 = some (3, .invokevirtual 200, 4, [1, 11, 129], .null) := by decide +kernel
theorem t169_4 : am_T 169 4 = some (1, .ifCond .eq 25, 7, [29], .null) := by decide +kernel
theorem t169_7 : am_T 169 7 = some (0, .iload_n 1, 8, [], .null) := by decide +kernel
theorem t169_8 : am_T 169 8 = some (0, .iconst 1, 9, [], .int (1)) := by decide +kernel
theorem t169_9 : am_T 169 9 = some (1, .if_icmp .lt 20, 12, [29], .null) := by decide +kernel
theorem t169_12 : am_T 169 12 = some (0, .iload_n 1, 13, [], .null) := by decide +kernel
theorem t169_13 : am_T 169 13 = some (0, .bipush 20, 15, [], .int (20)) := by decide +kernel
theorem t169_15 : am_T 169 15 = some (1, .if_icmp .gt 14, 18, [29], .null) := by decide +kernel
theorem t169_18 : am_T 169 18 = some (0, .aload_n 0, 19, [], .null) := by decide +kernel
theorem t169_19 : am_T 169 19 = some (2, .getfield 71, 22, [9, 11], .null) := by decide +kernel
theorem t169_22 : am_T 169 22 = some (0, .iload_n 1, 23, [], .null) := by decide +kernel
theorem t169_23 : am_T 169 23 = some (3, .invokevirtual 251, 26, [2, 9, 105], .null) := by decide +kernel
theorem t169_26 : am_T 169 26 = some (1, .ifCond .ne 5, 29, [31], .null) := by decide +kernel
theorem t169_29 : am_T 169 29 = some (0, .iconst (-1), 30, [], .int (-1)) := by decide +kernel
theorem t169_30 : am_T 169 30 = some (4, .ireturn, 31, [0], .null) := by decide +kernel
theorem t169_31 : am_T 169 31 = some (0, .lload_n 2, 32, [], .null) := by decide +kernel
theorem t169_32 : am_T 169 32 = some (0, .lstore 4, 34, [], .null) := by decide +kernel
theorem t169_34 : am_T 169 34 = some (0, .iconst 0, 35, [], .int (0)) := by decide +kernel
theorem t169_35 : am_T 169 35 = some (0, .istore 6, 37, [], .null) := by decide +kernel
theorem t169_37 : am_T 169 37 = some (0, .iload 6, 39, [], .null) := by decide +kernel
theorem t169_39 : am_T 169 39 = some (0, .iload_n 1, 40, [], .null) := by decide +kernel
theorem t169_40 : am_T 169 40 = some (1, .if_icmp .ge 40, 43, [80], .null) := by decide +kernel
theorem t169_43 : am_T 169 43 = some (0, .lload 4, 45, [], .null) := by decide +kernel
theorem t169_45 : am_T 169 45 = some (0, .ldc2_w 370, 48, [], .long (6364136223846793005)) := by decide +kernel
theorem t169_48 : am_T 169 48 = some (0, .lmul, 49, [], .null) := by decide +kernel
theorem t169_49 : am_T 169 49 = some (0, .ldc2_w 372, 52, [], .long (1442695040888963407)) := by decide +kernel
theorem t169_52 : am_T 169 52 = some (0, .ladd, 53, [], .null) := by decide +kernel
theorem t169_53 : am_T 169 53 = some (0, .lstore 4, 55, [], .null) := by decide +kernel
theorem t169_55 : am_T 169 55 = some (0, .aload_n 0, 56, [], .null) := by decide +kernel
theorem t169_56 : am_T 169 56 = some (2, .getfield 71, 59, [9, 11], .null) := by decide +kernel
theorem t169_59 : am_T 169 59 = some (0, .lload 4, 61, [], .null) := by decide +kernel
theorem t169_61 : am_T 169 61 = some (0, .bipush 33, 63, [], .int (33)) := by decide +kernel
theorem t169_63 : am_T 169 63 = some (0, .lushr, 64, [], .null) := by decide +kernel
theorem t169_64 : am_T 169 64 = some (3, .invokevirtual 374, 67, [2, 9, 107], .null) := by decide +kernel
theorem t169_67 : am_T 169 67 = some (0, .aload_n 0, 68, [], .null) := by decide +kernel
theorem t169_68 : am_T 169 68 = some (2, .getfield 71, 71, [9, 11], .null) := by decide +kernel
theorem t169_71 : am_T 169 71 = some (3, .invokevirtual 257, 74, [1, 9, 106], .null) := by decide +kernel
theorem t169_74 : am_T 169 74 = some (0, .iinc 6 1, 77, [], .int (1)) := by decide +kernel
theorem t169_77 : am_T 169 77 = some (1, .goto (-40), 80, [37], .null) := by decide +kernel
theorem t169_80 : am_T 169 80 = some (0, .aload_n 0, 81, [], .null) := by decide +kernel
theorem t169_81 : am_T 169 81 = some (2, .getfield 71, 84, [9, 11], .null) := by decide +kernel
theorem t169_84 : am_T 169 84 = some (3, .invokevirtual 378, 87, [1, 9, 114], .null) := by decide +kernel
theorem t169_87 : am_T 169 87 = some (0, .aload_n 0, 88, [], .null) := by decide +kernel
theorem t169_88 : am_T 169 88 = some (2, .getfield 71, 91, [9, 11], .null) := by decide +kernel
theorem t169_91 : am_T 169 91 = some (3, .invokevirtual 224, 94, [1, 9, 97], .null) := by decide +kernel
theorem t169_94 : am_T 169 94 = some (4, .ireturn, 95, [0], .null) := by decide +kernel
theorem t170_0 : am_T 170 0 = some (0, .aload_n 0, 1, [], .null) := by decide +kernel
theorem t170_1 : am_T 170 1 = some (2, .getfield 71, 4, [9, 11], .null) := by decide +kernel
theorem t170_4 : am_T 170 4 = some (0, .iload_n 1, 5, [], .null) := by decide +kernel
theorem t170_5 : am_T 170 5 = some (3, .invokevirtual 381, 8, [2, 9, 109], .null) := by decide +kernel
theorem t170_8 : am_T 170 8 = some (1, .ifCond .eq 21, 11, [29], .null) := by decide +kernel
theorem t170_11 : am_T 170 11 = some (0, .aload_n 0, 12, [], .null) := by decide +kernel
theorem t170_12 : am_T 170 12 = some (2, .getfield 62, 15, [8, 11], .null) := by decide +kernel
theorem t170_15 : am_T 170 15 = some (0, .aload_n 0, 16, [], .null) := by decide +kernel
theorem t170_16 : am_T 170 16 = some (2, .getfield 71, 19, [9, 11], .null) := by decide +kernel
theorem t170_19 : am_T 170 19 = some (0, .iload_n 1, 20, [], .null) := by decide +kernel
theorem t170_20 : am_T 170 20 = some (3, .invokevirtual 384, 23, [2, 9, 110], .null) := by decide +kernel
theorem t170_23 : am_T 170 23 = some (3, .invokevirtual 297, 26, [2, 7, 85], .null) := by decide +kernel
theorem t170_26 : am_T 170 26 = some (1, .goto 4, 29, [30], .null) := by decide +kernel
theorem t170_29 : am_T 170 29 = some (0, .iconst (-1), 30, [], .int (-1)) := by decide +kernel
theorem t170_30 : am_T 170 30 = some (4, .ireturn, 31, [0], .null) := by decide +kernel
theorem t171_0 : am_T 171 0 = some (0, .aload_n 0, 1, [], .null) := by decide +kernel
theorem t171_1 : am_T 171 1 = some (3, .invokevirtual 200, 4, [1, 11, 129], .null) := by decide +kernel
theorem t171_4 : am_T 171 4 = some (1, .ifCond .ne 5, 7, [9], .null) := by decide +kernel
theorem t171_7 : am_T 171 7 = some (0, .iconst (-1), 8, [], .int (-1)) := by decide +kernel
theorem t171_8 : am_T 171 8 = some (4, .ireturn, 9, [0], .null) := by decide +kernel
theorem t171_9 : am_T 171 9 = some (0, .aload_n 0, 10, [], .null) := by decide +kernel
theorem t171_10 : am_T 171 10 = some (2, .getfield 75, 13, [10, 11], .null) := by decide +kernel
theorem t171_13 : am_T 171 13 = some (0, .aload_n 0, 14, [], .null) := by decide +kernel
theorem t171_14 : am_T 171 14 = some (2, .getfield 71, 17, [9, 11], .null) := by decide +kernel
theorem t171_17 : am_T 171 17 = some (3, .invokevirtual 387, 20, [2, 9, 95], .null) := by decide +kernel
theorem t171_20 : am_T 171 20 = some (0, .aload_n 0, 21, [], .null) := by decide +kernel
theorem t171_21 : am_T 171 21 = some (0, .iconst 1, 22, [], .int (1)) := by decide +kernel
theorem t171_22 : am_T 171 22 = some (2, .putfield 105, 25, [16, 1, 11], .null) := by decide +kernel
theorem t171_25 : am_T 171 25 = some (0, .aload_n 0, 26, [], .null) := by decide +kernel
theorem t171_26 : am_T 171 26 = some (2, .getfield 71, 29, [9, 11], .null) := by decide +kernel
theorem t171_29 : am_T 171 29 = some (3, .invokevirtual 224, 32, [1, 9, 97], .null) := by decide +kernel
theorem t171_32 : am_T 171 32 = some (4, .ireturn, 33, [0], .null) := by decide +kernel
theorem t172_0 : am_T 172 0 = some (0, .aload_n 0, 1, [], .null) := by decide +kernel
theorem t172_1 : am_T 172 1 = some (2, .getfield 105, 4, [16, 11], .null) := by decide +kernel
theorem t172_4 : am_T 172 4 = some (1, .ifCond .ne 5, 7, [9], .null) := by decide +kernel
theorem t172_7 : am_T 172 7 = some (0, .iconst (-1), 8, [], .int (-1)) := by decide +kernel
theorem t172_8 : am_T 172 8 = some (4, .ireturn, 9, [0], .null) := by decide +kernel
theorem t172_9 : am_T 172 9 = some (0, .aload_n 0, 10, [], .null) := by decide +kernel
theorem t172_10 : am_T 172 10 = some (2, .getfield 71, 13, [9, 11], .null) := by decide +kernel
theorem t172_13 : am_T 172 13 = some (0, .aload_n 0, 14, [], .null) := by decide +kernel
theorem t172_14 : am_T 172 14 = some (2, .getfield 75, 17, [10, 11], .null) := by decide +kernel
theorem t172_17 : am_T 172 17 = some (3, .invokevirtual 387, 20, [2, 9, 95], .null) := by decide +kernel
theorem t172_20 : am_T 172 20 = some (0, .aload_n 0, 21, [], .null) := by decide +kernel
theorem t172_21 : am_T 172 21 = some (2, .getfield 71, 24, [9, 11], .null) := by decide +kernel
theorem t172_24 : am_T 172 24 = some (3, .invokevirtual 378, 27, [1, 9, 114], .null) := by decide +kernel
theorem t172_27 : am_T 172 27 = some (0, .aload_n 0, 28, [], .null) := by decide +kernel
theorem t172_28 : am_T 172 28 = some (2, .getfield 83, 31, [11, 11], .null) := by decide +kernel
theorem t172_31 : am_T 172 31 = some (3, .invokevirtual 191, 34, [1, 6, 62], .null) := by decide +kernel
theorem t172_34 : am_T 172 34 = some (0, .aload_n 0, 35, [], .null) := by decide +kernel
theorem t172_35 : am_T 172 35 = some (2, .getfield 71, 38, [9, 11], .null) := by decide +kernel
theorem t172_38 : am_T 172 38 = some (3, .invokevirtual 224, 41, [1, 9, 97], .null) := by decide +kernel
theorem t172_41 : am_T 172 41 = some (4, .ireturn, 42, [0], .null) := by decide +kernel
theorem t173_0 : am_T 173 0 = some (0, .iload_n 1, 1, [], .null) := by decide +kernel
theorem t173_1 : am_T 173 1 = some (5, .tableswitch 183 0 13 #[71, 79, 79, 88, 96, 104, 112, 127, 135, 143, 151, 159, 167, 175], 72, [184, 72, 80, 80, 89, 97, 105, 113, 128, 136, 144, 152, 160, 168, 176], .int (0)) := by decide +kernel
theorem t173_72 : am_T 173 72 = some (0, .aload_n 0, 73, [], .null) := by decide +kernel
theorem t173_73 : am_T 173 73 = some (2, .getfield 62, 76, [8, 11], .null) := by decide +kernel
theorem t173_76 : am_T 173 76 = some (3, .invokevirtual 199, 79, [1, 7, 74], .null) := by decide +kernel
theorem t173_79 : am_T 173 79 = some (4, .ireturn, 80, [0], .null) := by decide +kernel
theorem t173_80 : am_T 173 80 = some (0, .aload_n 0, 81, [], .null) := by decide +kernel
theorem t173_81 : am_T 173 81 = some (2, .getfield 71, 84, [9, 11], .null) := by decide +kernel
theorem t173_84 : am_T 173 84 = some (0, .iload_n 1, 85, [], .null) := by decide +kernel
theorem t173_85 : am_T 173 85 = some (3, .invokevirtual 367, 88, [2, 9, 100], .null) := by decide +kernel
theorem t173_88 : am_T 173 88 = some (4, .ireturn, 89, [0], .null) := by decide +kernel
theorem t173_89 : am_T 173 89 = some (0, .aload_n 0, 90, [], .null) := by decide +kernel
theorem t173_90 : am_T 173 90 = some (2, .getfield 71, 93, [9, 11], .null) := by decide +kernel
theorem t173_93 : am_T 173 93 = some (3, .invokevirtual 390, 96, [1, 9, 99], .null) := by decide +kernel
theorem t173_96 : am_T 173 96 = some (4, .ireturn, 97, [0], .null) := by decide +kernel
theorem t173_97 : am_T 173 97 = some (0, .aload_n 0, 98, [], .null) := by decide +kernel
theorem t173_98 : am_T 173 98 = some (2, .getfield 71, 101, [9, 11], .null) := by decide +kernel
theorem t173_101 : am_T 173 101 = some (3, .invokevirtual 231, 104, [1, 9, 98], .null) := by decide +kernel
theorem t173_104 : am_T 173 104 = some (4, .ireturn, 105, [0], .null) := by decide +kernel
theorem t173_105 : am_T 173 105 = some (0, .aload_n 0, 106, [], .null) := by decide +kernel
theorem t173_106 : am_T 173 106 = some (2, .getfield 71, 109, [9, 11], .null) := by decide +kernel
theorem t173_109 : am_T 173 109 = some (3, .invokevirtual 224, 112, [1, 9, 97], .null) := by decide +kernel
theorem t173_112 : am_T 173 112 = some (4, .ireturn, 113, [0], .null) := by decide +kernel
theorem t173_113 : am_T 173 113 = some (0, .aload_n 0, 114, [], .null) := by decide +kernel
theorem t173_114 : am_T 173 114 = some (2, .getfield 62, 117, [8, 11], .null) := by decide +kernel
theorem t173_117 : am_T 173 117 = some (0, .aload_n 0, 118, [], .null) := by decide +kernel
theorem t173_118 : am_T 173 118 = some (2, .getfield 71, 121, [9, 11], .null) := by decide +kernel
theorem t173_121 : am_T 173 121 = some (3, .invokevirtual 237, 124, [1, 9, 96], .null) := by decide +kernel
theorem t173_124 : am_T 173 124 = some (3, .invokevirtual 297, 127, [2, 7, 85], .null) := by decide +kernel
theorem t173_127 : am_T 173 127 = some (4, .ireturn, 128, [0], .null) := by decide +kernel
theorem t173_128 : am_T 173 128 = some (0, .aload_n 0, 129, [], .null) := by decide +kernel
theorem t173_129 : am_T 173 129 = some (2, .getfield 49, 132, [5, 11], .null) := by decide +kernel
theorem t173_132 : am_T 173 132 = some (3, .invokevirtual 140, 135, [1, 0, 278], .null) := by decide +kernel
theorem t173_135 : am_T 173 135 = some (4, .ireturn, 136, [0], .null) := by decide +kernel
theorem t173_136 : am_T 173 136 = some (0, .aload_n 0, 137, [], .null) := by decide +kernel
theorem t173_137 : am_T 173 137 = some (2, .getfield 53, 140, [6, 11], .null) := by decide +kernel
theorem t173_140 : am_T 173 140 = some (3, .invokevirtual 140, 143, [1, 0, 278], .null) := by decide +kernel
theorem t173_143 : am_T 173 143 = some (4, .ireturn, 144, [0], .null) := by decide +kernel
theorem t173_144 : am_T 173 144 = some (0, .aload_n 0, 145, [], .null) := by decide +kernel
theorem t173_145 : am_T 173 145 = some (2, .getfield 56, 148, [7, 11], .null) := by decide +kernel
theorem t173_148 : am_T 173 148 = some (3, .invokevirtual 140, 151, [1, 0, 278], .null) := by decide +kernel
theorem t173_151 : am_T 173 151 = some (4, .ireturn, 152, [0], .null) := by decide +kernel
theorem t173_152 : am_T 173 152 = some (0, .aload_n 0, 153, [], .null) := by decide +kernel
theorem t173_153 : am_T 173 153 = some (2, .getfield 14, 156, [0, 11], .null) := by decide +kernel
theorem t173_156 : am_T 173 156 = some (3, .invokevirtual 109, 159, [1, 4, 29], .null) := by decide +kernel
theorem t173_159 : am_T 173 159 = some (4, .ireturn, 160, [0], .null) := by decide +kernel
theorem t173_160 : am_T 173 160 = some (0, .aload_n 0, 161, [], .null) := by decide +kernel
theorem t173_161 : am_T 173 161 = some (2, .getfield 71, 164, [9, 11], .null) := by decide +kernel
theorem t173_164 : am_T 173 164 = some (3, .invokevirtual 391, 167, [1, 9, 113], .null) := by decide +kernel
theorem t173_167 : am_T 173 167 = some (4, .ireturn, 168, [0], .null) := by decide +kernel
theorem t173_168 : am_T 173 168 = some (0, .aload_n 0, 169, [], .null) := by decide +kernel
theorem t173_169 : am_T 173 169 = some (2, .getfield 92, 172, [12, 11], .null) := by decide +kernel
theorem t173_172 : am_T 173 172 = some (3, .invokevirtual 394, 175, [1, 5, 39], .null) := by decide +kernel
theorem t173_175 : am_T 173 175 = some (4, .ireturn, 176, [0], .null) := by decide +kernel
theorem t173_176 : am_T 173 176 = some (0, .aload_n 0, 177, [], .null) := by decide +kernel
theorem t173_177 : am_T 173 177 = some (2, .getfield 96, 180, [13, 11], .null) := by decide +kernel
theorem t173_180 : am_T 173 180 = some (3, .invokevirtual 109, 183, [1, 4, 29], .null) := by decide +kernel
theorem t173_183 : am_T 173 183 = some (4, .ireturn, 184, [0], .null) := by decide +kernel
theorem t173_184 : am_T 173 184 = some (0, .ldc 223, 186, [], .int (-1000000)) := by decide +kernel
theorem t173_186 : am_T 173 186 = some (4, .ireturn, 187, [0], .null) := by decide +kernel
theorem t174_0 : am_T 174 0 = some (0, .aload_n 0, 1, [], .null) := by decide +kernel
theorem t174_1 : am_T 174 1 = some (2, .invokespecial 1, 4, [], .null) := by decide +kernel
theorem t174_4 : am_T 174 4 = some (0, .aload_n 0, 5, [], .null) := by decide +kernel
theorem t174_5 : am_T 174 5 = some (0, .bipush 120, 7, [], .int (120)) := by decide +kernel
theorem t174_7 : am_T 174 7 = some (2, .newarray .byte, 9, [1], .null) := by decide +kernel
theorem t174_9 : am_T 174 9 = some (2, .putfield 9, 12, [1, 2, 12], .null) := by decide +kernel
theorem t174_12 : am_T 174 12 = some (0, .aload_n 0, 13, [], .null) := by decide +kernel
theorem t174_13 : am_T 174 13 = some (0, .sipush 480, 16, [], .int (480)) := by decide +kernel
theorem t174_16 : am_T 174 16 = some (2, .newarray .byte, 18, [1], .null) := by decide +kernel
theorem t174_18 : am_T 174 18 = some (2, .putfield 13, 21, [2, 2, 12], .null) := by decide +kernel
theorem t174_21 : am_T 174 21 = some (0, .aload_n 0, 22, [], .null) := by decide +kernel
theorem t174_22 : am_T 174 22 = some (0, .iconst 4, 23, [], .int (4)) := by decide +kernel
theorem t174_23 : am_T 174 23 = some (2, .newarray .int, 25, [0], .null) := by decide +kernel
theorem t174_25 : am_T 174 25 = some (2, .putfield 16, 28, [3, 2, 12], .null) := by decide +kernel
theorem t174_28 : am_T 174 28 = some (0, .aload_n 0, 29, [], .null) := by decide +kernel
theorem t174_29 : am_T 174 29 = some (0, .sipush 128, 32, [], .int (128)) := by decide +kernel
theorem t174_32 : am_T 174 32 = some (2, .newarray .int, 34, [0], .null) := by decide +kernel
theorem t174_34 : am_T 174 34 = some (2, .putfield 20, 37, [4, 2, 12], .null) := by decide +kernel
theorem t174_37 : am_T 174 37 = some (0, .aload_n 0, 38, [], .null) := by decide +kernel
theorem t174_38 : am_T 174 38 = some (0, .aload_n 0, 39, [], .null) := by decide +kernel
theorem t174_39 : am_T 174 39 = some (2, .getfield 9, 42, [1, 12], .null) := by decide +kernel
theorem t174_42 : am_T 174 42 = some (2, .putfield 23, 45, [5, 2, 12], .null) := by decide +kernel
theorem t174_45 : am_T 174 45 = some (0, .aload_n 0, 46, [], .null) := by decide +kernel
theorem t174_46 : am_T 174 46 = some (2, .ldc 26, 48, [], .retAddr 2) := by decide +kernel
theorem t174_48 : am_T 174 48 = some (2, .putfield 28, 51, [15, 2, 12], .null) := by decide +kernel
theorem t174_51 : am_T 174 51 = some (0, .aload_n 0, 52, [], .null) := by decide +kernel
theorem t174_52 : am_T 174 52 = some (2, .ldc 32, 54, [], .retAddr 3) := by decide +kernel
theorem t174_54 : am_T 174 54 = some (2, .putfield 34, 57, [16, 2, 12], .null) := by decide +kernel
theorem t174_57 : am_T 174 57 = some (0, .aload_n 0, 58, [], .null) := by decide +kernel
theorem t174_58 : am_T 174 58 = some (0, .iconst 3, 59, [], .int (3)) := by decide +kernel
theorem t174_59 : am_T 174 59 = some (2, .newarray .int, 61, [0], .null) := by decide +kernel
theorem t174_61 : am_T 174 61 = some (2, .putfield 37, 64, [18, 2, 12], .null) := by decide +kernel
theorem t174_64 : am_T 174 64 = some (0, .aload_n 0, 65, [], .null) := by decide +kernel
theorem t174_65 : am_T 174 65 = some (0, .iconst 3, 66, [], .int (3)) := by decide +kernel
theorem t174_66 : am_T 174 66 = some (2, .newarray .int, 68, [0], .null) := by decide +kernel
theorem t174_68 : am_T 174 68 = some (2, .putfield 40, 71, [19, 2, 12], .null) := by decide +kernel
theorem t174_71 : am_T 174 71 = some (0, .aload_n 0, 72, [], .null) := by decide +kernel
theorem t174_72 : am_T 174 72 = some (0, .bipush 32, 74, [], .int (32)) := by decide +kernel
theorem t174_74 : am_T 174 74 = some (2, .newarray .int, 76, [0], .null) := by decide +kernel
theorem t174_76 : am_T 174 76 = some (2, .putfield 43, 79, [24, 2, 12], .null) := by decide +kernel
theorem t174_79 : am_T 174 79 = some (0, .aload_n 0, 80, [], .null) := by decide +kernel
theorem t174_80 : am_T 174 80 = some (0, .sipush 160, 83, [], .int (160)) := by decide +kernel
theorem t174_83 : am_T 174 83 = some (2, .newarray .int, 85, [0], .null) := by decide +kernel
theorem t174_85 : am_T 174 85 = some (2, .putfield 46, 88, [25, 2, 12], .null) := by decide +kernel
theorem t174_88 : am_T 174 88 = some (0, .aload_n 0, 89, [], .null) := by decide +kernel
theorem t174_89 : am_T 174 89 = some (0, .iconst 4, 90, [], .int (4)) := by decide +kernel
theorem t174_90 : am_T 174 90 = some (2, .newarray .int, 92, [0], .null) := by decide +kernel
theorem t174_92 : am_T 174 92 = some (2, .putfield 49, 95, [26, 2, 12], .null) := by decide +kernel
theorem t174_95 : am_T 174 95 = some (0, .aload_n 0, 96, [], .null) := by decide +kernel
theorem t174_96 : am_T 174 96 = some (0, .iconst 4, 97, [], .int (4)) := by decide +kernel
theorem t174_97 : am_T 174 97 = some (2, .newarray .int, 99, [0], .null) := by decide +kernel
theorem t174_99 : am_T 174 99 = some (2, .putfield 52, 102, [27, 2, 12], .null) := by decide +kernel
theorem t174_102 : am_T 174 102 = some (0, .aload_n 0, 103, [], .null) := by decide +kernel
theorem t174_103 : am_T 174 103 = some (0, .bipush 40, 105, [], .int (40)) := by decide +kernel
theorem t174_105 : am_T 174 105 = some (2, .newarray .int, 107, [0], .null) := by decide +kernel
theorem t174_107 : am_T 174 107 = some (2, .putfield 55, 110, [29, 2, 12], .null) := by decide +kernel
theorem t174_110 : am_T 174 110 = some (0, .aload_n 0, 111, [], .null) := by decide +kernel
theorem t174_111 : am_T 174 111 = some (0, .iconst 5, 112, [], .int (5)) := by decide +kernel
theorem t174_112 : am_T 174 112 = some (2, .newarray .int, 114, [0], .null) := by decide +kernel
theorem t174_114 : am_T 174 114 = some (2, .putfield 58, 117, [30, 2, 12], .null) := by decide +kernel
theorem t174_117 : am_T 174 117 = some (0, .aload_n 0, 118, [], .null) := by decide +kernel
theorem t174_118 : am_T 174 118 = some (0, .iconst (-1), 119, [], .int (-1)) := by decide +kernel
theorem t174_119 : am_T 174 119 = some (2, .putfield 61, 122, [32, 0, 12], .null) := by decide +kernel
theorem t174_122 : am_T 174 122 = some (0, .aload_n 0, 123, [], .null) := by decide +kernel
theorem t174_123 : am_T 174 123 = some (0, .bipush 60, 125, [], .int (60)) := by decide +kernel
theorem t174_125 : am_T 174 125 = some (2, .newarray .int, 127, [0], .null) := by decide +kernel
theorem t174_127 : am_T 174 127 = some (2, .putfield 65, 130, [36, 2, 12], .null) := by decide +kernel
theorem t174_130 : am_T 174 130 = some (0, .aload_n 0, 131, [], .null) := by decide +kernel
theorem t174_131 : am_T 174 131 = some (0, .bipush 60, 133, [], .int (60)) := by decide +kernel
theorem t174_133 : am_T 174 133 = some (2, .newarray .int, 135, [0], .null) := by decide +kernel
theorem t174_135 : am_T 174 135 = some (2, .putfield 68, 138, [37, 2, 12], .null) := by decide +kernel
theorem t174_138 : am_T 174 138 = some (0, .aload_n 0, 139, [], .null) := by decide +kernel
theorem t174_139 : am_T 174 139 = some (0, .bipush 60, 141, [], .int (60)) := by decide +kernel
theorem t174_141 : am_T 174 141 = some (2, .newarray .int, 143, [0], .null) := by decide +kernel
theorem t174_143 : am_T 174 143 = some (2, .putfield 71, 146, [38, 2, 12], .null) := by decide +kernel
theorem t174_146 : am_T 174 146 = some (0, .aload_n 0, 147, [], .null) := by decide +kernel
theorem t174_147 : am_T 174 147 = some (0, .bipush 60, 149, [], .int (60)) := by decide +kernel
theorem t174_149 : am_T 174 149 = some (2, .newarray .int, 151, [0], .null) := by decide +kernel
theorem t174_151 : am_T 174 151 = some (2, .putfield 74, 154, [39, 2, 12], .null) := by decide +kernel
theorem t174_154 : am_T 174 154 = some (0, .aload_n 0, 155, [], .null) := by decide +kernel
theorem t174_155 : am_T 174 155 = some (0, .bipush 64, 157, [], .int (64)) := by decide +kernel
theorem t174_157 : am_T 174 157 = some (2, .newarray .int, 159, [0], .null) := by decide +kernel
theorem t174_159 : am_T 174 159 = some (2, .putfield 77, 162, [41, 2, 12], .null) := by decide +kernel
theorem t174_162 : am_T 174 162 = some (0, .aload_n 0, 163, [], .null) := by decide +kernel
theorem t174_163 : am_T 174 163 = some (0, .sipush 243, 166, [], .int (243)) := by decide +kernel
theorem t174_166 : am_T 174 166 = some (2, .newarray .int, 168, [0], .null) := by decide +kernel
theorem t174_168 : am_T 174 168 = some (2, .putfield 80, 171, [44, 2, 12], .null) := by decide +kernel
theorem t174_171 : am_T 174 171 = some (0, .aload_n 0, 172, [], .null) := by decide +kernel
theorem t174_172 : am_T 174 172 = some (0, .sipush 243, 175, [], .int (243)) := by decide +kernel
theorem t174_175 : am_T 174 175 = some (2, .newarray .int, 177, [0], .null) := by decide +kernel
theorem t174_177 : am_T 174 177 = some (2, .putfield 83, 180, [45, 2, 12], .null) := by decide +kernel
theorem t174_180 : am_T 174 180 = some (0, .aload_n 0, 181, [], .null) := by decide +kernel
theorem t174_181 : am_T 174 181 = some (0, .ldc 86, 183, [], .int (59049)) := by decide +kernel
theorem t174_183 : am_T 174 183 = some (2, .newarray .int, 185, [0], .null) := by decide +kernel
theorem t174_185 : am_T 174 185 = some (2, .putfield 87, 188, [46, 2, 12], .null) := by decide +kernel
theorem t174_188 : am_T 174 188 = some (0, .aload_n 0, 189, [], .null) := by decide +kernel
theorem t174_189 : am_T 174 189 = some (0, .sipush 2187, 192, [], .int (2187)) := by decide +kernel
theorem t174_192 : am_T 174 192 = some (2, .newarray .int, 194, [0], .null) := by decide +kernel
theorem t174_194 : am_T 174 194 = some (2, .putfield 90, 197, [47, 2, 12], .null) := by decide +kernel
theorem t174_197 : am_T 174 197 = some (0, .aload_n 0, 198, [], .null) := by decide +kernel
theorem t174_198 : am_T 174 198 = some (0, .sipush 2187, 201, [], .int (2187)) := by decide +kernel
theorem t174_201 : am_T 174 201 = some (2, .newarray .boolean, 203, [2], .null) := by decide +kernel
theorem t174_203 : am_T 174 203 = some (2, .putfield 93, 206, [48, 2, 12], .null) := by decide +kernel
theorem t174_206 : am_T 174 206 = some (0, .aload_n 0, 207, [], .null) := by decide +kernel
theorem t174_207 : am_T 174 207 = some (0, .sipush 2187, 210, [], .int (2187)) := by decide +kernel
theorem t174_210 : am_T 174 210 = some (2, .newarray .boolean, 212, [2], .null) := by decide +kernel
theorem t174_212 : am_T 174 212 = some (2, .putfield 97, 215, [49, 2, 12], .null) := by decide +kernel
theorem t174_215 : am_T 174 215 = some (0, .aload_n 0, 216, [], .null) := by decide +kernel
theorem t174_216 : am_T 174 216 = some (0, .bipush 12, 218, [], .int (12)) := by decide +kernel
theorem t174_218 : am_T 174 218 = some (2, .newarray .int, 220, [0], .null) := by decide +kernel
theorem t174_220 : am_T 174 220 = some (2, .putfield 100, 223, [50, 2, 12], .null) := by decide +kernel
theorem t174_223 : am_T 174 223 = some (0, .aload_n 0, 224, [], .null) := by decide +kernel
theorem t174_224 : am_T 174 224 = some (0, .bipush 12, 226, [], .int (12)) := by decide +kernel
theorem t174_226 : am_T 174 226 = some (2, .newarray .int, 228, [0], .null) := by decide +kernel
theorem t174_228 : am_T 174 228 = some (2, .putfield 103, 231, [51, 2, 12], .null) := by decide +kernel
theorem t174_231 : am_T 174 231 = some (0, .aload_n 0, 232, [], .null) := by decide +kernel
theorem t174_232 : am_T 174 232 = some (0, .bipush 12, 234, [], .int (12)) := by decide +kernel
theorem t174_234 : am_T 174 234 = some (2, .newarray .int, 236, [0], .null) := by decide +kernel
theorem t174_236 : am_T 174 236 = some (2, .putfield 106, 239, [52, 2, 12], .null) := by decide +kernel
theorem t174_239 : am_T 174 239 = some (0, .aload_n 0, 240, [], .null) := by decide +kernel
theorem t174_240 : am_T 174 240 = some (0, .sipush 243, 243, [], .int (243)) := by decide +kernel
theorem t174_243 : am_T 174 243 = some (2, .newarray .long, 245, [3], .null) := by decide +kernel
theorem t174_245 : am_T 174 245 = some (2, .putfield 109, 248, [54, 2, 12], .null) := by decide +kernel
theorem t174_248 : am_T 174 248 = some (0, .aload_n 0, 249, [], .null) := by decide +kernel
theorem t174_249 : am_T 174 249 = some (0, .sipush 243, 252, [], .int (243)) := by decide +kernel
theorem t174_252 : am_T 174 252 = some (2, .newarray .long, 254, [3], .null) := by decide +kernel
theorem t174_254 : am_T 174 254 = some (2, .putfield 113, 257, [55, 2, 12], .null) := by decide +kernel
theorem t174_257 : am_T 174 257 = some (0, .aload_n 0, 258, [], .null) := by decide +kernel
theorem t174_258 : am_T 174 258 = some (0, .bipush 12, 260, [], .int (12)) := by decide +kernel
theorem t174_260 : am_T 174 260 = some (2, .newarray .int, 262, [0], .null) := by decide +kernel
theorem t174_262 : am_T 174 262 = some (2, .putfield 116, 265, [56, 2, 12], .null) := by decide +kernel
theorem t174_265 : am_T 174 265 = some (0, .aload_n 0, 266, [], .null) := by decide +kernel
theorem t174_266 : am_T 174 266 = some (0, .bipush 12, 268, [], .int (12)) := by decide +kernel
theorem t174_268 : am_T 174 268 = some (2, .newarray .int, 270, [0], .null) := by decide +kernel
theorem t174_270 : am_T 174 270 = some (2, .putfield 119, 273, [57, 2, 12], .null) := by decide +kernel
theorem t174_273 : am_T 174 273 = some (0, .aload_n 0, 274, [], .null) := by decide +kernel
theorem t174_274 : am_T 174 274 = some (0, .bipush 60, 276, [], .int (60)) := by decide +kernel
theorem t174_276 : am_T 174 276 = some (2, .newarray .int, 278, [0], .null) := by decide +kernel
theorem t174_278 : am_T 174 278 = some (2, .putfield 122, 281, [59, 2, 12], .null) := by decide +kernel
theorem t174_281 : am_T 174 281 = some (0, .aload_n 0, 282, [], .null) := by decide +kernel
theorem t174_282 : am_T 174 282 = some (0, .iconst 3, 283, [], .int (3)) := by decide +kernel
theorem t174_283 : am_T 174 283 = some (2, .newarray .int, 285, [0], .null) := by decide +kernel
theorem t174_285 : am_T 174 285 = some (2, .putfield 125, 288, [60, 2, 12], .null) := by decide +kernel
theorem t174_288 : am_T 174 288 = some (4, .return_, 289, [], .null) := by decide +kernel
theorem t175_0 : am_T 175 0 = some (0, .aload_n 0, 1, [], .null) := by decide +kernel
theorem t175_1 : am_T 175 1 = some (2, .getfield 128, 4, [0, 12], .null) := by decide +kernel
theorem t175_4 : am_T 175 4 = some (4, .ireturn, 5, [0], .null) := by decide +kernel
theorem t176_0 : am_T 176 0 = some (0, .lload_n 0, 1, [], .null) := by decide +kernel
theorem t176_1 : am_T 176 1 = some (0, .lload_n 2, 2, [], .null) := by decide +kernel
theorem t176_2 : am_T 176 2 = some (0, .lcmp, 3, [], .null) := by decide +kernel
theorem t176_3 : am_T 176 3 = some (1, .ifCond .lt 14, 6, [17], .null) := by decide +kernel
theorem t176_6 : am_T 176 6 = some (0, .lload_n 0, 7, [], .null) := by decide +kernel
theorem t176_7 : am_T 176 7 = some (0, .lload 4, 9, [], .null) := by decide +kernel
theorem t176_9 : am_T 176 9 = some (0, .lcmp, 10, [], .null) := by decide +kernel
theorem t176_10 : am_T 176 10 = some (1, .ifCond .gt 7, 13, [17], .null) := by decide +kernel
theorem t176_13 : am_T 176 13 = some (0, .iconst 1, 14, [], .int (1)) := by decide +kernel
theorem t176_14 : am_T 176 14 = some (1, .goto 4, 17, [18], .null) := by decide +kernel
theorem t176_17 : am_T 176 17 = some (0, .iconst 0, 18, [], .int (0)) := by decide +kernel
theorem t176_18 : am_T 176 18 = some (4, .ireturn, 19, [1], .null) := by decide +kernel
theorem t177_0 : am_T 177 0 = some (0, .iload_n 0, 1, [], .null) := by decide +kernel
theorem t177_1 : am_T 177 1 = some (0, .iload_n 1, 2, [], .null) := by decide +kernel
theorem t177_2 : am_T 177 2 = some (0, .ishr, 3, [], .null) := by decide +kernel
theorem t177_3 : am_T 177 3 = some (0, .iconst 1, 4, [], .int (1)) := by decide +kernel
theorem t177_4 : am_T 177 4 = some (0, .iand, 5, [], .null) := by decide +kernel
theorem t177_5 : am_T 177 5 = some (0, .iconst 1, 6, [], .int (1)) := by decide +kernel
theorem t177_6 : am_T 177 6 = some (1, .if_icmp .ne 7, 9, [13], .null) := by decide +kernel
theorem t177_9 : am_T 177 9 = some (0, .iconst 1, 10, [], .int (1)) := by decide +kernel
theorem t177_10 : am_T 177 10 = some (1, .goto 4, 13, [14], .null) := by decide +kernel
theorem t177_13 : am_T 177 13 = some (0, .iconst 0, 14, [], .int (0)) := by decide +kernel
theorem t177_14 : am_T 177 14 = some (4, .ireturn, 15, [1], .null) := by decide +kernel
theorem t178_0 : am_T 178 0 = some (0, .iconst 0, 1, [], .int (0)) := by decide +kernel
theorem t178_1 : am_T 178 1 = some (0, .istore_n 2, 2, [], .null) := by decide +kernel
theorem t178_2 : am_T 178 2 = some (0, .iload_n 2, 3, [], .null) := by decide +kernel
theorem t178_3 : am_T 178 3 = some (0, .aload_n 0, 4, [], .null) := by decide +kernel
theorem t178_4 : am_T 178 4 = some (3, .invokevirtual 131, 7, [1, 100, 267], .null) := by decide +kernel
theorem t178_7 : am_T 178 7 = some (1, .if_icmp .ge 20, 10, [27], .null) := by decide +kernel
theorem t178_10 : am_T 178 10 = some (0, .aload_n 0, 11, [], .null) := by decide +kernel
theorem t178_11 : am_T 178 11 = some (0, .iload_n 2, 12, [], .null) := by decide +kernel
theorem t178_12 : am_T 178 12 = some (3, .invokevirtual 137, 15, [2, 100, 268], .null) := by decide +kernel
theorem t178_15 : am_T 178 15 = some (0, .iload_n 1, 16, [], .null) := by decide +kernel
theorem t178_16 : am_T 178 16 = some (1, .if_icmp .ne 5, 19, [21], .null) := by decide +kernel
theorem t178_19 : am_T 178 19 = some (0, .iconst 1, 20, [], .int (1)) := by decide +kernel
theorem t178_20 : am_T 178 20 = some (4, .ireturn, 21, [1], .null) := by decide +kernel
theorem t178_21 : am_T 178 21 = some (0, .iinc 2 1, 24, [], .int (1)) := by decide +kernel
theorem t178_24 : am_T 178 24 = some (1, .goto (-22), 27, [2], .null) := by decide +kernel
theorem t178_27 : am_T 178 27 = some (0, .iconst 0, 28, [], .int (0)) := by decide +kernel
theorem t178_28 : am_T 178 28 = some (4, .ireturn, 29, [1], .null) := by decide +kernel
theorem t179_0 : am_T 179 0 = some (0, .iconst 0, 1, [], .int (0)) := by decide +kernel
theorem t179_1 : am_T 179 1 = some (0, .istore_n 1, 2, [], .null) := by decide +kernel
theorem t179_2 : am_T 179 2 = some (0, .bipush 24, 4, [], .int (24)) := by decide +kernel
theorem t179_4 : am_T 179 4 = some (0, .istore_n 2, 5, [], .null) := by decide +kernel
theorem t179_5 : am_T 179 5 = some (0, .iload_n 2, 6, [], .null) := by decide +kernel
theorem t179_6 : am_T 179 6 = some (1, .ifCond .lt 27, 9, [33], .null) := by decide +kernel
theorem t179_9 : am_T 179 9 = some (0, .iload_n 1, 10, [], .null) := by decide +kernel
theorem t179_10 : am_T 179 10 = some (0, .iload_n 0, 11, [], .null) := by decide +kernel
theorem t179_11 : am_T 179 11 = some (0, .iload_n 2, 12, [], .null) := by decide +kernel
theorem t179_12 : am_T 179 12 = some (0, .ishr, 13, [], .null) := by decide +kernel
theorem t179_13 : am_T 179 13 = some (0, .sipush 255, 16, [], .int (255)) := by decide +kernel
theorem t179_16 : am_T 179 16 = some (0, .iand, 17, [], .null) := by decide +kernel
theorem t179_17 : am_T 179 17 = some (1, .ifCond .eq 7, 20, [24], .null) := by decide +kernel
theorem t179_20 : am_T 179 20 = some (0, .iconst 1, 21, [], .int (1)) := by decide +kernel
theorem t179_21 : am_T 179 21 = some (1, .goto 4, 24, [25], .null) := by decide +kernel
theorem t179_24 : am_T 179 24 = some (0, .iconst 0, 25, [], .int (0)) := by decide +kernel
theorem t179_25 : am_T 179 25 = some (0, .iadd, 26, [], .null) := by decide +kernel
theorem t179_26 : am_T 179 26 = some (0, .istore_n 1, 27, [], .null) := by decide +kernel
theorem t179_27 : am_T 179 27 = some (0, .iinc 2 (-8), 30, [], .int (-8)) := by decide +kernel
theorem t179_30 : am_T 179 30 = some (1, .goto (-25), 33, [5], .null) := by decide +kernel
theorem t179_33 : am_T 179 33 = some (0, .iload_n 1, 34, [], .null) := by decide +kernel
theorem t179_34 : am_T 179 34 = some (4, .ireturn, 35, [0], .null) := by decide +kernel
theorem t180_0 : am_T 180 0 = some (0, .bipush 24, 2, [], .int (24)) := by decide +kernel
theorem t180_2 : am_T 180 2 = some (0, .istore_n 2, 3, [], .null) := by decide +kernel
theorem t180_3 : am_T 180 3 = some (0, .iload_n 2, 4, [], .null) := by decide +kernel
theorem t180_4 : am_T 180 4 = some (1, .ifCond .lt 45, 7, [49], .null) := by decide +kernel
theorem t180_7 : am_T 180 7 = some (0, .iload_n 1, 8, [], .null) := by decide +kernel
theorem t180_8 : am_T 180 8 = some (0, .iload_n 2, 9, [], .null) := by decide +kernel
theorem t180_9 : am_T 180 9 = some (0, .ishr, 10, [], .null) := by decide +kernel
theorem t180_10 : am_T 180 10 = some (0, .sipush 255, 13, [], .int (255)) := by decide +kernel
theorem t180_13 : am_T 180 13 = some (0, .iand, 14, [], .null) := by decide +kernel
theorem t180_14 : am_T 180 14 = some (1, .ifCond .ne 6, 17, [20], .null) := by decide +kernel
theorem t180_17 : am_T 180 17 = some (1, .goto 26, 20, [43], .null) := by decide +kernel
theorem t180_20 : am_T 180 20 = some (0, .aload_n 0, 21, [], .null) := by decide +kernel
theorem t180_21 : am_T 180 21 = some (2, .getfield 9, 24, [1, 12], .null) := by decide +kernel
theorem t180_24 : am_T 180 24 = some (0, .aload_n 0, 25, [], .null) := by decide +kernel
theorem t180_25 : am_T 180 25 = some (2, .getfield 141, 28, [6, 12], .null) := by decide +kernel
theorem t180_28 : am_T 180 28 = some (0, .iload_n 1, 29, [], .null) := by decide +kernel
theorem t180_29 : am_T 180 29 = some (0, .iload_n 2, 30, [], .null) := by decide +kernel
theorem t180_30 : am_T 180 30 = some (0, .ishr, 31, [], .null) := by decide +kernel
theorem t180_31 : am_T 180 31 = some (0, .i2b, 32, [], .null) := by decide +kernel
theorem t180_32 : am_T 180 32 = some (2, .bastore, 33, [], .null) := by decide +kernel
theorem t180_33 : am_T 180 33 = some (0, .aload_n 0, 34, [], .null) := by decide +kernel
theorem t180_34 : am_T 180 34 = some (0, .dup, 35, [], .null) := by decide +kernel
theorem t180_35 : am_T 180 35 = some (2, .getfield 141, 38, [6, 12], .null) := by decide +kernel
theorem t180_38 : am_T 180 38 = some (0, .iconst 1, 39, [], .int (1)) := by decide +kernel
theorem t180_39 : am_T 180 39 = some (0, .iadd, 40, [], .null) := by decide +kernel
theorem t180_40 : am_T 180 40 = some (2, .putfield 141, 43, [6, 0, 12], .null) := by decide +kernel
theorem t180_43 : am_T 180 43 = some (0, .iinc 2 (-8), 46, [], .int (-8)) := by decide +kernel
theorem t180_46 : am_T 180 46 = some (1, .goto (-43), 49, [3], .null) := by decide +kernel
theorem t180_49 : am_T 180 49 = some (4, .return_, 50, [], .null) := by decide +kernel
theorem t181_0 : am_T 181 0 = some (0, .aload_n 0, 1, [], .null) := by decide +kernel
theorem t181_1 : am_T 181 1 = some (0, .iconst 0, 2, [], .int (0)) := by decide +kernel
theorem t181_2 : am_T 181 2 = some (2, .putfield 128, 5, [0, 0, 12], .null) := by decide +kernel
theorem t181_5 : am_T 181 5 = some (0, .aload_n 0, 6, [], .null) := by decide +kernel
theorem t181_6 : am_T 181 6 = some (2, .getfield 141, 9, [6, 12], .null) := by decide +kernel
theorem t181_9 : am_T 181 9 = some (0, .iload_n 1, 10, [], .null) := by decide +kernel
theorem t181_10 : am_T 181 10 = some (3, .invokestatic 143, 13, [1, 179], .null) := by decide +kernel
theorem t181_13 : am_T 181 13 = some (0, .iadd, 14, [], .null) := by decide +kernel
theorem t181_14 : am_T 181 14 = some (0, .iload_n 2, 15, [], .null) := by decide +kernel
theorem t181_15 : am_T 181 15 = some (3, .invokestatic 143, 18, [1, 179], .null) := by decide +kernel
theorem t181_18 : am_T 181 18 = some (0, .iadd, 19, [], .null) := by decide +kernel
theorem t181_19 : am_T 181 19 = some (0, .iload_n 3, 20, [], .null) := by decide +kernel
theorem t181_20 : am_T 181 20 = some (3, .invokestatic 143, 23, [1, 179], .null) := by decide +kernel
theorem t181_23 : am_T 181 23 = some (0, .iadd, 24, [], .null) := by decide +kernel
theorem t181_24 : am_T 181 24 = some (0, .iload 4, 26, [], .null) := by decide +kernel
theorem t181_26 : am_T 181 26 = some (3, .invokestatic 143, 29, [1, 179], .null) := by decide +kernel
theorem t181_29 : am_T 181 29 = some (0, .iadd, 30, [], .null) := by decide +kernel
theorem t181_30 : am_T 181 30 = some (0, .iload 5, 32, [], .null) := by decide +kernel
theorem t181_32 : am_T 181 32 = some (3, .invokestatic 143, 35, [1, 179], .null) := by decide +kernel
theorem t181_35 : am_T 181 35 = some (0, .iadd, 36, [], .null) := by decide +kernel
theorem t181_36 : am_T 181 36 = some (0, .bipush 120, 38, [], .int (120)) := by decide +kernel
theorem t181_38 : am_T 181 38 = some (1, .if_icmp .le 5, 41, [43], .null) := by decide +kernel
theorem t181_41 : am_T 181 41 = some (0, .iconst (-1), 42, [], .int (-1)) := by decide +kernel
theorem t181_42 : am_T 181 42 = some (4, .ireturn, 43, [0], .null) := by decide +kernel
theorem t181_43 : am_T 181 43 = some (0, .aload_n 0, 44, [], .null) := by decide +kernel
theorem t181_44 : am_T 181 44 = some (0, .iload_n 1, 45, [], .null) := by decide +kernel
theorem t181_45 : am_T 181 45 = some (3, .invokevirtual 147, 48, [2, 12, 180], .null) := by decide +kernel
theorem t181_48 : am_T 181 48 = some (0, .aload_n 0, 49, [], .null) := by decide +kernel
theorem t181_49 : am_T 181 49 = some (0, .iload_n 2, 50, [], .null) := by decide +kernel
theorem t181_50 : am_T 181 50 = some (3, .invokevirtual 147, 53, [2, 12, 180], .null) := by decide +kernel
theorem t181_53 : am_T 181 53 = some (0, .aload_n 0, 54, [], .null) := by decide +kernel
theorem t181_54 : am_T 181 54 = some (0, .iload_n 3, 55, [], .null) := by decide +kernel
theorem t181_55 : am_T 181 55 = some (3, .invokevirtual 147, 58, [2, 12, 180], .null) := by decide +kernel
theorem t181_58 : am_T 181 58 = some (0, .aload_n 0, 59, [], .null) := by decide +kernel
theorem t181_59 : am_T 181 59 = some (0, .iload 4, 61, [], .null) := by decide +kernel
theorem t181_61 : am_T 181 61 = some (3, .invokevirtual 147, 64, [2, 12, 180], .null) := by decide +kernel
theorem t181_64 : am_T 181 64 = some (0, .aload_n 0, 65, [], .null) := by decide +kernel
theorem t181_65 : am_T 181 65 = some (0, .iload 5, 67, [], .null) := by decide +kernel
theorem t181_67 : am_T 181 67 = some (3, .invokevirtual 147, 70, [2, 12, 180], .null) := by decide +kernel
theorem t181_70 : am_T 181 70 = some (0, .aload_n 0, 71, [], .null) := by decide +kernel
theorem t181_71 : am_T 181 71 = some (2, .getfield 141, 74, [6, 12], .null) := by decide +kernel
theorem t181_74 : am_T 181 74 = some (4, .ireturn, 75, [0], .null) := by decide +kernel
theorem t182_0 : am_T 182 0 = some (0, .aload_n 0, 1, [], .null) := by decide +kernel
theorem t182_1 : am_T 182 1 = some (0, .iconst 0, 2, [], .int (0)) := by decide +kernel
theorem t182_2 : am_T 182 2 = some (2, .putfield 128, 5, [0, 0, 12], .null) := by decide +kernel
theorem t182_5 : am_T 182 5 = some (0, .iload_n 1, 6, [], .null) := by decide +kernel
theorem t182_6 : am_T 182 6 = some (1, .ifCond .lt 11, 9, [17], .null) := by decide +kernel
theorem t182_9 : am_T 182 9 = some (0, .iload_n 1, 10, [], .null) := by decide +kernel
theorem t182_10 : am_T 182 10 = some (0, .aload_n 0, 11, [], .null) := by decide +kernel
theorem t182_11 : am_T 182 11 = some (2, .getfield 141, 14, [6, 12], .null) := by decide +kernel
theorem t182_14 : am_T 182 14 = some (1, .if_icmp .le 5, 17, [19], .null) := by decide +kernel
theorem t182_17 : am_T 182 17 = some (0, .iconst 0, 18, [], .int (0)) := by decide +kernel
theorem t182_18 : am_T 182 18 = some (4, .ireturn, 19, [1], .null) := by decide +kernel
theorem t182_19 : am_T 182 19 = some (0, .aload_n 0, 20, [], .null) := by decide +kernel
theorem t182_20 : am_T 182 20 = some (0, .iload_n 1, 21, [], .null) := by decide +kernel
theorem t182_21 : am_T 182 21 = some (2, .putfield 141, 24, [6, 0, 12], .null) := by decide +kernel
theorem t182_24 : am_T 182 24 = some (0, .iconst 1, 25, [], .int (1)) := by decide +kernel
theorem t182_25 : am_T 182 25 = some (4, .ireturn, 26, [1], .null) := by decide +kernel
theorem t183_0 : am_T 183 0 = some (0, .aload_n 0, 1, [], .null) := by decide +kernel
theorem t183_1 : am_T 183 1 = some (2, .getfield 151, 4, [10, 12], .null) := by decide +kernel
theorem t183_4 : am_T 183 4 = some (0, .aload_n 0, 5, [], .null) := by decide +kernel
theorem t183_5 : am_T 183 5 = some (2, .getfield 154, 8, [9, 12], .null) := by decide +kernel
theorem t183_8 : am_T 183 8 = some (1, .if_icmp .ge 35, 11, [43], .null) := by decide +kernel
theorem t183_11 : am_T 183 11 = some (0, .aload_n 0, 12, [], .null) := by decide +kernel
theorem t183_12 : am_T 183 12 = some (2, .getfield 23, 15, [5, 12], .null) := by decide +kernel
theorem t183_15 : am_T 183 15 = some (0, .aload_n 0, 16, [], .null) := by decide +kernel
theorem t183_16 : am_T 183 16 = some (2, .getfield 157, 19, [8, 12], .null) := by decide +kernel
theorem t183_19 : am_T 183 19 = some (0, .aload_n 0, 20, [], .null) := by decide +kernel
theorem t183_20 : am_T 183 20 = some (2, .getfield 151, 23, [10, 12], .null) := by decide +kernel
theorem t183_23 : am_T 183 23 = some (0, .iadd, 24, [], .null) := by decide +kernel
theorem t183_24 : am_T 183 24 = some (2, .baload, 25, [], .null) := by decide +kernel
theorem t183_25 : am_T 183 25 = some (0, .bipush 32, 27, [], .int (32)) := by decide +kernel
theorem t183_27 : am_T 183 27 = some (1, .if_icmp .ne 16, 30, [43], .null) := by decide +kernel
theorem t183_30 : am_T 183 30 = some (0, .aload_n 0, 31, [], .null) := by decide +kernel
theorem t183_31 : am_T 183 31 = some (0, .dup, 32, [], .null) := by decide +kernel
theorem t183_32 : am_T 183 32 = some (2, .getfield 151, 35, [10, 12], .null) := by decide +kernel
theorem t183_35 : am_T 183 35 = some (0, .iconst 1, 36, [], .int (1)) := by decide +kernel
theorem t183_36 : am_T 183 36 = some (0, .iadd, 37, [], .null) := by decide +kernel
theorem t183_37 : am_T 183 37 = some (2, .putfield 151, 40, [10, 0, 12], .null) := by decide +kernel
theorem t183_40 : am_T 183 40 = some (1, .goto (-40), 43, [0], .null) := by decide +kernel
theorem t183_43 : am_T 183 43 = some (0, .aload_n 0, 44, [], .null) := by decide +kernel
theorem t183_44 : am_T 183 44 = some (2, .getfield 151, 47, [10, 12], .null) := by decide +kernel
theorem t183_47 : am_T 183 47 = some (0, .aload_n 0, 48, [], .null) := by decide +kernel
theorem t183_48 : am_T 183 48 = some (2, .getfield 154, 51, [9, 12], .null) := by decide +kernel
theorem t183_51 : am_T 183 51 = some (1, .if_icmp .ge 24, 54, [75], .null) := by decide +kernel
theorem t183_54 : am_T 183 54 = some (0, .aload_n 0, 55, [], .null) := by decide +kernel
theorem t183_55 : am_T 183 55 = some (2, .getfield 23, 58, [5, 12], .null) := by decide +kernel
theorem t183_58 : am_T 183 58 = some (0, .aload_n 0, 59, [], .null) := by decide +kernel
theorem t183_59 : am_T 183 59 = some (2, .getfield 157, 62, [8, 12], .null) := by decide +kernel
theorem t183_62 : am_T 183 62 = some (0, .aload_n 0, 63, [], .null) := by decide +kernel
theorem t183_63 : am_T 183 63 = some (2, .getfield 151, 66, [10, 12], .null) := by decide +kernel
theorem t183_66 : am_T 183 66 = some (0, .iadd, 67, [], .null) := by decide +kernel
theorem t183_67 : am_T 183 67 = some (2, .baload, 68, [], .null) := by decide +kernel
theorem t183_68 : am_T 183 68 = some (0, .sipush 255, 71, [], .int (255)) := by decide +kernel
theorem t183_71 : am_T 183 71 = some (0, .iand, 72, [], .null) := by decide +kernel
theorem t183_72 : am_T 183 72 = some (1, .goto 4, 75, [76], .null) := by decide +kernel
theorem t183_75 : am_T 183 75 = some (0, .iconst (-1), 76, [], .int (-1)) := by decide +kernel
theorem t183_76 : am_T 183 76 = some (4, .ireturn, 77, [0], .null) := by decide +kernel
theorem t184_0 : am_T 184 0 = some (0, .aload_n 0, 1, [], .null) := by decide +kernel
theorem t184_1 : am_T 184 1 = some (2, .getfield 160, 4, [11, 12], .null) := by decide +kernel
theorem t184_4 : am_T 184 4 = some (0, .iconst (-1), 5, [], .int (-1)) := by decide +kernel
theorem t184_5 : am_T 184 5 = some (1, .if_icmp .ne 11, 8, [16], .null) := by decide +kernel
theorem t184_8 : am_T 184 8 = some (0, .aload_n 0, 9, [], .null) := by decide +kernel
theorem t184_9 : am_T 184 9 = some (0, .aload_n 0, 10, [], .null) := by decide +kernel
theorem t184_10 : am_T 184 10 = some (2, .getfield 151, 13, [10, 12], .null) := by decide +kernel
theorem t184_13 : am_T 184 13 = some (2, .putfield 160, 16, [11, 0, 12], .null) := by decide +kernel
theorem t184_16 : am_T 184 16 = some (0, .iconst 0, 17, [], .int (0)) := by decide +kernel
theorem t184_17 : am_T 184 17 = some (4, .ireturn, 18, [1], .null) := by decide +kernel
theorem t185_0 : am_T 185 0 = some (0, .aload_n 0, 1, [], .null) := by decide +kernel
theorem t185_1 : am_T 185 1 = some (2, .getfield 163, 4, [12, 12], .null) := by decide +kernel
theorem t185_4 : am_T 185 4 = some (0, .bipush 6, 6, [], .int (6)) := by decide +kernel
theorem t185_6 : am_T 185 6 = some (1, .if_icmp .ne 8, 9, [14], .null) := by decide +kernel
theorem t185_9 : am_T 185 9 = some (0, .aload_n 0, 10, [], .null) := by decide +kernel
theorem t185_10 : am_T 185 10 = some (3, .invokevirtual 166, 13, [1, 12, 184], .null) := by decide +kernel
theorem t185_13 : am_T 185 13 = some (4, .ireturn, 14, [1], .null) := by decide +kernel
theorem t185_14 : am_T 185 14 = some (0, .aload_n 0, 15, [], .null) := by decide +kernel
theorem t185_15 : am_T 185 15 = some (0, .dup, 16, [], .null) := by decide +kernel
theorem t185_16 : am_T 185 16 = some (2, .getfield 163, 19, [12, 12], .null) := by decide +kernel
theorem t185_19 : am_T 185 19 = some (0, .iconst 1, 20, [], .int (1)) := by decide +kernel
theorem t185_20 : am_T 185 20 = some (0, .iadd, 21, [], .null) := by decide +kernel
theorem t185_21 : am_T 185 21 = some (2, .putfield 163, 24, [12, 0, 12], .null) := by decide +kernel
theorem t185_24 : am_T 185 24 = some (0, .aload_n 0, 25, [], .null) := by decide +kernel
theorem t185_25 : am_T 185 25 = some (0, .dup, 26, [], .null) := by decide +kernel
theorem t185_26 : am_T 185 26 = some (2, .getfield 151, 29, [10, 12], .null) := by decide +kernel
theorem t185_29 : am_T 185 29 = some (0, .iconst 1, 30, [], .int (1)) := by decide +kernel
theorem t185_30 : am_T 185 30 = some (0, .iadd, 31, [], .null) := by decide +kernel
theorem t185_31 : am_T 185 31 = some (2, .putfield 151, 34, [10, 0, 12], .null) := by decide +kernel
theorem t185_34 : am_T 185 34 = some (0, .iconst 1, 35, [], .int (1)) := by decide +kernel
theorem t185_35 : am_T 185 35 = some (4, .ireturn, 36, [1], .null) := by decide +kernel
theorem t186_0 : am_T 186 0 = some (0, .aload_n 0, 1, [], .null) := by decide +kernel
theorem t186_1 : am_T 186 1 = some (2, .getfield 160, 4, [11, 12], .null) := by decide +kernel
theorem t186_4 : am_T 186 4 = some (0, .iconst (-1), 5, [], .int (-1)) := by decide +kernel
theorem t186_5 : am_T 186 5 = some (1, .if_icmp .ne 11, 8, [16], .null) := by decide +kernel
theorem t186_8 : am_T 186 8 = some (0, .aload_n 0, 9, [], .null) := by decide +kernel
theorem t186_9 : am_T 186 9 = some (3, .invokevirtual 170, 12, [1, 12, 183], .null) := by decide +kernel
theorem t186_12 : am_T 186 12 = some (0, .iload_n 1, 13, [], .null) := by decide +kernel
theorem t186_13 : am_T 186 13 = some (1, .if_icmp .eq 8, 16, [21], .null) := by decide +kernel
theorem t186_16 : am_T 186 16 = some (0, .aload_n 0, 17, [], .null) := by decide +kernel
theorem t186_17 : am_T 186 17 = some (3, .invokevirtual 166, 20, [1, 12, 184], .null) := by decide +kernel
theorem t186_20 : am_T 186 20 = some (4, .ireturn, 21, [1], .null) := by decide +kernel
theorem t186_21 : am_T 186 21 = some (0, .aload_n 0, 22, [], .null) := by decide +kernel
theorem t186_22 : am_T 186 22 = some (0, .dup, 23, [], .null) := by decide +kernel
theorem t186_23 : am_T 186 23 = some (2, .getfield 151, 26, [10, 12], .null) := by decide +kernel
theorem t186_26 : am_T 186 26 = some (0, .iconst 1, 27, [], .int (1)) := by decide +kernel
theorem t186_27 : am_T 186 27 = some (0, .iadd, 28, [], .null) := by decide +kernel
theorem t186_28 : am_T 186 28 = some (2, .putfield 151, 31, [10, 0, 12], .null) := by decide +kernel
theorem t186_31 : am_T 186 31 = some (0, .iconst 1, 32, [], .int (1)) := by decide +kernel
theorem t186_32 : am_T 186 32 = some (4, .ireturn, 33, [1], .null) := by decide +kernel
theorem t187_0 : am_T 187 0 = some (0, .aload_n 0, 1, [], .null) := by decide +kernel
theorem t187_1 : am_T 187 1 = some (2, .getfield 151, 4, [10, 12], .null) := by decide +kernel
theorem t187_4 : am_T 187 4 = some (0, .aload_n 0, 5, [], .null) := by decide +kernel
theorem t187_5 : am_T 187 5 = some (2, .getfield 154, 8, [9, 12], .null) := by decide +kernel
theorem t187_8 : am_T 187 8 = some (1, .if_icmp .ge 45, 11, [53], .null) := by decide +kernel
theorem t187_11 : am_T 187 11 = some (0, .aload_n 0, 12, [], .null) := by decide +kernel
theorem t187_12 : am_T 187 12 = some (2, .getfield 23, 15, [5, 12], .null) := by decide +kernel
theorem t187_15 : am_T 187 15 = some (0, .aload_n 0, 16, [], .null) := by decide +kernel
theorem t187_16 : am_T 187 16 = some (2, .getfield 157, 19, [8, 12], .null) := by decide +kernel
theorem t187_19 : am_T 187 19 = some (0, .aload_n 0, 20, [], .null) := by decide +kernel
theorem t187_20 : am_T 187 20 = some (2, .getfield 151, 23, [10, 12], .null) := by decide +kernel
theorem t187_23 : am_T 187 23 = some (0, .iadd, 24, [], .null) := by decide +kernel
theorem t187_24 : am_T 187 24 = some (2, .baload, 25, [], .null) := by decide +kernel
theorem t187_25 : am_T 187 25 = some (0, .bipush 48, 27, [], .int (48)) := by decide +kernel
theorem t187_27 : am_T 187 27 = some (1, .if_icmp .lt 26, 30, [53], .null) := by decide +kernel
theorem t187_30 : am_T 187 30 = some (0, .aload_n 0, 31, [], .null) := by decide +kernel
theorem t187_31 : am_T 187 31 = some (2, .getfield 23, 34, [5, 12], .null) := by decide +kernel
theorem t187_34 : am_T 187 34 = some (0, .aload_n 0, 35, [], .null) := by decide +kernel
theorem t187_35 : am_T 187 35 = some (2, .getfield 157, 38, [8, 12], .null) := by decide +kernel
theorem t187_38 : am_T 187 38 = some (0, .aload_n 0, 39, [], .null) := by decide +kernel
theorem t187_39 : am_T 187 39 = some (2, .getfield 151, 42, [10, 12], .null) := by decide +kernel
theorem t187_42 : am_T 187 42 = some (0, .iadd, 43, [], .null) := by decide +kernel
theorem t187_43 : am_T 187 43 = some (2, .baload, 44, [], .null) := by decide +kernel
theorem t187_44 : am_T 187 44 = some (0, .bipush 57, 46, [], .int (57)) := by decide +kernel
theorem t187_46 : am_T 187 46 = some (1, .if_icmp .gt 7, 49, [53], .null) := by decide +kernel
theorem t187_49 : am_T 187 49 = some (0, .iconst 1, 50, [], .int (1)) := by decide +kernel
theorem t187_50 : am_T 187 50 = some (1, .goto 4, 53, [54], .null) := by decide +kernel
theorem t187_53 : am_T 187 53 = some (0, .iconst 0, 54, [], .int (0)) := by decide +kernel
theorem t187_54 : am_T 187 54 = some (4, .ireturn, 55, [1], .null) := by decide +kernel
theorem t188_0 : am_T 188 0 = some (0, .ldc2_w 173, 3, [], .long (-1000000)) := by decide +kernel
theorem t188_3 : am_T 188 3 = some (0, .ldc2_w 175, 6, [], .long (1000000)) := by decide +kernel
theorem t188_6 : am_T 188 6 = some (0, .lload_n 0, 7, [], .null) := by decide +kernel
theorem t188_7 : am_T 188 7 = some (2, .invokestatic 177, 10, [2], .null) := by decide +kernel
theorem t188_10 : am_T 188 10 = some (2, .invokestatic 183, 13, [3], .null) := by decide +kernel
theorem t188_13 : am_T 188 13 = some (0, .l2i, 14, [], .null) := by decide +kernel
theorem t188_14 : am_T 188 14 = some (4, .ireturn, 15, [0], .null) := by decide +kernel
theorem t189_0 : am_T 189 0 = some (0, .aload_n 0, 1, [], .null) := by decide +kernel
theorem t189_1 : am_T 189 1 = some (3, .invokevirtual 170, 4, [1, 12, 183], .null) := by decide +kernel
theorem t189_4 : am_T 189 4 = some (0, .istore_n 1, 5, [], .null) := by decide +kernel
theorem t189_5 : am_T 189 5 = some (2, .ldc 32, 7, [], .retAddr 3) := by decide +kernel
theorem t189_7 : am_T 189 7 = some (0, .iload_n 1, 8, [], .null) := by decide +kernel
theorem t189_8 : am_T 189 8 = some (3, .invokestatic 186, 11, [2, 178], .null) := by decide +kernel
theorem t189_11 : am_T 189 11 = some (1, .ifCond .eq 20, 14, [31], .null) := by decide +kernel
theorem t189_14 : am_T 189 14 = some (0, .aload_n 0, 15, [], .null) := by decide +kernel
theorem t189_15 : am_T 189 15 = some (0, .dup, 16, [], .null) := by decide +kernel
theorem t189_16 : am_T 189 16 = some (2, .getfield 151, 19, [10, 12], .null) := by decide +kernel
theorem t189_19 : am_T 189 19 = some (0, .iconst 1, 20, [], .int (1)) := by decide +kernel
theorem t189_20 : am_T 189 20 = some (0, .iadd, 21, [], .null) := by decide +kernel
theorem t189_21 : am_T 189 21 = some (2, .putfield 151, 24, [10, 0, 12], .null) := by decide +kernel
theorem t189_24 : am_T 189 24 = some (0, .aload_n 0, 25, [], .null) := by decide +kernel
theorem t189_25 : am_T 189 25 = some (2, .getfield 20, 28, [4, 12], .null) := by decide +kernel
theorem t189_28 : am_T 189 28 = some (0, .iload_n 1, 29, [], .null) := by decide +kernel
theorem t189_29 : am_T 189 29 = some (2, .iaload, 30, [], .null) := by decide +kernel
theorem t189_30 : am_T 189 30 = some (4, .ireturn, 31, [0], .null) := by decide +kernel
theorem t189_31 : am_T 189 31 = some (0, .iload_n 1, 32, [], .null) := by decide +kernel
theorem t189_32 : am_T 189 32 = some (0, .bipush 91, 34, [], .int (91)) := by decide +kernel
theorem t189_34 : am_T 189 34 = some (1, .if_icmp .ne 40, 37, [74], .null) := by decide +kernel
theorem t189_37 : am_T 189 37 = some (0, .aload_n 0, 38, [], .null) := by decide +kernel
theorem t189_38 : am_T 189 38 = some (3, .invokevirtual 190, 41, [1, 12, 185], .null) := by decide +kernel
theorem t189_41 : am_T 189 41 = some (1, .ifCond .ne 5, 44, [46], .null) := by decide +kernel
theorem t189_44 : am_T 189 44 = some (0, .iconst 0, 45, [], .int (0)) := by decide +kernel
theorem t189_45 : am_T 189 45 = some (4, .ireturn, 46, [0], .null) := by decide +kernel
theorem t189_46 : am_T 189 46 = some (0, .aload_n 0, 47, [], .null) := by decide +kernel
theorem t189_47 : am_T 189 47 = some (3, .invokevirtual 193, 50, [1, 12, 191], .null) := by decide +kernel
theorem t189_50 : am_T 189 50 = some (0, .istore_n 2, 51, [], .null) := by decide +kernel
theorem t189_51 : am_T 189 51 = some (0, .aload_n 0, 52, [], .null) := by decide +kernel
theorem t189_52 : am_T 189 52 = some (0, .bipush 93, 54, [], .int (93)) := by decide +kernel
theorem t189_54 : am_T 189 54 = some (3, .invokevirtual 196, 57, [2, 12, 186], .null) := by decide +kernel
theorem t189_57 : am_T 189 57 = some (1, .ifCond .ne 5, 60, [62], .null) := by decide +kernel
theorem t189_60 : am_T 189 60 = some (0, .iconst 0, 61, [], .int (0)) := by decide +kernel
theorem t189_61 : am_T 189 61 = some (4, .ireturn, 62, [0], .null) := by decide +kernel
theorem t189_62 : am_T 189 62 = some (0, .aload_n 0, 63, [], .null) := by decide +kernel
theorem t189_63 : am_T 189 63 = some (0, .dup, 64, [], .null) := by decide +kernel
theorem t189_64 : am_T 189 64 = some (2, .getfield 163, 67, [12, 12], .null) := by decide +kernel
theorem t189_67 : am_T 189 67 = some (0, .iconst 1, 68, [], .int (1)) := by decide +kernel
theorem t189_68 : am_T 189 68 = some (0, .isub, 69, [], .null) := by decide +kernel
theorem t189_69 : am_T 189 69 = some (2, .putfield 163, 72, [12, 0, 12], .null) := by decide +kernel
theorem t189_72 : am_T 189 72 = some (0, .iload_n 2, 73, [], .null) := by decide +kernel
theorem t189_73 : am_T 189 73 = some (4, .ireturn, 74, [0], .null) := by decide +kernel
theorem t189_74 : am_T 189 74 = some (0, .aload_n 0, 75, [], .null) := by decide +kernel
theorem t189_75 : am_T 189 75 = some (3, .invokevirtual 200, 78, [1, 12, 187], .null) := by decide +kernel
theorem t189_78 : am_T 189 78 = some (1, .ifCond .ne 8, 81, [86], .null) := by decide +kernel
theorem t189_81 : am_T 189 81 = some (0, .aload_n 0, 82, [], .null) := by decide +kernel
theorem t189_82 : am_T 189 82 = some (3, .invokevirtual 166, 85, [1, 12, 184], .null) := by decide +kernel
theorem t189_85 : am_T 189 85 = some (0, .pop, 86, [], .null) := by decide +kernel
theorem t189_86 : am_T 189 86 = some (0, .iconst 0, 87, [], .int (0)) := by decide +kernel
theorem t189_87 : am_T 189 87 = some (0, .istore_n 2, 88, [], .null) := by decide +kernel
theorem t189_88 : am_T 189 88 = some (0, .iconst 0, 89, [], .int (0)) := by decide +kernel
theorem t189_89 : am_T 189 89 = some (0, .istore_n 3, 90, [], .null) := by decide +kernel
theorem t189_90 : am_T 189 90 = some (0, .aload_n 0, 91, [], .null) := by decide +kernel
theorem t189_91 : am_T 189 91 = some (3, .invokevirtual 200, 94, [1, 12, 187], .null) := by decide +kernel
theorem t189_94 : am_T 189 94 = some (1, .ifCond .eq 62, 97, [156], .null) := by decide +kernel
theorem t189_97 : am_T 189 97 = some (0, .aload_n 0, 98, [], .null) := by decide +kernel
theorem t189_98 : am_T 189 98 = some (2, .getfield 160, 101, [11, 12], .null) := by decide +kernel
theorem t189_101 : am_T 189 101 = some (0, .iconst (-1), 102, [], .int (-1)) := by decide +kernel
theorem t189_102 : am_T 189 102 = some (1, .if_icmp .ne 54, 105, [156], .null) := by decide +kernel
theorem t189_105 : am_T 189 105 = some (0, .iload_n 3, 106, [], .null) := by decide +kernel
theorem t189_106 : am_T 189 106 = some (0, .iconst 4, 107, [], .int (4)) := by decide +kernel
theorem t189_107 : am_T 189 107 = some (1, .if_icmp .ne 10, 110, [117], .null) := by decide +kernel
theorem t189_110 : am_T 189 110 = some (0, .aload_n 0, 111, [], .null) := by decide +kernel
theorem t189_111 : am_T 189 111 = some (3, .invokevirtual 166, 114, [1, 12, 184], .null) := by decide +kernel
theorem t189_114 : am_T 189 114 = some (0, .pop, 115, [], .null) := by decide +kernel
theorem t189_115 : am_T 189 115 = some (0, .iconst 0, 116, [], .int (0)) := by decide +kernel
theorem t189_116 : am_T 189 116 = some (4, .ireturn, 117, [0], .null) := by decide +kernel
theorem t189_117 : am_T 189 117 = some (0, .bipush 10, 119, [], .int (10)) := by decide +kernel
theorem t189_119 : am_T 189 119 = some (0, .iload_n 2, 120, [], .null) := by decide +kernel
theorem t189_120 : am_T 189 120 = some (0, .imul, 121, [], .null) := by decide +kernel
theorem t189_121 : am_T 189 121 = some (0, .aload_n 0, 122, [], .null) := by decide +kernel
theorem t189_122 : am_T 189 122 = some (2, .getfield 23, 125, [5, 12], .null) := by decide +kernel
theorem t189_125 : am_T 189 125 = some (0, .aload_n 0, 126, [], .null) := by decide +kernel
theorem t189_126 : am_T 189 126 = some (2, .getfield 157, 129, [8, 12], .null) := by decide +kernel
theorem t189_129 : am_T 189 129 = some (0, .aload_n 0, 130, [], .null) := by decide +kernel
theorem t189_130 : am_T 189 130 = some (2, .getfield 151, 133, [10, 12], .null) := by decide +kernel
theorem t189_133 : am_T 189 133 = some (0, .iadd, 134, [], .null) := by decide +kernel
theorem t189_134 : am_T 189 134 = some (2, .baload, 135, [], .null) := by decide +kernel
theorem t189_135 : am_T 189 135 = some (0, .iadd, 136, [], .null) := by decide +kernel
theorem t189_136 : am_T 189 136 = some (0, .bipush 48, 138, [], .int (48)) := by decide +kernel
theorem t189_138 : am_T 189 138 = some (0, .isub, 139, [], .null) := by decide +kernel
theorem t189_139 : am_T 189 139 = some (0, .istore_n 2, 140, [], .null) := by decide +kernel
theorem t189_140 : am_T 189 140 = some (0, .aload_n 0, 141, [], .null) := by decide +kernel
theorem t189_141 : am_T 189 141 = some (0, .dup, 142, [], .null) := by decide +kernel
theorem t189_142 : am_T 189 142 = some (2, .getfield 151, 145, [10, 12], .null) := by decide +kernel
theorem t189_145 : am_T 189 145 = some (0, .iconst 1, 146, [], .int (1)) := by decide +kernel
theorem t189_146 : am_T 189 146 = some (0, .iadd, 147, [], .null) := by decide +kernel
theorem t189_147 : am_T 189 147 = some (2, .putfield 151, 150, [10, 0, 12], .null) := by decide +kernel
theorem t189_150 : am_T 189 150 = some (0, .iinc 3 1, 153, [], .int (1)) := by decide +kernel
theorem t189_153 : am_T 189 153 = some (1, .goto (-63), 156, [90], .null) := by decide +kernel
theorem t189_156 : am_T 189 156 = some (0, .iload_n 2, 157, [], .null) := by decide +kernel
theorem t189_157 : am_T 189 157 = some (4, .ireturn, 158, [0], .null) := by decide +kernel
theorem t190_0 : am_T 190 0 = some (0, .aload_n 0, 1, [], .null) := by decide +kernel
theorem t190_1 : am_T 190 1 = some (3, .invokevirtual 203, 4, [1, 12, 189], .null) := by decide +kernel
theorem t190_4 : am_T 190 4 = some (0, .istore_n 1, 5, [], .null) := by decide +kernel
theorem t190_5 : am_T 190 5 = some (0, .aload_n 0, 6, [], .null) := by decide +kernel
theorem t190_6 : am_T 190 6 = some (2, .getfield 160, 9, [11, 12], .null) := by decide +kernel
theorem t190_9 : am_T 190 9 = some (0, .iconst (-1), 10, [], .int (-1)) := by decide +kernel
theorem t190_10 : am_T 190 10 = some (1, .if_icmp .ne 84, 13, [94], .null) := by decide +kernel
theorem t190_13 : am_T 190 13 = some (0, .aload_n 0, 14, [], .null) := by decide +kernel
theorem t190_14 : am_T 190 14 = some (3, .invokevirtual 170, 17, [1, 12, 183], .null) := by decide +kernel
theorem t190_17 : am_T 190 17 = some (0, .bipush 42, 19, [], .int (42)) := by decide +kernel
theorem t190_19 : am_T 190 19 = some (1, .if_icmp .eq 12, 22, [31], .null) := by decide +kernel
theorem t190_22 : am_T 190 22 = some (0, .aload_n 0, 23, [], .null) := by decide +kernel
theorem t190_23 : am_T 190 23 = some (3, .invokevirtual 170, 26, [1, 12, 183], .null) := by decide +kernel
theorem t190_26 : am_T 190 26 = some (0, .bipush 47, 28, [], .int (47)) := by decide +kernel
theorem t190_28 : am_T 190 28 = some (1, .if_icmp .ne 66, 31, [94], .null) := by decide +kernel
theorem t190_31 : am_T 190 31 = some (0, .aload_n 0, 32, [], .null) := by decide +kernel
theorem t190_32 : am_T 190 32 = some (3, .invokevirtual 170, 35, [1, 12, 183], .null) := by decide +kernel
theorem t190_35 : am_T 190 35 = some (0, .bipush 42, 37, [], .int (42)) := by decide +kernel
theorem t190_37 : am_T 190 37 = some (1, .if_icmp .ne 7, 40, [44], .null) := by decide +kernel
theorem t190_40 : am_T 190 40 = some (0, .iconst 1, 41, [], .int (1)) := by decide +kernel
theorem t190_41 : am_T 190 41 = some (1, .goto 4, 44, [45], .null) := by decide +kernel
theorem t190_44 : am_T 190 44 = some (0, .iconst 0, 45, [], .int (0)) := by decide +kernel
theorem t190_45 : am_T 190 45 = some (0, .istore_n 2, 46, [], .null) := by decide +kernel
theorem t190_46 : am_T 190 46 = some (0, .aload_n 0, 47, [], .null) := by decide +kernel
theorem t190_47 : am_T 190 47 = some (0, .dup, 48, [], .null) := by decide +kernel
theorem t190_48 : am_T 190 48 = some (2, .getfield 151, 51, [10, 12], .null) := by decide +kernel
theorem t190_51 : am_T 190 51 = some (0, .iconst 1, 52, [], .int (1)) := by decide +kernel
theorem t190_52 : am_T 190 52 = some (0, .iadd, 53, [], .null) := by decide +kernel
theorem t190_53 : am_T 190 53 = some (2, .putfield 151, 56, [10, 0, 12], .null) := by decide +kernel
theorem t190_56 : am_T 190 56 = some (0, .aload_n 0, 57, [], .null) := by decide +kernel
theorem t190_57 : am_T 190 57 = some (3, .invokevirtual 203, 60, [1, 12, 189], .null) := by decide +kernel
theorem t190_60 : am_T 190 60 = some (0, .i2l, 61, [], .null) := by decide +kernel
theorem t190_61 : am_T 190 61 = some (0, .lstore_n 3, 62, [], .null) := by decide +kernel
theorem t190_62 : am_T 190 62 = some (0, .iload_n 2, 63, [], .null) := by decide +kernel
theorem t190_63 : am_T 190 63 = some (1, .ifCond .eq 10, 66, [73], .null) := by decide +kernel
theorem t190_66 : am_T 190 66 = some (0, .iload_n 1, 67, [], .null) := by decide +kernel
theorem t190_67 : am_T 190 67 = some (0, .i2l, 68, [], .null) := by decide +kernel
theorem t190_68 : am_T 190 68 = some (0, .lload_n 3, 69, [], .null) := by decide +kernel
theorem t190_69 : am_T 190 69 = some (0, .lmul, 70, [], .null) := by decide +kernel
theorem t190_70 : am_T 190 70 = some (1, .goto 17, 73, [87], .null) := by decide +kernel
theorem t190_73 : am_T 190 73 = some (0, .lload_n 3, 74, [], .null) := by decide +kernel
theorem t190_74 : am_T 190 74 = some (0, .lconst 0, 75, [], .long 0) := by decide +kernel
