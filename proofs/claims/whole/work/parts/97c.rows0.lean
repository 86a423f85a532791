theorem t0_0 : am_T 0 0 = some (0, .aload_n 0, 1, [], .null) := by decide +kernel
theorem t0_1 : am_T 0 1 = some (2, .invokespecial 3, 4, [], .null) := by decide +kernel
theorem t0_4 : am_T 0 4 = some (0, .aload_n 0, 5, [], .null) := by decide +kernel
theorem t0_5 : am_T 0 5 = some (2, .new 9, 8, [4, 2], .null) := by decide +kernel
theorem t0_8 : am_T 0 8 = some (0, .dup, 9, [], .null) := by decide +kernel
theorem t0_9 : am_T 0 9 = some (0, .bipush 8, 11, [], .int (8)) := by decide +kernel
theorem t0_11 : am_T 0 11 = some (3, .invokespecial 13, 14, [2, 28], .null) := by decide +kernel
theorem t0_14 : am_T 0 14 = some (2, .putfield 16, 17, [0, 2, 1], .null) := by decide +kernel
theorem t0_17 : am_T 0 17 = some (0, .aload_n 0, 18, [], .null) := by decide +kernel
theorem t0_18 : am_T 0 18 = some (2, .new 9, 21, [4, 2], .null) := by decide +kernel
theorem t0_21 : am_T 0 21 = some (0, .dup, 22, [], .null) := by decide +kernel
theorem t0_22 : am_T 0 22 = some (0, .bipush 40, 24, [], .int (40)) := by decide +kernel
theorem t0_24 : am_T 0 24 = some (3, .invokespecial 13, 27, [2, 28], .null) := by decide +kernel
theorem t0_27 : am_T 0 27 = some (2, .putfield 22, 30, [1, 2, 1], .null) := by decide +kernel
theorem t0_30 : am_T 0 30 = some (0, .aload_n 0, 31, [], .null) := by decide +kernel
theorem t0_31 : am_T 0 31 = some (2, .new 9, 34, [4, 2], .null) := by decide +kernel
theorem t0_34 : am_T 0 34 = some (0, .dup, 35, [], .null) := by decide +kernel
theorem t0_35 : am_T 0 35 = some (0, .sipush 243, 38, [], .int (243)) := by decide +kernel
theorem t0_38 : am_T 0 38 = some (3, .invokespecial 13, 41, [2, 28], .null) := by decide +kernel
theorem t0_41 : am_T 0 41 = some (2, .putfield 25, 44, [2, 2, 1], .null) := by decide +kernel
theorem t0_44 : am_T 0 44 = some (0, .aload_n 0, 45, [], .null) := by decide +kernel
theorem t0_45 : am_T 0 45 = some (0, .iconst 0, 46, [], .int (0)) := by decide +kernel
theorem t0_46 : am_T 0 46 = some (2, .putfield 28, 49, [3, 0, 1], .null) := by decide +kernel
theorem t0_49 : am_T 0 49 = some (4, .return_, 50, [], .null) := by decide +kernel
theorem t1_0 : am_T 1 0 = some (0, .aload_n 0, 1, [], .null) := by decide +kernel
theorem t1_1 : am_T 1 1 = some (2, .getfield 16, 4, [0, 1], .null) := by decide +kernel
theorem t1_4 : am_T 1 4 = some (0, .iconst 0, 5, [], .int (0)) := by decide +kernel
theorem t1_5 : am_T 1 5 = some (3, .invokevirtual 32, 8, [2, 4, 34], .null) := by decide +kernel
theorem t1_8 : am_T 1 8 = some (0, .aload_n 0, 9, [], .null) := by decide +kernel
theorem t1_9 : am_T 1 9 = some (0, .iconst 0, 10, [], .int (0)) := by decide +kernel
theorem t1_10 : am_T 1 10 = some (2, .putfield 28, 13, [3, 0, 1], .null) := by decide +kernel
theorem t1_13 : am_T 1 13 = some (4, .return_, 14, [], .null) := by decide +kernel
theorem t2_0 : am_T 2 0 = some (0, .aload_n 0, 1, [], .null) := by decide +kernel
theorem t2_1 : am_T 2 1 = some (2, .getfield 16, 4, [0, 1], .null) := by decide +kernel
theorem t2_4 : am_T 2 4 = some (0, .iload_n 1, 5, [], .null) := by decide +kernel
theorem t2_5 : am_T 2 5 = some (3, .invokevirtual 35, 8, [2, 4, 33], .null) := by decide +kernel
theorem t2_8 : am_T 2 8 = some (0, .pop, 9, [], .null) := by decide +kernel
theorem t2_9 : am_T 2 9 = some (4, .return_, 10, [], .null) := by decide +kernel
theorem t3_0 : am_T 3 0 = some (0, .aload_n 0, 1, [], .null) := by decide +kernel
theorem t3_1 : am_T 3 1 = some (2, .getfield 28, 4, [3, 1], .null) := by decide +kernel
theorem t3_4 : am_T 3 4 = some (4, .ireturn, 5, [0], .null) := by decide +kernel
theorem t4_0 : am_T 4 0 = some (0, .aload_n 0, 1, [], .null) := by decide +kernel
theorem t4_1 : am_T 4 1 = some (0, .iload_n 1, 2, [], .null) := by decide +kernel
theorem t4_2 : am_T 4 2 = some (2, .putfield 28, 5, [3, 0, 1], .null) := by decide +kernel
theorem t4_5 : am_T 4 5 = some (4, .return_, 6, [], .null) := by decide +kernel
theorem t5_0 : am_T 5 0 = some (0, .aload_n 0, 1, [], .null) := by decide +kernel
theorem t5_1 : am_T 5 1 = some (2, .getfield 22, 4, [1, 1], .null) := by decide +kernel
theorem t5_4 : am_T 5 4 = some (0, .iload_n 1, 5, [], .null) := by decide +kernel
theorem t5_5 : am_T 5 5 = some (0, .iconst 5, 6, [], .int (5)) := by decide +kernel
theorem t5_6 : am_T 5 6 = some (0, .imul, 7, [], .null) := by decide +kernel
theorem t5_7 : am_T 5 7 = some (0, .iload_n 2, 8, [], .null) := by decide +kernel
theorem t5_8 : am_T 5 8 = some (0, .iadd, 9, [], .null) := by decide +kernel
theorem t5_9 : am_T 5 9 = some (0, .iload_n 3, 10, [], .null) := by decide +kernel
theorem t5_10 : am_T 5 10 = some (3, .invokevirtual 39, 13, [3, 4, 31], .null) := by decide +kernel
theorem t5_13 : am_T 5 13 = some (4, .return_, 14, [], .null) := by decide +kernel
theorem t6_0 : am_T 6 0 = some (0, .aload_n 0, 1, [], .null) := by decide +kernel
theorem t6_1 : am_T 6 1 = some (2, .getfield 16, 4, [0, 1], .null) := by decide +kernel
theorem t6_4 : am_T 6 4 = some (0, .aload_n 1, 5, [], .null) := by decide +kernel
theorem t6_5 : am_T 6 5 = some (2, .getfield 16, 8, [0, 1], .null) := by decide +kernel
theorem t6_8 : am_T 6 8 = some (3, .invokevirtual 43, 11, [2, 4, 36], .null) := by decide +kernel
theorem t6_11 : am_T 6 11 = some (0, .aload_n 0, 12, [], .null) := by decide +kernel
theorem t6_12 : am_T 6 12 = some (2, .getfield 22, 15, [1, 1], .null) := by decide +kernel
theorem t6_15 : am_T 6 15 = some (0, .aload_n 1, 16, [], .null) := by decide +kernel
theorem t6_16 : am_T 6 16 = some (2, .getfield 22, 19, [1, 1], .null) := by decide +kernel
theorem t6_19 : am_T 6 19 = some (3, .invokevirtual 43, 22, [2, 4, 36], .null) := by decide +kernel
theorem t6_22 : am_T 6 22 = some (0, .aload_n 0, 23, [], .null) := by decide +kernel
theorem t6_23 : am_T 6 23 = some (0, .aload_n 1, 24, [], .null) := by decide +kernel
theorem t6_24 : am_T 6 24 = some (2, .getfield 28, 27, [3, 1], .null) := by decide +kernel
theorem t6_27 : am_T 6 27 = some (2, .putfield 28, 30, [3, 0, 1], .null) := by decide +kernel
theorem t6_30 : am_T 6 30 = some (4, .return_, 31, [], .null) := by decide +kernel
theorem t7_0 : am_T 7 0 = some (0, .iconst 0, 1, [], .int (0)) := by decide +kernel
theorem t7_1 : am_T 7 1 = some (0, .istore_n 2, 2, [], .null) := by decide +kernel
theorem t7_2 : am_T 7 2 = some (0, .iload_n 2, 3, [], .null) := by decide +kernel
theorem t7_3 : am_T 7 3 = some (0, .aload_n 1, 4, [], .null) := by decide +kernel
theorem t7_4 : am_T 7 4 = some (3, .invokevirtual 47, 7, [1, 7, 76], .null) := by decide +kernel
theorem t7_7 : am_T 7 7 = some (1, .if_icmp .ge 23, 10, [30], .null) := by decide +kernel
theorem t7_10 : am_T 7 10 = some (0, .aload_n 0, 11, [], .null) := by decide +kernel
theorem t7_11 : am_T 7 11 = some (2, .getfield 25, 14, [2, 1], .null) := by decide +kernel
theorem t7_14 : am_T 7 14 = some (0, .iload_n 2, 15, [], .null) := by decide +kernel
theorem t7_15 : am_T 7 15 = some (0, .aload_n 0, 16, [], .null) := by decide +kernel
theorem t7_16 : am_T 7 16 = some (0, .aload_n 1, 17, [], .null) := by decide +kernel
theorem t7_17 : am_T 7 17 = some (0, .iload_n 2, 18, [], .null) := by decide +kernel
theorem t7_18 : am_T 7 18 = some (3, .invokevirtual 51, 21, [3, 1, 8], .null) := by decide +kernel
theorem t7_21 : am_T 7 21 = some (3, .invokevirtual 39, 24, [3, 4, 31], .null) := by decide +kernel
theorem t7_24 : am_T 7 24 = some (0, .iinc 2 1, 27, [], .int (1)) := by decide +kernel
theorem t7_27 : am_T 7 27 = some (1, .goto (-25), 30, [2], .null) := by decide +kernel
theorem t7_30 : am_T 7 30 = some (4, .return_, 31, [], .null) := by decide +kernel
theorem t8_0 : am_T 8 0 = some (0, .iconst 0, 1, [], .int (0)) := by decide +kernel
theorem t8_1 : am_T 8 1 = some (0, .istore_n 3, 2, [], .null) := by decide +kernel
theorem t8_2 : am_T 8 2 = some (0, .iload_n 3, 3, [], .null) := by decide +kernel
theorem t8_3 : am_T 8 3 = some (0, .aload_n 0, 4, [], .null) := by decide +kernel
theorem t8_4 : am_T 8 4 = some (2, .getfield 16, 7, [0, 1], .null) := by decide +kernel
theorem t8_7 : am_T 8 7 = some (3, .invokevirtual 55, 10, [1, 4, 29], .null) := by decide +kernel
theorem t8_10 : am_T 8 10 = some (1, .if_icmp .ge 28, 13, [38], .null) := by decide +kernel
theorem t8_13 : am_T 8 13 = some (0, .aload_n 0, 14, [], .null) := by decide +kernel
theorem t8_14 : am_T 8 14 = some (0, .aload_n 1, 15, [], .null) := by decide +kernel
theorem t8_15 : am_T 8 15 = some (0, .iload_n 2, 16, [], .null) := by decide +kernel
theorem t8_16 : am_T 8 16 = some (0, .iload_n 3, 17, [], .null) := by decide +kernel
theorem t8_17 : am_T 8 17 = some (3, .invokevirtual 58, 20, [4, 1, 9], .null) := by decide +kernel
theorem t8_20 : am_T 8 20 = some (1, .ifCond .eq 12, 23, [32], .null) := by decide +kernel
theorem t8_23 : am_T 8 23 = some (0, .aload_n 0, 24, [], .null) := by decide +kernel
theorem t8_24 : am_T 8 24 = some (2, .getfield 16, 27, [0, 1], .null) := by decide +kernel
theorem t8_27 : am_T 8 27 = some (0, .iload_n 3, 28, [], .null) := by decide +kernel
theorem t8_28 : am_T 8 28 = some (3, .invokevirtual 62, 31, [2, 4, 30], .null) := by decide +kernel
theorem t8_31 : am_T 8 31 = some (4, .ireturn, 32, [0], .null) := by decide +kernel
theorem t8_32 : am_T 8 32 = some (0, .iinc 3 1, 35, [], .int (1)) := by decide +kernel
theorem t8_35 : am_T 8 35 = some (1, .goto (-33), 38, [2], .null) := by decide +kernel
theorem t8_38 : am_T 8 38 = some (0, .iconst (-1), 39, [], .int (-1)) := by decide +kernel
theorem t8_39 : am_T 8 39 = some (4, .ireturn, 40, [0], .null) := by decide +kernel
theorem t9_0 : am_T 9 0 = some (0, .iconst 0, 1, [], .int (0)) := by decide +kernel
theorem t9_1 : am_T 9 1 = some (0, .istore 4, 3, [], .null) := by decide +kernel
theorem t9_3 : am_T 9 3 = some (0, .iload 4, 5, [], .null) := by decide +kernel
theorem t9_5 : am_T 9 5 = some (0, .aload_n 1, 6, [], .null) := by decide +kernel
theorem t9_6 : am_T 9 6 = some (3, .invokevirtual 66, 9, [1, 7, 74], .null) := by decide +kernel
theorem t9_9 : am_T 9 9 = some (1, .if_icmp .ge 84, 12, [93], .null) := by decide +kernel
theorem t9_12 : am_T 9 12 = some (0, .iload 4, 14, [], .null) := by decide +kernel
theorem t9_14 : am_T 9 14 = some (0, .aload_n 0, 15, [], .null) := by decide +kernel
theorem t9_15 : am_T 9 15 = some (2, .getfield 28, 18, [3, 1], .null) := by decide +kernel
theorem t9_18 : am_T 9 18 = some (1, .if_icmp .ge 19, 21, [37], .null) := by decide +kernel
theorem t9_21 : am_T 9 21 = some (0, .aload_n 0, 22, [], .null) := by decide +kernel
theorem t9_22 : am_T 9 22 = some (2, .getfield 22, 25, [1, 1], .null) := by decide +kernel
theorem t9_25 : am_T 9 25 = some (0, .iload_n 3, 26, [], .null) := by decide +kernel
theorem t9_26 : am_T 9 26 = some (0, .iconst 5, 27, [], .int (5)) := by decide +kernel
theorem t9_27 : am_T 9 27 = some (0, .imul, 28, [], .null) := by decide +kernel
theorem t9_28 : am_T 9 28 = some (0, .iload 4, 30, [], .null) := by decide +kernel
theorem t9_30 : am_T 9 30 = some (0, .iadd, 31, [], .null) := by decide +kernel
theorem t9_31 : am_T 9 31 = some (3, .invokevirtual 62, 34, [2, 4, 30], .null) := by decide +kernel
theorem t9_34 : am_T 9 34 = some (1, .goto 5, 37, [39], .null) := by decide +kernel
theorem t9_37 : am_T 9 37 = some (0, .bipush 46, 39, [], .int (46)) := by decide +kernel
theorem t9_39 : am_T 9 39 = some (0, .istore 5, 41, [], .null) := by decide +kernel
theorem t9_41 : am_T 9 41 = some (0, .iload 5, 43, [], .null) := by decide +kernel
theorem t9_43 : am_T 9 43 = some (0, .bipush 114, 45, [], .int (114)) := by decide +kernel
theorem t9_45 : am_T 9 45 = some (1, .if_icmp .ne 7, 48, [52], .null) := by decide +kernel
theorem t9_48 : am_T 9 48 = some (0, .iconst 1, 49, [], .int (1)) := by decide +kernel
theorem t9_49 : am_T 9 49 = some (1, .goto 15, 52, [64], .null) := by decide +kernel
theorem t9_52 : am_T 9 52 = some (0, .iload 5, 54, [], .null) := by decide +kernel
theorem t9_54 : am_T 9 54 = some (0, .bipush 119, 56, [], .int (119)) := by decide +kernel
theorem t9_56 : am_T 9 56 = some (1, .if_icmp .ne 7, 59, [63], .null) := by decide +kernel
theorem t9_59 : am_T 9 59 = some (0, .iconst 2, 60, [], .int (2)) := by decide +kernel
theorem t9_60 : am_T 9 60 = some (1, .goto 4, 63, [64], .null) := by decide +kernel
theorem t9_63 : am_T 9 63 = some (0, .iconst 0, 64, [], .int (0)) := by decide +kernel
theorem t9_64 : am_T 9 64 = some (0, .istore 6, 66, [], .null) := by decide +kernel
theorem t9_66 : am_T 9 66 = some (0, .iload 5, 68, [], .null) := by decide +kernel
theorem t9_68 : am_T 9 68 = some (0, .bipush 63, 70, [], .int (63)) := by decide +kernel
theorem t9_70 : am_T 9 70 = some (1, .if_icmp .eq 17, 73, [87], .null) := by decide +kernel
theorem t9_73 : am_T 9 73 = some (0, .aload_n 1, 74, [], .null) := by decide +kernel
theorem t9_74 : am_T 9 74 = some (0, .iload_n 2, 75, [], .null) := by decide +kernel
theorem t9_75 : am_T 9 75 = some (0, .iload 4, 77, [], .null) := by decide +kernel
theorem t9_77 : am_T 9 77 = some (3, .invokevirtual 69, 80, [3, 7, 77], .null) := by decide +kernel
theorem t9_80 : am_T 9 80 = some (0, .iload 6, 82, [], .null) := by decide +kernel
theorem t9_82 : am_T 9 82 = some (1, .if_icmp .eq 5, 85, [87], .null) := by decide +kernel
theorem t9_85 : am_T 9 85 = some (0, .iconst 0, 86, [], .int (0)) := by decide +kernel
theorem t9_86 : am_T 9 86 = some (4, .ireturn, 87, [1], .null) := by decide +kernel
theorem t9_87 : am_T 9 87 = some (0, .iinc 4 1, 90, [], .int (1)) := by decide +kernel
theorem t9_90 : am_T 9 90 = some (1, .goto (-87), 93, [3], .null) := by decide +kernel
theorem t9_93 : am_T 9 93 = some (0, .iconst 1, 94, [], .int (1)) := by decide +kernel
theorem t9_94 : am_T 9 94 = some (4, .ireturn, 95, [1], .null) := by decide +kernel
theorem t10_0 : am_T 10 0 = some (0, .aload_n 0, 1, [], .null) := by decide +kernel
theorem t10_1 : am_T 10 1 = some (2, .getfield 25, 4, [2, 1], .null) := by decide +kernel
theorem t10_4 : am_T 10 4 = some (0, .iload_n 1, 5, [], .null) := by decide +kernel
theorem t10_5 : am_T 10 5 = some (3, .invokevirtual 62, 8, [2, 4, 30], .null) := by decide +kernel
theorem t10_8 : am_T 10 8 = some (4, .ireturn, 9, [0], .null) := by decide +kernel
theorem t11_0 : am_T 11 0 = some (0, .aload_n 0, 1, [], .null) := by decide +kernel
theorem t11_1 : am_T 11 1 = some (3, .invokespecial 1, 4, [1, 50], .null) := by decide +kernel
theorem t11_4 : am_T 11 4 = some (0, .aload_n 0, 5, [], .null) := by decide +kernel
theorem t11_5 : am_T 11 5 = some (2, .new 7, 8, [1, 4], .null) := by decide +kernel
theorem t11_8 : am_T 11 8 = some (0, .dup, 9, [], .null) := by decide +kernel
theorem t11_9 : am_T 11 9 = some (3, .invokespecial 9, 12, [1, 0], .null) := by decide +kernel
theorem t11_12 : am_T 11 12 = some (2, .putfield 10, 15, [4, 2, 2], .null) := by decide +kernel
theorem t11_15 : am_T 11 15 = some (4, .return_, 16, [], .null) := by decide +kernel
theorem t12_0 : am_T 12 0 = some (0, .aload_n 0, 1, [], .null) := by decide +kernel
theorem t12_1 : am_T 12 1 = some (0, .aload_n 1, 2, [], .null) := by decide +kernel
theorem t12_2 : am_T 12 2 = some (3, .invokevirtual 16, 5, [2, 2, 51], .null) := by decide +kernel
theorem t12_5 : am_T 12 5 = some (0, .aload_n 0, 6, [], .null) := by decide +kernel
theorem t12_6 : am_T 12 6 = some (2, .getfield 10, 9, [4, 2], .null) := by decide +kernel
theorem t12_9 : am_T 12 9 = some (3, .invokevirtual 20, 12, [1, 1, 1], .null) := by decide +kernel
theorem t12_12 : am_T 12 12 = some (0, .iconst 1, 13, [], .int (1)) := by decide +kernel
theorem t12_13 : am_T 12 13 = some (0, .istore_n 2, 14, [], .null) := by decide +kernel
theorem t12_14 : am_T 12 14 = some (0, .iconst 0, 15, [], .int (0)) := by decide +kernel
theorem t12_15 : am_T 12 15 = some (0, .istore_n 3, 16, [], .null) := by decide +kernel
theorem t12_16 : am_T 12 16 = some (0, .iload_n 3, 17, [], .null) := by decide +kernel
theorem t12_17 : am_T 12 17 = some (0, .bipush 8, 19, [], .int (8)) := by decide +kernel
theorem t12_19 : am_T 12 19 = some (1, .if_icmp .ge 39, 22, [58], .null) := by decide +kernel
theorem t12_22 : am_T 12 22 = some (0, .iload_n 2, 23, [], .null) := by decide +kernel
theorem t12_23 : am_T 12 23 = some (1, .ifCond .eq 35, 26, [58], .null) := by decide +kernel
theorem t12_26 : am_T 12 26 = some (0, .aload_n 0, 27, [], .null) := by decide +kernel
theorem t12_27 : am_T 12 27 = some (0, .iload_n 3, 28, [], .null) := by decide +kernel
theorem t12_28 : am_T 12 28 = some (3, .invokevirtual 23, 31, [2, 2, 13], .null) := by decide +kernel
theorem t12_31 : am_T 12 31 = some (0, .iload_n 3, 32, [], .null) := by decide +kernel
theorem t12_32 : am_T 12 32 = some (0, .bipush 7, 34, [], .int (7)) := by decide +kernel
theorem t12_34 : am_T 12 34 = some (1, .if_icmp .ge 16, 37, [50], .null) := by decide +kernel
theorem t12_37 : am_T 12 37 = some (0, .aload_n 0, 38, [], .null) := by decide +kernel
theorem t12_38 : am_T 12 38 = some (0, .bipush 59, 40, [], .int (59)) := by decide +kernel
theorem t12_40 : am_T 12 40 = some (3, .invokevirtual 27, 43, [2, 2, 55], .null) := by decide +kernel
theorem t12_43 : am_T 12 43 = some (1, .ifCond .eq 7, 46, [50], .null) := by decide +kernel
theorem t12_46 : am_T 12 46 = some (0, .iconst 1, 47, [], .int (1)) := by decide +kernel
theorem t12_47 : am_T 12 47 = some (1, .goto 4, 50, [51], .null) := by decide +kernel
theorem t12_50 : am_T 12 50 = some (0, .iconst 0, 51, [], .int (0)) := by decide +kernel
theorem t12_51 : am_T 12 51 = some (0, .istore_n 2, 52, [], .null) := by decide +kernel
theorem t12_52 : am_T 12 52 = some (0, .iinc 3 1, 55, [], .int (1)) := by decide +kernel
theorem t12_55 : am_T 12 55 = some (1, .goto (-39), 58, [16], .null) := by decide +kernel
theorem t12_58 : am_T 12 58 = some (0, .aload_n 0, 59, [], .null) := by decide +kernel
theorem t12_59 : am_T 12 59 = some (3, .invokevirtual 31, 62, [1, 2, 60], .null) := by decide +kernel
theorem t12_62 : am_T 12 62 = some (4, .ireturn, 63, [0], .null) := by decide +kernel
theorem t13_0 : am_T 13 0 = some (0, .aload_n 0, 1, [], .null) := by decide +kernel
theorem t13_1 : am_T 13 1 = some (2, .getfield 10, 4, [4, 2], .null) := by decide +kernel
theorem t13_4 : am_T 13 4 = some (0, .aload_n 0, 5, [], .null) := by decide +kernel
theorem t13_5 : am_T 13 5 = some (3, .invokevirtual 35, 8, [1, 2, 58], .null) := by decide +kernel
theorem t13_8 : am_T 13 8 = some (3, .invokevirtual 38, 11, [2, 1, 2], .null) := by decide +kernel
theorem t13_11 : am_T 13 11 = some (0, .aload_n 0, 12, [], .null) := by decide +kernel
theorem t13_12 : am_T 13 12 = some (0, .bipush 61, 14, [], .int (61)) := by decide +kernel
theorem t13_14 : am_T 13 14 = some (3, .invokevirtual 41, 17, [2, 2, 56], .null) := by decide +kernel
theorem t13_17 : am_T 13 17 = some (0, .iload_n 1, 18, [], .null) := by decide +kernel
theorem t13_18 : am_T 13 18 = some (1, .ifCond .ne 7, 21, [25], .null) := by decide +kernel
theorem t13_21 : am_T 13 21 = some (0, .iconst 2, 22, [], .int (2)) := by decide +kernel
theorem t13_22 : am_T 13 22 = some (1, .goto 10, 25, [32], .null) := by decide +kernel
theorem t13_25 : am_T 13 25 = some (0, .aload_n 0, 26, [], .null) := by decide +kernel
theorem t13_26 : am_T 13 26 = some (2, .getfield 10, 29, [4, 2], .null) := by decide +kernel
theorem t13_29 : am_T 13 29 = some (3, .invokevirtual 44, 32, [1, 1, 3], .null) := by decide +kernel
theorem t13_32 : am_T 13 32 = some (0, .istore_n 2, 33, [], .null) := by decide +kernel
theorem t13_33 : am_T 13 33 = some (0, .iload_n 1, 34, [], .null) := by decide +kernel
theorem t13_34 : am_T 13 34 = some (1, .ifCond .ne 7, 37, [41], .null) := by decide +kernel
theorem t13_37 : am_T 13 37 = some (0, .iconst 5, 38, [], .int (5)) := by decide +kernel
theorem t13_38 : am_T 13 38 = some (1, .goto 10, 41, [48], .null) := by decide +kernel
theorem t13_41 : am_T 13 41 = some (0, .aload_n 0, 42, [], .null) := by decide +kernel
theorem t13_42 : am_T 13 42 = some (2, .getfield 10, 45, [4, 2], .null) := by decide +kernel
theorem t13_45 : am_T 13 45 = some (3, .invokevirtual 44, 48, [1, 1, 3], .null) := by decide +kernel
theorem t13_48 : am_T 13 48 = some (0, .istore_n 3, 49, [], .null) := by decide +kernel
theorem t13_49 : am_T 13 49 = some (0, .iconst 0, 50, [], .int (0)) := by decide +kernel
theorem t13_50 : am_T 13 50 = some (0, .istore 4, 52, [], .null) := by decide +kernel
theorem t13_52 : am_T 13 52 = some (0, .iload 4, 54, [], .null) := by decide +kernel
theorem t13_54 : am_T 13 54 = some (0, .iload_n 3, 55, [], .null) := by decide +kernel
theorem t13_55 : am_T 13 55 = some (1, .if_icmp .ge 37, 58, [92], .null) := by decide +kernel
theorem t13_58 : am_T 13 58 = some (0, .aload_n 0, 59, [], .null) := by decide +kernel
theorem t13_59 : am_T 13 59 = some (3, .invokevirtual 49, 62, [1, 2, 52], .null) := by decide +kernel
theorem t13_62 : am_T 13 62 = some (3, .invokestatic 52, 65, [1, 14], .null) := by decide +kernel
theorem t13_65 : am_T 13 65 = some (1, .ifCond .eq 27, 68, [92], .null) := by decide +kernel
theorem t13_68 : am_T 13 68 = some (0, .aload_n 0, 69, [], .null) := by decide +kernel
theorem t13_69 : am_T 13 69 = some (2, .getfield 10, 72, [4, 2], .null) := by decide +kernel
theorem t13_72 : am_T 13 72 = some (0, .iload_n 1, 73, [], .null) := by decide +kernel
theorem t13_73 : am_T 13 73 = some (0, .iload 4, 75, [], .null) := by decide +kernel
theorem t13_75 : am_T 13 75 = some (0, .aload_n 0, 76, [], .null) := by decide +kernel
theorem t13_76 : am_T 13 76 = some (3, .invokevirtual 49, 79, [1, 2, 52], .null) := by decide +kernel
theorem t13_79 : am_T 13 79 = some (3, .invokevirtual 55, 82, [4, 1, 5], .null) := by decide +kernel
theorem t13_82 : am_T 13 82 = some (0, .iinc 4 1, 85, [], .int (1)) := by decide +kernel
theorem t13_85 : am_T 13 85 = some (0, .aload_n 0, 86, [], .null) := by decide +kernel
theorem t13_86 : am_T 13 86 = some (3, .invokevirtual 59, 89, [1, 2, 53], .null) := by decide +kernel
theorem t13_89 : am_T 13 89 = some (1, .goto (-37), 92, [52], .null) := by decide +kernel
theorem t13_92 : am_T 13 92 = some (0, .iload 4, 94, [], .null) := by decide +kernel
theorem t13_94 : am_T 13 94 = some (0, .iload_n 2, 95, [], .null) := by decide +kernel
theorem t13_95 : am_T 13 95 = some (1, .if_icmp .ge 7, 98, [102], .null) := by decide +kernel
theorem t13_98 : am_T 13 98 = some (0, .aload_n 0, 99, [], .null) := by decide +kernel
theorem t13_99 : am_T 13 99 = some (3, .invokevirtual 62, 102, [1, 2, 59], .null) := by decide +kernel
theorem t13_102 : am_T 13 102 = some (0, .iload_n 1, 103, [], .null) := by decide +kernel
theorem t13_103 : am_T 13 103 = some (1, .ifCond .ne 12, 106, [115], .null) := by decide +kernel
theorem t13_106 : am_T 13 106 = some (0, .aload_n 0, 107, [], .null) := by decide +kernel
theorem t13_107 : am_T 13 107 = some (2, .getfield 10, 110, [4, 2], .null) := by decide +kernel
theorem t13_110 : am_T 13 110 = some (0, .iload 4, 112, [], .null) := by decide +kernel
theorem t13_112 : am_T 13 112 = some (3, .invokevirtual 65, 115, [2, 1, 4], .null) := by decide +kernel
theorem t13_115 : am_T 13 115 = some (4, .return_, 116, [], .null) := by decide +kernel
theorem t14_0 : am_T 14 0 = some (0, .iload_n 0, 1, [], .null) := by decide +kernel
theorem t14_1 : am_T 14 1 = some (0, .bipush 46, 3, [], .int (46)) := by decide +kernel
theorem t14_3 : am_T 14 3 = some (1, .if_icmp .eq 21, 6, [24], .null) := by decide +kernel
theorem t14_6 : am_T 14 6 = some (0, .iload_n 0, 7, [], .null) := by decide +kernel
theorem t14_7 : am_T 14 7 = some (0, .bipush 114, 9, [], .int (114)) := by decide +kernel
theorem t14_9 : am_T 14 9 = some (1, .if_icmp .eq 15, 12, [24], .null) := by decide +kernel
theorem t14_12 : am_T 14 12 = some (0, .iload_n 0, 13, [], .null) := by decide +kernel
theorem t14_13 : am_T 14 13 = some (0, .bipush 119, 15, [], .int (119)) := by decide +kernel
theorem t14_15 : am_T 14 15 = some (1, .if_icmp .eq 9, 18, [24], .null) := by decide +kernel
theorem t14_18 : am_T 14 18 = some (0, .iload_n 0, 19, [], .null) := by decide +kernel
theorem t14_19 : am_T 14 19 = some (0, .bipush 63, 21, [], .int (63)) := by decide +kernel
theorem t14_21 : am_T 14 21 = some (1, .if_icmp .ne 7, 24, [28], .null) := by decide +kernel
theorem t14_24 : am_T 14 24 = some (0, .iconst 1, 25, [], .int (1)) := by decide +kernel
theorem t14_25 : am_T 14 25 = some (1, .goto 4, 28, [29], .null) := by decide +kernel
theorem t14_28 : am_T 14 28 = some (0, .iconst 0, 29, [], .int (0)) := by decide +kernel
theorem t14_29 : am_T 14 29 = some (4, .ireturn, 30, [1], .null) := by decide +kernel
theorem t15_0 : am_T 15 0 = some (0, .aload_n 0, 1, [], .null) := by decide +kernel
theorem t15_1 : am_T 15 1 = some (2, .getfield 10, 4, [4, 2], .null) := by decide +kernel
theorem t15_4 : am_T 15 4 = some (4, .areturn, 5, [], .null) := by decide +kernel
theorem t16_0 : am_T 16 0 = some (0, .aload_n 0, 1, [], .null) := by decide +kernel
theorem t16_1 : am_T 16 1 = some (3, .invokespecial 3, 4, [1, 50], .null) := by decide +kernel
theorem t16_4 : am_T 16 4 = some (0, .aload_n 0, 5, [], .null) := by decide +kernel
theorem t16_5 : am_T 16 5 = some (0, .iconst 0, 6, [], .int (0)) := by decide +kernel
theorem t16_6 : am_T 16 6 = some (2, .putfield 9, 9, [4, 0, 3], .null) := by decide +kernel
theorem t16_9 : am_T 16 9 = some (0, .aload_n 0, 10, [], .null) := by decide +kernel
theorem t16_10 : am_T 16 10 = some (0, .iconst 0, 11, [], .int (0)) := by decide +kernel
theorem t16_11 : am_T 16 11 = some (2, .putfield 15, 14, [5, 0, 3], .null) := by decide +kernel
theorem t16_14 : am_T 16 14 = some (0, .aload_n 0, 15, [], .null) := by decide +kernel
theorem t16_15 : am_T 16 15 = some (0, .iconst 0, 16, [], .int (0)) := by decide +kernel
theorem t16_16 : am_T 16 16 = some (2, .putfield 18, 19, [6, 0, 3], .null) := by decide +kernel
theorem t16_19 : am_T 16 19 = some (0, .aload_n 0, 20, [], .null) := by decide +kernel
theorem t16_20 : am_T 16 20 = some (0, .iconst 0, 21, [], .int (0)) := by decide +kernel
theorem t16_21 : am_T 16 21 = some (2, .putfield 21, 24, [7, 0, 3], .null) := by decide +kernel
theorem t16_24 : am_T 16 24 = some (0, .aload_n 0, 25, [], .null) := by decide +kernel
theorem t16_25 : am_T 16 25 = some (0, .iconst 0, 26, [], .int (0)) := by decide +kernel
theorem t16_26 : am_T 16 26 = some (2, .putfield 24, 29, [8, 1, 3], .null) := by decide +kernel
theorem t16_29 : am_T 16 29 = some (0, .aload_n 0, 30, [], .null) := by decide +kernel
theorem t16_30 : am_T 16 30 = some (0, .lconst 0, 31, [], .long 0) := by decide +kernel
theorem t16_31 : am_T 16 31 = some (2, .putfield 28, 34, [9, 3, 3], .null) := by decide +kernel
theorem t16_34 : am_T 16 34 = some (4, .return_, 35, [], .null) := by decide +kernel
theorem t17_0 : am_T 17 0 = some (0, .aload_n 0, 1, [], .null) := by decide +kernel
theorem t17_1 : am_T 17 1 = some (0, .aload_n 1, 2, [], .null) := by decide +kernel
theorem t17_2 : am_T 17 2 = some (0, .iconst 0, 3, [], .int (0)) := by decide +kernel
theorem t17_3 : am_T 17 3 = some (0, .iconst 0, 4, [], .int (0)) := by decide +kernel
theorem t17_4 : am_T 17 4 = some (0, .iconst 0, 5, [], .int (0)) := by decide +kernel
theorem t17_5 : am_T 17 5 = some (0, .iconst 0, 6, [], .int (0)) := by decide +kernel
theorem t17_6 : am_T 17 6 = some (3, .invokevirtual 32, 9, [6, 3, 18], .null) := by decide +kernel
theorem t17_9 : am_T 17 9 = some (0, .pop, 10, [], .null) := by decide +kernel
theorem t17_10 : am_T 17 10 = some (0, .aload_n 0, 11, [], .null) := by decide +kernel
theorem t17_11 : am_T 17 11 = some (3, .invokevirtual 36, 14, [1, 3, 60], .null) := by decide +kernel
theorem t17_14 : am_T 17 14 = some (4, .ireturn, 15, [0], .null) := by decide +kernel
theorem t18_0 : am_T 18 0 = some (0, .aload_n 0, 1, [], .null) := by decide +kernel
theorem t18_1 : am_T 18 1 = some (0, .iload_n 2, 2, [], .null) := by decide +kernel
theorem t18_2 : am_T 18 2 = some (2, .putfield 9, 5, [4, 0, 3], .null) := by decide +kernel
theorem t18_5 : am_T 18 5 = some (0, .aload_n 0, 6, [], .null) := by decide +kernel
theorem t18_6 : am_T 18 6 = some (0, .iload_n 3, 7, [], .null) := by decide +kernel
theorem t18_7 : am_T 18 7 = some (2, .putfield 15, 10, [5, 0, 3], .null) := by decide +kernel
theorem t18_10 : am_T 18 10 = some (0, .aload_n 0, 11, [], .null) := by decide +kernel
theorem t18_11 : am_T 18 11 = some (0, .iload 4, 13, [], .null) := by decide +kernel
theorem t18_13 : am_T 18 13 = some (2, .putfield 18, 16, [6, 0, 3], .null) := by decide +kernel
theorem t18_16 : am_T 18 16 = some (0, .aload_n 0, 17, [], .null) := by decide +kernel
theorem t18_17 : am_T 18 17 = some (0, .iload 5, 19, [], .null) := by decide +kernel
theorem t18_19 : am_T 18 19 = some (2, .putfield 21, 22, [7, 0, 3], .null) := by decide +kernel
theorem t18_22 : am_T 18 22 = some (0, .aload_n 0, 23, [], .null) := by decide +kernel
theorem t18_23 : am_T 18 23 = some (0, .aload_n 1, 24, [], .null) := by decide +kernel
theorem t18_24 : am_T 18 24 = some (3, .invokevirtual 40, 27, [2, 3, 51], .null) := by decide +kernel
theorem t18_27 : am_T 18 27 = some (0, .aload_n 0, 28, [], .null) := by decide +kernel
theorem t18_28 : am_T 18 28 = some (0, .iconst 0, 29, [], .int (0)) := by decide +kernel
theorem t18_29 : am_T 18 29 = some (2, .putfield 24, 32, [8, 1, 3], .null) := by decide +kernel
theorem t18_32 : am_T 18 32 = some (0, .aload_n 0, 33, [], .null) := by decide +kernel
theorem t18_33 : am_T 18 33 = some (0, .lconst 0, 34, [], .long 0) := by decide +kernel
theorem t18_34 : am_T 18 34 = some (2, .putfield 28, 37, [9, 3, 3], .null) := by decide +kernel
theorem t18_37 : am_T 18 37 = some (0, .iconst 1, 38, [], .int (1)) := by decide +kernel
theorem t18_38 : am_T 18 38 = some (0, .istore 6, 40, [], .null) := by decide +kernel
theorem t18_40 : am_T 18 40 = some (0, .iconst 0, 41, [], .int (0)) := by decide +kernel
theorem t18_41 : am_T 18 41 = some (0, .istore 7, 43, [], .null) := by decide +kernel
theorem t18_43 : am_T 18 43 = some (0, .iload 7, 45, [], .null) := by decide +kernel
theorem t18_45 : am_T 18 45 = some (0, .bipush 120, 47, [], .int (120)) := by decide +kernel
theorem t18_47 : am_T 18 47 = some (1, .if_icmp .ge 26, 50, [73], .null) := by decide +kernel
theorem t18_50 : am_T 18 50 = some (0, .iload 6, 52, [], .null) := by decide +kernel
theorem t18_52 : am_T 18 52 = some (1, .ifCond .eq 21, 55, [73], .null) := by decide +kernel
theorem t18_55 : am_T 18 55 = some (0, .aload_n 0, 56, [], .null) := by decide +kernel
theorem t18_56 : am_T 18 56 = some (3, .invokevirtual 44, 59, [1, 3, 19], .null) := by decide +kernel
theorem t18_59 : am_T 18 59 = some (0, .aload_n 0, 60, [], .null) := by decide +kernel
theorem t18_60 : am_T 18 60 = some (0, .bipush 59, 62, [], .int (59)) := by decide +kernel
theorem t18_62 : am_T 18 62 = some (3, .invokevirtual 47, 65, [2, 3, 55], .null) := by decide +kernel
theorem t18_65 : am_T 18 65 = some (0, .istore 6, 67, [], .null) := by decide +kernel
theorem t18_67 : am_T 18 67 = some (0, .iinc 7 1, 70, [], .int (1)) := by decide +kernel
theorem t18_70 : am_T 18 70 = some (1, .goto (-27), 73, [43], .null) := by decide +kernel
theorem t18_73 : am_T 18 73 = some (0, .aload_n 0, 74, [], .null) := by decide +kernel
theorem t18_74 : am_T 18 74 = some (2, .getfield 28, 77, [9, 3], .null) := by decide +kernel
theorem t18_77 : am_T 18 77 = some (0, .l2i, 78, [], .null) := by decide +kernel
theorem t18_78 : am_T 18 78 = some (4, .ireturn, 79, [0], .null) := by decide +kernel
theorem t19_0 : am_T 19 0 = some (0, .aload_n 0, 1, [], .null) := by decide +kernel
theorem t19_1 : am_T 19 1 = some (0, .bipush 121, 3, [], .int (121)) := by decide +kernel
theorem t19_3 : am_T 19 3 = some (3, .invokevirtual 51, 6, [2, 3, 56], .null) := by decide +kernel
theorem t19_6 : am_T 19 6 = some (0, .aload_n 0, 7, [], .null) := by decide +kernel
theorem t19_7 : am_T 19 7 = some (0, .bipush 58, 9, [], .int (58)) := by decide +kernel
theorem t19_9 : am_T 19 9 = some (3, .invokevirtual 51, 12, [2, 3, 56], .null) := by decide +kernel
theorem t19_12 : am_T 19 12 = some (0, .iconst 1, 13, [], .int (1)) := by decide +kernel
theorem t19_13 : am_T 19 13 = some (0, .istore_n 1, 14, [], .null) := by decide +kernel
theorem t19_14 : am_T 19 14 = some (0, .lconst 0, 15, [], .long 0) := by decide +kernel
theorem t19_15 : am_T 19 15 = some (0, .lstore_n 2, 16, [], .null) := by decide +kernel
theorem t19_16 : am_T 19 16 = some (0, .aload_n 0, 17, [], .null) := by decide +kernel
theorem t19_17 : am_T 19 17 = some (3, .invokevirtual 55, 20, [1, 3, 52], .null) := by decide +kernel
theorem t19_20 : am_T 19 20 = some (0, .bipush 33, 22, [], .int (33)) := by decide +kernel
theorem t19_22 : am_T 19 22 = some (1, .if_icmp .eq 16, 25, [38], .null) := by decide +kernel
theorem t19_25 : am_T 19 25 = some (0, .aload_n 0, 26, [], .null) := by decide +kernel
theorem t19_26 : am_T 19 26 = some (3, .invokevirtual 55, 29, [1, 3, 52], .null) := by decide +kernel
theorem t19_29 : am_T 19 29 = some (0, .bipush 40, 31, [], .int (40)) := by decide +kernel
theorem t19_31 : am_T 19 31 = some (1, .if_icmp .eq 7, 34, [38], .null) := by decide +kernel
theorem t19_34 : am_T 19 34 = some (0, .iconst 1, 35, [], .int (1)) := by decide +kernel
theorem t19_35 : am_T 19 35 = some (1, .goto 4, 38, [39], .null) := by decide +kernel
theorem t19_38 : am_T 19 38 = some (0, .iconst 0, 39, [], .int (0)) := by decide +kernel
theorem t19_39 : am_T 19 39 = some (0, .istore 4, 41, [], .null) := by decide +kernel
theorem t19_41 : am_T 19 41 = some (0, .iload 4, 43, [], .null) := by decide +kernel
theorem t19_43 : am_T 19 43 = some (1, .ifCond .eq 9, 46, [52], .null) := by decide +kernel
theorem t19_46 : am_T 19 46 = some (0, .aload_n 0, 47, [], .null) := by decide +kernel
theorem t19_47 : am_T 19 47 = some (0, .iconst 0, 48, [], .int (0)) := by decide +kernel
theorem t19_48 : am_T 19 48 = some (3, .invokevirtual 58, 51, [2, 3, 24], .null) := by decide +kernel
theorem t19_51 : am_T 19 51 = some (0, .lstore_n 2, 52, [], .null) := by decide +kernel
theorem t19_52 : am_T 19 52 = some (0, .iload 4, 54, [], .null) := by decide +kernel
theorem t19_54 : am_T 19 54 = some (1, .ifCond .eq 13, 57, [67], .null) := by decide +kernel
theorem t19_57 : am_T 19 57 = some (0, .aload_n 0, 58, [], .null) := by decide +kernel
theorem t19_58 : am_T 19 58 = some (3, .invokevirtual 55, 61, [1, 3, 52], .null) := by decide +kernel
theorem t19_61 : am_T 19 61 = some (3, .invokestatic 62, 64, [1, 20], .null) := by decide +kernel
theorem t19_64 : am_T 19 64 = some (1, .ifCond .eq 24, 67, [88], .null) := by decide +kernel
theorem t19_67 : am_T 19 67 = some (0, .aload_n 0, 68, [], .null) := by decide +kernel
theorem t19_68 : am_T 19 68 = some (0, .iconst 0, 69, [], .int (0)) := by decide +kernel
theorem t19_69 : am_T 19 69 = some (0, .iload 4, 71, [], .null) := by decide +kernel
theorem t19_71 : am_T 19 71 = some (0, .lload_n 2, 72, [], .null) := by decide +kernel
theorem t19_72 : am_T 19 72 = some (3, .invokevirtual 65, 75, [4, 3, 21], .null) := by decide +kernel
theorem t19_75 : am_T 19 75 = some (0, .istore_n 1, 76, [], .null) := by decide +kernel
theorem t19_76 : am_T 19 76 = some (0, .aload_n 0, 77, [], .null) := by decide +kernel
theorem t19_77 : am_T 19 77 = some (0, .bipush 63, 79, [], .int (63)) := by decide +kernel
theorem t19_79 : am_T 19 79 = some (3, .invokevirtual 51, 82, [2, 3, 56], .null) := by decide +kernel
theorem t19_82 : am_T 19 82 = some (0, .aload_n 0, 83, [], .null) := by decide +kernel
theorem t19_83 : am_T 19 83 = some (0, .iconst 0, 84, [], .int (0)) := by decide +kernel
theorem t19_84 : am_T 19 84 = some (3, .invokevirtual 58, 87, [2, 3, 24], .null) := by decide +kernel
theorem t19_87 : am_T 19 87 = some (0, .lstore_n 2, 88, [], .null) := by decide +kernel
theorem t19_88 : am_T 19 88 = some (0, .iload_n 1, 89, [], .null) := by decide +kernel
theorem t19_89 : am_T 19 89 = some (1, .ifCond .eq 20, 92, [109], .null) := by decide +kernel
theorem t19_92 : am_T 19 92 = some (0, .aload_n 0, 93, [], .null) := by decide +kernel
theorem t19_93 : am_T 19 93 = some (2, .getfield 24, 96, [8, 3], .null) := by decide +kernel
theorem t19_96 : am_T 19 96 = some (1, .ifCond .ne 13, 99, [109], .null) := by decide +kernel
theorem t19_99 : am_T 19 99 = some (0, .aload_n 0, 100, [], .null) := by decide +kernel
theorem t19_100 : am_T 19 100 = some (0, .iconst 1, 101, [], .int (1)) := by decide +kernel
theorem t19_101 : am_T 19 101 = some (2, .putfield 24, 104, [8, 1, 3], .null) := by decide +kernel
theorem t19_104 : am_T 19 104 = some (0, .aload_n 0, 105, [], .null) := by decide +kernel
theorem t19_105 : am_T 19 105 = some (0, .lload_n 2, 106, [], .null) := by decide +kernel
theorem t19_106 : am_T 19 106 = some (2, .putfield 28, 109, [9, 3, 3], .null) := by decide +kernel
theorem t19_109 : am_T 19 109 = some (4, .return_, 110, [], .null) := by decide +kernel
theorem t20_0 : am_T 20 0 = some (0, .iload_n 0, 1, [], .null) := by decide +kernel
theorem t20_1 : am_T 20 1 = some (0, .bipush 61, 3, [], .int (61)) := by decide +kernel
theorem t20_3 : am_T 20 3 = some (1, .if_icmp .eq 15, 6, [18], .null) := by decide +kernel
theorem t20_6 : am_T 20 6 = some (0, .iload_n 0, 7, [], .null) := by decide +kernel
theorem t20_7 : am_T 20 7 = some (0, .bipush 60, 9, [], .int (60)) := by decide +kernel
theorem t20_9 : am_T 20 9 = some (1, .if_icmp .eq 9, 12, [18], .null) := by decide +kernel
theorem t20_12 : am_T 20 12 = some (0, .iload_n 0, 13, [], .null) := by decide +kernel
theorem t20_13 : am_T 20 13 = some (0, .bipush 62, 15, [], .int (62)) := by decide +kernel
theorem t20_15 : am_T 20 15 = some (1, .if_icmp .ne 7, 18, [22], .null) := by decide +kernel
theorem t20_18 : am_T 20 18 = some (0, .iconst 1, 19, [], .int (1)) := by decide +kernel
theorem t20_19 : am_T 20 19 = some (1, .goto 4, 22, [23], .null) := by decide +kernel
theorem t20_22 : am_T 20 22 = some (0, .iconst 0, 23, [], .int (0)) := by decide +kernel
theorem t20_23 : am_T 20 23 = some (4, .ireturn, 24, [1], .null) := by decide +kernel
theorem t21_0 : am_T 21 0 = some (0, .aload_n 0, 1, [], .null) := by decide +kernel
theorem t21_1 : am_T 21 1 = some (0, .iload_n 1, 2, [], .null) := by decide +kernel
theorem t21_2 : am_T 21 2 = some (0, .iload_n 2, 3, [], .null) := by decide +kernel
theorem t21_3 : am_T 21 3 = some (0, .lload_n 3, 4, [], .null) := by decide +kernel
theorem t21_4 : am_T 21 4 = some (3, .invokevirtual 69, 7, [4, 3, 22], .null) := by decide +kernel
theorem t21_7 : am_T 21 7 = some (0, .istore 5, 9, [], .null) := by decide +kernel
theorem t21_9 : am_T 21 9 = some (0, .iconst 0, 10, [], .int (0)) := by decide +kernel
theorem t21_10 : am_T 21 10 = some (0, .istore 6, 12, [], .null) := by decide +kernel
theorem t21_12 : am_T 21 12 = some (0, .iload 6, 14, [], .null) := by decide +kernel
theorem t21_14 : am_T 21 14 = some (0, .bipush 120, 16, [], .int (120)) := by decide +kernel
theorem t21_16 : am_T 21 16 = some (1, .if_icmp .ge 44, 19, [60], .null) := by decide +kernel
theorem t21_19 : am_T 21 19 = some (0, .aload_n 0, 20, [], .null) := by decide +kernel
theorem t21_20 : am_T 21 20 = some (0, .bipush 124, 22, [], .int (124)) := by decide +kernel
theorem t21_22 : am_T 21 22 = some (3, .invokevirtual 47, 25, [2, 3, 55], .null) := by decide +kernel
theorem t21_25 : am_T 21 25 = some (1, .ifCond .eq 35, 28, [60], .null) := by decide +kernel
theorem t21_28 : am_T 21 28 = some (0, .aload_n 0, 29, [], .null) := by decide +kernel
theorem t21_29 : am_T 21 29 = some (0, .iload_n 1, 30, [], .null) := by decide +kernel
theorem t21_30 : am_T 21 30 = some (0, .iconst 0, 31, [], .int (0)) := by decide +kernel
theorem t21_31 : am_T 21 31 = some (0, .lconst 0, 32, [], .long 0) := by decide +kernel
theorem t21_32 : am_T 21 32 = some (3, .invokevirtual 69, 35, [4, 3, 22], .null) := by decide +kernel
theorem t21_35 : am_T 21 35 = some (0, .istore 7, 37, [], .null) := by decide +kernel
theorem t21_37 : am_T 21 37 = some (0, .iload 5, 39, [], .null) := by decide +kernel
theorem t21_39 : am_T 21 39 = some (1, .ifCond .ne 8, 42, [47], .null) := by decide +kernel
theorem t21_42 : am_T 21 42 = some (0, .iload 7, 44, [], .null) := by decide +kernel
theorem t21_44 : am_T 21 44 = some (1, .ifCond .eq 7, 47, [51], .null) := by decide +kernel
theorem t21_47 : am_T 21 47 = some (0, .iconst 1, 48, [], .int (1)) := by decide +kernel
theorem t21_48 : am_T 21 48 = some (1, .goto 4, 51, [52], .null) := by decide +kernel
theorem t21_51 : am_T 21 51 = some (0, .iconst 0, 52, [], .int (0)) := by decide +kernel
theorem t21_52 : am_T 21 52 = some (0, .istore 5, 54, [], .null) := by decide +kernel
theorem t21_54 : am_T 21 54 = some (0, .iinc 6 1, 57, [], .int (1)) := by decide +kernel
theorem t21_57 : am_T 21 57 = some (1, .goto (-45), 60, [12], .null) := by decide +kernel
theorem t21_60 : am_T 21 60 = some (0, .iload 5, 62, [], .null) := by decide +kernel
theorem t21_62 : am_T 21 62 = some (4, .ireturn, 63, [1], .null) := by decide +kernel
theorem t22_0 : am_T 22 0 = some (0, .aload_n 0, 1, [], .null) := by decide +kernel
theorem t22_1 : am_T 22 1 = some (0, .iload_n 1, 2, [], .null) := by decide +kernel
theorem t22_2 : am_T 22 2 = some (0, .iload_n 2, 3, [], .null) := by decide +kernel
theorem t22_3 : am_T 22 3 = some (0, .lload_n 3, 4, [], .null) := by decide +kernel
theorem t22_4 : am_T 22 4 = some (3, .invokevirtual 72, 7, [4, 3, 23], .null) := by decide +kernel
theorem t22_7 : am_T 22 7 = some (0, .istore 5, 9, [], .null) := by decide +kernel
theorem t22_9 : am_T 22 9 = some (0, .iconst 0, 10, [], .int (0)) := by decide +kernel
theorem t22_10 : am_T 22 10 = some (0, .istore 6, 12, [], .null) := by decide +kernel
theorem t22_12 : am_T 22 12 = some (0, .iload 6, 14, [], .null) := by decide +kernel
theorem t22_14 : am_T 22 14 = some (0, .bipush 120, 16, [], .int (120)) := by decide +kernel
theorem t22_16 : am_T 22 16 = some (1, .if_icmp .ge 44, 19, [60], .null) := by decide +kernel
theorem t22_19 : am_T 22 19 = some (0, .aload_n 0, 20, [], .null) := by decide +kernel
theorem t22_20 : am_T 22 20 = some (0, .bipush 38, 22, [], .int (38)) := by decide +kernel
theorem t22_22 : am_T 22 22 = some (3, .invokevirtual 47, 25, [2, 3, 55], .null) := by decide +kernel
theorem t22_25 : am_T 22 25 = some (1, .ifCond .eq 35, 28, [60], .null) := by decide +kernel
theorem t22_28 : am_T 22 28 = some (0, .aload_n 0, 29, [], .null) := by decide +kernel
theorem t22_29 : am_T 22 29 = some (0, .iload_n 1, 30, [], .null) := by decide +kernel
theorem t22_30 : am_T 22 30 = some (0, .iconst 0, 31, [], .int (0)) := by decide +kernel
theorem t22_31 : am_T 22 31 = some (0, .lconst 0, 32, [], .long 0) := by decide +kernel
theorem t22_32 : am_T 22 32 = some (3, .invokevirtual 72, 35, [4, 3, 23], .null) := by decide +kernel
theorem t22_35 : am_T 22 35 = some (0, .istore 7, 37, [], .null) := by decide +kernel
theorem t22_37 : am_T 22 37 = some (0, .iload 5, 39, [], .null) := by decide +kernel
theorem t22_39 : am_T 22 39 = some (1, .ifCond .eq 12, 42, [51], .null) := by decide +kernel
theorem t22_42 : am_T 22 42 = some (0, .iload 7, 44, [], .null) := by decide +kernel
theorem t22_44 : am_T 22 44 = some (1, .ifCond .eq 7, 47, [51], .null) := by decide +kernel
theorem t22_47 : am_T 22 47 = some (0, .iconst 1, 48, [], .int (1)) := by decide +kernel
theorem t22_48 : am_T 22 48 = some (1, .goto 4, 51, [52], .null) := by decide +kernel
theorem t22_51 : am_T 22 51 = some (0, .iconst 0, 52, [], .int (0)) := by decide +kernel
theorem t22_52 : am_T 22 52 = some (0, .istore 5, 54, [], .null) := by decide +kernel
theorem t22_54 : am_T 22 54 = some (0, .iinc 6 1, 57, [], .int (1)) := by decide +kernel
theorem t22_57 : am_T 22 57 = some (1, .goto (-45), 60, [12], .null) := by decide +kernel
theorem t22_60 : am_T 22 60 = some (0, .iload 5, 62, [], .null) := by decide +kernel
theorem t22_62 : am_T 22 62 = some (4, .ireturn, 63, [1], .null) := by decide +kernel
theorem t23_0 : am_T 23 0 = some (0, .aload_n 0, 1, [], .null) := by decide +kernel
theorem t23_1 : am_T 23 1 = some (3, .invokevirtual 55, 4, [1, 3, 52], .null) := by decide +kernel
theorem t23_4 : am_T 23 4 = some (0, .istore 5, 6, [], .null) := by decide +kernel
theorem t23_6 : am_T 23 6 = some (0, .iload_n 2, 7, [], .null) := by decide +kernel
theorem t23_7 : am_T 23 7 = some (1, .ifCond .ne 78, 10, [85], .null) := by decide +kernel
theorem t23_10 : am_T 23 10 = some (0, .iload 5, 12, [], .null) := by decide +kernel
theorem t23_12 : am_T 23 12 = some (0, .bipush 33, 14, [], .int (33)) := by decide +kernel
theorem t23_14 : am_T 23 14 = some (1, .if_icmp .eq 10, 17, [24], .null) := by decide +kernel
theorem t23_17 : am_T 23 17 = some (0, .iload 5, 19, [], .null) := by decide +kernel
theorem t23_19 : am_T 23 19 = some (0, .bipush 40, 21, [], .int (40)) := by decide +kernel
theorem t23_21 : am_T 23 21 = some (1, .if_icmp .ne 64, 24, [85], .null) := by decide +kernel
theorem t23_24 : am_T 23 24 = some (0, .iload_n 1, 25, [], .null) := by decide +kernel
theorem t23_25 : am_T 23 25 = some (0, .bipush 6, 27, [], .int (6)) := by decide +kernel
theorem t23_27 : am_T 23 27 = some (1, .if_icmp .lt 9, 30, [36], .null) := by decide +kernel
theorem t23_30 : am_T 23 30 = some (0, .aload_n 0, 31, [], .null) := by decide +kernel
theorem t23_31 : am_T 23 31 = some (3, .invokevirtual 75, 34, [1, 3, 59], .null) := by decide +kernel
theorem t23_34 : am_T 23 34 = some (0, .iconst 0, 35, [], .int (0)) := by decide +kernel
theorem t23_35 : am_T 23 35 = some (4, .ireturn, 36, [1], .null) := by decide +kernel
theorem t23_36 : am_T 23 36 = some (0, .aload_n 0, 37, [], .null) := by decide +kernel
theorem t23_37 : am_T 23 37 = some (3, .invokevirtual 78, 40, [1, 3, 53], .null) := by decide +kernel
theorem t23_40 : am_T 23 40 = some (0, .iload 5, 42, [], .null) := by decide +kernel
theorem t23_42 : am_T 23 42 = some (0, .bipush 33, 44, [], .int (33)) := by decide +kernel
theorem t23_44 : am_T 23 44 = some (1, .if_icmp .ne 21, 47, [65], .null) := by decide +kernel
theorem t23_47 : am_T 23 47 = some (0, .aload_n 0, 48, [], .null) := by decide +kernel
theorem t23_48 : am_T 23 48 = some (0, .iload_n 1, 49, [], .null) := by decide +kernel
theorem t23_49 : am_T 23 49 = some (0, .iconst 1, 50, [], .int (1)) := by decide +kernel
theorem t23_50 : am_T 23 50 = some (0, .iadd, 51, [], .null) := by decide +kernel
theorem t23_51 : am_T 23 51 = some (0, .iconst 0, 52, [], .int (0)) := by decide +kernel
theorem t23_52 : am_T 23 52 = some (0, .lconst 0, 53, [], .long 0) := by decide +kernel
theorem t23_53 : am_T 23 53 = some (3, .invokevirtual 72, 56, [4, 3, 23], .null) := by decide +kernel
theorem t23_56 : am_T 23 56 = some (1, .ifCond .ne 7, 59, [63], .null) := by decide +kernel
theorem t23_59 : am_T 23 59 = some (0, .iconst 1, 60, [], .int (1)) := by decide +kernel
theorem t23_60 : am_T 23 60 = some (1, .goto 4, 63, [64], .null) := by decide +kernel
theorem t23_63 : am_T 23 63 = some (0, .iconst 0, 64, [], .int (0)) := by decide +kernel
theorem t23_64 : am_T 23 64 = some (4, .ireturn, 65, [1], .null) := by decide +kernel
theorem t23_65 : am_T 23 65 = some (0, .aload_n 0, 66, [], .null) := by decide +kernel
theorem t23_66 : am_T 23 66 = some (0, .iload_n 1, 67, [], .null) := by decide +kernel
theorem t23_67 : am_T 23 67 = some (0, .iconst 1, 68, [], .int (1)) := by decide +kernel
theorem t23_68 : am_T 23 68 = some (0, .iadd, 69, [], .null) := by decide +kernel
theorem t23_69 : am_T 23 69 = some (0, .iconst 0, 70, [], .int (0)) := by decide +kernel
theorem t23_70 : am_T 23 70 = some (0, .lconst 0, 71, [], .long 0) := by decide +kernel
theorem t23_71 : am_T 23 71 = some (3, .invokevirtual 65, 74, [4, 3, 21], .null) := by decide +kernel
theorem t23_74 : am_T 23 74 = some (0, .istore 6, 76, [], .null) := by decide +kernel
theorem t23_76 : am_T 23 76 = some (0, .aload_n 0, 77, [], .null) := by decide +kernel
theorem t23_77 : am_T 23 77 = some (0, .bipush 41, 79, [], .int (41)) := by decide +kernel
theorem t23_79 : am_T 23 79 = some (3, .invokevirtual 51, 82, [2, 3, 56], .null) := by decide +kernel
theorem t23_82 : am_T 23 82 = some (0, .iload 6, 84, [], .null) := by decide +kernel
theorem t23_84 : am_T 23 84 = some (4, .ireturn, 85, [1], .null) := by decide +kernel
theorem t23_85 : am_T 23 85 = some (0, .iload_n 2, 86, [], .null) := by decide +kernel
theorem t23_86 : am_T 23 86 = some (1, .ifCond .eq 7, 89, [93], .null) := by decide +kernel
theorem t23_89 : am_T 23 89 = some (0, .lload_n 3, 90, [], .null) := by decide +kernel
theorem t23_90 : am_T 23 90 = some (1, .goto 8, 93, [98], .null) := by decide +kernel
theorem t23_93 : am_T 23 93 = some (0, .aload_n 0, 94, [], .null) := by decide +kernel
theorem t23_94 : am_T 23 94 = some (0, .iload_n 1, 95, [], .null) := by decide +kernel
theorem t23_95 : am_T 23 95 = some (3, .invokevirtual 58, 98, [2, 3, 24], .null) := by decide +kernel
theorem t23_98 : am_T 23 98 = some (0, .lstore 6, 100, [], .null) := by decide +kernel
theorem t23_100 : am_T 23 100 = some (0, .aload_n 0, 101, [], .null) := by decide +kernel
theorem t23_101 : am_T 23 101 = some (3, .invokevirtual 55, 104, [1, 3, 52], .null) := by decide +kernel
theorem t23_104 : am_T 23 104 = some (0, .istore 8, 106, [], .null) := by decide +kernel
theorem t23_106 : am_T 23 106 = some (0, .iload 8, 108, [], .null) := by decide +kernel
theorem t23_108 : am_T 23 108 = some (3, .invokestatic 62, 111, [1, 20], .null) := by decide +kernel
theorem t23_111 : am_T 23 111 = some (1, .ifCond .ne 9, 114, [120], .null) := by decide +kernel
theorem t23_114 : am_T 23 114 = some (0, .aload_n 0, 115, [], .null) := by decide +kernel
theorem t23_115 : am_T 23 115 = some (3, .invokevirtual 75, 118, [1, 3, 59], .null) := by decide +kernel
theorem t23_118 : am_T 23 118 = some (0, .iconst 0, 119, [], .int (0)) := by decide +kernel
theorem t23_119 : am_T 23 119 = some (4, .ireturn, 120, [1], .null) := by decide +kernel
theorem t23_120 : am_T 23 120 = some (0, .aload_n 0, 121, [], .null) := by decide +kernel
theorem t23_121 : am_T 23 121 = some (3, .invokevirtual 78, 124, [1, 3, 53], .null) := by decide +kernel
theorem t23_124 : am_T 23 124 = some (0, .aload_n 0, 125, [], .null) := by decide +kernel
theorem t23_125 : am_T 23 125 = some (0, .iload_n 1, 126, [], .null) := by decide +kernel
theorem t23_126 : am_T 23 126 = some (3, .invokevirtual 58, 129, [2, 3, 24], .null) := by decide +kernel
theorem t23_129 : am_T 23 129 = some (0, .lstore 9, 131, [], .null) := by decide +kernel
theorem t23_131 : am_T 23 131 = some (0, .iload 8, 133, [], .null) := by decide +kernel
theorem t23_133 : am_T 23 133 = some (0, .bipush 61, 135, [], .int (61)) := by decide +kernel
theorem t23_135 : am_T 23 135 = some (1, .if_icmp .ne 17, 138, [152], .null) := by decide +kernel
theorem t23_138 : am_T 23 138 = some (0, .lload 6, 140, [], .null) := by decide +kernel
theorem t23_140 : am_T 23 140 = some (0, .lload 9, 142, [], .null) := by decide +kernel
theorem t23_142 : am_T 23 142 = some (0, .lcmp, 143, [], .null) := by decide +kernel
theorem t23_143 : am_T 23 143 = some (1, .ifCond .ne 7, 146, [150], .null) := by decide +kernel
theorem t23_146 : am_T 23 146 = some (0, .iconst 1, 147, [], .int (1)) := by decide +kernel
theorem t23_147 : am_T 23 147 = some (1, .goto 4, 150, [151], .null) := by decide +kernel
theorem t23_150 : am_T 23 150 = some (0, .iconst 0, 151, [], .int (0)) := by decide +kernel
theorem t23_151 : am_T 23 151 = some (4, .ireturn, 152, [1], .null) := by decide +kernel
theorem t23_152 : am_T 23 152 = some (0, .iload 8, 154, [], .null) := by decide +kernel
theorem t23_154 : am_T 23 154 = some (0, .bipush 60, 156, [], .int (60)) := by decide +kernel
theorem t23_156 : am_T 23 156 = some (1, .if_icmp .ne 19, 159, [175], .null) := by decide +kernel
theorem t23_159 : am_T 23 159 = some (0, .lload 6, 161, [], .null) := by decide +kernel
theorem t23_161 : am_T 23 161 = some (0, .lload 9, 163, [], .null) := by decide +kernel
theorem t23_163 : am_T 23 163 = some (0, .lcmp, 164, [], .null) := by decide +kernel
theorem t23_164 : am_T 23 164 = some (1, .ifCond .ge 7, 167, [171], .null) := by decide +kernel
theorem t23_167 : am_T 23 167 = some (0, .iconst 1, 168, [], .int (1)) := by decide +kernel
theorem t23_168 : am_T 23 168 = some (1, .goto 20, 171, [188], .null) := by decide +kernel
theorem t23_171 : am_T 23 171 = some (0, .iconst 0, 172, [], .int (0)) := by decide +kernel
theorem t23_172 : am_T 23 172 = some (1, .goto 16, 175, [188], .null) := by decide +kernel
theorem t23_175 : am_T 23 175 = some (0, .lload 6, 177, [], .null) := by decide +kernel
theorem t23_177 : am_T 23 177 = some (0, .lload 9, 179, [], .null) := by decide +kernel
theorem t23_179 : am_T 23 179 = some (0, .lcmp, 180, [], .null) := by decide +kernel
theorem t23_180 : am_T 23 180 = some (1, .ifCond .le 7, 183, [187], .null) := by decide +kernel
theorem t23_183 : am_T 23 183 = some (0, .iconst 1, 184, [], .int (1)) := by decide +kernel
theorem t23_184 : am_T 23 184 = some (1, .goto 4, 187, [188], .null) := by decide +kernel
theorem t23_187 : am_T 23 187 = some (0, .iconst 0, 188, [], .int (0)) := by decide +kernel
theorem t23_188 : am_T 23 188 = some (4, .ireturn, 189, [1], .null) := by decide +kernel
theorem t24_0 : am_T 24 0 = some (0, .aload_n 0, 1, [], .null) := by decide +kernel
theorem t24_1 : am_T 24 1 = some (0, .iload_n 1, 2, [], .null) := by decide +kernel
theorem t24_2 : am_T 24 2 = some (3, .invokevirtual 81, 5, [2, 3, 25], .null) := by decide +kernel
theorem t24_5 : am_T 24 5 = some (0, .lstore_n 2, 6, [], .null) := by decide +kernel
theorem t24_6 : am_T 24 6 = some (0, .iconst 0, 7, [], .int (0)) := by decide +kernel
theorem t24_7 : am_T 24 7 = some (0, .istore 4, 9, [], .null) := by decide +kernel
theorem t24_9 : am_T 24 9 = some (0, .iload 4, 11, [], .null) := by decide +kernel
theorem t24_11 : am_T 24 11 = some (0, .bipush 120, 13, [], .int (120)) := by decide +kernel
theorem t24_13 : am_T 24 13 = some (1, .if_icmp .ge 74, 16, [87], .null) := by decide +kernel
theorem t24_16 : am_T 24 16 = some (0, .aload_n 0, 17, [], .null) := by decide +kernel
theorem t24_17 : am_T 24 17 = some (3, .invokevirtual 55, 20, [1, 3, 52], .null) := by decide +kernel
theorem t24_20 : am_T 24 20 = some (0, .bipush 43, 22, [], .int (43)) := by decide +kernel
theorem t24_22 : am_T 24 22 = some (1, .if_icmp .eq 12, 25, [34], .null) := by decide +kernel
theorem t24_25 : am_T 24 25 = some (0, .aload_n 0, 26, [], .null) := by decide +kernel
theorem t24_26 : am_T 24 26 = some (3, .invokevirtual 55, 29, [1, 3, 52], .null) := by decide +kernel
theorem t24_29 : am_T 24 29 = some (0, .bipush 45, 31, [], .int (45)) := by decide +kernel
theorem t24_31 : am_T 24 31 = some (1, .if_icmp .ne 56, 34, [87], .null) := by decide +kernel
theorem t24_34 : am_T 24 34 = some (0, .aload_n 0, 35, [], .null) := by decide +kernel
theorem t24_35 : am_T 24 35 = some (3, .invokevirtual 55, 38, [1, 3, 52], .null) := by decide +kernel
theorem t24_38 : am_T 24 38 = some (0, .bipush 43, 40, [], .int (43)) := by decide +kernel
theorem t24_40 : am_T 24 40 = some (1, .if_icmp .ne 7, 43, [47], .null) := by decide +kernel
theorem t24_43 : am_T 24 43 = some (0, .iconst 1, 44, [], .int (1)) := by decide +kernel
theorem t24_44 : am_T 24 44 = some (1, .goto 4, 47, [48], .null) := by decide +kernel
theorem t24_47 : am_T 24 47 = some (0, .iconst 0, 48, [], .int (0)) := by decide +kernel
theorem t24_48 : am_T 24 48 = some (0, .istore 5, 50, [], .null) := by decide +kernel
theorem t24_50 : am_T 24 50 = some (0, .aload_n 0, 51, [], .null) := by decide +kernel
theorem t24_51 : am_T 24 51 = some (3, .invokevirtual 78, 54, [1, 3, 53], .null) := by decide +kernel
theorem t24_54 : am_T 24 54 = some (0, .aload_n 0, 55, [], .null) := by decide +kernel
theorem t24_55 : am_T 24 55 = some (0, .iload_n 1, 56, [], .null) := by decide +kernel
theorem t24_56 : am_T 24 56 = some (3, .invokevirtual 81, 59, [2, 3, 25], .null) := by decide +kernel
theorem t24_59 : am_T 24 59 = some (0, .lstore 6, 61, [], .null) := by decide +kernel
theorem t24_61 : am_T 24 61 = some (0, .iload 5, 63, [], .null) := by decide +kernel
theorem t24_63 : am_T 24 63 = some (1, .ifCond .eq 10, 66, [73], .null) := by decide +kernel
theorem t24_66 : am_T 24 66 = some (0, .lload_n 2, 67, [], .null) := by decide +kernel
theorem t24_67 : am_T 24 67 = some (0, .lload 6, 69, [], .null) := by decide +kernel
theorem t24_69 : am_T 24 69 = some (0, .ladd, 70, [], .null) := by decide +kernel
theorem t24_70 : am_T 24 70 = some (1, .goto 7, 73, [77], .null) := by decide +kernel
theorem t24_73 : am_T 24 73 = some (0, .lload_n 2, 74, [], .null) := by decide +kernel
theorem t24_74 : am_T 24 74 = some (0, .lload 6, 76, [], .null) := by decide +kernel
theorem t24_76 : am_T 24 76 = some (0, .lsub, 77, [], .null) := by decide +kernel
theorem t24_77 : am_T 24 77 = some (3, .invokestatic 84, 80, [1, 26], .null) := by decide +kernel
theorem t24_80 : am_T 24 80 = some (0, .lstore_n 2, 81, [], .null) := by decide +kernel
theorem t24_81 : am_T 24 81 = some (0, .iinc 4 1, 84, [], .int (1)) := by decide +kernel
theorem t24_84 : am_T 24 84 = some (1, .goto (-75), 87, [9], .null) := by decide +kernel
theorem t24_87 : am_T 24 87 = some (0, .lload_n 2, 88, [], .null) := by decide +kernel
theorem t24_88 : am_T 24 88 = some (4, .lreturn, 89, [], .null) := by decide +kernel
theorem t25_0 : am_T 25 0 = some (0, .aload_n 0, 1, [], .null) := by decide +kernel
theorem t25_1 : am_T 25 1 = some (0, .iload_n 1, 2, [], .null) := by decide +kernel
theorem t25_2 : am_T 25 2 = some (3, .invokevirtual 88, 5, [2, 3, 27], .null) := by decide +kernel
theorem t25_5 : am_T 25 5 = some (0, .lstore_n 2, 6, [], .null) := by decide +kernel
theorem t25_6 : am_T 25 6 = some (0, .iconst 0, 7, [], .int (0)) := by decide +kernel
theorem t25_7 : am_T 25 7 = some (0, .istore 4, 9, [], .null) := by decide +kernel
theorem t25_9 : am_T 25 9 = some (0, .iload 4, 11, [], .null) := by decide +kernel
theorem t25_11 : am_T 25 11 = some (0, .bipush 120, 13, [], .int (120)) := by decide +kernel
theorem t25_13 : am_T 25 13 = some (1, .if_icmp .ge 86, 16, [99], .null) := by decide +kernel
theorem t25_16 : am_T 25 16 = some (0, .aload_n 0, 17, [], .null) := by decide +kernel
theorem t25_17 : am_T 25 17 = some (3, .invokevirtual 55, 20, [1, 3, 52], .null) := by decide +kernel
theorem t25_20 : am_T 25 20 = some (0, .bipush 42, 22, [], .int (42)) := by decide +kernel
theorem t25_22 : am_T 25 22 = some (1, .if_icmp .eq 12, 25, [34], .null) := by decide +kernel
theorem t25_25 : am_T 25 25 = some (0, .aload_n 0, 26, [], .null) := by decide +kernel
theorem t25_26 : am_T 25 26 = some (3, .invokevirtual 55, 29, [1, 3, 52], .null) := by decide +kernel
theorem t25_29 : am_T 25 29 = some (0, .bipush 47, 31, [], .int (47)) := by decide +kernel
theorem t25_31 : am_T 25 31 = some (1, .if_icmp .ne 68, 34, [99], .null) := by decide +kernel
theorem t25_34 : am_T 25 34 = some (0, .aload_n 0, 35, [], .null) := by decide +kernel
theorem t25_35 : am_T 25 35 = some (3, .invokevirtual 55, 38, [1, 3, 52], .null) := by decide +kernel
theorem t25_38 : am_T 25 38 = some (0, .bipush 42, 40, [], .int (42)) := by decide +kernel
theorem t25_40 : am_T 25 40 = some (1, .if_icmp .ne 7, 43, [47], .null) := by decide +kernel
theorem t25_43 : am_T 25 43 = some (0, .iconst 1, 44, [], .int (1)) := by decide +kernel
theorem t25_44 : am_T 25 44 = some (1, .goto 4, 47, [48], .null) := by decide +kernel
theorem t25_47 : am_T 25 47 = some (0, .iconst 0, 48, [], .int (0)) := by decide +kernel
theorem t25_48 : am_T 25 48 = some (0, .istore 5, 50, [], .null) := by decide +kernel
theorem t25_50 : am_T 25 50 = some (0, .aload_n 0, 51, [], .null) := by decide +kernel
theorem t25_51 : am_T 25 51 = some (3, .invokevirtual 78, 54, [1, 3, 53], .null) := by decide +kernel
theorem t25_54 : am_T 25 54 = some (0, .aload_n 0, 55, [], .null) := by decide +kernel
theorem t25_55 : am_T 25 55 = some (0, .iload_n 1, 56, [], .null) := by decide +kernel
theorem t25_56 : am_T 25 56 = some (3, .invokevirtual 88, 59, [2, 3, 27], .null) := by decide +kernel
theorem t25_59 : am_T 25 59 = some (0, .lstore 6, 61, [], .null) := by decide +kernel
theorem t25_61 : am_T 25 61 = some (0, .iload 5, 63, [], .null) := by decide +kernel
theorem t25_63 : am_T 25 63 = some (1, .ifCond .eq 14, 66, [77], .null) := by decide +kernel
theorem t25_66 : am_T 25 66 = some (0, .lload_n 2, 67, [], .null) := by decide +kernel
theorem t25_67 : am_T 25 67 = some (0, .lload 6, 69, [], .null) := by decide +kernel
theorem t25_69 : am_T 25 69 = some (0, .lmul, 70, [], .null) := by decide +kernel
theorem t25_70 : am_T 25 70 = some (3, .invokestatic 84, 73, [1, 26], .null) := by decide +kernel
theorem t25_73 : am_T 25 73 = some (0, .lstore_n 2, 74, [], .null) := by decide +kernel
theorem t25_74 : am_T 25 74 = some (1, .goto 19, 77, [93], .null) := by decide +kernel
theorem t25_77 : am_T 25 77 = some (0, .lload 6, 79, [], .null) := by decide +kernel
theorem t25_79 : am_T 25 79 = some (0, .lconst 0, 80, [], .long 0) := by decide +kernel
theorem t25_80 : am_T 25 80 = some (0, .lcmp, 81, [], .null) := by decide +kernel
theorem t25_81 : am_T 25 81 = some (1, .ifCond .ne 7, 84, [88], .null) := by decide +kernel
theorem t25_84 : am_T 25 84 = some (0, .lconst 0, 85, [], .long 0) := by decide +kernel
theorem t25_85 : am_T 25 85 = some (1, .goto 7, 88, [92], .null) := by decide +kernel
theorem t25_88 : am_T 25 88 = some (0, .lload_n 2, 89, [], .null) := by decide +kernel
theorem t25_89 : am_T 25 89 = some (0, .lload 6, 91, [], .null) := by decide +kernel
theorem t25_91 : am_T 25 91 = some (0, .ldiv, 92, [], .null) := by decide +kernel
theorem t25_92 : am_T 25 92 = some (0, .lstore_n 2, 93, [], .null) := by decide +kernel
theorem t25_93 : am_T 25 93 = some (0, .iinc 4 1, 96, [], .int (1)) := by decide +kernel
theorem t25_96 : am_T 25 96 = some (1, .goto (-87), 99, [9], .null) := by decide +kernel
theorem t25_99 : am_T 25 99 = some (0, .lload_n 2, 100, [], .null) := by decide +kernel
theorem t25_100 : am_T 25 100 = some (4, .lreturn, 101, [], .null) := by decide +kernel
theorem t26_0 : am_T 26 0 = some (0, .ldc2_w 91, 3, [], .long (-1000000)) := by decide +kernel
theorem t26_3 : am_T 26 3 = some (0, .ldc2_w 93, 6, [], .long (1000000)) := by decide +kernel
theorem t26_6 : am_T 26 6 = some (0, .lload_n 0, 7, [], .null) := by decide +kernel
theorem t26_7 : am_T 26 7 = some (2, .invokestatic 95, 10, [2], .null) := by decide +kernel
theorem t26_10 : am_T 26 10 = some (2, .invokestatic 101, 13, [3], .null) := by decide +kernel
theorem t26_13 : am_T 26 13 = some (4, .lreturn, 14, [], .null) := by decide +kernel
theorem t27_0 : am_T 27 0 = some (0, .aload_n 0, 1, [], .null) := by decide +kernel
theorem t27_1 : am_T 27 1 = some (3, .invokevirtual 55, 4, [1, 3, 52], .null) := by decide +kernel
theorem t27_4 : am_T 27 4 = some (0, .istore_n 2, 5, [], .null) := by decide +kernel
theorem t27_5 : am_T 27 5 = some (0, .iload_n 2, 6, [], .null) := by decide +kernel
theorem t27_6 : am_T 27 6 = some (0, .bipush 91, 8, [], .int (91)) := by decide +kernel
theorem t27_8 : am_T 27 8 = some (1, .if_icmp .ne 29, 11, [37], .null) := by decide +kernel
theorem t27_11 : am_T 27 11 = some (0, .iload_n 1, 12, [], .null) := by decide +kernel
theorem t27_12 : am_T 27 12 = some (0, .bipush 6, 14, [], .int (6)) := by decide +kernel
theorem t27_14 : am_T 27 14 = some (1, .if_icmp .ge 23, 17, [37], .null) := by decide +kernel
theorem t27_17 : am_T 27 17 = some (0, .aload_n 0, 18, [], .null) := by decide +kernel
theorem t27_18 : am_T 27 18 = some (3, .invokevirtual 78, 21, [1, 3, 53], .null) := by decide +kernel
theorem t27_21 : am_T 27 21 = some (0, .aload_n 0, 22, [], .null) := by decide +kernel
theorem t27_22 : am_T 27 22 = some (0, .iload_n 1, 23, [], .null) := by decide +kernel
theorem t27_23 : am_T 27 23 = some (0, .iconst 1, 24, [], .int (1)) := by decide +kernel
theorem t27_24 : am_T 27 24 = some (0, .iadd, 25, [], .null) := by decide +kernel
theorem t27_25 : am_T 27 25 = some (3, .invokevirtual 58, 28, [2, 3, 24], .null) := by decide +kernel
theorem t27_28 : am_T 27 28 = some (0, .lstore_n 3, 29, [], .null) := by decide +kernel
theorem t27_29 : am_T 27 29 = some (0, .aload_n 0, 30, [], .null) := by decide +kernel
theorem t27_30 : am_T 27 30 = some (0, .bipush 93, 32, [], .int (93)) := by decide +kernel
theorem t27_32 : am_T 27 32 = some (3, .invokevirtual 51, 35, [2, 3, 56], .null) := by decide +kernel
theorem t27_35 : am_T 27 35 = some (0, .lload_n 3, 36, [], .null) := by decide +kernel
theorem t27_36 : am_T 27 36 = some (4, .lreturn, 37, [], .null) := by decide +kernel
theorem t27_37 : am_T 27 37 = some (0, .lconst 0, 38, [], .long 0) := by decide +kernel
theorem t27_38 : am_T 27 38 = some (0, .lstore_n 3, 39, [], .null) := by decide +kernel
theorem t27_39 : am_T 27 39 = some (0, .iload_n 2, 40, [], .null) := by decide +kernel
theorem t27_40 : am_T 27 40 = some (0, .bipush 48, 42, [], .int (48)) := by decide +kernel
theorem t27_42 : am_T 27 42 = some (1, .if_icmp .lt 59, 45, [101], .null) := by decide +kernel
theorem t27_45 : am_T 27 45 = some (0, .iload_n 2, 46, [], .null) := by decide +kernel
theorem t27_46 : am_T 27 46 = some (0, .bipush 57, 48, [], .int (57)) := by decide +kernel
theorem t27_48 : am_T 27 48 = some (1, .if_icmp .gt 53, 51, [101], .null) := by decide +kernel
theorem t27_51 : am_T 27 51 = some (0, .iload_n 2, 52, [], .null) := by decide +kernel
theorem t27_52 : am_T 27 52 = some (0, .bipush 48, 54, [], .int (48)) := by decide +kernel
theorem t27_54 : am_T 27 54 = some (0, .isub, 55, [], .null) := by decide +kernel
theorem t27_55 : am_T 27 55 = some (0, .i2l, 56, [], .null) := by decide +kernel
theorem t27_56 : am_T 27 56 = some (0, .lstore_n 3, 57, [], .null) := by decide +kernel
theorem t27_57 : am_T 27 57 = some (0, .iconst 1, 58, [], .int (1)) := by decide +kernel
theorem t27_58 : am_T 27 58 = some (0, .istore 5, 60, [], .null) := by decide +kernel
theorem t27_60 : am_T 27 60 = some (0, .iload 5, 62, [], .null) := by decide +kernel
theorem t27_62 : am_T 27 62 = some (0, .iconst 4, 63, [], .int (4)) := by decide +kernel
theorem t27_63 : am_T 27 63 = some (1, .if_icmp .ge 35, 66, [98], .null) := by decide +kernel
theorem t27_66 : am_T 27 66 = some (0, .aload_n 0, 67, [], .null) := by decide +kernel
theorem t27_67 : am_T 27 67 = some (3, .invokevirtual 104, 70, [1, 3, 54], .null) := by decide +kernel
theorem t27_70 : am_T 27 70 = some (1, .ifCond .eq 28, 73, [98], .null) := by decide +kernel
theorem t27_73 : am_T 27 73 = some (0, .aload_n 0, 74, [], .null) := by decide +kernel
theorem t27_74 : am_T 27 74 = some (3, .invokevirtual 78, 77, [1, 3, 53], .null) := by decide +kernel
theorem t27_77 : am_T 27 77 = some (0, .lload_n 3, 78, [], .null) := by decide +kernel
theorem t27_78 : am_T 27 78 = some (0, .ldc2_w 108, 81, [], .long (10)) := by decide +kernel
theorem t27_81 : am_T 27 81 = some (0, .lmul, 82, [], .null) := by decide +kernel
theorem t27_82 : am_T 27 82 = some (0, .aload_n 0, 83, [], .null) := by decide +kernel
theorem t27_83 : am_T 27 83 = some (3, .invokevirtual 55, 86, [1, 3, 52], .null) := by decide +kernel
theorem t27_86 : am_T 27 86 = some (0, .bipush 48, 88, [], .int (48)) := by decide +kernel
theorem t27_88 : am_T 27 88 = some (0, .isub, 89, [], .null) := by decide +kernel
theorem t27_89 : am_T 27 89 = some (0, .i2l, 90, [], .null) := by decide +kernel
theorem t27_90 : am_T 27 90 = some (0, .ladd, 91, [], .null) := by decide +kernel
theorem t27_91 : am_T 27 91 = some (0, .lstore_n 3, 92, [], .null) := by decide +kernel
theorem t27_92 : am_T 27 92 = some (0, .iinc 5 1, 95, [], .int (1)) := by decide +kernel
theorem t27_95 : am_T 27 95 = some (1, .goto (-35), 98, [60], .null) := by decide +kernel
theorem t27_98 : am_T 27 98 = some (1, .goto 67, 101, [165], .null) := by decide +kernel
theorem t27_101 : am_T 27 101 = some (0, .iload_n 2, 102, [], .null) := by decide +kernel
theorem t27_102 : am_T 27 102 = some (0, .bipush 112, 104, [], .int (112)) := by decide +kernel
theorem t27_104 : am_T 27 104 = some (1, .if_icmp .ne 12, 107, [116], .null) := by decide +kernel
theorem t27_107 : am_T 27 107 = some (0, .aload_n 0, 108, [], .null) := by decide +kernel
theorem t27_108 : am_T 27 108 = some (2, .getfield 9, 111, [4, 3], .null) := by decide +kernel
theorem t27_111 : am_T 27 111 = some (0, .i2l, 112, [], .null) := by decide +kernel
theorem t27_112 : am_T 27 112 = some (0, .lstore_n 3, 113, [], .null) := by decide +kernel
theorem t27_113 : am_T 27 113 = some (1, .goto 52, 116, [165], .null) := by decide +kernel
theorem t27_116 : am_T 27 116 = some (0, .iload_n 2, 117, [], .null) := by decide +kernel
theorem t27_117 : am_T 27 117 = some (0, .bipush 100, 119, [], .int (100)) := by decide +kernel
theorem t27_119 : am_T 27 119 = some (1, .if_icmp .ne 12, 122, [131], .null) := by decide +kernel
theorem t27_122 : am_T 27 122 = some (0, .aload_n 0, 123, [], .null) := by decide +kernel
theorem t27_123 : am_T 27 123 = some (2, .getfield 15, 126, [5, 3], .null) := by decide +kernel
theorem t27_126 : am_T 27 126 = some (0, .i2l, 127, [], .null) := by decide +kernel
theorem t27_127 : am_T 27 127 = some (0, .lstore_n 3, 128, [], .null) := by decide +kernel
theorem t27_128 : am_T 27 128 = some (1, .goto 37, 131, [165], .null) := by decide +kernel
theorem t27_131 : am_T 27 131 = some (0, .iload_n 2, 132, [], .null) := by decide +kernel
theorem t27_132 : am_T 27 132 = some (0, .bipush 115, 134, [], .int (115)) := by decide +kernel
theorem t27_134 : am_T 27 134 = some (1, .if_icmp .ne 12, 137, [146], .null) := by decide +kernel
theorem t27_137 : am_T 27 137 = some (0, .aload_n 0, 138, [], .null) := by decide +kernel
theorem t27_138 : am_T 27 138 = some (2, .getfield 18, 141, [6, 3], .null) := by decide +kernel
theorem t27_141 : am_T 27 141 = some (0, .i2l, 142, [], .null) := by decide +kernel
theorem t27_142 : am_T 27 142 = some (0, .lstore_n 3, 143, [], .null) := by decide +kernel
theorem t27_143 : am_T 27 143 = some (1, .goto 22, 146, [165], .null) := by decide +kernel
theorem t27_146 : am_T 27 146 = some (0, .iload_n 2, 147, [], .null) := by decide +kernel
theorem t27_147 : am_T 27 147 = some (0, .bipush 110, 149, [], .int (110)) := by decide +kernel
theorem t27_149 : am_T 27 149 = some (1, .if_icmp .ne 12, 152, [161], .null) := by decide +kernel
theorem t27_152 : am_T 27 152 = some (0, .aload_n 0, 153, [], .null) := by decide +kernel
theorem t27_153 : am_T 27 153 = some (2, .getfield 21, 156, [7, 3], .null) := by decide +kernel
theorem t27_156 : am_T 27 156 = some (0, .i2l, 157, [], .null) := by decide +kernel
theorem t27_157 : am_T 27 157 = some (0, .lstore_n 3, 158, [], .null) := by decide +kernel
theorem t27_158 : am_T 27 158 = some (1, .goto 7, 161, [165], .null) := by decide +kernel
theorem t27_161 : am_T 27 161 = some (0, .aload_n 0, 162, [], .null) := by decide +kernel
theorem t27_162 : am_T 27 162 = some (3, .invokevirtual 75, 165, [1, 3, 59], .null) := by decide +kernel
theorem t27_165 : am_T 27 165 = some (0, .aload_n 0, 166, [], .null) := by decide +kernel
theorem t27_166 : am_T 27 166 = some (3, .invokevirtual 78, 169, [1, 3, 53], .null) := by decide +kernel
theorem t27_169 : am_T 27 169 = some (0, .lload_n 3, 170, [], .null) := by decide +kernel
theorem t27_170 : am_T 27 170 = some (4, .lreturn, 171, [], .null) := by decide +kernel
theorem t28_0 : am_T 28 0 = some (0, .aload_n 0, 1, [], .null) := by decide +kernel
theorem t28_1 : am_T 28 1 = some (2, .invokespecial 1, 4, [], .null) := by decide +kernel
theorem t28_4 : am_T 28 4 = some (0, .aload_n 0, 5, [], .null) := by decide +kernel
theorem t28_5 : am_T 28 5 = some (0, .iconst 0, 6, [], .int (0)) := by decide +kernel
theorem t28_6 : am_T 28 6 = some (2, .putfield 7, 9, [1, 0, 4], .null) := by decide +kernel
theorem t28_9 : am_T 28 9 = some (0, .aload_n 0, 10, [], .null) := by decide +kernel
theorem t28_10 : am_T 28 10 = some (0, .iload_n 1, 11, [], .null) := by decide +kernel
theorem t28_11 : am_T 28 11 = some (1, .ifCond .ge 7, 14, [18], .null) := by decide +kernel
theorem t28_14 : am_T 28 14 = some (0, .iconst 0, 15, [], .int (0)) := by decide +kernel
theorem t28_15 : am_T 28 15 = some (1, .goto 4, 18, [19], .null) := by decide +kernel
theorem t28_18 : am_T 28 18 = some (0, .iload_n 1, 19, [], .null) := by decide +kernel
theorem t28_19 : am_T 28 19 = some (2, .newarray .int, 21, [0], .null) := by decide +kernel
theorem t28_21 : am_T 28 21 = some (2, .putfield 13, 24, [0, 2, 4], .null) := by decide +kernel
theorem t28_24 : am_T 28 24 = some (4, .return_, 25, [], .null) := by decide +kernel
theorem t29_0 : am_T 29 0 = some (0, .aload_n 0, 1, [], .null) := by decide +kernel
theorem t29_1 : am_T 29 1 = some (2, .getfield 7, 4, [1, 4], .null) := by decide +kernel
theorem t29_4 : am_T 29 4 = some (4, .ireturn, 5, [0], .null) := by decide +kernel
theorem t30_0 : am_T 30 0 = some (0, .iload_n 1, 1, [], .null) := by decide +kernel
theorem t30_1 : am_T 30 1 = some (1, .ifCond .lt 21, 4, [22], .null) := by decide +kernel
theorem t30_4 : am_T 30 4 = some (0, .iload_n 1, 5, [], .null) := by decide +kernel
theorem t30_5 : am_T 30 5 = some (0, .aload_n 0, 6, [], .null) := by decide +kernel
theorem t30_6 : am_T 30 6 = some (2, .getfield 13, 9, [0, 4], .null) := by decide +kernel
theorem t30_9 : am_T 30 9 = some (2, .arraylength, 10, [], .null) := by decide +kernel
theorem t30_10 : am_T 30 10 = some (1, .if_icmp .ge 12, 13, [22], .null) := by decide +kernel
theorem t30_13 : am_T 30 13 = some (0, .aload_n 0, 14, [], .null) := by decide +kernel
theorem t30_14 : am_T 30 14 = some (2, .getfield 13, 17, [0, 4], .null) := by decide +kernel
theorem t30_17 : am_T 30 17 = some (0, .iload_n 1, 18, [], .null) := by decide +kernel
theorem t30_18 : am_T 30 18 = some (2, .iaload, 19, [], .null) := by decide +kernel
theorem t30_19 : am_T 30 19 = some (1, .goto 4, 22, [23], .null) := by decide +kernel
theorem t30_22 : am_T 30 22 = some (0, .iconst 0, 23, [], .int (0)) := by decide +kernel
theorem t30_23 : am_T 30 23 = some (4, .ireturn, 24, [0], .null) := by decide +kernel
theorem t31_0 : am_T 31 0 = some (0, .iload_n 1, 1, [], .null) := by decide +kernel
theorem t31_1 : am_T 31 1 = some (1, .ifCond .lt 19, 4, [20], .null) := by decide +kernel
theorem t31_4 : am_T 31 4 = some (0, .iload_n 1, 5, [], .null) := by decide +kernel
theorem t31_5 : am_T 31 5 = some (0, .aload_n 0, 6, [], .null) := by decide +kernel
theorem t31_6 : am_T 31 6 = some (2, .getfield 13, 9, [0, 4], .null) := by decide +kernel
theorem t31_9 : am_T 31 9 = some (2, .arraylength, 10, [], .null) := by decide +kernel
theorem t31_10 : am_T 31 10 = some (1, .if_icmp .ge 10, 13, [20], .null) := by decide +kernel
theorem t31_13 : am_T 31 13 = some (0, .aload_n 0, 14, [], .null) := by decide +kernel
theorem t31_14 : am_T 31 14 = some (2, .getfield 13, 17, [0, 4], .null) := by decide +kernel
theorem t31_17 : am_T 31 17 = some (0, .iload_n 1, 18, [], .null) := by decide +kernel
theorem t31_18 : am_T 31 18 = some (0, .iload_n 2, 19, [], .null) := by decide +kernel
theorem t31_19 : am_T 31 19 = some (2, .iastore, 20, [], .null) := by decide +kernel
theorem t31_20 : am_T 31 20 = some (4, .return_, 21, [], .null) := by decide +kernel
theorem t32_0 : am_T 32 0 = some (0, .iconst 0, 1, [], .int (0)) := by decide +kernel
theorem t32_1 : am_T 32 1 = some (0, .istore_n 2, 2, [], .null) := by decide +kernel
theorem t32_2 : am_T 32 2 = some (0, .iload_n 2, 3, [], .null) := by decide +kernel
theorem t32_3 : am_T 32 3 = some (0, .aload_n 0, 4, [], .null) := by decide +kernel
theorem t32_4 : am_T 32 4 = some (2, .getfield 13, 7, [0, 4], .null) := by decide +kernel
theorem t32_7 : am_T 32 7 = some (2, .arraylength, 8, [], .null) := by decide +kernel
theorem t32_8 : am_T 32 8 = some (1, .if_icmp .ge 16, 11, [24], .null) := by decide +kernel
theorem t32_11 : am_T 32 11 = some (0, .aload_n 0, 12, [], .null) := by decide +kernel
theorem t32_12 : am_T 32 12 = some (2, .getfield 13, 15, [0, 4], .null) := by decide +kernel
theorem t32_15 : am_T 32 15 = some (0, .iload_n 2, 16, [], .null) := by decide +kernel
theorem t32_16 : am_T 32 16 = some (0, .iload_n 1, 17, [], .null) := by decide +kernel
theorem t32_17 : am_T 32 17 = some (2, .iastore, 18, [], .null) := by decide +kernel
theorem t32_18 : am_T 32 18 = some (0, .iinc 2 1, 21, [], .int (1)) := by decide +kernel
theorem t32_21 : am_T 32 21 = some (1, .goto (-19), 24, [2], .null) := by decide +kernel
theorem t32_24 : am_T 32 24 = some (4, .return_, 25, [], .null) := by decide +kernel
theorem t33_0 : am_T 33 0 = some (0, .aload_n 0, 1, [], .null) := by decide +kernel
theorem t33_1 : am_T 33 1 = some (2, .getfield 7, 4, [1, 4], .null) := by decide +kernel
theorem t33_4 : am_T 33 4 = some (1, .ifCond .lt 15, 7, [19], .null) := by decide +kernel
theorem t33_7 : am_T 33 7 = some (0, .aload_n 0, 8, [], .null) := by decide +kernel
theorem t33_8 : am_T 33 8 = some (2, .getfield 7, 11, [1, 4], .null) := by decide +kernel
theorem t33_11 : am_T 33 11 = some (0, .aload_n 0, 12, [], .null) := by decide +kernel
theorem t33_12 : am_T 33 12 = some (2, .getfield 13, 15, [0, 4], .null) := by decide +kernel
theorem t33_15 : am_T 33 15 = some (2, .arraylength, 16, [], .null) := by decide +kernel
theorem t33_16 : am_T 33 16 = some (1, .if_icmp .lt 5, 19, [21], .null) := by decide +kernel
theorem t33_19 : am_T 33 19 = some (0, .iconst 0, 20, [], .int (0)) := by decide +kernel
theorem t33_20 : am_T 33 20 = some (4, .ireturn, 21, [1], .null) := by decide +kernel
theorem t33_21 : am_T 33 21 = some (0, .aload_n 0, 22, [], .null) := by decide +kernel
theorem t33_22 : am_T 33 22 = some (2, .getfield 13, 25, [0, 4], .null) := by decide +kernel
theorem t33_25 : am_T 33 25 = some (0, .aload_n 0, 26, [], .null) := by decide +kernel
theorem t33_26 : am_T 33 26 = some (2, .getfield 7, 29, [1, 4], .null) := by decide +kernel
theorem t33_29 : am_T 33 29 = some (0, .iload_n 1, 30, [], .null) := by decide +kernel
theorem t33_30 : am_T 33 30 = some (2, .iastore, 31, [], .null) := by decide +kernel
theorem t33_31 : am_T 33 31 = some (0, .aload_n 0, 32, [], .null) := by decide +kernel
theorem t33_32 : am_T 33 32 = some (0, .dup, 33, [], .null) := by decide +kernel
theorem t33_33 : am_T 33 33 = some (2, .getfield 7, 36, [1, 4], .null) := by decide +kernel
theorem t33_36 : am_T 33 36 = some (0, .iconst 1, 37, [], .int (1)) := by decide +kernel
theorem t33_37 : am_T 33 37 = some (0, .iadd, 38, [], .null) := by decide +kernel
theorem t33_38 : am_T 33 38 = some (2, .putfield 7, 41, [1, 0, 4], .null) := by decide +kernel
theorem t33_41 : am_T 33 41 = some (0, .iconst 1, 42, [], .int (1)) := by decide +kernel
theorem t33_42 : am_T 33 42 = some (4, .ireturn, 43, [1], .null) := by decide +kernel
theorem t34_0 : am_T 34 0 = some (0, .iload_n 1, 1, [], .null) := by decide +kernel
theorem t34_1 : am_T 34 1 = some (1, .ifCond .lt 16, 4, [17], .null) := by decide +kernel
theorem t34_4 : am_T 34 4 = some (0, .iload_n 1, 5, [], .null) := by decide +kernel
theorem t34_5 : am_T 34 5 = some (0, .aload_n 0, 6, [], .null) := by decide +kernel
theorem t34_6 : am_T 34 6 = some (2, .getfield 7, 9, [1, 4], .null) := by decide +kernel
theorem t34_9 : am_T 34 9 = some (1, .if_icmp .gt 8, 12, [17], .null) := by decide +kernel
theorem t34_12 : am_T 34 12 = some (0, .aload_n 0, 13, [], .null) := by decide +kernel
theorem t34_13 : am_T 34 13 = some (0, .iload_n 1, 14, [], .null) := by decide +kernel
theorem t34_14 : am_T 34 14 = some (2, .putfield 7, 17, [1, 0, 4], .null) := by decide +kernel
theorem t34_17 : am_T 34 17 = some (4, .return_, 18, [], .null) := by decide +kernel
theorem t35_0 : am_T 35 0 = some (0, .aload_n 0, 1, [], .null) := by decide +kernel
theorem t35_1 : am_T 35 1 = some (2, .getfield 7, 4, [1, 4], .null) := by decide +kernel
theorem t35_4 : am_T 35 4 = some (1, .ifCond .le 44, 7, [48], .null) := by decide +kernel
theorem t35_7 : am_T 35 7 = some (0, .aload_n 0, 8, [], .null) := by decide +kernel
theorem t35_8 : am_T 35 8 = some (2, .getfield 7, 11, [1, 4], .null) := by decide +kernel
theorem t35_11 : am_T 35 11 = some (0, .aload_n 0, 12, [], .null) := by decide +kernel
theorem t35_12 : am_T 35 12 = some (2, .getfield 13, 15, [0, 4], .null) := by decide +kernel
theorem t35_15 : am_T 35 15 = some (2, .arraylength, 16, [], .null) := by decide +kernel
theorem t35_16 : am_T 35 16 = some (1, .if_icmp .gt 32, 19, [48], .null) := by decide +kernel
theorem t35_19 : am_T 35 19 = some (0, .aload_n 0, 20, [], .null) := by decide +kernel
theorem t35_20 : am_T 35 20 = some (2, .getfield 13, 23, [0, 4], .null) := by decide +kernel
theorem t35_23 : am_T 35 23 = some (0, .iconst 1, 24, [], .int (1)) := by decide +kernel
theorem t35_24 : am_T 35 24 = some (0, .aload_n 0, 25, [], .null) := by decide +kernel
theorem t35_25 : am_T 35 25 = some (2, .getfield 13, 28, [0, 4], .null) := by decide +kernel
theorem t35_28 : am_T 35 28 = some (0, .iconst 0, 29, [], .int (0)) := by decide +kernel
theorem t35_29 : am_T 35 29 = some (0, .aload_n 0, 30, [], .null) := by decide +kernel
theorem t35_30 : am_T 35 30 = some (2, .getfield 7, 33, [1, 4], .null) := by decide +kernel
theorem t35_33 : am_T 35 33 = some (0, .iconst 1, 34, [], .int (1)) := by decide +kernel
theorem t35_34 : am_T 35 34 = some (0, .isub, 35, [], .null) := by decide +kernel
theorem t35_35 : am_T 35 35 = some (2, .invokestatic 17, 38, [4], .null) := by decide +kernel
theorem t35_38 : am_T 35 38 = some (0, .aload_n 0, 39, [], .null) := by decide +kernel
theorem t35_39 : am_T 35 39 = some (0, .dup, 40, [], .null) := by decide +kernel
theorem t35_40 : am_T 35 40 = some (2, .getfield 7, 43, [1, 4], .null) := by decide +kernel
theorem t35_43 : am_T 35 43 = some (0, .iconst 1, 44, [], .int (1)) := by decide +kernel
theorem t35_44 : am_T 35 44 = some (0, .isub, 45, [], .null) := by decide +kernel
theorem t35_45 : am_T 35 45 = some (2, .putfield 7, 48, [1, 0, 4], .null) := by decide +kernel
theorem t35_48 : am_T 35 48 = some (4, .return_, 49, [], .null) := by decide +kernel
theorem t36_0 : am_T 36 0 = some (0, .aload_n 0, 1, [], .null) := by decide +kernel
theorem t36_1 : am_T 36 1 = some (2, .getfield 13, 4, [0, 4], .null) := by decide +kernel
theorem t36_4 : am_T 36 4 = some (2, .arraylength, 5, [], .null) := by decide +kernel
theorem t36_5 : am_T 36 5 = some (0, .aload_n 1, 6, [], .null) := by decide +kernel
theorem t36_6 : am_T 36 6 = some (2, .getfield 13, 9, [0, 4], .null) := by decide +kernel
theorem t36_9 : am_T 36 9 = some (2, .arraylength, 10, [], .null) := by decide +kernel
theorem t36_10 : am_T 36 10 = some (2, .invokestatic 23, 13, [0], .null) := by decide +kernel
theorem t36_13 : am_T 36 13 = some (0, .istore_n 2, 14, [], .null) := by decide +kernel
theorem t36_14 : am_T 36 14 = some (0, .aload_n 1, 15, [], .null) := by decide +kernel
theorem t36_15 : am_T 36 15 = some (2, .getfield 13, 18, [0, 4], .null) := by decide +kernel
theorem t36_18 : am_T 36 18 = some (0, .iconst 0, 19, [], .int (0)) := by decide +kernel
theorem t36_19 : am_T 36 19 = some (0, .aload_n 0, 20, [], .null) := by decide +kernel
theorem t36_20 : am_T 36 20 = some (2, .getfield 13, 23, [0, 4], .null) := by decide +kernel
theorem t36_23 : am_T 36 23 = some (0, .iconst 0, 24, [], .int (0)) := by decide +kernel
theorem t36_24 : am_T 36 24 = some (0, .iload_n 2, 25, [], .null) := by decide +kernel
theorem t36_25 : am_T 36 25 = some (2, .invokestatic 17, 28, [4], .null) := by decide +kernel
theorem t36_28 : am_T 36 28 = some (0, .aload_n 0, 29, [], .null) := by decide +kernel
theorem t36_29 : am_T 36 29 = some (0, .aload_n 1, 30, [], .null) := by decide +kernel
theorem t36_30 : am_T 36 30 = some (2, .getfield 7, 33, [1, 4], .null) := by decide +kernel
theorem t36_33 : am_T 36 33 = some (0, .aload_n 0, 34, [], .null) := by decide +kernel
theorem t36_34 : am_T 36 34 = some (2, .getfield 13, 37, [0, 4], .null) := by decide +kernel
theorem t36_37 : am_T 36 37 = some (2, .arraylength, 38, [], .null) := by decide +kernel
theorem t36_38 : am_T 36 38 = some (2, .invokestatic 23, 41, [0], .null) := by decide +kernel
theorem t36_41 : am_T 36 41 = some (2, .putfield 7, 44, [1, 0, 4], .null) := by decide +kernel
theorem t36_44 : am_T 36 44 = some (4, .return_, 45, [], .null) := by decide +kernel
theorem t37_0 : am_T 37 0 = some (0, .aload_n 0, 1, [], .null) := by decide +kernel
theorem t37_1 : am_T 37 1 = some (2, .invokespecial 3, 4, [], .null) := by decide +kernel
theorem t37_4 : am_T 37 4 = some (0, .aload_n 0, 5, [], .null) := by decide +kernel
theorem t37_5 : am_T 37 5 = some (2, .new 9, 8, [4, 2], .null) := by decide +kernel
theorem t37_8 : am_T 37 8 = some (0, .dup, 9, [], .null) := by decide +kernel
theorem t37_9 : am_T 37 9 = some (0, .bipush 12, 11, [], .int (12)) := by decide +kernel
theorem t37_11 : am_T 37 11 = some (3, .invokespecial 11, 14, [2, 28], .null) := by decide +kernel
theorem t37_14 : am_T 37 14 = some (2, .putfield 14, 17, [3, 2, 5], .null) := by decide +kernel
theorem t37_17 : am_T 37 17 = some (0, .aload_n 0, 18, [], .null) := by decide +kernel
theorem t37_18 : am_T 37 18 = some (2, .new 9, 21, [4, 2], .null) := by decide +kernel
theorem t37_21 : am_T 37 21 = some (0, .dup, 22, [], .null) := by decide +kernel
theorem t37_22 : am_T 37 22 = some (0, .bipush 12, 24, [], .int (12)) := by decide +kernel
theorem t37_24 : am_T 37 24 = some (3, .invokespecial 11, 27, [2, 28], .null) := by decide +kernel
theorem t37_27 : am_T 37 27 = some (2, .putfield 20, 30, [4, 2, 5], .null) := by decide +kernel
theorem t37_30 : am_T 37 30 = some (0, .aload_n 0, 31, [], .null) := by decide +kernel
theorem t37_31 : am_T 37 31 = some (2, .new 9, 34, [4, 2], .null) := by decide +kernel
theorem t37_34 : am_T 37 34 = some (0, .dup, 35, [], .null) := by decide +kernel
theorem t37_35 : am_T 37 35 = some (0, .bipush 12, 37, [], .int (12)) := by decide +kernel
theorem t37_37 : am_T 37 37 = some (3, .invokespecial 11, 40, [2, 28], .null) := by decide +kernel
theorem t37_40 : am_T 37 40 = some (2, .putfield 23, 43, [5, 2, 5], .null) := by decide +kernel
theorem t37_43 : am_T 37 43 = some (0, .aload_n 0, 44, [], .null) := by decide +kernel
theorem t37_44 : am_T 37 44 = some (2, .new 9, 47, [4, 2], .null) := by decide +kernel
theorem t37_47 : am_T 37 47 = some (0, .dup, 48, [], .null) := by decide +kernel
theorem t37_48 : am_T 37 48 = some (0, .sipush 243, 51, [], .int (243)) := by decide +kernel
theorem t37_51 : am_T 37 51 = some (3, .invokespecial 11, 54, [2, 28], .null) := by decide +kernel
theorem t37_54 : am_T 37 54 = some (2, .putfield 28, 57, [6, 2, 5], .null) := by decide +kernel
theorem t37_57 : am_T 37 57 = some (0, .aload_n 0, 58, [], .null) := by decide +kernel
theorem t37_58 : am_T 37 58 = some (2, .new 9, 61, [4, 2], .null) := by decide +kernel
theorem t37_61 : am_T 37 61 = some (0, .dup, 62, [], .null) := by decide +kernel
theorem t37_62 : am_T 37 62 = some (0, .sipush 243, 65, [], .int (243)) := by decide +kernel
theorem t37_65 : am_T 37 65 = some (3, .invokespecial 11, 68, [2, 28], .null) := by decide +kernel
theorem t37_68 : am_T 37 68 = some (2, .putfield 31, 71, [7, 2, 5], .null) := by decide +kernel
theorem t37_71 : am_T 37 71 = some (0, .aload_n 0, 72, [], .null) := by decide +kernel
theorem t37_72 : am_T 37 72 = some (2, .new 9, 75, [4, 2], .null) := by decide +kernel
theorem t37_75 : am_T 37 75 = some (0, .dup, 76, [], .null) := by decide +kernel
theorem t37_76 : am_T 37 76 = some (0, .sipush 243, 79, [], .int (243)) := by decide +kernel
theorem t37_79 : am_T 37 79 = some (3, .invokespecial 11, 82, [2, 28], .null) := by decide +kernel
theorem t37_82 : am_T 37 82 = some (2, .putfield 34, 85, [8, 2, 5], .null) := by decide +kernel
theorem t37_85 : am_T 37 85 = some (0, .aload_n 0, 86, [], .null) := by decide +kernel
theorem t37_86 : am_T 37 86 = some (0, .sipush 243, 89, [], .int (243)) := by decide +kernel
theorem t37_89 : am_T 37 89 = some (2, .newarray .long, 91, [3], .null) := by decide +kernel
theorem t37_91 : am_T 37 91 = some (2, .putfield 37, 94, [9, 2, 5], .null) := by decide +kernel
theorem t37_94 : am_T 37 94 = some (0, .aload_n 0, 95, [], .null) := by decide +kernel
theorem t37_95 : am_T 37 95 = some (0, .sipush 243, 98, [], .int (243)) := by decide +kernel
theorem t37_98 : am_T 37 98 = some (2, .newarray .long, 100, [3], .null) := by decide +kernel
theorem t37_100 : am_T 37 100 = some (2, .putfield 41, 103, [10, 2, 5], .null) := by decide +kernel
theorem t37_103 : am_T 37 103 = some (0, .aload_n 0, 104, [], .null) := by decide +kernel
theorem t37_104 : am_T 37 104 = some (0, .aload_n 1, 105, [], .null) := by decide +kernel
theorem t37_105 : am_T 37 105 = some (2, .putfield 44, 108, [0, 2, 5], .null) := by decide +kernel
theorem t37_108 : am_T 37 108 = some (0, .aload_n 0, 109, [], .null) := by decide +kernel
theorem t37_109 : am_T 37 109 = some (0, .aload_n 2, 110, [], .null) := by decide +kernel
theorem t37_110 : am_T 37 110 = some (2, .putfield 48, 113, [1, 2, 5], .null) := by decide +kernel
theorem t37_113 : am_T 37 113 = some (0, .aload_n 0, 114, [], .null) := by decide +kernel
theorem t37_114 : am_T 37 114 = some (0, .aload_n 3, 115, [], .null) := by decide +kernel
theorem t37_115 : am_T 37 115 = some (2, .putfield 52, 118, [2, 2, 5], .null) := by decide +kernel
theorem t37_118 : am_T 37 118 = some (4, .return_, 119, [], .null) := by decide +kernel
theorem t38_0 : am_T 38 0 = some (0, .aload_n 0, 1, [], .null) := by decide +kernel
theorem t38_1 : am_T 38 1 = some (2, .getfield 14, 4, [3, 5], .null) := by decide +kernel
theorem t38_4 : am_T 38 4 = some (0, .iconst 0, 5, [], .int (0)) := by decide +kernel
theorem t38_5 : am_T 38 5 = some (3, .invokevirtual 56, 8, [2, 4, 34], .null) := by decide +kernel
theorem t38_8 : am_T 38 8 = some (0, .aload_n 0, 9, [], .null) := by decide +kernel
theorem t38_9 : am_T 38 9 = some (2, .getfield 20, 12, [4, 5], .null) := by decide +kernel
theorem t38_12 : am_T 38 12 = some (0, .iconst 0, 13, [], .int (0)) := by decide +kernel
theorem t38_13 : am_T 38 13 = some (3, .invokevirtual 56, 16, [2, 4, 34], .null) := by decide +kernel
theorem t38_16 : am_T 38 16 = some (0, .aload_n 0, 17, [], .null) := by decide +kernel
theorem t38_17 : am_T 38 17 = some (2, .getfield 23, 20, [5, 5], .null) := by decide +kernel
theorem t38_20 : am_T 38 20 = some (0, .iconst 0, 21, [], .int (0)) := by decide +kernel
theorem t38_21 : am_T 38 21 = some (3, .invokevirtual 56, 24, [2, 4, 34], .null) := by decide +kernel
theorem t38_24 : am_T 38 24 = some (4, .return_, 25, [], .null) := by decide +kernel
theorem t39_0 : am_T 39 0 = some (0, .aload_n 0, 1, [], .null) := by decide +kernel
theorem t39_1 : am_T 39 1 = some (2, .getfield 14, 4, [3, 5], .null) := by decide +kernel
theorem t39_4 : am_T 39 4 = some (3, .invokevirtual 59, 7, [1, 4, 29], .null) := by decide +kernel
theorem t39_7 : am_T 39 7 = some (4, .ireturn, 8, [0], .null) := by decide +kernel
theorem t40_0 : am_T 40 0 = some (0, .aload_n 0, 1, [], .null) := by decide +kernel
theorem t40_1 : am_T 40 1 = some (2, .getfield 14, 4, [3, 5], .null) := by decide +kernel
theorem t40_4 : am_T 40 4 = some (0, .iload_n 1, 5, [], .null) := by decide +kernel
theorem t40_5 : am_T 40 5 = some (3, .invokevirtual 63, 8, [2, 4, 33], .null) := by decide +kernel
theorem t40_8 : am_T 40 8 = some (1, .ifCond .ne 5, 11, [13], .null) := by decide +kernel
theorem t40_11 : am_T 40 11 = some (0, .iconst (-1), 12, [], .int (-1)) := by decide +kernel
theorem t40_12 : am_T 40 12 = some (4, .ireturn, 13, [0], .null) := by decide +kernel
theorem t40_13 : am_T 40 13 = some (0, .aload_n 0, 14, [], .null) := by decide +kernel
theorem t40_14 : am_T 40 14 = some (2, .getfield 20, 17, [4, 5], .null) := by decide +kernel
theorem t40_17 : am_T 40 17 = some (0, .iload_n 2, 18, [], .null) := by decide +kernel
theorem t40_18 : am_T 40 18 = some (3, .invokevirtual 63, 21, [2, 4, 33], .null) := by decide +kernel
theorem t40_21 : am_T 40 21 = some (0, .pop, 22, [], .null) := by decide +kernel
theorem t40_22 : am_T 40 22 = some (0, .aload_n 0, 23, [], .null) := by decide +kernel
theorem t40_23 : am_T 40 23 = some (2, .getfield 23, 26, [5, 5], .null) := by decide +kernel
theorem t40_26 : am_T 40 26 = some (0, .iload_n 3, 27, [], .null) := by decide +kernel
theorem t40_27 : am_T 40 27 = some (3, .invokevirtual 63, 30, [2, 4, 33], .null) := by decide +kernel
theorem t40_30 : am_T 40 30 = some (0, .pop, 31, [], .null) := by decide +kernel
theorem t40_31 : am_T 40 31 = some (0, .aload_n 0, 32, [], .null) := by decide +kernel
theorem t40_32 : am_T 40 32 = some (2, .getfield 14, 35, [3, 5], .null) := by decide +kernel
theorem t40_35 : am_T 40 35 = some (3, .invokevirtual 59, 38, [1, 4, 29], .null) := by decide +kernel
theorem t40_38 : am_T 40 38 = some (4, .ireturn, 39, [0], .null) := by decide +kernel
theorem t41_0 : am_T 41 0 = some (0, .iload_n 1, 1, [], .null) := by decide +kernel
theorem t41_1 : am_T 41 1 = some (0, .iconst 1, 2, [], .int (1)) := by decide +kernel
theorem t41_2 : am_T 41 2 = some (1, .if_icmp .ne 13, 5, [15], .null) := by decide +kernel
theorem t41_5 : am_T 41 5 = some (0, .aload_n 0, 6, [], .null) := by decide +kernel
theorem t41_6 : am_T 41 6 = some (2, .getfield 48, 9, [1, 5], .null) := by decide +kernel
theorem t41_9 : am_T 41 9 = some (3, .invokevirtual 67, 12, [1, 9, 98], .null) := by decide +kernel
theorem t41_12 : am_T 41 12 = some (1, .goto 10, 15, [22], .null) := by decide +kernel
theorem t41_15 : am_T 41 15 = some (0, .aload_n 0, 16, [], .null) := by decide +kernel
theorem t41_16 : am_T 41 16 = some (2, .getfield 48, 19, [1, 5], .null) := by decide +kernel
theorem t41_19 : am_T 41 19 = some (3, .invokevirtual 72, 22, [1, 9, 99], .null) := by decide +kernel
theorem t41_22 : am_T 41 22 = some (4, .ireturn, 23, [0], .null) := by decide +kernel
theorem t42_0 : am_T 42 0 = some (0, .aload_n 0, 1, [], .null) := by decide +kernel
theorem t42_1 : am_T 42 1 = some (2, .getfield 28, 4, [6, 5], .null) := by decide +kernel
theorem t42_4 : am_T 42 4 = some (0, .iconst 0, 5, [], .int (0)) := by decide +kernel
theorem t42_5 : am_T 42 5 = some (3, .invokevirtual 75, 8, [2, 4, 32], .null) := by decide +kernel
theorem t42_8 : am_T 42 8 = some (0, .aload_n 2, 9, [], .null) := by decide +kernel
theorem t42_9 : am_T 42 9 = some (3, .invokevirtual 59, 12, [1, 4, 29], .null) := by decide +kernel
theorem t42_12 : am_T 42 12 = some (0, .iconst 1, 13, [], .int (1)) := by decide +kernel
theorem t42_13 : am_T 42 13 = some (0, .isub, 14, [], .null) := by decide +kernel
theorem t42_14 : am_T 42 14 = some (0, .istore 4, 16, [], .null) := by decide +kernel
theorem t42_16 : am_T 42 16 = some (0, .iload 4, 18, [], .null) := by decide +kernel
theorem t42_18 : am_T 42 18 = some (1, .ifCond .lt 101, 21, [119], .null) := by decide +kernel
theorem t42_21 : am_T 42 21 = some (0, .iconst 0, 22, [], .int (0)) := by decide +kernel
theorem t42_22 : am_T 42 22 = some (0, .istore 5, 24, [], .null) := by decide +kernel
theorem t42_24 : am_T 42 24 = some (0, .iload 5, 26, [], .null) := by decide +kernel
theorem t42_26 : am_T 42 26 = some (0, .aload_n 0, 27, [], .null) := by decide +kernel
theorem t42_27 : am_T 42 27 = some (2, .getfield 44, 30, [0, 5], .null) := by decide +kernel
theorem t42_30 : am_T 42 30 = some (3, .invokevirtual 78, 33, [1, 7, 76], .null) := by decide +kernel
theorem t42_33 : am_T 42 33 = some (1, .if_icmp .ge 69, 36, [102], .null) := by decide +kernel
theorem t42_36 : am_T 42 36 = some (0, .aload_n 0, 37, [], .null) := by decide +kernel
theorem t42_37 : am_T 42 37 = some (2, .getfield 48, 40, [1, 5], .null) := by decide +kernel
theorem t42_40 : am_T 42 40 = some (0, .iload 5, 42, [], .null) := by decide +kernel
theorem t42_42 : am_T 42 42 = some (3, .invokevirtual 81, 45, [2, 9, 103], .null) := by decide +kernel
theorem t42_45 : am_T 42 45 = some (1, .ifCond .eq 22, 48, [67], .null) := by decide +kernel
theorem t42_48 : am_T 42 48 = some (0, .aload_n 1, 49, [], .null) := by decide +kernel
theorem t42_49 : am_T 42 49 = some (0, .iload 5, 51, [], .null) := by decide +kernel
theorem t42_51 : am_T 42 51 = some (3, .invokevirtual 84, 54, [2, 1, 10], .null) := by decide +kernel
theorem t42_54 : am_T 42 54 = some (0, .aload_n 2, 55, [], .null) := by decide +kernel
theorem t42_55 : am_T 42 55 = some (0, .iload 4, 57, [], .null) := by decide +kernel
theorem t42_57 : am_T 42 57 = some (3, .invokevirtual 90, 60, [2, 4, 30], .null) := by decide +kernel
theorem t42_60 : am_T 42 60 = some (1, .if_icmp .ne 7, 63, [67], .null) := by decide +kernel
theorem t42_63 : am_T 42 63 = some (0, .iconst 1, 64, [], .int (1)) := by decide +kernel
theorem t42_64 : am_T 42 64 = some (1, .goto 4, 67, [68], .null) := by decide +kernel
theorem t42_67 : am_T 42 67 = some (0, .iconst 0, 68, [], .int (0)) := by decide +kernel
theorem t42_68 : am_T 42 68 = some (0, .istore 6, 70, [], .null) := by decide +kernel
theorem t42_70 : am_T 42 70 = some (0, .aload_n 0, 71, [], .null) := by decide +kernel
theorem t42_71 : am_T 42 71 = some (2, .getfield 31, 74, [7, 5], .null) := by decide +kernel
theorem t42_74 : am_T 42 74 = some (0, .iload 5, 76, [], .null) := by decide +kernel
theorem t42_76 : am_T 42 76 = some (0, .iload 6, 78, [], .null) := by decide +kernel
theorem t42_78 : am_T 42 78 = some (1, .ifCond .eq 12, 81, [90], .null) := by decide +kernel
theorem t42_81 : am_T 42 81 = some (0, .aload_n 0, 82, [], .null) := by decide +kernel
theorem t42_82 : am_T 42 82 = some (0, .iload 5, 84, [], .null) := by decide +kernel
theorem t42_84 : am_T 42 84 = some (3, .invokevirtual 93, 87, [2, 5, 43], .null) := by decide +kernel
theorem t42_87 : am_T 42 87 = some (1, .goto 6, 90, [93], .null) := by decide +kernel
theorem t42_90 : am_T 42 90 = some (0, .sipush 1000, 93, [], .int (1000)) := by decide +kernel
theorem t42_93 : am_T 42 93 = some (3, .invokevirtual 96, 96, [3, 4, 31], .null) := by decide +kernel
theorem t42_96 : am_T 42 96 = some (0, .iinc 5 1, 99, [], .int (1)) := by decide +kernel
theorem t42_99 : am_T 42 99 = some (1, .goto (-75), 102, [24], .null) := by decide +kernel
theorem t42_102 : am_T 42 102 = some (0, .aload_n 0, 103, [], .null) := by decide +kernel
theorem t42_103 : am_T 42 103 = some (2, .getfield 28, 106, [6, 5], .null) := by decide +kernel
theorem t42_106 : am_T 42 106 = some (0, .aload_n 0, 107, [], .null) := by decide +kernel
theorem t42_107 : am_T 42 107 = some (2, .getfield 31, 110, [7, 5], .null) := by decide +kernel
theorem t42_110 : am_T 42 110 = some (3, .invokevirtual 100, 113, [2, 4, 36], .null) := by decide +kernel
theorem t42_113 : am_T 42 113 = some (0, .iinc 4 (-1), 116, [], .int (-1)) := by decide +kernel
theorem t42_116 : am_T 42 116 = some (1, .goto (-100), 119, [16], .null) := by decide +kernel
theorem t42_119 : am_T 42 119 = some (0, .iconst (-1), 120, [], .int (-1)) := by decide +kernel
theorem t42_120 : am_T 42 120 = some (0, .istore 4, 122, [], .null) := by decide +kernel
theorem t42_122 : am_T 42 122 = some (0, .sipush 1000, 125, [], .int (1000)) := by decide +kernel
theorem t42_125 : am_T 42 125 = some (0, .istore 5, 127, [], .null) := by decide +kernel
theorem t42_127 : am_T 42 127 = some (0, .iconst 0, 128, [], .int (0)) := by decide +kernel
theorem t42_128 : am_T 42 128 = some (0, .istore 6, 130, [], .null) := by decide +kernel
theorem t42_130 : am_T 42 130 = some (0, .iload 6, 132, [], .null) := by decide +kernel
theorem t42_132 : am_T 42 132 = some (0, .aload_n 0, 133, [], .null) := by decide +kernel
theorem t42_133 : am_T 42 133 = some (2, .getfield 44, 136, [0, 5], .null) := by decide +kernel
theorem t42_136 : am_T 42 136 = some (3, .invokevirtual 78, 139, [1, 7, 76], .null) := by decide +kernel
theorem t42_139 : am_T 42 139 = some (1, .if_icmp .ge 66, 142, [205], .null) := by decide +kernel
theorem t42_142 : am_T 42 142 = some (0, .aload_n 0, 143, [], .null) := by decide +kernel
theorem t42_143 : am_T 42 143 = some (2, .getfield 52, 146, [2, 5], .null) := by decide +kernel
theorem t42_146 : am_T 42 146 = some (0, .aload_n 0, 147, [], .null) := by decide +kernel
theorem t42_147 : am_T 42 147 = some (2, .getfield 48, 150, [1, 5], .null) := by decide +kernel
theorem t42_150 : am_T 42 150 = some (3, .invokevirtual 104, 153, [1, 9, 96], .null) := by decide +kernel
theorem t42_153 : am_T 42 153 = some (0, .iload 6, 155, [], .null) := by decide +kernel
theorem t42_155 : am_T 42 155 = some (3, .invokevirtual 107, 158, [3, 6, 67], .null) := by decide +kernel
theorem t42_158 : am_T 42 158 = some (0, .istore 7, 160, [], .null) := by decide +kernel
theorem t42_160 : am_T 42 160 = some (0, .iload 7, 162, [], .null) := by decide +kernel
theorem t42_162 : am_T 42 162 = some (0, .aload_n 0, 163, [], .null) := by decide +kernel
theorem t42_163 : am_T 42 163 = some (2, .getfield 28, 166, [6, 5], .null) := by decide +kernel
theorem t42_166 : am_T 42 166 = some (0, .iload 6, 168, [], .null) := by decide +kernel
theorem t42_168 : am_T 42 168 = some (3, .invokevirtual 90, 171, [2, 4, 30], .null) := by decide +kernel
theorem t42_171 : am_T 42 171 = some (0, .iadd, 172, [], .null) := by decide +kernel
theorem t42_172 : am_T 42 172 = some (0, .istore 8, 174, [], .null) := by decide +kernel
theorem t42_174 : am_T 42 174 = some (0, .iload 7, 176, [], .null) := by decide +kernel
theorem t42_176 : am_T 42 176 = some (0, .aload_n 0, 177, [], .null) := by decide +kernel
theorem t42_177 : am_T 42 177 = some (0, .iconst 1, 178, [], .int (1)) := by decide +kernel
theorem t42_178 : am_T 42 178 = some (3, .invokevirtual 113, 181, [2, 5, 41], .null) := by decide +kernel
theorem t42_181 : am_T 42 181 = some (1, .if_icmp .gt 18, 184, [199], .null) := by decide +kernel
theorem t42_184 : am_T 42 184 = some (0, .iload 8, 186, [], .null) := by decide +kernel
theorem t42_186 : am_T 42 186 = some (0, .iload 5, 188, [], .null) := by decide +kernel
theorem t42_188 : am_T 42 188 = some (1, .if_icmp .ge 11, 191, [199], .null) := by decide +kernel
theorem t42_191 : am_T 42 191 = some (0, .iload 6, 193, [], .null) := by decide +kernel
theorem t42_193 : am_T 42 193 = some (0, .istore 4, 195, [], .null) := by decide +kernel
theorem t42_195 : am_T 42 195 = some (0, .iload 8, 197, [], .null) := by decide +kernel
theorem t42_197 : am_T 42 197 = some (0, .istore 5, 199, [], .null) := by decide +kernel
theorem t42_199 : am_T 42 199 = some (0, .iinc 6 1, 202, [], .int (1)) := by decide +kernel
theorem t42_202 : am_T 42 202 = some (1, .goto (-72), 205, [130], .null) := by decide +kernel
theorem t42_205 : am_T 42 205 = some (0, .iload 4, 207, [], .null) := by decide +kernel
theorem t42_207 : am_T 42 207 = some (0, .iconst (-1), 208, [], .int (-1)) := by decide +kernel
theorem t42_208 : am_T 42 208 = some (1, .if_icmp .ne 5, 211, [213], .null) := by decide +kernel
theorem t42_211 : am_T 42 211 = some (0, .iconst (-1), 212, [], .int (-1)) := by decide +kernel
theorem t42_212 : am_T 42 212 = some (4, .ireturn, 213, [0], .null) := by decide +kernel
theorem t42_213 : am_T 42 213 = some (0, .iload_n 3, 214, [], .null) := by decide +kernel
theorem t42_214 : am_T 42 214 = some (1, .ifCond .ne 8, 217, [222], .null) := by decide +kernel
theorem t42_217 : am_T 42 217 = some (0, .iload 5, 219, [], .null) := by decide +kernel
theorem t42_219 : am_T 42 219 = some (1, .goto 12, 222, [231], .null) := by decide +kernel
theorem t42_222 : am_T 42 222 = some (0, .aload_n 0, 223, [], .null) := by decide +kernel
theorem t42_223 : am_T 42 223 = some (2, .getfield 44, 226, [0, 5], .null) := by decide +kernel
theorem t42_226 : am_T 42 226 = some (0, .iload 4, 228, [], .null) := by decide +kernel
theorem t42_228 : am_T 42 228 = some (3, .invokevirtual 116, 231, [2, 7, 85], .null) := by decide +kernel
theorem t42_231 : am_T 42 231 = some (4, .ireturn, 232, [0], .null) := by decide +kernel
theorem t43_0 : am_T 43 0 = some (0, .sipush 1000, 3, [], .int (1000)) := by decide +kernel
theorem t43_3 : am_T 43 3 = some (0, .istore_n 2, 4, [], .null) := by decide +kernel
theorem t43_4 : am_T 43 4 = some (0, .iconst 0, 5, [], .int (0)) := by decide +kernel
theorem t43_5 : am_T 43 5 = some (0, .istore_n 3, 6, [], .null) := by decide +kernel
theorem t43_6 : am_T 43 6 = some (0, .iload_n 3, 7, [], .null) := by decide +kernel
theorem t43_7 : am_T 43 7 = some (0, .aload_n 0, 8, [], .null) := by decide +kernel
theorem t43_8 : am_T 43 8 = some (2, .getfield 44, 11, [0, 5], .null) := by decide +kernel
theorem t43_11 : am_T 43 11 = some (3, .invokevirtual 78, 14, [1, 7, 76], .null) := by decide +kernel
theorem t43_14 : am_T 43 14 = some (1, .if_icmp .ge 60, 17, [74], .null) := by decide +kernel
theorem t43_17 : am_T 43 17 = some (0, .aload_n 0, 18, [], .null) := by decide +kernel
theorem t43_18 : am_T 43 18 = some (2, .getfield 28, 21, [6, 5], .null) := by decide +kernel
theorem t43_21 : am_T 43 21 = some (0, .iload_n 3, 22, [], .null) := by decide +kernel
theorem t43_22 : am_T 43 22 = some (3, .invokevirtual 90, 25, [2, 4, 30], .null) := by decide +kernel
theorem t43_25 : am_T 43 25 = some (0, .iload_n 2, 26, [], .null) := by decide +kernel
theorem t43_26 : am_T 43 26 = some (1, .if_icmp .ge 42, 29, [68], .null) := by decide +kernel
theorem t43_29 : am_T 43 29 = some (0, .aload_n 0, 30, [], .null) := by decide +kernel
theorem t43_30 : am_T 43 30 = some (2, .getfield 52, 33, [2, 5], .null) := by decide +kernel
theorem t43_33 : am_T 43 33 = some (0, .iload_n 1, 34, [], .null) := by decide +kernel
theorem t43_34 : am_T 43 34 = some (0, .iload_n 3, 35, [], .null) := by decide +kernel
theorem t43_35 : am_T 43 35 = some (3, .invokevirtual 107, 38, [3, 6, 67], .null) := by decide +kernel
theorem t43_38 : am_T 43 38 = some (0, .istore 4, 40, [], .null) := by decide +kernel
theorem t43_40 : am_T 43 40 = some (0, .iload 4, 42, [], .null) := by decide +kernel
theorem t43_42 : am_T 43 42 = some (0, .aload_n 0, 43, [], .null) := by decide +kernel
theorem t43_43 : am_T 43 43 = some (2, .getfield 48, 46, [1, 5], .null) := by decide +kernel
theorem t43_46 : am_T 43 46 = some (3, .invokevirtual 72, 49, [1, 9, 99], .null) := by decide +kernel
theorem t43_49 : am_T 43 49 = some (1, .if_icmp .gt 19, 52, [68], .null) := by decide +kernel
theorem t43_52 : am_T 43 52 = some (0, .iload_n 2, 53, [], .null) := by decide +kernel
theorem t43_53 : am_T 43 53 = some (0, .iload 4, 55, [], .null) := by decide +kernel
theorem t43_55 : am_T 43 55 = some (0, .aload_n 0, 56, [], .null) := by decide +kernel
theorem t43_56 : am_T 43 56 = some (2, .getfield 28, 59, [6, 5], .null) := by decide +kernel
theorem t43_59 : am_T 43 59 = some (0, .iload_n 3, 60, [], .null) := by decide +kernel
theorem t43_60 : am_T 43 60 = some (3, .invokevirtual 90, 63, [2, 4, 30], .null) := by decide +kernel
theorem t43_63 : am_T 43 63 = some (0, .iadd, 64, [], .null) := by decide +kernel
theorem t43_64 : am_T 43 64 = some (2, .invokestatic 119, 67, [0], .null) := by decide +kernel
theorem t43_67 : am_T 43 67 = some (0, .istore_n 2, 68, [], .null) := by decide +kernel
theorem t43_68 : am_T 43 68 = some (0, .iinc 3 1, 71, [], .int (1)) := by decide +kernel
theorem t43_71 : am_T 43 71 = some (1, .goto (-65), 74, [6], .null) := by decide +kernel
theorem t43_74 : am_T 43 74 = some (0, .iload_n 2, 75, [], .null) := by decide +kernel
theorem t43_75 : am_T 43 75 = some (4, .ireturn, 76, [0], .null) := by decide +kernel
theorem t44_0 : am_T 44 0 = some (0, .iconst 1, 1, [], .int (1)) := by decide +kernel
theorem t44_1 : am_T 44 1 = some (0, .aload_n 2, 2, [], .null) := by decide +kernel
theorem t44_2 : am_T 44 2 = some (3, .invokevirtual 59, 5, [1, 4, 29], .null) := by decide +kernel
theorem t44_5 : am_T 44 5 = some (0, .ishl, 6, [], .null) := by decide +kernel
theorem t44_6 : am_T 44 6 = some (0, .istore_n 3, 7, [], .null) := by decide +kernel
theorem t44_7 : am_T 44 7 = some (0, .aload_n 0, 8, [], .null) := by decide +kernel
theorem t44_8 : am_T 44 8 = some (2, .getfield 28, 11, [6, 5], .null) := by decide +kernel
theorem t44_11 : am_T 44 11 = some (0, .iconst 0, 12, [], .int (0)) := by decide +kernel
theorem t44_12 : am_T 44 12 = some (3, .invokevirtual 75, 15, [2, 4, 32], .null) := by decide +kernel
theorem t44_15 : am_T 44 15 = some (0, .aload_n 0, 16, [], .null) := by decide +kernel
theorem t44_16 : am_T 44 16 = some (2, .getfield 28, 19, [6, 5], .null) := by decide +kernel
theorem t44_19 : am_T 44 19 = some (0, .aload_n 0, 20, [], .null) := by decide +kernel
theorem t44_20 : am_T 44 20 = some (2, .getfield 48, 23, [1, 5], .null) := by decide +kernel
theorem t44_23 : am_T 44 23 = some (3, .invokevirtual 104, 26, [1, 9, 96], .null) := by decide +kernel
theorem t44_26 : am_T 44 26 = some (0, .iconst 1, 27, [], .int (1)) := by decide +kernel
theorem t44_27 : am_T 44 27 = some (3, .invokevirtual 96, 30, [3, 4, 31], .null) := by decide +kernel
theorem t44_30 : am_T 44 30 = some (0, .iconst 1, 31, [], .int (1)) := by decide +kernel
theorem t44_31 : am_T 44 31 = some (0, .istore 4, 33, [], .null) := by decide +kernel
theorem t44_33 : am_T 44 33 = some (0, .iload 4, 35, [], .null) := by decide +kernel
theorem t44_35 : am_T 44 35 = some (0, .bipush 60, 37, [], .int (60)) := by decide +kernel
theorem t44_37 : am_T 44 37 = some (1, .if_icmp .gt 149, 40, [186], .null) := by decide +kernel
theorem t44_40 : am_T 44 40 = some (0, .aload_n 0, 41, [], .null) := by decide +kernel
theorem t44_41 : am_T 44 41 = some (2, .getfield 34, 44, [8, 5], .null) := by decide +kernel
theorem t44_44 : am_T 44 44 = some (0, .aload_n 0, 45, [], .null) := by decide +kernel
theorem t44_45 : am_T 44 45 = some (2, .getfield 28, 48, [6, 5], .null) := by decide +kernel
theorem t44_48 : am_T 44 48 = some (3, .invokevirtual 100, 51, [2, 4, 36], .null) := by decide +kernel
theorem t44_51 : am_T 44 51 = some (0, .iconst 0, 52, [], .int (0)) := by decide +kernel
theorem t44_52 : am_T 44 52 = some (0, .istore 5, 54, [], .null) := by decide +kernel
theorem t44_54 : am_T 44 54 = some (0, .iload 5, 56, [], .null) := by decide +kernel
theorem t44_56 : am_T 44 56 = some (0, .aload_n 0, 57, [], .null) := by decide +kernel
theorem t44_57 : am_T 44 57 = some (0, .iload 4, 59, [], .null) := by decide +kernel
theorem t44_59 : am_T 44 59 = some (3, .invokevirtual 113, 62, [2, 5, 41], .null) := by decide +kernel
theorem t44_62 : am_T 44 62 = some (1, .if_icmp .ge 13, 65, [75], .null) := by decide +kernel
theorem t44_65 : am_T 44 65 = some (0, .aload_n 0, 66, [], .null) := by decide +kernel
theorem t44_66 : am_T 44 66 = some (3, .invokevirtual 124, 69, [1, 5, 45], .null) := by decide +kernel
theorem t44_69 : am_T 44 69 = some (0, .iinc 5 1, 72, [], .int (1)) := by decide +kernel
theorem t44_72 : am_T 44 72 = some (1, .goto (-18), 75, [54], .null) := by decide +kernel
theorem t44_75 : am_T 44 75 = some (0, .iconst 0, 76, [], .int (0)) := by decide +kernel
theorem t44_76 : am_T 44 76 = some (0, .istore 5, 78, [], .null) := by decide +kernel
theorem t44_78 : am_T 44 78 = some (0, .iconst 0, 79, [], .int (0)) := by decide +kernel
theorem t44_79 : am_T 44 79 = some (0, .istore 6, 81, [], .null) := by decide +kernel
theorem t44_81 : am_T 44 81 = some (0, .iload 6, 83, [], .null) := by decide +kernel
theorem t44_83 : am_T 44 83 = some (0, .aload_n 0, 84, [], .null) := by decide +kernel
theorem t44_84 : am_T 44 84 = some (2, .getfield 44, 87, [0, 5], .null) := by decide +kernel
theorem t44_87 : am_T 44 87 = some (3, .invokevirtual 78, 90, [1, 7, 76], .null) := by decide +kernel
theorem t44_90 : am_T 44 90 = some (1, .if_icmp .ge 77, 93, [167], .null) := by decide +kernel
theorem t44_93 : am_T 44 93 = some (0, .aload_n 0, 94, [], .null) := by decide +kernel
theorem t44_94 : am_T 44 94 = some (2, .getfield 28, 97, [6, 5], .null) := by decide +kernel
theorem t44_97 : am_T 44 97 = some (0, .iload 6, 99, [], .null) := by decide +kernel
theorem t44_99 : am_T 44 99 = some (3, .invokevirtual 90, 102, [2, 4, 30], .null) := by decide +kernel
theorem t44_102 : am_T 44 102 = some (0, .aload_n 1, 103, [], .null) := by decide +kernel
theorem t44_103 : am_T 44 103 = some (0, .iload 6, 105, [], .null) := by decide +kernel
theorem t44_105 : am_T 44 105 = some (3, .invokevirtual 84, 108, [2, 1, 10], .null) := by decide +kernel
theorem t44_108 : am_T 44 108 = some (0, .aload_n 2, 109, [], .null) := by decide +kernel
theorem t44_109 : am_T 44 109 = some (3, .invokestatic 127, 112, [3, 46], .null) := by decide +kernel
theorem t44_112 : am_T 44 112 = some (0, .istore 7, 114, [], .null) := by decide +kernel
theorem t44_114 : am_T 44 114 = some (0, .iload 7, 116, [], .null) := by decide +kernel
theorem t44_116 : am_T 44 116 = some (0, .iload_n 3, 117, [], .null) := by decide +kernel
theorem t44_117 : am_T 44 117 = some (0, .iand, 118, [], .null) := by decide +kernel
theorem t44_118 : am_T 44 118 = some (1, .ifCond .eq 6, 121, [124], .null) := by decide +kernel
theorem t44_121 : am_T 44 121 = some (0, .iload 4, 123, [], .null) := by decide +kernel
theorem t44_123 : am_T 44 123 = some (4, .ireturn, 124, [0], .null) := by decide +kernel
theorem t44_124 : am_T 44 124 = some (0, .aload_n 0, 125, [], .null) := by decide +kernel
theorem t44_125 : am_T 44 125 = some (2, .getfield 28, 128, [6, 5], .null) := by decide +kernel
theorem t44_128 : am_T 44 128 = some (0, .iload 6, 130, [], .null) := by decide +kernel
theorem t44_130 : am_T 44 130 = some (0, .iload 7, 132, [], .null) := by decide +kernel
theorem t44_132 : am_T 44 132 = some (3, .invokevirtual 96, 135, [3, 4, 31], .null) := by decide +kernel
theorem t44_135 : am_T 44 135 = some (0, .iload 5, 137, [], .null) := by decide +kernel
theorem t44_137 : am_T 44 137 = some (1, .ifCond .ne 17, 140, [154], .null) := by decide +kernel
theorem t44_140 : am_T 44 140 = some (0, .iload 7, 142, [], .null) := by decide +kernel
theorem t44_142 : am_T 44 142 = some (0, .aload_n 0, 143, [], .null) := by decide +kernel
theorem t44_143 : am_T 44 143 = some (2, .getfield 34, 146, [8, 5], .null) := by decide +kernel
theorem t44_146 : am_T 44 146 = some (0, .iload 6, 148, [], .null) := by decide +kernel
theorem t44_148 : am_T 44 148 = some (3, .invokevirtual 90, 151, [2, 4, 30], .null) := by decide +kernel
theorem t44_151 : am_T 44 151 = some (1, .if_icmp .eq 7, 154, [158], .null) := by decide +kernel
theorem t44_154 : am_T 44 154 = some (0, .iconst 1, 155, [], .int (1)) := by decide +kernel
theorem t44_155 : am_T 44 155 = some (1, .goto 4, 158, [159], .null) := by decide +kernel
theorem t44_158 : am_T 44 158 = some (0, .iconst 0, 159, [], .int (0)) := by decide +kernel
theorem t44_159 : am_T 44 159 = some (0, .istore 5, 161, [], .null) := by decide +kernel
theorem t44_161 : am_T 44 161 = some (0, .iinc 6 1, 164, [], .int (1)) := by decide +kernel
theorem t44_164 : am_T 44 164 = some (1, .goto (-83), 167, [81], .null) := by decide +kernel
theorem t44_167 : am_T 44 167 = some (0, .iload 5, 169, [], .null) := by decide +kernel
theorem t44_169 : am_T 44 169 = some (1, .ifCond .ne 11, 172, [180], .null) := by decide +kernel
theorem t44_172 : am_T 44 172 = some (0, .iload 4, 174, [], .null) := by decide +kernel
theorem t44_174 : am_T 44 174 = some (0, .iconst 1, 175, [], .int (1)) := by decide +kernel
theorem t44_175 : am_T 44 175 = some (1, .if_icmp .le 5, 178, [180], .null) := by decide +kernel
theorem t44_178 : am_T 44 178 = some (0, .iconst (-1), 179, [], .int (-1)) := by decide +kernel
theorem t44_179 : am_T 44 179 = some (4, .ireturn, 180, [0], .null) := by decide +kernel
theorem t44_180 : am_T 44 180 = some (0, .iinc 4 1, 183, [], .int (1)) := by decide +kernel
theorem t44_183 : am_T 44 183 = some (1, .goto (-150), 186, [33], .null) := by decide +kernel
theorem t44_186 : am_T 44 186 = some (0, .iconst (-1), 187, [], .int (-1)) := by decide +kernel
theorem t44_187 : am_T 44 187 = some (4, .ireturn, 188, [0], .null) := by decide +kernel
theorem t45_0 : am_T 45 0 = some (0, .iconst 0, 1, [], .int (0)) := by decide +kernel
theorem t45_1 : am_T 45 1 = some (0, .istore_n 1, 2, [], .null) := by decide +kernel
theorem t45_2 : am_T 45 2 = some (0, .iload_n 1, 3, [], .null) := by decide +kernel
theorem t45_3 : am_T 45 3 = some (0, .aload_n 0, 4, [], .null) := by decide +kernel
theorem t45_4 : am_T 45 4 = some (2, .getfield 44, 7, [0, 5], .null) := by decide +kernel
theorem t45_7 : am_T 45 7 = some (3, .invokevirtual 78, 10, [1, 7, 76], .null) := by decide +kernel
theorem t45_10 : am_T 45 10 = some (1, .if_icmp .ge 81, 13, [91], .null) := by decide +kernel
theorem t45_13 : am_T 45 13 = some (0, .aload_n 0, 14, [], .null) := by decide +kernel
theorem t45_14 : am_T 45 14 = some (2, .getfield 28, 17, [6, 5], .null) := by decide +kernel
theorem t45_17 : am_T 45 17 = some (0, .iload_n 1, 18, [], .null) := by decide +kernel
theorem t45_18 : am_T 45 18 = some (3, .invokevirtual 90, 21, [2, 4, 30], .null) := by decide +kernel
theorem t45_21 : am_T 45 21 = some (0, .istore_n 2, 22, [], .null) := by decide +kernel
theorem t45_22 : am_T 45 22 = some (0, .iconst 0, 23, [], .int (0)) := by decide +kernel
theorem t45_23 : am_T 45 23 = some (0, .istore_n 3, 24, [], .null) := by decide +kernel
theorem t45_24 : am_T 45 24 = some (0, .iload_n 3, 25, [], .null) := by decide +kernel
theorem t45_25 : am_T 45 25 = some (0, .aload_n 0, 26, [], .null) := by decide +kernel
theorem t45_26 : am_T 45 26 = some (2, .getfield 44, 29, [0, 5], .null) := by decide +kernel
theorem t45_29 : am_T 45 29 = some (0, .iload_n 1, 30, [], .null) := by decide +kernel
theorem t45_30 : am_T 45 30 = some (3, .invokevirtual 131, 33, [2, 7, 81], .null) := by decide +kernel
theorem t45_33 : am_T 45 33 = some (1, .if_icmp .ge 28, 36, [61], .null) := by decide +kernel
theorem t45_36 : am_T 45 36 = some (0, .iload_n 2, 37, [], .null) := by decide +kernel
theorem t45_37 : am_T 45 37 = some (0, .aload_n 0, 38, [], .null) := by decide +kernel
theorem t45_38 : am_T 45 38 = some (2, .getfield 28, 41, [6, 5], .null) := by decide +kernel
theorem t45_41 : am_T 45 41 = some (0, .aload_n 0, 42, [], .null) := by decide +kernel
theorem t45_42 : am_T 45 42 = some (2, .getfield 44, 45, [0, 5], .null) := by decide +kernel
theorem t45_45 : am_T 45 45 = some (0, .iload_n 1, 46, [], .null) := by decide +kernel
theorem t45_46 : am_T 45 46 = some (0, .iload_n 3, 47, [], .null) := by decide +kernel
theorem t45_47 : am_T 45 47 = some (3, .invokevirtual 134, 50, [3, 7, 82], .null) := by decide +kernel
theorem t45_50 : am_T 45 50 = some (3, .invokevirtual 90, 53, [2, 4, 30], .null) := by decide +kernel
theorem t45_53 : am_T 45 53 = some (0, .ior, 54, [], .null) := by decide +kernel
theorem t45_54 : am_T 45 54 = some (0, .istore_n 2, 55, [], .null) := by decide +kernel
theorem t45_55 : am_T 45 55 = some (0, .iinc 3 1, 58, [], .int (1)) := by decide +kernel
theorem t45_58 : am_T 45 58 = some (1, .goto (-34), 61, [24], .null) := by decide +kernel
theorem t45_61 : am_T 45 61 = some (0, .aload_n 0, 62, [], .null) := by decide +kernel
theorem t45_62 : am_T 45 62 = some (2, .getfield 31, 65, [7, 5], .null) := by decide +kernel
theorem t45_65 : am_T 45 65 = some (0, .iload_n 1, 66, [], .null) := by decide +kernel
theorem t45_66 : am_T 45 66 = some (0, .aload_n 0, 67, [], .null) := by decide +kernel
theorem t45_67 : am_T 45 67 = some (2, .getfield 48, 70, [1, 5], .null) := by decide +kernel
theorem t45_70 : am_T 45 70 = some (0, .iload_n 1, 71, [], .null) := by decide +kernel
theorem t45_71 : am_T 45 71 = some (3, .invokevirtual 81, 74, [2, 9, 103], .null) := by decide +kernel
theorem t45_74 : am_T 45 74 = some (1, .ifCond .eq 7, 77, [81], .null) := by decide +kernel
theorem t45_77 : am_T 45 77 = some (0, .iload_n 2, 78, [], .null) := by decide +kernel
theorem t45_78 : am_T 45 78 = some (1, .goto 4, 81, [82], .null) := by decide +kernel
theorem t45_81 : am_T 45 81 = some (0, .iconst 0, 82, [], .int (0)) := by decide +kernel
theorem t45_82 : am_T 45 82 = some (3, .invokevirtual 96, 85, [3, 4, 31], .null) := by decide +kernel
theorem t45_85 : am_T 45 85 = some (0, .iinc 1 1, 88, [], .int (1)) := by decide +kernel
theorem t45_88 : am_T 45 88 = some (1, .goto (-86), 91, [2], .null) := by decide +kernel
theorem t45_91 : am_T 45 91 = some (0, .aload_n 0, 92, [], .null) := by decide +kernel
theorem t45_92 : am_T 45 92 = some (2, .getfield 28, 95, [6, 5], .null) := by decide +kernel
theorem t45_95 : am_T 45 95 = some (0, .aload_n 0, 96, [], .null) := by decide +kernel
theorem t45_96 : am_T 45 96 = some (2, .getfield 31, 99, [7, 5], .null) := by decide +kernel
theorem t45_99 : am_T 45 99 = some (3, .invokevirtual 100, 102, [2, 4, 36], .null) := by decide +kernel
theorem t45_102 : am_T 45 102 = some (4, .return_, 103, [], .null) := by decide +kernel
theorem t46_0 : am_T 46 0 = some (0, .iload_n 1, 1, [], .null) := by decide +kernel
theorem t46_1 : am_T 46 1 = some (0, .iconst (-1), 2, [], .int (-1)) := by decide +kernel
theorem t46_2 : am_T 46 2 = some (1, .if_icmp .ne 5, 5, [7], .null) := by decide +kernel
theorem t46_5 : am_T 46 5 = some (0, .iload_n 0, 6, [], .null) := by decide +kernel
theorem t46_6 : am_T 46 6 = some (4, .ireturn, 7, [0], .null) := by decide +kernel
theorem t46_7 : am_T 46 7 = some (0, .iconst 0, 8, [], .int (0)) := by decide +kernel
theorem t46_8 : am_T 46 8 = some (0, .istore_n 3, 9, [], .null) := by decide +kernel
theorem t46_9 : am_T 46 9 = some (0, .iconst 0, 10, [], .int (0)) := by decide +kernel
theorem t46_10 : am_T 46 10 = some (0, .istore 4, 12, [], .null) := by decide +kernel
theorem t46_12 : am_T 46 12 = some (0, .iload 4, 14, [], .null) := by decide +kernel
theorem t46_14 : am_T 46 14 = some (0, .aload_n 2, 15, [], .null) := by decide +kernel
theorem t46_15 : am_T 46 15 = some (3, .invokevirtual 59, 18, [1, 4, 29], .null) := by decide +kernel
theorem t46_18 : am_T 46 18 = some (1, .if_icmp .ge 37, 21, [55], .null) := by decide +kernel
theorem t46_21 : am_T 46 21 = some (0, .aload_n 2, 22, [], .null) := by decide +kernel
theorem t46_22 : am_T 46 22 = some (0, .iload 4, 24, [], .null) := by decide +kernel
theorem t46_24 : am_T 46 24 = some (3, .invokevirtual 90, 27, [2, 4, 30], .null) := by decide +kernel
theorem t46_27 : am_T 46 27 = some (0, .iload_n 1, 28, [], .null) := by decide +kernel
theorem t46_28 : am_T 46 28 = some (1, .if_icmp .ne 21, 31, [49], .null) := by decide +kernel
theorem t46_31 : am_T 46 31 = some (0, .iload_n 0, 32, [], .null) := by decide +kernel
theorem t46_32 : am_T 46 32 = some (0, .iconst 1, 33, [], .int (1)) := by decide +kernel
theorem t46_33 : am_T 46 33 = some (0, .iload 4, 35, [], .null) := by decide +kernel
theorem t46_35 : am_T 46 35 = some (0, .ishl, 36, [], .null) := by decide +kernel
theorem t46_36 : am_T 46 36 = some (0, .iand, 37, [], .null) := by decide +kernel
theorem t46_37 : am_T 46 37 = some (1, .ifCond .eq 12, 40, [49], .null) := by decide +kernel
theorem t46_40 : am_T 46 40 = some (0, .iload_n 3, 41, [], .null) := by decide +kernel
theorem t46_41 : am_T 46 41 = some (0, .iconst 1, 42, [], .int (1)) := by decide +kernel
theorem t46_42 : am_T 46 42 = some (0, .iload 4, 44, [], .null) := by decide +kernel
theorem t46_44 : am_T 46 44 = some (0, .iconst 1, 45, [], .int (1)) := by decide +kernel
theorem t46_45 : am_T 46 45 = some (0, .iadd, 46, [], .null) := by decide +kernel
theorem t46_46 : am_T 46 46 = some (0, .ishl, 47, [], .null) := by decide +kernel
theorem t46_47 : am_T 46 47 = some (0, .ior, 48, [], .null) := by decide +kernel
theorem t46_48 : am_T 46 48 = some (0, .istore_n 3, 49, [], .null) := by decide +kernel
theorem t46_49 : am_T 46 49 = some (0, .iinc 4 1, 52, [], .int (1)) := by decide +kernel
theorem t46_52 : am_T 46 52 = some (1, .goto (-40), 55, [12], .null) := by decide +kernel
theorem t46_55 : am_T 46 55 = some (0, .iload_n 3, 56, [], .null) := by decide +kernel
theorem t46_56 : am_T 46 56 = some (4, .ireturn, 57, [0], .null) := by decide +kernel
theorem t47_0 : am_T 47 0 = some (0, .iconst 0, 1, [], .int (0)) := by decide +kernel
theorem t47_1 : am_T 47 1 = some (0, .istore 5, 3, [], .null) := by decide +kernel
theorem t47_3 : am_T 47 3 = some (0, .iload 5, 5, [], .null) := by decide +kernel
theorem t47_5 : am_T 47 5 = some (0, .aload_n 0, 6, [], .null) := by decide +kernel
theorem t47_6 : am_T 47 6 = some (2, .getfield 37, 9, [9, 5], .null) := by decide +kernel
theorem t47_9 : am_T 47 9 = some (2, .arraylength, 10, [], .null) := by decide +kernel
theorem t47_10 : am_T 47 10 = some (1, .if_icmp .ge 33, 13, [43], .null) := by decide +kernel
theorem t47_13 : am_T 47 13 = some (0, .aload_n 0, 14, [], .null) := by decide +kernel
theorem t47_14 : am_T 47 14 = some (2, .getfield 37, 17, [9, 5], .null) := by decide +kernel
theorem t47_17 : am_T 47 17 = some (0, .iload 5, 19, [], .null) := by decide +kernel
theorem t47_19 : am_T 47 19 = some (0, .iload 5, 21, [], .null) := by decide +kernel
theorem t47_21 : am_T 47 21 = some (0, .aload_n 0, 22, [], .null) := by decide +kernel
theorem t47_22 : am_T 47 22 = some (2, .getfield 48, 25, [1, 5], .null) := by decide +kernel
theorem t47_25 : am_T 47 25 = some (3, .invokevirtual 104, 28, [1, 9, 96], .null) := by decide +kernel
theorem t47_28 : am_T 47 28 = some (1, .if_icmp .ne 7, 31, [35], .null) := by decide +kernel
theorem t47_31 : am_T 47 31 = some (0, .lconst 1, 32, [], .long 1) := by decide +kernel
theorem t47_32 : am_T 47 32 = some (1, .goto 4, 35, [36], .null) := by decide +kernel
theorem t47_35 : am_T 47 35 = some (0, .lconst 0, 36, [], .long 0) := by decide +kernel
theorem t47_36 : am_T 47 36 = some (2, .lastore, 37, [], .null) := by decide +kernel
theorem t47_37 : am_T 47 37 = some (0, .iinc 5 1, 40, [], .int (1)) := by decide +kernel
theorem t47_40 : am_T 47 40 = some (1, .goto (-37), 43, [3], .null) := by decide +kernel
theorem t47_43 : am_T 47 43 = some (0, .iconst 1, 44, [], .int (1)) := by decide +kernel
theorem t47_44 : am_T 47 44 = some (0, .istore 5, 46, [], .null) := by decide +kernel
theorem t47_46 : am_T 47 46 = some (0, .iload 5, 48, [], .null) := by decide +kernel
theorem t47_48 : am_T 47 48 = some (0, .iload_n 1, 49, [], .null) := by decide +kernel
theorem t47_49 : am_T 47 49 = some (1, .if_icmp .gt 137, 52, [186], .null) := by decide +kernel
theorem t47_52 : am_T 47 52 = some (0, .iconst 0, 53, [], .int (0)) := by decide +kernel
theorem t47_53 : am_T 47 53 = some (0, .istore 6, 55, [], .null) := by decide +kernel
theorem t47_55 : am_T 47 55 = some (0, .iload 6, 57, [], .null) := by decide +kernel
theorem t47_57 : am_T 47 57 = some (0, .aload_n 0, 58, [], .null) := by decide +kernel
theorem t47_58 : am_T 47 58 = some (2, .getfield 44, 61, [0, 5], .null) := by decide +kernel
theorem t47_61 : am_T 47 61 = some (3, .invokevirtual 78, 64, [1, 7, 76], .null) := by decide +kernel
theorem t47_64 : am_T 47 64 = some (1, .if_icmp .ge 86, 67, [150], .null) := by decide +kernel
theorem t47_67 : am_T 47 67 = some (0, .iload 6, 69, [], .null) := by decide +kernel
theorem t47_69 : am_T 47 69 = some (0, .aload_n 0, 70, [], .null) := by decide +kernel
theorem t47_70 : am_T 47 70 = some (2, .getfield 41, 73, [10, 5], .null) := by decide +kernel
theorem t47_73 : am_T 47 73 = some (2, .arraylength, 74, [], .null) := by decide +kernel
theorem t47_74 : am_T 47 74 = some (1, .if_icmp .ge 76, 77, [150], .null) := by decide +kernel
theorem t47_77 : am_T 47 77 = some (0, .aload_n 2, 78, [], .null) := by decide +kernel
theorem t47_78 : am_T 47 78 = some (1, .ifnull 20, 81, [98], .null) := by decide +kernel
theorem t47_81 : am_T 47 81 = some (0, .iload 5, 83, [], .null) := by decide +kernel
theorem t47_83 : am_T 47 83 = some (0, .iload_n 3, 84, [], .null) := by decide +kernel
theorem t47_84 : am_T 47 84 = some (1, .if_icmp .ne 14, 87, [98], .null) := by decide +kernel
theorem t47_87 : am_T 47 87 = some (0, .aload_n 2, 88, [], .null) := by decide +kernel
theorem t47_88 : am_T 47 88 = some (0, .iload 6, 90, [], .null) := by decide +kernel
theorem t47_90 : am_T 47 90 = some (3, .invokevirtual 84, 93, [2, 1, 10], .null) := by decide +kernel
theorem t47_93 : am_T 47 93 = some (0, .iload 4, 95, [], .null) := by decide +kernel
theorem t47_95 : am_T 47 95 = some (1, .if_icmp .ne 7, 98, [102], .null) := by decide +kernel
theorem t47_98 : am_T 47 98 = some (0, .iconst 1, 99, [], .int (1)) := by decide +kernel
theorem t47_99 : am_T 47 99 = some (1, .goto 4, 102, [103], .null) := by decide +kernel
theorem t47_102 : am_T 47 102 = some (0, .iconst 0, 103, [], .int (0)) := by decide +kernel
theorem t47_103 : am_T 47 103 = some (0, .istore 7, 105, [], .null) := by decide +kernel
theorem t47_105 : am_T 47 105 = some (0, .aload_n 0, 106, [], .null) := by decide +kernel
theorem t47_106 : am_T 47 106 = some (2, .getfield 41, 109, [10, 5], .null) := by decide +kernel
theorem t47_109 : am_T 47 109 = some (0, .iload 6, 111, [], .null) := by decide +kernel
theorem t47_111 : am_T 47 111 = some (0, .iload 7, 113, [], .null) := by decide +kernel
theorem t47_113 : am_T 47 113 = some (1, .ifCond .eq 29, 116, [142], .null) := by decide +kernel
theorem t47_116 : am_T 47 116 = some (0, .aload_n 0, 117, [], .null) := by decide +kernel
theorem t47_117 : am_T 47 117 = some (0, .iload 5, 119, [], .null) := by decide +kernel
theorem t47_119 : am_T 47 119 = some (0, .iload 6, 121, [], .null) := by decide +kernel
theorem t47_121 : am_T 47 121 = some (3, .invokevirtual 137, 124, [3, 5, 48], .null) := by decide +kernel
theorem t47_124 : am_T 47 124 = some (1, .ifCond .eq 18, 127, [142], .null) := by decide +kernel
theorem t47_127 : am_T 47 127 = some (0, .aload_n 0, 128, [], .null) := by decide +kernel
theorem t47_128 : am_T 47 128 = some (0, .iload 6, 130, [], .null) := by decide +kernel
theorem t47_130 : am_T 47 130 = some (0, .aload_n 0, 131, [], .null) := by decide +kernel
theorem t47_131 : am_T 47 131 = some (0, .iload 5, 133, [], .null) := by decide +kernel
theorem t47_133 : am_T 47 133 = some (3, .invokevirtual 113, 136, [2, 5, 41], .null) := by decide +kernel
theorem t47_136 : am_T 47 136 = some (3, .invokevirtual 141, 139, [3, 5, 49], .null) := by decide +kernel
theorem t47_139 : am_T 47 139 = some (1, .goto 4, 142, [143], .null) := by decide +kernel
theorem t47_142 : am_T 47 142 = some (0, .lconst 0, 143, [], .long 0) := by decide +kernel
theorem t47_143 : am_T 47 143 = some (2, .lastore, 144, [], .null) := by decide +kernel
theorem t47_144 : am_T 47 144 = some (0, .iinc 6 1, 147, [], .int (1)) := by decide +kernel
theorem t47_147 : am_T 47 147 = some (1, .goto (-92), 150, [55], .null) := by decide +kernel
theorem t47_150 : am_T 47 150 = some (0, .aload_n 0, 151, [], .null) := by decide +kernel
theorem t47_151 : am_T 47 151 = some (2, .getfield 41, 154, [10, 5], .null) := by decide +kernel
theorem t47_154 : am_T 47 154 = some (2, .arraylength, 155, [], .null) := by decide +kernel
theorem t47_155 : am_T 47 155 = some (0, .aload_n 0, 156, [], .null) := by decide +kernel
theorem t47_156 : am_T 47 156 = some (2, .getfield 37, 159, [9, 5], .null) := by decide +kernel
theorem t47_159 : am_T 47 159 = some (2, .arraylength, 160, [], .null) := by decide +kernel
theorem t47_160 : am_T 47 160 = some (2, .invokestatic 119, 163, [0], .null) := by decide +kernel
theorem t47_163 : am_T 47 163 = some (0, .istore 6, 165, [], .null) := by decide +kernel
theorem t47_165 : am_T 47 165 = some (0, .aload_n 0, 166, [], .null) := by decide +kernel
theorem t47_166 : am_T 47 166 = some (2, .getfield 41, 169, [10, 5], .null) := by decide +kernel
theorem t47_169 : am_T 47 169 = some (0, .iconst 0, 170, [], .int (0)) := by decide +kernel
theorem t47_170 : am_T 47 170 = some (0, .aload_n 0, 171, [], .null) := by decide +kernel
theorem t47_171 : am_T 47 171 = some (2, .getfield 37, 174, [9, 5], .null) := by decide +kernel
theorem t47_174 : am_T 47 174 = some (0, .iconst 0, 175, [], .int (0)) := by decide +kernel
theorem t47_175 : am_T 47 175 = some (0, .iload 6, 177, [], .null) := by decide +kernel
theorem t47_177 : am_T 47 177 = some (2, .invokestatic 145, 180, [4], .null) := by decide +kernel
theorem t47_180 : am_T 47 180 = some (0, .iinc 5 1, 183, [], .int (1)) := by decide +kernel
theorem t47_183 : am_T 47 183 = some (1, .goto (-137), 186, [46], .null) := by decide +kernel
theorem t47_186 : am_T 47 186 = some (0, .lconst 0, 187, [], .long 0) := by decide +kernel
theorem t47_187 : am_T 47 187 = some (0, .lstore 5, 189, [], .null) := by decide +kernel
theorem t47_189 : am_T 47 189 = some (0, .iconst 0, 190, [], .int (0)) := by decide +kernel
theorem t47_190 : am_T 47 190 = some (0, .istore 7, 192, [], .null) := by decide +kernel
theorem t47_192 : am_T 47 192 = some (0, .iload 7, 194, [], .null) := by decide +kernel
theorem t47_194 : am_T 47 194 = some (0, .aload_n 0, 195, [], .null) := by decide +kernel
theorem t47_195 : am_T 47 195 = some (2, .getfield 44, 198, [0, 5], .null) := by decide +kernel
theorem t47_198 : am_T 47 198 = some (3, .invokevirtual 78, 201, [1, 7, 76], .null) := by decide +kernel
theorem t47_201 : am_T 47 201 = some (1, .if_icmp .ge 31, 204, [232], .null) := by decide +kernel
theorem t47_204 : am_T 47 204 = some (0, .iload 7, 206, [], .null) := by decide +kernel
theorem t47_206 : am_T 47 206 = some (0, .aload_n 0, 207, [], .null) := by decide +kernel
theorem t47_207 : am_T 47 207 = some (2, .getfield 37, 210, [9, 5], .null) := by decide +kernel
theorem t47_210 : am_T 47 210 = some (2, .arraylength, 211, [], .null) := by decide +kernel
theorem t47_211 : am_T 47 211 = some (1, .if_icmp .ge 21, 214, [232], .null) := by decide +kernel
theorem t47_214 : am_T 47 214 = some (0, .lload 5, 216, [], .null) := by decide +kernel
theorem t47_216 : am_T 47 216 = some (0, .aload_n 0, 217, [], .null) := by decide +kernel
theorem t47_217 : am_T 47 217 = some (2, .getfield 37, 220, [9, 5], .null) := by decide +kernel
theorem t47_220 : am_T 47 220 = some (0, .iload 7, 222, [], .null) := by decide +kernel
theorem t47_222 : am_T 47 222 = some (2, .laload, 223, [], .null) := by decide +kernel
theorem t47_223 : am_T 47 223 = some (0, .ladd, 224, [], .null) := by decide +kernel
theorem t47_224 : am_T 47 224 = some (0, .lstore 5, 226, [], .null) := by decide +kernel
theorem t47_226 : am_T 47 226 = some (0, .iinc 7 1, 229, [], .int (1)) := by decide +kernel
theorem t47_229 : am_T 47 229 = some (1, .goto (-37), 232, [192], .null) := by decide +kernel
theorem t47_232 : am_T 47 232 = some (0, .lload 5, 234, [], .null) := by decide +kernel
theorem t47_234 : am_T 47 234 = some (4, .lreturn, 235, [], .null) := by decide +kernel
theorem t48_0 : am_T 48 0 = some (0, .iconst 0, 1, [], .int (0)) := by decide +kernel
theorem t48_1 : am_T 48 1 = some (0, .istore_n 3, 2, [], .null) := by decide +kernel
theorem t48_2 : am_T 48 2 = some (0, .iload_n 3, 3, [], .null) := by decide +kernel
theorem t48_3 : am_T 48 3 = some (0, .aload_n 0, 4, [], .null) := by decide +kernel
theorem t48_4 : am_T 48 4 = some (2, .getfield 14, 7, [3, 5], .null) := by decide +kernel
theorem t48_7 : am_T 48 7 = some (3, .invokevirtual 59, 10, [1, 4, 29], .null) := by decide +kernel
theorem t48_10 : am_T 48 10 = some (1, .if_icmp .ge 50, 13, [60], .null) := by decide +kernel
theorem t48_13 : am_T 48 13 = some (0, .aload_n 0, 14, [], .null) := by decide +kernel
theorem t48_14 : am_T 48 14 = some (2, .getfield 14, 17, [3, 5], .null) := by decide +kernel
theorem t48_17 : am_T 48 17 = some (0, .iload_n 3, 18, [], .null) := by decide +kernel
theorem t48_18 : am_T 48 18 = some (3, .invokevirtual 90, 21, [2, 4, 30], .null) := by decide +kernel
theorem t48_21 : am_T 48 21 = some (0, .iload_n 1, 22, [], .null) := by decide +kernel
theorem t48_22 : am_T 48 22 = some (1, .if_icmp .ne 32, 25, [54], .null) := by decide +kernel
theorem t48_25 : am_T 48 25 = some (0, .aload_n 0, 26, [], .null) := by decide +kernel
theorem t48_26 : am_T 48 26 = some (2, .getfield 44, 29, [0, 5], .null) := by decide +kernel
theorem t48_29 : am_T 48 29 = some (0, .iload_n 2, 30, [], .null) := by decide +kernel
theorem t48_30 : am_T 48 30 = some (0, .aload_n 0, 31, [], .null) := by decide +kernel
theorem t48_31 : am_T 48 31 = some (2, .getfield 20, 34, [4, 5], .null) := by decide +kernel
theorem t48_34 : am_T 48 34 = some (0, .iload_n 3, 35, [], .null) := by decide +kernel
theorem t48_35 : am_T 48 35 = some (3, .invokevirtual 90, 38, [2, 4, 30], .null) := by decide +kernel
theorem t48_38 : am_T 48 38 = some (3, .invokevirtual 151, 41, [3, 7, 77], .null) := by decide +kernel
theorem t48_41 : am_T 48 41 = some (0, .aload_n 0, 42, [], .null) := by decide +kernel
theorem t48_42 : am_T 48 42 = some (2, .getfield 23, 45, [5, 5], .null) := by decide +kernel
theorem t48_45 : am_T 48 45 = some (0, .iload_n 3, 46, [], .null) := by decide +kernel
theorem t48_46 : am_T 48 46 = some (3, .invokevirtual 90, 49, [2, 4, 30], .null) := by decide +kernel
theorem t48_49 : am_T 48 49 = some (1, .if_icmp .eq 5, 52, [54], .null) := by decide +kernel
theorem t48_52 : am_T 48 52 = some (0, .iconst 0, 53, [], .int (0)) := by decide +kernel
theorem t48_53 : am_T 48 53 = some (4, .ireturn, 54, [1], .null) := by decide +kernel
theorem t48_54 : am_T 48 54 = some (0, .iinc 3 1, 57, [], .int (1)) := by decide +kernel
theorem t48_57 : am_T 48 57 = some (1, .goto (-55), 60, [2], .null) := by decide +kernel
theorem t48_60 : am_T 48 60 = some (0, .iconst 1, 61, [], .int (1)) := by decide +kernel
theorem t48_61 : am_T 48 61 = some (4, .ireturn, 62, [1], .null) := by decide +kernel
theorem t49_0 : am_T 49 0 = some (0, .lconst 0, 1, [], .long 0) := by decide +kernel
theorem t49_1 : am_T 49 1 = some (0, .lstore_n 3, 2, [], .null) := by decide +kernel
theorem t49_2 : am_T 49 2 = some (0, .iconst 0, 3, [], .int (0)) := by decide +kernel
theorem t49_3 : am_T 49 3 = some (0, .istore 5, 5, [], .null) := by decide +kernel
theorem t49_5 : am_T 49 5 = some (0, .iload 5, 7, [], .null) := by decide +kernel
theorem t49_7 : am_T 49 7 = some (0, .aload_n 0, 8, [], .null) := by decide +kernel
theorem t49_8 : am_T 49 8 = some (2, .getfield 44, 11, [0, 5], .null) := by decide +kernel
theorem t49_11 : am_T 49 11 = some (3, .invokevirtual 78, 14, [1, 7, 76], .null) := by decide +kernel
theorem t49_14 : am_T 49 14 = some (1, .if_icmp .ge 55, 17, [69], .null) := by decide +kernel
theorem t49_17 : am_T 49 17 = some (0, .iload 5, 19, [], .null) := by decide +kernel
theorem t49_19 : am_T 49 19 = some (0, .aload_n 0, 20, [], .null) := by decide +kernel
theorem t49_20 : am_T 49 20 = some (2, .getfield 37, 23, [9, 5], .null) := by decide +kernel
theorem t49_23 : am_T 49 23 = some (2, .arraylength, 24, [], .null) := by decide +kernel
theorem t49_24 : am_T 49 24 = some (1, .if_icmp .ge 45, 27, [69], .null) := by decide +kernel
theorem t49_27 : am_T 49 27 = some (0, .aload_n 0, 28, [], .null) := by decide +kernel
theorem t49_28 : am_T 49 28 = some (2, .getfield 37, 31, [9, 5], .null) := by decide +kernel
theorem t49_31 : am_T 49 31 = some (0, .iload 5, 33, [], .null) := by decide +kernel
theorem t49_33 : am_T 49 33 = some (2, .laload, 34, [], .null) := by decide +kernel
theorem t49_34 : am_T 49 34 = some (0, .lconst 0, 35, [], .long 0) := by decide +kernel
theorem t49_35 : am_T 49 35 = some (0, .lcmp, 36, [], .null) := by decide +kernel
theorem t49_36 : am_T 49 36 = some (1, .ifCond .eq 27, 39, [63], .null) := by decide +kernel
theorem t49_39 : am_T 49 39 = some (0, .aload_n 0, 40, [], .null) := by decide +kernel
theorem t49_40 : am_T 49 40 = some (2, .getfield 52, 43, [2, 5], .null) := by decide +kernel
theorem t49_43 : am_T 49 43 = some (0, .iload 5, 45, [], .null) := by decide +kernel
theorem t49_45 : am_T 49 45 = some (0, .iload_n 1, 46, [], .null) := by decide +kernel
theorem t49_46 : am_T 49 46 = some (3, .invokevirtual 107, 49, [3, 6, 67], .null) := by decide +kernel
theorem t49_49 : am_T 49 49 = some (0, .iload_n 2, 50, [], .null) := by decide +kernel
theorem t49_50 : am_T 49 50 = some (1, .if_icmp .gt 13, 53, [63], .null) := by decide +kernel
theorem t49_53 : am_T 49 53 = some (0, .lload_n 3, 54, [], .null) := by decide +kernel
theorem t49_54 : am_T 49 54 = some (0, .aload_n 0, 55, [], .null) := by decide +kernel
theorem t49_55 : am_T 49 55 = some (2, .getfield 37, 58, [9, 5], .null) := by decide +kernel
theorem t49_58 : am_T 49 58 = some (0, .iload 5, 60, [], .null) := by decide +kernel
theorem t49_60 : am_T 49 60 = some (2, .laload, 61, [], .null) := by decide +kernel
theorem t49_61 : am_T 49 61 = some (0, .ladd, 62, [], .null) := by decide +kernel
theorem t49_62 : am_T 49 62 = some (0, .lstore_n 3, 63, [], .null) := by decide +kernel
theorem t49_63 : am_T 49 63 = some (0, .iinc 5 1, 66, [], .int (1)) := by decide +kernel
theorem t49_66 : am_T 49 66 = some (1, .goto (-61), 69, [5], .null) := by decide +kernel
theorem t49_69 : am_T 49 69 = some (0, .lload_n 3, 70, [], .null) := by decide +kernel
theorem t49_70 : am_T 49 70 = some (4, .lreturn, 71, [], .null) := by decide +kernel
theorem t50_0 : am_T 50 0 = some (0, .aload_n 0, 1, [], .null) := by decide +kernel
theorem t50_1 : am_T 50 1 = some (2, .invokespecial 3, 4, [], .null) := by decide +kernel
theorem t50_4 : am_T 50 4 = some (0, .aload_n 0, 5, [], .null) := by decide +kernel
theorem t50_5 : am_T 50 5 = some (0, .aconst_null, 6, [], .null) := by decide +kernel
theorem t50_6 : am_T 50 6 = some (2, .putfield 9, 9, [0, 2, 2, 3, 8, 10], .null) := by decide +kernel
theorem t50_9 : am_T 50 9 = some (0, .aload_n 0, 10, [], .null) := by decide +kernel
theorem t50_10 : am_T 50 10 = some (0, .iconst 0, 11, [], .int (0)) := by decide +kernel
theorem t50_11 : am_T 50 11 = some (2, .putfield 15, 14, [1, 0, 2, 3, 8, 10], .null) := by decide +kernel
theorem t50_14 : am_T 50 14 = some (0, .aload_n 0, 15, [], .null) := by decide +kernel
theorem t50_15 : am_T 50 15 = some (0, .iconst 0, 16, [], .int (0)) := by decide +kernel
theorem t50_16 : am_T 50 16 = some (2, .putfield 19, 19, [2, 0, 2, 3, 8, 10], .null) := by decide +kernel
theorem t50_19 : am_T 50 19 = some (0, .aload_n 0, 20, [], .null) := by decide +kernel
theorem t50_20 : am_T 50 20 = some (0, .iconst (-1), 21, [], .int (-1)) := by decide +kernel
theorem t50_21 : am_T 50 21 = some (2, .putfield 22, 24, [3, 0, 2, 3, 8, 10], .null) := by decide +kernel
theorem t50_24 : am_T 50 24 = some (4, .return_, 25, [], .null) := by decide +kernel
theorem t51_0 : am_T 51 0 = some (0, .aload_n 0, 1, [], .null) := by decide +kernel
theorem t51_1 : am_T 51 1 = some (0, .aload_n 1, 2, [], .null) := by decide +kernel
theorem t51_2 : am_T 51 2 = some (2, .putfield 9, 5, [0, 2, 2, 3, 8, 10], .null) := by decide +kernel
theorem t51_5 : am_T 51 5 = some (0, .aload_n 0, 6, [], .null) := by decide +kernel
theorem t51_6 : am_T 51 6 = some (0, .iconst (-1), 7, [], .int (-1)) := by decide +kernel
theorem t51_7 : am_T 51 7 = some (2, .putfield 15, 10, [1, 0, 2, 3, 8, 10], .null) := by decide +kernel
theorem t51_10 : am_T 51 10 = some (0, .aload_n 0, 11, [], .null) := by decide +kernel
theorem t51_11 : am_T 51 11 = some (0, .iconst (-1), 12, [], .int (-1)) := by decide +kernel
theorem t51_12 : am_T 51 12 = some (2, .putfield 22, 15, [3, 0, 2, 3, 8, 10], .null) := by decide +kernel
theorem t51_15 : am_T 51 15 = some (0, .aload_n 0, 16, [], .null) := by decide +kernel
theorem t51_16 : am_T 51 16 = some (3, .invokevirtual 25, 19, [1, 2, 53, 3, 53, 8, 53, 10, 53], .null) := by decide +kernel
theorem t51_19 : am_T 51 19 = some (4, .return_, 20, [], .null) := by decide +kernel
theorem t52_0 : am_T 52 0 = some (0, .aload_n 0, 1, [], .null) := by decide +kernel
theorem t52_1 : am_T 52 1 = some (2, .getfield 19, 4, [2, 2, 3, 8, 10], .null) := by decide +kernel
theorem t52_4 : am_T 52 4 = some (4, .ireturn, 5, [0], .null) := by decide +kernel
theorem t53_0 : am_T 53 0 = some (0, .aload_n 0, 1, [], .null) := by decide +kernel
theorem t53_1 : am_T 53 1 = some (2, .getfield 22, 4, [3, 2, 3, 8, 10], .null) := by decide +kernel
theorem t53_4 : am_T 53 4 = some (0, .iconst (-1), 5, [], .int (-1)) := by decide +kernel
theorem t53_5 : am_T 53 5 = some (1, .if_icmp .ne 10, 8, [15], .null) := by decide +kernel
theorem t53_8 : am_T 53 8 = some (0, .aload_n 0, 9, [], .null) := by decide +kernel
theorem t53_9 : am_T 53 9 = some (2, .getfield 9, 12, [0, 2, 3, 8, 10], .null) := by decide +kernel
theorem t53_12 : am_T 53 12 = some (1, .ifnonnull 4, 15, [16], .null) := by decide +kernel
theorem t53_15 : am_T 53 15 = some (4, .return_, 16, [], .null) := by decide +kernel
theorem t53_16 : am_T 53 16 = some (0, .aload_n 0, 17, [], .null) := by decide +kernel
theorem t53_17 : am_T 53 17 = some (0, .dup, 18, [], .null) := by decide +kernel
theorem t53_18 : am_T 53 18 = some (2, .getfield 15, 21, [1, 2, 3, 8, 10], .null) := by decide +kernel
theorem t53_21 : am_T 53 21 = some (0, .iconst 1, 22, [], .int (1)) := by decide +kernel
theorem t53_22 : am_T 53 22 = some (0, .iadd, 23, [], .null) := by decide +kernel
theorem t53_23 : am_T 53 23 = some (2, .putfield 15, 26, [1, 0, 2, 3, 8, 10], .null) := by decide +kernel
theorem t53_26 : am_T 53 26 = some (0, .aload_n 0, 27, [], .null) := by decide +kernel
theorem t53_27 : am_T 53 27 = some (2, .getfield 9, 30, [0, 2, 3, 8, 10], .null) := by decide +kernel
theorem t53_30 : am_T 53 30 = some (2, .getfield 28, 33, [1, 4], .null) := by decide +kernel
theorem t53_33 : am_T 53 33 = some (0, .aload_n 0, 34, [], .null) := by decide +kernel
theorem t53_34 : am_T 53 34 = some (2, .getfield 9, 37, [0, 2, 3, 8, 10], .null) := by decide +kernel
theorem t53_37 : am_T 53 37 = some (2, .getfield 33, 40, [0, 4], .null) := by decide +kernel
theorem t53_40 : am_T 53 40 = some (2, .arraylength, 41, [], .null) := by decide +kernel
theorem t53_41 : am_T 53 41 = some (2, .invokestatic 37, 44, [0], .null) := by decide +kernel
theorem t53_44 : am_T 53 44 = some (0, .istore_n 1, 45, [], .null) := by decide +kernel
theorem t53_45 : am_T 53 45 = some (0, .aload_n 0, 46, [], .null) := by decide +kernel
theorem t53_46 : am_T 53 46 = some (2, .getfield 15, 49, [1, 2, 3, 8, 10], .null) := by decide +kernel
theorem t53_49 : am_T 53 49 = some (1, .ifCond .lt 41, 52, [90], .null) := by decide +kernel
theorem t53_52 : am_T 53 52 = some (0, .aload_n 0, 53, [], .null) := by decide +kernel
theorem t53_53 : am_T 53 53 = some (2, .getfield 15, 56, [1, 2, 3, 8, 10], .null) := by decide +kernel
theorem t53_56 : am_T 53 56 = some (0, .iload_n 1, 57, [], .null) := by decide +kernel
theorem t53_57 : am_T 53 57 = some (1, .if_icmp .ge 33, 60, [90], .null) := by decide +kernel
theorem t53_60 : am_T 53 60 = some (0, .aload_n 0, 61, [], .null) := by decide +kernel
theorem t53_61 : am_T 53 61 = some (2, .getfield 9, 64, [0, 2, 3, 8, 10], .null) := by decide +kernel
theorem t53_64 : am_T 53 64 = some (2, .getfield 33, 67, [0, 4], .null) := by decide +kernel
theorem t53_67 : am_T 53 67 = some (0, .aload_n 0, 68, [], .null) := by decide +kernel
theorem t53_68 : am_T 53 68 = some (2, .getfield 15, 71, [1, 2, 3, 8, 10], .null) := by decide +kernel
theorem t53_71 : am_T 53 71 = some (2, .iaload, 72, [], .null) := by decide +kernel
theorem t53_72 : am_T 53 72 = some (0, .bipush 32, 74, [], .int (32)) := by decide +kernel
theorem t53_74 : am_T 53 74 = some (1, .if_icmp .ne 16, 77, [90], .null) := by decide +kernel
theorem t53_77 : am_T 53 77 = some (0, .aload_n 0, 78, [], .null) := by decide +kernel
theorem t53_78 : am_T 53 78 = some (0, .dup, 79, [], .null) := by decide +kernel
theorem t53_79 : am_T 53 79 = some (2, .getfield 15, 82, [1, 2, 3, 8, 10], .null) := by decide +kernel
theorem t53_82 : am_T 53 82 = some (0, .iconst 1, 83, [], .int (1)) := by decide +kernel
theorem t53_83 : am_T 53 83 = some (0, .iadd, 84, [], .null) := by decide +kernel
theorem t53_84 : am_T 53 84 = some (2, .putfield 15, 87, [1, 0, 2, 3, 8, 10], .null) := by decide +kernel
theorem t53_87 : am_T 53 87 = some (1, .goto (-42), 90, [45], .null) := by decide +kernel
theorem t53_90 : am_T 53 90 = some (0, .aload_n 0, 91, [], .null) := by decide +kernel
theorem t53_91 : am_T 53 91 = some (0, .aload_n 0, 92, [], .null) := by decide +kernel
theorem t53_92 : am_T 53 92 = some (2, .getfield 15, 95, [1, 2, 3, 8, 10], .null) := by decide +kernel
theorem t53_95 : am_T 53 95 = some (1, .ifCond .lt 26, 98, [121], .null) := by decide +kernel
theorem t53_98 : am_T 53 98 = some (0, .aload_n 0, 99, [], .null) := by decide +kernel
theorem t53_99 : am_T 53 99 = some (2, .getfield 15, 102, [1, 2, 3, 8, 10], .null) := by decide +kernel
theorem t53_102 : am_T 53 102 = some (0, .iload_n 1, 103, [], .null) := by decide +kernel
theorem t53_103 : am_T 53 103 = some (1, .if_icmp .ge 18, 106, [121], .null) := by decide +kernel
theorem t53_106 : am_T 53 106 = some (0, .aload_n 0, 107, [], .null) := by decide +kernel
theorem t53_107 : am_T 53 107 = some (2, .getfield 9, 110, [0, 2, 3, 8, 10], .null) := by decide +kernel
theorem t53_110 : am_T 53 110 = some (2, .getfield 33, 113, [0, 4], .null) := by decide +kernel
theorem t53_113 : am_T 53 113 = some (0, .aload_n 0, 114, [], .null) := by decide +kernel
theorem t53_114 : am_T 53 114 = some (2, .getfield 15, 117, [1, 2, 3, 8, 10], .null) := by decide +kernel
theorem t53_117 : am_T 53 117 = some (2, .iaload, 118, [], .null) := by decide +kernel
theorem t53_118 : am_T 53 118 = some (1, .goto 4, 121, [122], .null) := by decide +kernel
theorem t53_121 : am_T 53 121 = some (0, .iconst 0, 122, [], .int (0)) := by decide +kernel
theorem t53_122 : am_T 53 122 = some (2, .putfield 19, 125, [2, 0, 2, 3, 8, 10], .null) := by decide +kernel
theorem t53_125 : am_T 53 125 = some (4, .return_, 126, [], .null) := by decide +kernel
theorem t54_0 : am_T 54 0 = some (0, .aload_n 0, 1, [], .null) := by decide +kernel
theorem t54_1 : am_T 54 1 = some (2, .getfield 15, 4, [1, 2, 3, 8, 10], .null) := by decide +kernel
theorem t54_4 : am_T 54 4 = some (0, .iconst 1, 5, [], .int (1)) := by decide +kernel
theorem t54_5 : am_T 54 5 = some (0, .iadd, 6, [], .null) := by decide +kernel
theorem t54_6 : am_T 54 6 = some (0, .istore_n 1, 7, [], .null) := by decide +kernel
theorem t54_7 : am_T 54 7 = some (0, .aload_n 0, 8, [], .null) := by decide +kernel
theorem t54_8 : am_T 54 8 = some (2, .getfield 9, 11, [0, 2, 3, 8, 10], .null) := by decide +kernel
theorem t54_11 : am_T 54 11 = some (1, .ifnull 62, 14, [73], .null) := by decide +kernel
theorem t54_14 : am_T 54 14 = some (0, .iload_n 1, 15, [], .null) := by decide +kernel
theorem t54_15 : am_T 54 15 = some (1, .ifCond .lt 58, 18, [73], .null) := by decide +kernel
theorem t54_18 : am_T 54 18 = some (0, .iload_n 1, 19, [], .null) := by decide +kernel
theorem t54_19 : am_T 54 19 = some (0, .aload_n 0, 20, [], .null) := by decide +kernel
theorem t54_20 : am_T 54 20 = some (2, .getfield 9, 23, [0, 2, 3, 8, 10], .null) := by decide +kernel
theorem t54_23 : am_T 54 23 = some (2, .getfield 28, 26, [1, 4], .null) := by decide +kernel
theorem t54_26 : am_T 54 26 = some (1, .if_icmp .ge 47, 29, [73], .null) := by decide +kernel
theorem t54_29 : am_T 54 29 = some (0, .iload_n 1, 30, [], .null) := by decide +kernel
theorem t54_30 : am_T 54 30 = some (0, .aload_n 0, 31, [], .null) := by decide +kernel
theorem t54_31 : am_T 54 31 = some (2, .getfield 9, 34, [0, 2, 3, 8, 10], .null) := by decide +kernel
theorem t54_34 : am_T 54 34 = some (2, .getfield 33, 37, [0, 4], .null) := by decide +kernel
theorem t54_37 : am_T 54 37 = some (2, .arraylength, 38, [], .null) := by decide +kernel
theorem t54_38 : am_T 54 38 = some (1, .if_icmp .ge 35, 41, [73], .null) := by decide +kernel
theorem t54_41 : am_T 54 41 = some (0, .aload_n 0, 42, [], .null) := by decide +kernel
theorem t54_42 : am_T 54 42 = some (2, .getfield 9, 45, [0, 2, 3, 8, 10], .null) := by decide +kernel
theorem t54_45 : am_T 54 45 = some (2, .getfield 33, 48, [0, 4], .null) := by decide +kernel
theorem t54_48 : am_T 54 48 = some (0, .iload_n 1, 49, [], .null) := by decide +kernel
theorem t54_49 : am_T 54 49 = some (2, .iaload, 50, [], .null) := by decide +kernel
theorem t54_50 : am_T 54 50 = some (0, .bipush 48, 52, [], .int (48)) := by decide +kernel
theorem t54_52 : am_T 54 52 = some (1, .if_icmp .lt 21, 55, [73], .null) := by decide +kernel
theorem t54_55 : am_T 54 55 = some (0, .aload_n 0, 56, [], .null) := by decide +kernel
theorem t54_56 : am_T 54 56 = some (2, .getfield 9, 59, [0, 2, 3, 8, 10], .null) := by decide +kernel
theorem t54_59 : am_T 54 59 = some (2, .getfield 33, 62, [0, 4], .null) := by decide +kernel
theorem t54_62 : am_T 54 62 = some (0, .iload_n 1, 63, [], .null) := by decide +kernel
theorem t54_63 : am_T 54 63 = some (2, .iaload, 64, [], .null) := by decide +kernel
theorem t54_64 : am_T 54 64 = some (0, .bipush 57, 66, [], .int (57)) := by decide +kernel
theorem t54_66 : am_T 54 66 = some (1, .if_icmp .gt 7, 69, [73], .null) := by decide +kernel
theorem t54_69 : am_T 54 69 = some (0, .iconst 1, 70, [], .int (1)) := by decide +kernel
theorem t54_70 : am_T 54 70 = some (1, .goto 4, 73, [74], .null) := by decide +kernel
theorem t54_73 : am_T 54 73 = some (0, .iconst 0, 74, [], .int (0)) := by decide +kernel
theorem t54_74 : am_T 54 74 = some (4, .ireturn, 75, [1], .null) := by decide +kernel
theorem t55_0 : am_T 55 0 = some (0, .aload_n 0, 1, [], .null) := by decide +kernel
theorem t55_1 : am_T 55 1 = some (2, .getfield 19, 4, [2, 2, 3, 8, 10], .null) := by decide +kernel
theorem t55_4 : am_T 55 4 = some (0, .iload_n 1, 5, [], .null) := by decide +kernel
theorem t55_5 : am_T 55 5 = some (1, .if_icmp .eq 5, 8, [10], .null) := by decide +kernel
theorem t55_8 : am_T 55 8 = some (0, .iconst 0, 9, [], .int (0)) := by decide +kernel
theorem t55_9 : am_T 55 9 = some (4, .ireturn, 10, [1], .null) := by decide +kernel
theorem t55_10 : am_T 55 10 = some (0, .aload_n 0, 11, [], .null) := by decide +kernel
theorem t55_11 : am_T 55 11 = some (3, .invokevirtual 25, 14, [1, 2, 53, 3, 53, 8, 53, 10, 53], .null) := by decide +kernel
theorem t55_14 : am_T 55 14 = some (0, .iconst 1, 15, [], .int (1)) := by decide +kernel
theorem t55_15 : am_T 55 15 = some (4, .ireturn, 16, [1], .null) := by decide +kernel
theorem t56_0 : am_T 56 0 = some (0, .aload_n 0, 1, [], .null) := by decide +kernel
theorem t56_1 : am_T 56 1 = some (2, .getfield 19, 4, [2, 2, 3, 8, 10], .null) := by decide +kernel
theorem t56_4 : am_T 56 4 = some (0, .iload_n 1, 5, [], .null) := by decide +kernel
theorem t56_5 : am_T 56 5 = some (1, .if_icmp .ne 10, 8, [15], .null) := by decide +kernel
theorem t56_8 : am_T 56 8 = some (0, .aload_n 0, 9, [], .null) := by decide +kernel
theorem t56_9 : am_T 56 9 = some (3, .invokevirtual 25, 12, [1, 2, 53, 3, 53, 8, 53, 10, 53], .null) := by decide +kernel
theorem t56_12 : am_T 56 12 = some (1, .goto 7, 15, [19], .null) := by decide +kernel
theorem t56_15 : am_T 56 15 = some (0, .aload_n 0, 16, [], .null) := by decide +kernel
theorem t56_16 : am_T 56 16 = some (3, .invokevirtual 43, 19, [1, 2, 59, 3, 59, 8, 59, 10, 59], .null) := by decide +kernel
theorem t56_19 : am_T 56 19 = some (4, .return_, 20, [], .null) := by decide +kernel
theorem t57_0 : am_T 57 0 = some (0, .aload_n 0, 1, [], .null) := by decide +kernel
theorem t57_1 : am_T 57 1 = some (2, .getfield 19, 4, [2, 2, 3, 8, 10], .null) := by decide +kernel
theorem t57_4 : am_T 57 4 = some (0, .bipush 48, 6, [], .int (48)) := by decide +kernel
theorem t57_6 : am_T 57 6 = some (0, .isub, 7, [], .null) := by decide +kernel
theorem t57_7 : am_T 57 7 = some (0, .istore_n 3, 8, [], .null) := by decide +kernel
theorem t57_8 : am_T 57 8 = some (0, .iload_n 3, 9, [], .null) := by decide +kernel
theorem t57_9 : am_T 57 9 = some (0, .iload_n 1, 10, [], .null) := by decide +kernel
theorem t57_10 : am_T 57 10 = some (1, .if_icmp .lt 8, 13, [18], .null) := by decide +kernel
theorem t57_13 : am_T 57 13 = some (0, .iload_n 3, 14, [], .null) := by decide +kernel
theorem t57_14 : am_T 57 14 = some (0, .iload_n 2, 15, [], .null) := by decide +kernel
theorem t57_15 : am_T 57 15 = some (1, .if_icmp .le 9, 18, [24], .null) := by decide +kernel
theorem t57_18 : am_T 57 18 = some (0, .aload_n 0, 19, [], .null) := by decide +kernel
theorem t57_19 : am_T 57 19 = some (3, .invokevirtual 43, 22, [1, 2, 59, 3, 59, 8, 59, 10, 59], .null) := by decide +kernel
theorem t57_22 : am_T 57 22 = some (0, .iload_n 1, 23, [], .null) := by decide +kernel
theorem t57_23 : am_T 57 23 = some (4, .ireturn, 24, [0], .null) := by decide +kernel
theorem t57_24 : am_T 57 24 = some (0, .aload_n 0, 25, [], .null) := by decide +kernel
theorem t57_25 : am_T 57 25 = some (3, .invokevirtual 25, 28, [1, 2, 53, 3, 53, 8, 53, 10, 53], .null) := by decide +kernel
theorem t57_28 : am_T 57 28 = some (0, .iload_n 3, 29, [], .null) := by decide +kernel
theorem t57_29 : am_T 57 29 = some (4, .ireturn, 30, [0], .null) := by decide +kernel
theorem t58_0 : am_T 58 0 = some (0, .aload_n 0, 1, [], .null) := by decide +kernel
theorem t58_1 : am_T 58 1 = some (2, .getfield 19, 4, [2, 2, 3, 8, 10], .null) := by decide +kernel
theorem t58_4 : am_T 58 4 = some (0, .bipush 97, 6, [], .int (97)) := by decide +kernel
theorem t58_6 : am_T 58 6 = some (0, .isub, 7, [], .null) := by decide +kernel
theorem t58_7 : am_T 58 7 = some (0, .istore_n 1, 8, [], .null) := by decide +kernel
theorem t58_8 : am_T 58 8 = some (0, .iload_n 1, 9, [], .null) := by decide +kernel
theorem t58_9 : am_T 58 9 = some (3, .invokestatic 46, 12, [1, 132], .null) := by decide +kernel
theorem t58_12 : am_T 58 12 = some (1, .ifCond .ne 9, 15, [21], .null) := by decide +kernel
theorem t58_15 : am_T 58 15 = some (0, .aload_n 0, 16, [], .null) := by decide +kernel
theorem t58_16 : am_T 58 16 = some (3, .invokevirtual 43, 19, [1, 2, 59, 3, 59, 8, 59, 10, 59], .null) := by decide +kernel
theorem t58_19 : am_T 58 19 = some (0, .iconst 0, 20, [], .int (0)) := by decide +kernel
theorem t58_20 : am_T 58 20 = some (4, .ireturn, 21, [0], .null) := by decide +kernel
theorem t58_21 : am_T 58 21 = some (0, .aload_n 0, 22, [], .null) := by decide +kernel
theorem t58_22 : am_T 58 22 = some (3, .invokevirtual 25, 25, [1, 2, 53, 3, 53, 8, 53, 10, 53], .null) := by decide +kernel
theorem t58_25 : am_T 58 25 = some (0, .iload_n 1, 26, [], .null) := by decide +kernel
theorem t58_26 : am_T 58 26 = some (4, .ireturn, 27, [0], .null) := by decide +kernel
theorem t59_0 : am_T 59 0 = some (0, .aload_n 0, 1, [], .null) := by decide +kernel
theorem t59_1 : am_T 59 1 = some (2, .getfield 22, 4, [3, 2, 3, 8, 10], .null) := by decide +kernel
theorem t59_4 : am_T 59 4 = some (0, .iconst (-1), 5, [], .int (-1)) := by decide +kernel
theorem t59_5 : am_T 59 5 = some (1, .if_icmp .ne 11, 8, [16], .null) := by decide +kernel
theorem t59_8 : am_T 59 8 = some (0, .aload_n 0, 9, [], .null) := by decide +kernel
theorem t59_9 : am_T 59 9 = some (0, .aload_n 0, 10, [], .null) := by decide +kernel
theorem t59_10 : am_T 59 10 = some (2, .getfield 15, 13, [1, 2, 3, 8, 10], .null) := by decide +kernel
theorem t59_13 : am_T 59 13 = some (2, .putfield 22, 16, [3, 0, 2, 3, 8, 10], .null) := by decide +kernel
theorem t59_16 : am_T 59 16 = some (0, .aload_n 0, 17, [], .null) := by decide +kernel
theorem t59_17 : am_T 59 17 = some (0, .iconst 0, 18, [], .int (0)) := by decide +kernel
theorem t59_18 : am_T 59 18 = some (2, .putfield 19, 21, [2, 0, 2, 3, 8, 10], .null) := by decide +kernel
theorem t59_21 : am_T 59 21 = some (4, .return_, 22, [], .null) := by decide +kernel
theorem t60_0 : am_T 60 0 = some (0, .aload_n 0, 1, [], .null) := by decide +kernel
theorem t60_1 : am_T 60 1 = some (2, .getfield 19, 4, [2, 2, 3, 8, 10], .null) := by decide +kernel
theorem t60_4 : am_T 60 4 = some (1, .ifCond .eq 7, 7, [11], .null) := by decide +kernel
theorem t60_7 : am_T 60 7 = some (0, .aload_n 0, 8, [], .null) := by decide +kernel
theorem t60_8 : am_T 60 8 = some (3, .invokevirtual 43, 11, [1, 2, 59, 3, 59, 8, 59, 10, 59], .null) := by decide +kernel
theorem t60_11 : am_T 60 11 = some (0, .aload_n 0, 12, [], .null) := by decide +kernel
theorem t60_12 : am_T 60 12 = some (2, .getfield 22, 15, [3, 2, 3, 8, 10], .null) := by decide +kernel
theorem t60_15 : am_T 60 15 = some (4, .ireturn, 16, [0], .null) := by decide +kernel
theorem t61_0 : am_T 61 0 = some (0, .aload_n 0, 1, [], .null) := by decide +kernel
theorem t61_1 : am_T 61 1 = some (2, .invokespecial 5, 4, [], .null) := by decide +kernel
theorem t61_4 : am_T 61 4 = some (0, .aload_n 0, 5, [], .null) := by decide +kernel
theorem t61_5 : am_T 61 5 = some (2, .new 11, 8, [4, 2], .null) := by decide +kernel
theorem t61_8 : am_T 61 8 = some (0, .dup, 9, [], .null) := by decide +kernel
theorem t61_9 : am_T 61 9 = some (0, .bipush 10, 11, [], .int (10)) := by decide +kernel
theorem t61_11 : am_T 61 11 = some (3, .invokespecial 13, 14, [2, 28], .null) := by decide +kernel
theorem t61_14 : am_T 61 14 = some (2, .putfield 16, 17, [2, 2, 6], .null) := by decide +kernel
theorem t61_17 : am_T 61 17 = some (0, .aload_n 0, 18, [], .null) := by decide +kernel
theorem t61_18 : am_T 61 18 = some (2, .new 11, 21, [4, 2], .null) := by decide +kernel
theorem t61_21 : am_T 61 21 = some (0, .dup, 22, [], .null) := by decide +kernel
theorem t61_22 : am_T 61 22 = some (0, .sipush 243, 25, [], .int (243)) := by decide +kernel
theorem t61_25 : am_T 61 25 = some (3, .invokespecial 13, 28, [2, 28], .null) := by decide +kernel
theorem t61_28 : am_T 61 28 = some (2, .putfield 22, 31, [3, 2, 6], .null) := by decide +kernel
theorem t61_31 : am_T 61 31 = some (0, .aload_n 0, 32, [], .null) := by decide +kernel
theorem t61_32 : am_T 61 32 = some (2, .new 11, 35, [4, 2], .null) := by decide +kernel
theorem t61_35 : am_T 61 35 = some (0, .dup, 36, [], .null) := by decide +kernel
theorem t61_36 : am_T 61 36 = some (0, .sipush 243, 39, [], .int (243)) := by decide +kernel
theorem t61_39 : am_T 61 39 = some (3, .invokespecial 13, 42, [2, 28], .null) := by decide +kernel
theorem t61_42 : am_T 61 42 = some (2, .putfield 25, 45, [4, 2, 6], .null) := by decide +kernel
theorem t61_45 : am_T 61 45 = some (0, .aload_n 0, 46, [], .null) := by decide +kernel
theorem t61_46 : am_T 61 46 = some (2, .new 11, 49, [4, 2], .null) := by decide +kernel
theorem t61_49 : am_T 61 49 = some (0, .dup, 50, [], .null) := by decide +kernel
theorem t61_50 : am_T 61 50 = some (0, .sipush 243, 53, [], .int (243)) := by decide +kernel
theorem t61_53 : am_T 61 53 = some (3, .invokespecial 13, 56, [2, 28], .null) := by decide +kernel
theorem t61_56 : am_T 61 56 = some (2, .putfield 28, 59, [5, 2, 6], .null) := by decide +kernel
theorem t61_59 : am_T 61 59 = some (0, .aload_n 0, 60, [], .null) := by decide +kernel
theorem t61_60 : am_T 61 60 = some (2, .new 11, 63, [4, 2], .null) := by decide +kernel
theorem t61_63 : am_T 61 63 = some (0, .dup, 64, [], .null) := by decide +kernel
theorem t61_64 : am_T 61 64 = some (0, .sipush 7382, 67, [], .int (7382)) := by decide +kernel
theorem t61_67 : am_T 61 67 = some (3, .invokespecial 13, 70, [2, 28], .null) := by decide +kernel
theorem t61_70 : am_T 61 70 = some (2, .putfield 31, 73, [6, 2, 6], .null) := by decide +kernel
theorem t61_73 : am_T 61 73 = some (0, .aload_n 0, 74, [], .null) := by decide +kernel
theorem t61_74 : am_T 61 74 = some (0, .aload_n 1, 75, [], .null) := by decide +kernel
theorem t61_75 : am_T 61 75 = some (2, .putfield 34, 78, [0, 2, 6], .null) := by decide +kernel
theorem t61_78 : am_T 61 78 = some (0, .aload_n 0, 79, [], .null) := by decide +kernel
theorem t61_79 : am_T 61 79 = some (0, .aload_n 2, 80, [], .null) := by decide +kernel
theorem t61_80 : am_T 61 80 = some (2, .putfield 38, 83, [1, 2, 6], .null) := by decide +kernel
theorem t61_83 : am_T 61 83 = some (4, .return_, 84, [], .null) := by decide +kernel
theorem t62_0 : am_T 62 0 = some (0, .aload_n 0, 1, [], .null) := by decide +kernel
theorem t62_1 : am_T 62 1 = some (2, .getfield 28, 4, [5, 6], .null) := by decide +kernel
theorem t62_4 : am_T 62 4 = some (0, .iconst 0, 5, [], .int (0)) := by decide +kernel
theorem t62_5 : am_T 62 5 = some (3, .invokevirtual 42, 8, [2, 4, 32], .null) := by decide +kernel
theorem t62_8 : am_T 62 8 = some (4, .return_, 9, [], .null) := by decide +kernel
theorem t63_0 : am_T 63 0 = some (0, .aload_n 0, 1, [], .null) := by decide +kernel
theorem t63_1 : am_T 63 1 = some (2, .getfield 16, 4, [2, 6], .null) := by decide +kernel
theorem t63_4 : am_T 63 4 = some (0, .iload_n 1, 5, [], .null) := by decide +kernel
theorem t63_5 : am_T 63 5 = some (0, .iconst 2, 6, [], .int (2)) := by decide +kernel
theorem t63_6 : am_T 63 6 = some (0, .imul, 7, [], .null) := by decide +kernel
theorem t63_7 : am_T 63 7 = some (0, .iload_n 2, 8, [], .null) := by decide +kernel
theorem t63_8 : am_T 63 8 = some (0, .iadd, 9, [], .null) := by decide +kernel
theorem t63_9 : am_T 63 9 = some (0, .iconst 1, 10, [], .int (1)) := by decide +kernel
theorem t63_10 : am_T 63 10 = some (0, .isub, 11, [], .null) := by decide +kernel
theorem t63_11 : am_T 63 11 = some (0, .iload_n 3, 12, [], .null) := by decide +kernel
theorem t63_12 : am_T 63 12 = some (3, .invokevirtual 45, 15, [3, 4, 31], .null) := by decide +kernel
theorem t63_15 : am_T 63 15 = some (4, .return_, 16, [], .null) := by decide +kernel
theorem t64_0 : am_T 64 0 = some (0, .aload_n 0, 1, [], .null) := by decide +kernel
theorem t64_1 : am_T 64 1 = some (2, .getfield 22, 4, [3, 6], .null) := by decide +kernel
theorem t64_4 : am_T 64 4 = some (0, .bipush 15, 6, [], .int (15)) := by decide +kernel
theorem t64_6 : am_T 64 6 = some (3, .invokevirtual 42, 9, [2, 4, 32], .null) := by decide +kernel
theorem t64_9 : am_T 64 9 = some (0, .aload_n 0, 10, [], .null) := by decide +kernel
theorem t64_10 : am_T 64 10 = some (2, .getfield 25, 13, [4, 6], .null) := by decide +kernel
theorem t64_13 : am_T 64 13 = some (0, .iconst 0, 14, [], .int (0)) := by decide +kernel
theorem t64_14 : am_T 64 14 = some (3, .invokevirtual 49, 17, [2, 4, 34], .null) := by decide +kernel
theorem t64_17 : am_T 64 17 = some (0, .aload_n 0, 18, [], .null) := by decide +kernel
theorem t64_18 : am_T 64 18 = some (2, .getfield 38, 21, [1, 6], .null) := by decide +kernel
theorem t64_21 : am_T 64 21 = some (0, .iload_n 1, 22, [], .null) := by decide +kernel
theorem t64_22 : am_T 64 22 = some (3, .invokevirtual 52, 25, [2, 9, 103], .null) := by decide +kernel
theorem t64_25 : am_T 64 25 = some (1, .ifCond .eq 21, 28, [46], .null) := by decide +kernel
theorem t64_28 : am_T 64 28 = some (0, .aload_n 0, 29, [], .null) := by decide +kernel
theorem t64_29 : am_T 64 29 = some (2, .getfield 22, 32, [3, 6], .null) := by decide +kernel
theorem t64_32 : am_T 64 32 = some (0, .iload_n 1, 33, [], .null) := by decide +kernel
theorem t64_33 : am_T 64 33 = some (0, .iconst 0, 34, [], .int (0)) := by decide +kernel
theorem t64_34 : am_T 64 34 = some (3, .invokevirtual 45, 37, [3, 4, 31], .null) := by decide +kernel
theorem t64_37 : am_T 64 37 = some (0, .aload_n 0, 38, [], .null) := by decide +kernel
theorem t64_38 : am_T 64 38 = some (2, .getfield 25, 41, [4, 6], .null) := by decide +kernel
theorem t64_41 : am_T 64 41 = some (0, .iload_n 1, 42, [], .null) := by decide +kernel
theorem t64_42 : am_T 64 42 = some (3, .invokevirtual 58, 45, [2, 4, 33], .null) := by decide +kernel
theorem t64_45 : am_T 64 45 = some (0, .pop, 46, [], .null) := by decide +kernel
theorem t64_46 : am_T 64 46 = some (0, .iconst 0, 47, [], .int (0)) := by decide +kernel
theorem t64_47 : am_T 64 47 = some (0, .istore_n 3, 48, [], .null) := by decide +kernel
theorem t64_48 : am_T 64 48 = some (0, .iload_n 3, 49, [], .null) := by decide +kernel
theorem t64_49 : am_T 64 49 = some (0, .sipush 243, 52, [], .int (243)) := by decide +kernel
theorem t64_52 : am_T 64 52 = some (1, .if_icmp .ge 137, 55, [189], .null) := by decide +kernel
theorem t64_55 : am_T 64 55 = some (0, .iload_n 3, 56, [], .null) := by decide +kernel
theorem t64_56 : am_T 64 56 = some (0, .aload_n 0, 57, [], .null) := by decide +kernel
theorem t64_57 : am_T 64 57 = some (2, .getfield 25, 60, [4, 6], .null) := by decide +kernel
theorem t64_60 : am_T 64 60 = some (3, .invokevirtual 61, 63, [1, 4, 29], .null) := by decide +kernel
theorem t64_63 : am_T 64 63 = some (1, .if_icmp .ge 126, 66, [189], .null) := by decide +kernel
theorem t64_66 : am_T 64 66 = some (0, .aload_n 0, 67, [], .null) := by decide +kernel
theorem t64_67 : am_T 64 67 = some (2, .getfield 25, 70, [4, 6], .null) := by decide +kernel
theorem t64_70 : am_T 64 70 = some (0, .iload_n 3, 71, [], .null) := by decide +kernel
theorem t64_71 : am_T 64 71 = some (3, .invokevirtual 65, 74, [2, 4, 30], .null) := by decide +kernel
theorem t64_74 : am_T 64 74 = some (0, .istore 4, 76, [], .null) := by decide +kernel
theorem t64_76 : am_T 64 76 = some (0, .iconst 0, 77, [], .int (0)) := by decide +kernel
theorem t64_77 : am_T 64 77 = some (0, .istore 5, 79, [], .null) := by decide +kernel
theorem t64_79 : am_T 64 79 = some (0, .iload 5, 81, [], .null) := by decide +kernel
theorem t64_81 : am_T 64 81 = some (0, .aload_n 0, 82, [], .null) := by decide +kernel
theorem t64_82 : am_T 64 82 = some (2, .getfield 34, 85, [0, 6], .null) := by decide +kernel
theorem t64_85 : am_T 64 85 = some (0, .iload 4, 87, [], .null) := by decide +kernel
theorem t64_87 : am_T 64 87 = some (3, .invokevirtual 69, 90, [2, 7, 81], .null) := by decide +kernel
theorem t64_90 : am_T 64 90 = some (1, .if_icmp .ge 93, 93, [183], .null) := by decide +kernel
theorem t64_93 : am_T 64 93 = some (0, .aload_n 0, 94, [], .null) := by decide +kernel
theorem t64_94 : am_T 64 94 = some (2, .getfield 34, 97, [0, 6], .null) := by decide +kernel
theorem t64_97 : am_T 64 97 = some (0, .iload 4, 99, [], .null) := by decide +kernel
theorem t64_99 : am_T 64 99 = some (0, .iload 5, 101, [], .null) := by decide +kernel
theorem t64_101 : am_T 64 101 = some (3, .invokevirtual 72, 104, [3, 7, 82], .null) := by decide +kernel
theorem t64_104 : am_T 64 104 = some (0, .istore 6, 106, [], .null) := by decide +kernel
theorem t64_106 : am_T 64 106 = some (0, .aload_n 0, 107, [], .null) := by decide +kernel
theorem t64_107 : am_T 64 107 = some (2, .getfield 22, 110, [3, 6], .null) := by decide +kernel
theorem t64_110 : am_T 64 110 = some (0, .iload 6, 112, [], .null) := by decide +kernel
theorem t64_112 : am_T 64 112 = some (3, .invokevirtual 65, 115, [2, 4, 30], .null) := by decide +kernel
theorem t64_115 : am_T 64 115 = some (0, .bipush 15, 117, [], .int (15)) := by decide +kernel
theorem t64_117 : am_T 64 117 = some (1, .if_icmp .ne 60, 120, [177], .null) := by decide +kernel
theorem t64_120 : am_T 64 120 = some (0, .aload_n 0, 121, [], .null) := by decide +kernel
theorem t64_121 : am_T 64 121 = some (2, .getfield 38, 124, [1, 6], .null) := by decide +kernel
theorem t64_124 : am_T 64 124 = some (0, .iload 6, 126, [], .null) := by decide +kernel
theorem t64_126 : am_T 64 126 = some (3, .invokevirtual 52, 129, [2, 9, 103], .null) := by decide +kernel
theorem t64_129 : am_T 64 129 = some (1, .ifCond .eq 48, 132, [177], .null) := by decide +kernel
theorem t64_132 : am_T 64 132 = some (0, .iload_n 2, 133, [], .null) := by decide +kernel
theorem t64_133 : am_T 64 133 = some (1, .ifCond .eq 14, 136, [147], .null) := by decide +kernel
theorem t64_136 : am_T 64 136 = some (0, .aload_n 0, 137, [], .null) := by decide +kernel
theorem t64_137 : am_T 64 137 = some (0, .iload 4, 139, [], .null) := by decide +kernel
theorem t64_139 : am_T 64 139 = some (0, .iload 6, 141, [], .null) := by decide +kernel
theorem t64_141 : am_T 64 141 = some (3, .invokevirtual 76, 144, [3, 6, 65], .null) := by decide +kernel
theorem t64_144 : am_T 64 144 = some (1, .ifCond .eq 33, 147, [177], .null) := by decide +kernel
theorem t64_147 : am_T 64 147 = some (0, .aload_n 0, 148, [], .null) := by decide +kernel
theorem t64_148 : am_T 64 148 = some (2, .getfield 22, 151, [3, 6], .null) := by decide +kernel
theorem t64_151 : am_T 64 151 = some (0, .iload 6, 153, [], .null) := by decide +kernel
theorem t64_153 : am_T 64 153 = some (0, .aload_n 0, 154, [], .null) := by decide +kernel
theorem t64_154 : am_T 64 154 = some (2, .getfield 22, 157, [3, 6], .null) := by decide +kernel
theorem t64_157 : am_T 64 157 = some (0, .iload 4, 159, [], .null) := by decide +kernel
theorem t64_159 : am_T 64 159 = some (3, .invokevirtual 65, 162, [2, 4, 30], .null) := by decide +kernel
theorem t64_162 : am_T 64 162 = some (0, .iconst 1, 163, [], .int (1)) := by decide +kernel
theorem t64_163 : am_T 64 163 = some (0, .iadd, 164, [], .null) := by decide +kernel
theorem t64_164 : am_T 64 164 = some (3, .invokevirtual 45, 167, [3, 4, 31], .null) := by decide +kernel
theorem t64_167 : am_T 64 167 = some (0, .aload_n 0, 168, [], .null) := by decide +kernel
theorem t64_168 : am_T 64 168 = some (2, .getfield 25, 171, [4, 6], .null) := by decide +kernel
theorem t64_171 : am_T 64 171 = some (0, .iload 6, 173, [], .null) := by decide +kernel
theorem t64_173 : am_T 64 173 = some (3, .invokevirtual 58, 176, [2, 4, 33], .null) := by decide +kernel
theorem t64_176 : am_T 64 176 = some (0, .pop, 177, [], .null) := by decide +kernel
theorem t64_177 : am_T 64 177 = some (0, .iinc 5 1, 180, [], .int (1)) := by decide +kernel
theorem t64_180 : am_T 64 180 = some (1, .goto (-101), 183, [79], .null) := by decide +kernel
theorem t64_183 : am_T 64 183 = some (0, .iinc 3 1, 186, [], .int (1)) := by decide +kernel
theorem t64_186 : am_T 64 186 = some (1, .goto (-138), 189, [48], .null) := by decide +kernel
theorem t64_189 : am_T 64 189 = some (4, .return_, 190, [], .null) := by decide +kernel
theorem t65_0 : am_T 65 0 = some (0, .iconst (-1), 1, [], .int (-1)) := by decide +kernel
theorem t65_1 : am_T 65 1 = some (0, .istore_n 3, 2, [], .null) := by decide +kernel
theorem t65_2 : am_T 65 2 = some (0, .iconst (-1), 3, [], .int (-1)) := by decide +kernel
theorem t65_3 : am_T 65 3 = some (0, .istore 4, 5, [], .null) := by decide +kernel
theorem t65_5 : am_T 65 5 = some (0, .iconst 0, 6, [], .int (0)) := by decide +kernel
theorem t65_6 : am_T 65 6 = some (0, .istore 5, 8, [], .null) := by decide +kernel
theorem t65_8 : am_T 65 8 = some (0, .iconst 0, 9, [], .int (0)) := by decide +kernel
theorem t65_9 : am_T 65 9 = some (0, .istore 6, 11, [], .null) := by decide +kernel
theorem t65_11 : am_T 65 11 = some (0, .iload 6, 13, [], .null) := by decide +kernel
theorem t65_13 : am_T 65 13 = some (0, .aload_n 0, 14, [], .null) := by decide +kernel
theorem t65_14 : am_T 65 14 = some (2, .getfield 34, 17, [0, 6], .null) := by decide +kernel
theorem t65_17 : am_T 65 17 = some (3, .invokevirtual 80, 20, [1, 7, 74], .null) := by decide +kernel
theorem t65_20 : am_T 65 20 = some (1, .if_icmp .ge 67, 23, [87], .null) := by decide +kernel
theorem t65_23 : am_T 65 23 = some (0, .aload_n 0, 24, [], .null) := by decide +kernel
theorem t65_24 : am_T 65 24 = some (2, .getfield 34, 27, [0, 6], .null) := by decide +kernel
theorem t65_27 : am_T 65 27 = some (0, .iload_n 1, 28, [], .null) := by decide +kernel
theorem t65_28 : am_T 65 28 = some (0, .iload 6, 30, [], .null) := by decide +kernel
theorem t65_30 : am_T 65 30 = some (3, .invokevirtual 83, 33, [3, 7, 77], .null) := by decide +kernel
theorem t65_33 : am_T 65 33 = some (0, .istore 7, 35, [], .null) := by decide +kernel
theorem t65_35 : am_T 65 35 = some (0, .aload_n 0, 36, [], .null) := by decide +kernel
theorem t65_36 : am_T 65 36 = some (2, .getfield 34, 39, [0, 6], .null) := by decide +kernel
theorem t65_39 : am_T 65 39 = some (0, .iload_n 2, 40, [], .null) := by decide +kernel
theorem t65_40 : am_T 65 40 = some (0, .iload 6, 42, [], .null) := by decide +kernel
theorem t65_42 : am_T 65 42 = some (3, .invokevirtual 83, 45, [3, 7, 77], .null) := by decide +kernel
theorem t65_45 : am_T 65 45 = some (0, .istore 8, 47, [], .null) := by decide +kernel
theorem t65_47 : am_T 65 47 = some (0, .iload 7, 49, [], .null) := by decide +kernel
theorem t65_49 : am_T 65 49 = some (1, .ifCond .eq 18, 52, [67], .null) := by decide +kernel
theorem t65_52 : am_T 65 52 = some (0, .iload 8, 54, [], .null) := by decide +kernel
theorem t65_54 : am_T 65 54 = some (1, .ifCond .ne 13, 57, [67], .null) := by decide +kernel
theorem t65_57 : am_T 65 57 = some (0, .iload 6, 59, [], .null) := by decide +kernel
theorem t65_59 : am_T 65 59 = some (0, .istore_n 3, 60, [], .null) := by decide +kernel
theorem t65_60 : am_T 65 60 = some (0, .iload 7, 62, [], .null) := by decide +kernel
theorem t65_62 : am_T 65 62 = some (0, .istore 5, 64, [], .null) := by decide +kernel
theorem t65_64 : am_T 65 64 = some (1, .goto 17, 67, [81], .null) := by decide +kernel
theorem t65_67 : am_T 65 67 = some (0, .iload 7, 69, [], .null) := by decide +kernel
theorem t65_69 : am_T 65 69 = some (1, .ifCond .ne 12, 72, [81], .null) := by decide +kernel
theorem t65_72 : am_T 65 72 = some (0, .iload 8, 74, [], .null) := by decide +kernel
theorem t65_74 : am_T 65 74 = some (1, .ifCond .eq 7, 77, [81], .null) := by decide +kernel
theorem t65_77 : am_T 65 77 = some (0, .iload 6, 79, [], .null) := by decide +kernel
theorem t65_79 : am_T 65 79 = some (0, .istore 4, 81, [], .null) := by decide +kernel
theorem t65_81 : am_T 65 81 = some (0, .iinc 6 1, 84, [], .int (1)) := by decide +kernel
theorem t65_84 : am_T 65 84 = some (1, .goto (-73), 87, [11], .null) := by decide +kernel
theorem t65_87 : am_T 65 87 = some (0, .iload_n 3, 88, [], .null) := by decide +kernel
theorem t65_88 : am_T 65 88 = some (0, .iconst (-1), 89, [], .int (-1)) := by decide +kernel
theorem t65_89 : am_T 65 89 = some (1, .if_icmp .eq 43, 92, [132], .null) := by decide +kernel
theorem t65_92 : am_T 65 92 = some (0, .iload 4, 94, [], .null) := by decide +kernel
theorem t65_94 : am_T 65 94 = some (0, .iconst (-1), 95, [], .int (-1)) := by decide +kernel
theorem t65_95 : am_T 65 95 = some (1, .if_icmp .eq 37, 98, [132], .null) := by decide +kernel
theorem t65_98 : am_T 65 98 = some (0, .aload_n 0, 99, [], .null) := by decide +kernel
theorem t65_99 : am_T 65 99 = some (2, .getfield 16, 102, [2, 6], .null) := by decide +kernel
theorem t65_102 : am_T 65 102 = some (0, .iload 4, 104, [], .null) := by decide +kernel
theorem t65_104 : am_T 65 104 = some (0, .iconst 2, 105, [], .int (2)) := by decide +kernel
theorem t65_105 : am_T 65 105 = some (0, .imul, 106, [], .null) := by decide +kernel
theorem t65_106 : am_T 65 106 = some (0, .iload 5, 108, [], .null) := by decide +kernel
theorem t65_108 : am_T 65 108 = some (0, .iadd, 109, [], .null) := by decide +kernel
theorem t65_109 : am_T 65 109 = some (0, .iconst 1, 110, [], .int (1)) := by decide +kernel
theorem t65_110 : am_T 65 110 = some (0, .isub, 111, [], .null) := by decide +kernel
theorem t65_111 : am_T 65 111 = some (3, .invokevirtual 65, 114, [2, 4, 30], .null) := by decide +kernel
theorem t65_114 : am_T 65 114 = some (0, .aload_n 0, 115, [], .null) := by decide +kernel
theorem t65_115 : am_T 65 115 = some (2, .getfield 16, 118, [2, 6], .null) := by decide +kernel
theorem t65_118 : am_T 65 118 = some (0, .iload_n 3, 119, [], .null) := by decide +kernel
theorem t65_119 : am_T 65 119 = some (0, .iconst 2, 120, [], .int (2)) := by decide +kernel
theorem t65_120 : am_T 65 120 = some (0, .imul, 121, [], .null) := by decide +kernel
theorem t65_121 : am_T 65 121 = some (0, .iload 5, 123, [], .null) := by decide +kernel
theorem t65_123 : am_T 65 123 = some (0, .iadd, 124, [], .null) := by decide +kernel
theorem t65_124 : am_T 65 124 = some (0, .iconst 1, 125, [], .int (1)) := by decide +kernel
theorem t65_125 : am_T 65 125 = some (0, .isub, 126, [], .null) := by decide +kernel
theorem t65_126 : am_T 65 126 = some (3, .invokevirtual 65, 129, [2, 4, 30], .null) := by decide +kernel
theorem t65_129 : am_T 65 129 = some (1, .if_icmp .lt 7, 132, [136], .null) := by decide +kernel
theorem t65_132 : am_T 65 132 = some (0, .iconst 1, 133, [], .int (1)) := by decide +kernel
theorem t65_133 : am_T 65 133 = some (1, .goto 4, 136, [137], .null) := by decide +kernel
theorem t65_136 : am_T 65 136 = some (0, .iconst 0, 137, [], .int (0)) := by decide +kernel
theorem t65_137 : am_T 65 137 = some (4, .ireturn, 138, [1], .null) := by decide +kernel
theorem t66_0 : am_T 66 0 = some (0, .aload_n 0, 1, [], .null) := by decide +kernel
theorem t66_1 : am_T 66 1 = some (2, .getfield 22, 4, [3, 6], .null) := by decide +kernel
theorem t66_4 : am_T 66 4 = some (0, .iload_n 1, 5, [], .null) := by decide +kernel
theorem t66_5 : am_T 66 5 = some (3, .invokevirtual 65, 8, [2, 4, 30], .null) := by decide +kernel
theorem t66_8 : am_T 66 8 = some (4, .ireturn, 9, [0], .null) := by decide +kernel
theorem t67_0 : am_T 67 0 = some (0, .aload_n 0, 1, [], .null) := by decide +kernel
theorem t67_1 : am_T 67 1 = some (2, .getfield 28, 4, [5, 6], .null) := by decide +kernel
theorem t67_4 : am_T 67 4 = some (0, .iload_n 1, 5, [], .null) := by decide +kernel
theorem t67_5 : am_T 67 5 = some (3, .invokevirtual 65, 8, [2, 4, 30], .null) := by decide +kernel
theorem t67_8 : am_T 67 8 = some (1, .ifCond .ne 14, 11, [22], .null) := by decide +kernel
theorem t67_11 : am_T 67 11 = some (0, .aload_n 0, 12, [], .null) := by decide +kernel
theorem t67_12 : am_T 67 12 = some (0, .iload_n 1, 13, [], .null) := by decide +kernel
theorem t67_13 : am_T 67 13 = some (0, .iconst 0, 14, [], .int (0)) := by decide +kernel
theorem t67_14 : am_T 67 14 = some (3, .invokevirtual 86, 17, [3, 6, 64], .null) := by decide +kernel
theorem t67_17 : am_T 67 17 = some (0, .aload_n 0, 18, [], .null) := by decide +kernel
theorem t67_18 : am_T 67 18 = some (0, .iload_n 1, 19, [], .null) := by decide +kernel
theorem t67_19 : am_T 67 19 = some (3, .invokevirtual 90, 22, [2, 6, 68], .null) := by decide +kernel
theorem t67_22 : am_T 67 22 = some (0, .iload_n 1, 23, [], .null) := by decide +kernel
theorem t67_23 : am_T 67 23 = some (0, .sipush 243, 26, [], .int (243)) := by decide +kernel
theorem t67_26 : am_T 67 26 = some (0, .imul, 27, [], .null) := by decide +kernel
theorem t67_27 : am_T 67 27 = some (0, .iload_n 2, 28, [], .null) := by decide +kernel
theorem t67_28 : am_T 67 28 = some (0, .iadd, 29, [], .null) := by decide +kernel
theorem t67_29 : am_T 67 29 = some (0, .istore_n 3, 30, [], .null) := by decide +kernel
theorem t67_30 : am_T 67 30 = some (0, .aload_n 0, 31, [], .null) := by decide +kernel
theorem t67_31 : am_T 67 31 = some (2, .getfield 31, 34, [6, 6], .null) := by decide +kernel
theorem t67_34 : am_T 67 34 = some (0, .iload_n 3, 35, [], .null) := by decide +kernel
theorem t67_35 : am_T 67 35 = some (0, .iconst 3, 36, [], .int (3)) := by decide +kernel
theorem t67_36 : am_T 67 36 = some (0, .ishr, 37, [], .null) := by decide +kernel
theorem t67_37 : am_T 67 37 = some (3, .invokevirtual 65, 40, [2, 4, 30], .null) := by decide +kernel
theorem t67_40 : am_T 67 40 = some (0, .iload_n 3, 41, [], .null) := by decide +kernel
theorem t67_41 : am_T 67 41 = some (0, .bipush 7, 43, [], .int (7)) := by decide +kernel
theorem t67_43 : am_T 67 43 = some (0, .iand, 44, [], .null) := by decide +kernel
theorem t67_44 : am_T 67 44 = some (0, .iconst 4, 45, [], .int (4)) := by decide +kernel
theorem t67_45 : am_T 67 45 = some (0, .imul, 46, [], .null) := by decide +kernel
theorem t67_46 : am_T 67 46 = some (0, .iushr, 47, [], .null) := by decide +kernel
theorem t67_47 : am_T 67 47 = some (0, .bipush 15, 49, [], .int (15)) := by decide +kernel
theorem t67_49 : am_T 67 49 = some (0, .iand, 50, [], .null) := by decide +kernel
theorem t67_50 : am_T 67 50 = some (4, .ireturn, 51, [0], .null) := by decide +kernel
theorem t68_0 : am_T 68 0 = some (0, .aload_n 0, 1, [], .null) := by decide +kernel
theorem t68_1 : am_T 68 1 = some (2, .getfield 28, 4, [5, 6], .null) := by decide +kernel
theorem t68_4 : am_T 68 4 = some (0, .iload_n 1, 5, [], .null) := by decide +kernel
theorem t68_5 : am_T 68 5 = some (0, .iconst 1, 6, [], .int (1)) := by decide +kernel
theorem t68_6 : am_T 68 6 = some (3, .invokevirtual 45, 9, [3, 4, 31], .null) := by decide +kernel
theorem t68_9 : am_T 68 9 = some (0, .iconst 0, 10, [], .int (0)) := by decide +kernel
theorem t68_10 : am_T 68 10 = some (0, .istore_n 2, 11, [], .null) := by decide +kernel
theorem t68_11 : am_T 68 11 = some (0, .iload_n 2, 12, [], .null) := by decide +kernel
theorem t68_12 : am_T 68 12 = some (0, .aload_n 0, 13, [], .null) := by decide +kernel
theorem t68_13 : am_T 68 13 = some (2, .getfield 34, 16, [0, 6], .null) := by decide +kernel
theorem t68_16 : am_T 68 16 = some (3, .invokevirtual 93, 19, [1, 7, 76], .null) := by decide +kernel
theorem t68_19 : am_T 68 19 = some (1, .if_icmp .ge 69, 22, [88], .null) := by decide +kernel
theorem t68_22 : am_T 68 22 = some (0, .iload_n 1, 23, [], .null) := by decide +kernel
theorem t68_23 : am_T 68 23 = some (0, .sipush 243, 26, [], .int (243)) := by decide +kernel
theorem t68_26 : am_T 68 26 = some (0, .imul, 27, [], .null) := by decide +kernel
theorem t68_27 : am_T 68 27 = some (0, .iload_n 2, 28, [], .null) := by decide +kernel
theorem t68_28 : am_T 68 28 = some (0, .iadd, 29, [], .null) := by decide +kernel
theorem t68_29 : am_T 68 29 = some (0, .istore_n 3, 30, [], .null) := by decide +kernel
theorem t68_30 : am_T 68 30 = some (0, .iload_n 3, 31, [], .null) := by decide +kernel
theorem t68_31 : am_T 68 31 = some (0, .bipush 7, 33, [], .int (7)) := by decide +kernel
theorem t68_33 : am_T 68 33 = some (0, .iand, 34, [], .null) := by decide +kernel
theorem t68_34 : am_T 68 34 = some (0, .iconst 4, 35, [], .int (4)) := by decide +kernel
theorem t68_35 : am_T 68 35 = some (0, .imul, 36, [], .null) := by decide +kernel
theorem t68_36 : am_T 68 36 = some (0, .istore 4, 38, [], .null) := by decide +kernel
theorem t68_38 : am_T 68 38 = some (0, .aload_n 0, 39, [], .null) := by decide +kernel
theorem t68_39 : am_T 68 39 = some (2, .getfield 31, 42, [6, 6], .null) := by decide +kernel
theorem t68_42 : am_T 68 42 = some (0, .iload_n 3, 43, [], .null) := by decide +kernel
theorem t68_43 : am_T 68 43 = some (0, .iconst 3, 44, [], .int (3)) := by decide +kernel
theorem t68_44 : am_T 68 44 = some (0, .ishr, 45, [], .null) := by decide +kernel
theorem t68_45 : am_T 68 45 = some (3, .invokevirtual 65, 48, [2, 4, 30], .null) := by decide +kernel
theorem t68_48 : am_T 68 48 = some (0, .bipush 15, 50, [], .int (15)) := by decide +kernel
theorem t68_50 : am_T 68 50 = some (0, .iload 4, 52, [], .null) := by decide +kernel
theorem t68_52 : am_T 68 52 = some (0, .ishl, 53, [], .null) := by decide +kernel
theorem t68_53 : am_T 68 53 = some (0, .iconst (-1), 54, [], .int (-1)) := by decide +kernel
theorem t68_54 : am_T 68 54 = some (0, .ixor, 55, [], .null) := by decide +kernel
theorem t68_55 : am_T 68 55 = some (0, .iand, 56, [], .null) := by decide +kernel
theorem t68_56 : am_T 68 56 = some (0, .istore 5, 58, [], .null) := by decide +kernel
theorem t68_58 : am_T 68 58 = some (0, .aload_n 0, 59, [], .null) := by decide +kernel
theorem t68_59 : am_T 68 59 = some (2, .getfield 31, 62, [6, 6], .null) := by decide +kernel
theorem t68_62 : am_T 68 62 = some (0, .iload_n 3, 63, [], .null) := by decide +kernel
theorem t68_63 : am_T 68 63 = some (0, .iconst 3, 64, [], .int (3)) := by decide +kernel
theorem t68_64 : am_T 68 64 = some (0, .ishr, 65, [], .null) := by decide +kernel
theorem t68_65 : am_T 68 65 = some (0, .iload 5, 67, [], .null) := by decide +kernel
theorem t68_67 : am_T 68 67 = some (0, .aload_n 0, 68, [], .null) := by decide +kernel
theorem t68_68 : am_T 68 68 = some (2, .getfield 22, 71, [3, 6], .null) := by decide +kernel
theorem t68_71 : am_T 68 71 = some (0, .iload_n 2, 72, [], .null) := by decide +kernel
theorem t68_72 : am_T 68 72 = some (3, .invokevirtual 65, 75, [2, 4, 30], .null) := by decide +kernel
theorem t68_75 : am_T 68 75 = some (0, .iload 4, 77, [], .null) := by decide +kernel
theorem t68_77 : am_T 68 77 = some (0, .ishl, 78, [], .null) := by decide +kernel
theorem t68_78 : am_T 68 78 = some (0, .ior, 79, [], .null) := by decide +kernel
theorem t68_79 : am_T 68 79 = some (3, .invokevirtual 45, 82, [3, 4, 31], .null) := by decide +kernel
theorem t68_82 : am_T 68 82 = some (0, .iinc 2 1, 85, [], .int (1)) := by decide +kernel
theorem t68_85 : am_T 68 85 = some (1, .goto (-74), 88, [11], .null) := by decide +kernel
theorem t68_88 : am_T 68 88 = some (4, .return_, 89, [], .null) := by decide +kernel
theorem t69_0 : am_T 69 0 = some (0, .aload_n 0, 1, [], .null) := by decide +kernel
theorem t69_1 : am_T 69 1 = some (2, .invokespecial 3, 4, [], .null) := by decide +kernel
theorem t69_4 : am_T 69 4 = some (0, .aload_n 0, 5, [], .null) := by decide +kernel
theorem t69_5 : am_T 69 5 = some (0, .iconst 0, 6, [], .int (0)) := by decide +kernel
theorem t69_6 : am_T 69 6 = some (2, .putfield 9, 9, [0, 0, 7], .null) := by decide +kernel
theorem t69_9 : am_T 69 9 = some (0, .aload_n 0, 10, [], .null) := by decide +kernel
theorem t69_10 : am_T 69 10 = some (0, .iconst 0, 11, [], .int (0)) := by decide +kernel
theorem t69_11 : am_T 69 11 = some (2, .putfield 15, 14, [1, 0, 7], .null) := by decide +kernel
theorem t69_14 : am_T 69 14 = some (0, .aload_n 0, 15, [], .null) := by decide +kernel
theorem t69_15 : am_T 69 15 = some (2, .new 18, 18, [4, 2], .null) := by decide +kernel
theorem t69_18 : am_T 69 18 = some (0, .dup, 19, [], .null) := by decide +kernel
theorem t69_19 : am_T 69 19 = some (0, .sipush 1215, 22, [], .int (1215)) := by decide +kernel
theorem t69_22 : am_T 69 22 = some (3, .invokespecial 20, 25, [2, 28], .null) := by decide +kernel
theorem t69_25 : am_T 69 25 = some (2, .putfield 23, 28, [2, 2, 7], .null) := by decide +kernel
theorem t69_28 : am_T 69 28 = some (0, .aload_n 0, 29, [], .null) := by decide +kernel
theorem t69_29 : am_T 69 29 = some (2, .new 18, 32, [4, 2], .null) := by decide +kernel
theorem t69_32 : am_T 69 32 = some (0, .dup, 33, [], .null) := by decide +kernel
theorem t69_33 : am_T 69 33 = some (0, .iconst 5, 34, [], .int (5)) := by decide +kernel
theorem t69_34 : am_T 69 34 = some (3, .invokespecial 20, 37, [2, 28], .null) := by decide +kernel
theorem t69_37 : am_T 69 37 = some (2, .putfield 27, 40, [3, 2, 7], .null) := by decide +kernel
theorem t69_40 : am_T 69 40 = some (0, .aload_n 0, 41, [], .null) := by decide +kernel
theorem t69_41 : am_T 69 41 = some (2, .new 18, 44, [4, 2], .null) := by decide +kernel
theorem t69_44 : am_T 69 44 = some (0, .dup, 45, [], .null) := by decide +kernel
theorem t69_45 : am_T 69 45 = some (0, .sipush 243, 48, [], .int (243)) := by decide +kernel
theorem t69_48 : am_T 69 48 = some (3, .invokespecial 20, 51, [2, 28], .null) := by decide +kernel
theorem t69_51 : am_T 69 51 = some (2, .putfield 30, 54, [4, 2, 7], .null) := by decide +kernel
theorem t69_54 : am_T 69 54 = some (0, .aload_n 0, 55, [], .null) := by decide +kernel
theorem t69_55 : am_T 69 55 = some (2, .new 18, 58, [4, 2], .null) := by decide +kernel
theorem t69_58 : am_T 69 58 = some (0, .dup, 59, [], .null) := by decide +kernel
theorem t69_59 : am_T 69 59 = some (0, .sipush 243, 62, [], .int (243)) := by decide +kernel
theorem t69_62 : am_T 69 62 = some (3, .invokespecial 20, 65, [2, 28], .null) := by decide +kernel
theorem t69_65 : am_T 69 65 = some (2, .putfield 33, 68, [5, 2, 7], .null) := by decide +kernel
theorem t69_68 : am_T 69 68 = some (0, .aload_n 0, 69, [], .null) := by decide +kernel
theorem t69_69 : am_T 69 69 = some (2, .new 18, 72, [4, 2], .null) := by decide +kernel
theorem t69_72 : am_T 69 72 = some (0, .dup, 73, [], .null) := by decide +kernel
theorem t69_73 : am_T 69 73 = some (0, .sipush 243, 76, [], .int (243)) := by decide +kernel
theorem t69_76 : am_T 69 76 = some (3, .invokespecial 20, 79, [2, 28], .null) := by decide +kernel
theorem t69_79 : am_T 69 79 = some (2, .putfield 36, 82, [6, 2, 7], .null) := by decide +kernel
theorem t69_82 : am_T 69 82 = some (0, .aload_n 0, 83, [], .null) := by decide +kernel
theorem t69_83 : am_T 69 83 = some (2, .new 18, 86, [4, 2], .null) := by decide +kernel
theorem t69_86 : am_T 69 86 = some (0, .dup, 87, [], .null) := by decide +kernel
theorem t69_87 : am_T 69 87 = some (0, .sipush 3402, 90, [], .int (3402)) := by decide +kernel
theorem t69_90 : am_T 69 90 = some (3, .invokespecial 20, 93, [2, 28], .null) := by decide +kernel
theorem t69_93 : am_T 69 93 = some (2, .putfield 39, 96, [7, 2, 7], .null) := by decide +kernel
theorem t69_96 : am_T 69 96 = some (4, .return_, 97, [], .null) := by decide +kernel
theorem t70_0 : am_T 70 0 = some (0, .aload_n 0, 1, [], .null) := by decide +kernel
theorem t70_1 : am_T 70 1 = some (0, .iload_n 1, 2, [], .null) := by decide +kernel
theorem t70_2 : am_T 70 2 = some (2, .putfield 9, 5, [0, 0, 7], .null) := by decide +kernel
theorem t70_5 : am_T 70 5 = some (0, .iconst 1, 6, [], .int (1)) := by decide +kernel
theorem t70_6 : am_T 70 6 = some (0, .istore_n 2, 7, [], .null) := by decide +kernel
theorem t70_7 : am_T 70 7 = some (0, .aload_n 0, 8, [], .null) := by decide +kernel
theorem t70_8 : am_T 70 8 = some (2, .getfield 9, 11, [0, 7], .null) := by decide +kernel
theorem t70_11 : am_T 70 11 = some (0, .iconst 1, 12, [], .int (1)) := by decide +kernel
theorem t70_12 : am_T 70 12 = some (0, .isub, 13, [], .null) := by decide +kernel
theorem t70_13 : am_T 70 13 = some (0, .istore_n 3, 14, [], .null) := by decide +kernel
theorem t70_14 : am_T 70 14 = some (0, .iload_n 3, 15, [], .null) := by decide +kernel
theorem t70_15 : am_T 70 15 = some (1, .ifCond .lt 22, 18, [37], .null) := by decide +kernel
theorem t70_18 : am_T 70 18 = some (0, .aload_n 0, 19, [], .null) := by decide +kernel
theorem t70_19 : am_T 70 19 = some (2, .getfield 27, 22, [3, 7], .null) := by decide +kernel
theorem t70_22 : am_T 70 22 = some (0, .iload_n 3, 23, [], .null) := by decide +kernel
theorem t70_23 : am_T 70 23 = some (0, .iload_n 2, 24, [], .null) := by decide +kernel
theorem t70_24 : am_T 70 24 = some (3, .invokevirtual 42, 27, [3, 4, 31], .null) := by decide +kernel
theorem t70_27 : am_T 70 27 = some (0, .iload_n 2, 28, [], .null) := by decide +kernel
theorem t70_28 : am_T 70 28 = some (0, .iconst 3, 29, [], .int (3)) := by decide +kernel
theorem t70_29 : am_T 70 29 = some (0, .imul, 30, [], .null) := by decide +kernel
theorem t70_30 : am_T 70 30 = some (0, .istore_n 2, 31, [], .null) := by decide +kernel
theorem t70_31 : am_T 70 31 = some (0, .iinc 3 (-1), 34, [], .int (-1)) := by decide +kernel
theorem t70_34 : am_T 70 34 = some (1, .goto (-20), 37, [14], .null) := by decide +kernel
theorem t70_37 : am_T 70 37 = some (0, .aload_n 0, 38, [], .null) := by decide +kernel
theorem t70_38 : am_T 70 38 = some (0, .iload_n 2, 39, [], .null) := by decide +kernel
theorem t70_39 : am_T 70 39 = some (2, .putfield 15, 42, [1, 0, 7], .null) := by decide +kernel
theorem t70_42 : am_T 70 42 = some (0, .iconst 0, 43, [], .int (0)) := by decide +kernel
theorem t70_43 : am_T 70 43 = some (0, .istore_n 3, 44, [], .null) := by decide +kernel
theorem t70_44 : am_T 70 44 = some (0, .iload_n 3, 45, [], .null) := by decide +kernel
theorem t70_45 : am_T 70 45 = some (0, .aload_n 0, 46, [], .null) := by decide +kernel
theorem t70_46 : am_T 70 46 = some (2, .getfield 15, 49, [1, 7], .null) := by decide +kernel
theorem t70_49 : am_T 70 49 = some (1, .if_icmp .ge 14, 52, [63], .null) := by decide +kernel
theorem t70_52 : am_T 70 52 = some (0, .aload_n 0, 53, [], .null) := by decide +kernel
theorem t70_53 : am_T 70 53 = some (0, .iload_n 3, 54, [], .null) := by decide +kernel
theorem t70_54 : am_T 70 54 = some (3, .invokevirtual 46, 57, [2, 7, 71], .null) := by decide +kernel
theorem t70_57 : am_T 70 57 = some (0, .iinc 3 1, 60, [], .int (1)) := by decide +kernel
theorem t70_60 : am_T 70 60 = some (1, .goto (-16), 63, [44], .null) := by decide +kernel
theorem t70_63 : am_T 70 63 = some (0, .iconst 0, 64, [], .int (0)) := by decide +kernel
theorem t70_64 : am_T 70 64 = some (0, .istore_n 3, 65, [], .null) := by decide +kernel
theorem t70_65 : am_T 70 65 = some (0, .iload_n 3, 66, [], .null) := by decide +kernel
theorem t70_66 : am_T 70 66 = some (0, .aload_n 0, 67, [], .null) := by decide +kernel
theorem t70_67 : am_T 70 67 = some (2, .getfield 15, 70, [1, 7], .null) := by decide +kernel
theorem t70_70 : am_T 70 70 = some (1, .if_icmp .ge 14, 73, [84], .null) := by decide +kernel
theorem t70_73 : am_T 70 73 = some (0, .aload_n 0, 74, [], .null) := by decide +kernel
theorem t70_74 : am_T 70 74 = some (0, .iload_n 3, 75, [], .null) := by decide +kernel
theorem t70_75 : am_T 70 75 = some (3, .invokevirtual 49, 78, [2, 7, 72], .null) := by decide +kernel
theorem t70_78 : am_T 70 78 = some (0, .iinc 3 1, 81, [], .int (1)) := by decide +kernel
theorem t70_81 : am_T 70 81 = some (1, .goto (-16), 84, [65], .null) := by decide +kernel
theorem t70_84 : am_T 70 84 = some (4, .return_, 85, [], .null) := by decide +kernel
theorem t71_0 : am_T 71 0 = some (0, .iconst 0, 1, [], .int (0)) := by decide +kernel
theorem t71_1 : am_T 71 1 = some (0, .istore_n 2, 2, [], .null) := by decide +kernel
theorem t71_2 : am_T 71 2 = some (0, .iconst 0, 3, [], .int (0)) := by decide +kernel
theorem t71_3 : am_T 71 3 = some (0, .istore_n 3, 4, [], .null) := by decide +kernel
theorem t71_4 : am_T 71 4 = some (0, .iload_n 1, 5, [], .null) := by decide +kernel
theorem t71_5 : am_T 71 5 = some (0, .istore 4, 7, [], .null) := by decide +kernel
theorem t71_7 : am_T 71 7 = some (0, .aload_n 0, 8, [], .null) := by decide +kernel
theorem t71_8 : am_T 71 8 = some (2, .getfield 9, 11, [0, 7], .null) := by decide +kernel
theorem t71_11 : am_T 71 11 = some (0, .iconst 1, 12, [], .int (1)) := by decide +kernel
theorem t71_12 : am_T 71 12 = some (0, .isub, 13, [], .null) := by decide +kernel
theorem t71_13 : am_T 71 13 = some (0, .istore 5, 15, [], .null) := by decide +kernel
theorem t71_15 : am_T 71 15 = some (0, .iload 5, 17, [], .null) := by decide +kernel
theorem t71_17 : am_T 71 17 = some (1, .ifCond .lt 64, 20, [81], .null) := by decide +kernel
theorem t71_20 : am_T 71 20 = some (0, .iload 4, 22, [], .null) := by decide +kernel
theorem t71_22 : am_T 71 22 = some (0, .iconst 3, 23, [], .int (3)) := by decide +kernel
theorem t71_23 : am_T 71 23 = some (0, .irem, 24, [], .null) := by decide +kernel
theorem t71_24 : am_T 71 24 = some (0, .istore 6, 26, [], .null) := by decide +kernel
theorem t71_26 : am_T 71 26 = some (0, .aload_n 0, 27, [], .null) := by decide +kernel
theorem t71_27 : am_T 71 27 = some (2, .getfield 23, 30, [2, 7], .null) := by decide +kernel
theorem t71_30 : am_T 71 30 = some (0, .iload_n 1, 31, [], .null) := by decide +kernel
theorem t71_31 : am_T 71 31 = some (0, .iconst 5, 32, [], .int (5)) := by decide +kernel
theorem t71_32 : am_T 71 32 = some (0, .imul, 33, [], .null) := by decide +kernel
theorem t71_33 : am_T 71 33 = some (0, .iload 5, 35, [], .null) := by decide +kernel
theorem t71_35 : am_T 71 35 = some (0, .iadd, 36, [], .null) := by decide +kernel
theorem t71_36 : am_T 71 36 = some (0, .iload 6, 38, [], .null) := by decide +kernel
theorem t71_38 : am_T 71 38 = some (3, .invokevirtual 42, 41, [3, 4, 31], .null) := by decide +kernel
theorem t71_41 : am_T 71 41 = some (0, .iload_n 2, 42, [], .null) := by decide +kernel
theorem t71_42 : am_T 71 42 = some (0, .iload 6, 44, [], .null) := by decide +kernel
theorem t71_44 : am_T 71 44 = some (0, .iconst 1, 45, [], .int (1)) := by decide +kernel
theorem t71_45 : am_T 71 45 = some (1, .if_icmp .ne 7, 48, [52], .null) := by decide +kernel
theorem t71_48 : am_T 71 48 = some (0, .iconst 1, 49, [], .int (1)) := by decide +kernel
theorem t71_49 : am_T 71 49 = some (1, .goto 4, 52, [53], .null) := by decide +kernel
theorem t71_52 : am_T 71 52 = some (0, .iconst 0, 53, [], .int (0)) := by decide +kernel
theorem t71_53 : am_T 71 53 = some (0, .iadd, 54, [], .null) := by decide +kernel
theorem t71_54 : am_T 71 54 = some (0, .istore_n 2, 55, [], .null) := by decide +kernel
theorem t71_55 : am_T 71 55 = some (0, .iload_n 3, 56, [], .null) := by decide +kernel
theorem t71_56 : am_T 71 56 = some (0, .iload 6, 58, [], .null) := by decide +kernel
theorem t71_58 : am_T 71 58 = some (0, .iconst 2, 59, [], .int (2)) := by decide +kernel
theorem t71_59 : am_T 71 59 = some (1, .if_icmp .ne 7, 62, [66], .null) := by decide +kernel
theorem t71_62 : am_T 71 62 = some (0, .iconst 1, 63, [], .int (1)) := by decide +kernel
theorem t71_63 : am_T 71 63 = some (1, .goto 4, 66, [67], .null) := by decide +kernel
theorem t71_66 : am_T 71 66 = some (0, .iconst 0, 67, [], .int (0)) := by decide +kernel
theorem t71_67 : am_T 71 67 = some (0, .iadd, 68, [], .null) := by decide +kernel
theorem t71_68 : am_T 71 68 = some (0, .istore_n 3, 69, [], .null) := by decide +kernel
theorem t71_69 : am_T 71 69 = some (0, .iload 4, 71, [], .null) := by decide +kernel
theorem t71_71 : am_T 71 71 = some (0, .iconst 3, 72, [], .int (3)) := by decide +kernel
theorem t71_72 : am_T 71 72 = some (0, .idiv, 73, [], .null) := by decide +kernel
theorem t71_73 : am_T 71 73 = some (0, .istore 4, 75, [], .null) := by decide +kernel
theorem t71_75 : am_T 71 75 = some (0, .iinc 5 (-1), 78, [], .int (-1)) := by decide +kernel
theorem t71_78 : am_T 71 78 = some (1, .goto (-63), 81, [15], .null) := by decide +kernel
theorem t71_81 : am_T 71 81 = some (0, .aload_n 0, 82, [], .null) := by decide +kernel
theorem t71_82 : am_T 71 82 = some (2, .getfield 30, 85, [4, 7], .null) := by decide +kernel
theorem t71_85 : am_T 71 85 = some (0, .iload_n 1, 86, [], .null) := by decide +kernel
theorem t71_86 : am_T 71 86 = some (0, .iload_n 2, 87, [], .null) := by decide +kernel
theorem t71_87 : am_T 71 87 = some (3, .invokevirtual 42, 90, [3, 4, 31], .null) := by decide +kernel
theorem t71_90 : am_T 71 90 = some (0, .aload_n 0, 91, [], .null) := by decide +kernel
theorem t71_91 : am_T 71 91 = some (2, .getfield 33, 94, [5, 7], .null) := by decide +kernel
theorem t71_94 : am_T 71 94 = some (0, .iload_n 1, 95, [], .null) := by decide +kernel
theorem t71_95 : am_T 71 95 = some (0, .iload_n 3, 96, [], .null) := by decide +kernel
theorem t71_96 : am_T 71 96 = some (3, .invokevirtual 42, 99, [3, 4, 31], .null) := by decide +kernel
theorem t71_99 : am_T 71 99 = some (4, .return_, 100, [], .null) := by decide +kernel
theorem t72_0 : am_T 72 0 = some (0, .aload_n 0, 1, [], .null) := by decide +kernel
theorem t72_1 : am_T 72 1 = some (2, .getfield 36, 4, [6, 7], .null) := by decide +kernel
theorem t72_4 : am_T 72 4 = some (0, .iload_n 1, 5, [], .null) := by decide +kernel
theorem t72_5 : am_T 72 5 = some (0, .iconst 0, 6, [], .int (0)) := by decide +kernel
theorem t72_6 : am_T 72 6 = some (3, .invokevirtual 42, 9, [3, 4, 31], .null) := by decide +kernel
theorem t72_9 : am_T 72 9 = some (0, .iconst 0, 10, [], .int (0)) := by decide +kernel
theorem t72_10 : am_T 72 10 = some (0, .istore_n 2, 11, [], .null) := by decide +kernel
theorem t72_11 : am_T 72 11 = some (0, .iload_n 2, 12, [], .null) := by decide +kernel
theorem t72_12 : am_T 72 12 = some (0, .aload_n 0, 13, [], .null) := by decide +kernel
theorem t72_13 : am_T 72 13 = some (2, .getfield 9, 16, [0, 7], .null) := by decide +kernel
theorem t72_16 : am_T 72 16 = some (1, .if_icmp .ge 105, 19, [121], .null) := by decide +kernel
theorem t72_19 : am_T 72 19 = some (0, .aload_n 0, 20, [], .null) := by decide +kernel
theorem t72_20 : am_T 72 20 = some (0, .iload_n 1, 21, [], .null) := by decide +kernel
theorem t72_21 : am_T 72 21 = some (0, .iload_n 2, 22, [], .null) := by decide +kernel
theorem t72_22 : am_T 72 22 = some (3, .invokevirtual 52, 25, [3, 7, 77], .null) := by decide +kernel
theorem t72_25 : am_T 72 25 = some (0, .istore_n 3, 26, [], .null) := by decide +kernel
theorem t72_26 : am_T 72 26 = some (0, .iload_n 3, 27, [], .null) := by decide +kernel
theorem t72_27 : am_T 72 27 = some (1, .ifCond .ne 30, 30, [57], .null) := by decide +kernel
theorem t72_30 : am_T 72 30 = some (0, .aload_n 0, 31, [], .null) := by decide +kernel
theorem t72_31 : am_T 72 31 = some (0, .iload_n 1, 32, [], .null) := by decide +kernel
theorem t72_32 : am_T 72 32 = some (0, .aload_n 0, 33, [], .null) := by decide +kernel
theorem t72_33 : am_T 72 33 = some (0, .iload_n 1, 34, [], .null) := by decide +kernel
theorem t72_34 : am_T 72 34 = some (0, .iload_n 2, 35, [], .null) := by decide +kernel
theorem t72_35 : am_T 72 35 = some (0, .iconst 1, 36, [], .int (1)) := by decide +kernel
theorem t72_36 : am_T 72 36 = some (3, .invokevirtual 56, 39, [4, 7, 80], .null) := by decide +kernel
theorem t72_39 : am_T 72 39 = some (3, .invokevirtual 60, 42, [3, 7, 73], .null) := by decide +kernel
theorem t72_42 : am_T 72 42 = some (0, .aload_n 0, 43, [], .null) := by decide +kernel
theorem t72_43 : am_T 72 43 = some (0, .iload_n 1, 44, [], .null) := by decide +kernel
theorem t72_44 : am_T 72 44 = some (0, .aload_n 0, 45, [], .null) := by decide +kernel
theorem t72_45 : am_T 72 45 = some (0, .iload_n 1, 46, [], .null) := by decide +kernel
theorem t72_46 : am_T 72 46 = some (0, .iload_n 2, 47, [], .null) := by decide +kernel
theorem t72_47 : am_T 72 47 = some (0, .iconst 2, 48, [], .int (2)) := by decide +kernel
theorem t72_48 : am_T 72 48 = some (3, .invokevirtual 56, 51, [4, 7, 80], .null) := by decide +kernel
theorem t72_51 : am_T 72 51 = some (3, .invokevirtual 60, 54, [3, 7, 73], .null) := by decide +kernel
theorem t72_54 : am_T 72 54 = some (1, .goto 61, 57, [115], .null) := by decide +kernel
theorem t72_57 : am_T 72 57 = some (0, .aload_n 0, 58, [], .null) := by decide +kernel
theorem t72_58 : am_T 72 58 = some (0, .iload_n 1, 59, [], .null) := by decide +kernel
theorem t72_59 : am_T 72 59 = some (0, .iload_n 2, 60, [], .null) := by decide +kernel
theorem t72_60 : am_T 72 60 = some (0, .iconst 0, 61, [], .int (0)) := by decide +kernel
theorem t72_61 : am_T 72 61 = some (3, .invokevirtual 56, 64, [4, 7, 80], .null) := by decide +kernel
theorem t72_64 : am_T 72 64 = some (0, .istore 4, 66, [], .null) := by decide +kernel
theorem t72_66 : am_T 72 66 = some (0, .aload_n 0, 67, [], .null) := by decide +kernel
theorem t72_67 : am_T 72 67 = some (0, .iload_n 1, 68, [], .null) := by decide +kernel
theorem t72_68 : am_T 72 68 = some (0, .iload 4, 70, [], .null) := by decide +kernel
theorem t72_70 : am_T 72 70 = some (3, .invokevirtual 60, 73, [3, 7, 73], .null) := by decide +kernel
theorem t72_73 : am_T 72 73 = some (0, .iconst 0, 74, [], .int (0)) := by decide +kernel
theorem t72_74 : am_T 72 74 = some (0, .istore 5, 76, [], .null) := by decide +kernel
theorem t72_76 : am_T 72 76 = some (0, .iload 5, 78, [], .null) := by decide +kernel
theorem t72_78 : am_T 72 78 = some (0, .aload_n 0, 79, [], .null) := by decide +kernel
theorem t72_79 : am_T 72 79 = some (2, .getfield 9, 82, [0, 7], .null) := by decide +kernel
theorem t72_82 : am_T 72 82 = some (1, .if_icmp .ge 33, 85, [115], .null) := by decide +kernel
theorem t72_85 : am_T 72 85 = some (0, .aload_n 0, 86, [], .null) := by decide +kernel
theorem t72_86 : am_T 72 86 = some (0, .iload_n 1, 87, [], .null) := by decide +kernel
theorem t72_87 : am_T 72 87 = some (0, .iload 5, 89, [], .null) := by decide +kernel
theorem t72_89 : am_T 72 89 = some (3, .invokevirtual 52, 92, [3, 7, 77], .null) := by decide +kernel
theorem t72_92 : am_T 72 92 = some (1, .ifCond .ne 17, 95, [109], .null) := by decide +kernel
theorem t72_95 : am_T 72 95 = some (0, .aload_n 0, 96, [], .null) := by decide +kernel
theorem t72_96 : am_T 72 96 = some (0, .iload_n 1, 97, [], .null) := by decide +kernel
theorem t72_97 : am_T 72 97 = some (0, .aload_n 0, 98, [], .null) := by decide +kernel
theorem t72_98 : am_T 72 98 = some (0, .iload 4, 100, [], .null) := by decide +kernel
theorem t72_100 : am_T 72 100 = some (0, .iload 5, 102, [], .null) := by decide +kernel
theorem t72_102 : am_T 72 102 = some (0, .iload_n 3, 103, [], .null) := by decide +kernel
theorem t72_103 : am_T 72 103 = some (3, .invokevirtual 56, 106, [4, 7, 80], .null) := by decide +kernel
theorem t72_106 : am_T 72 106 = some (3, .invokevirtual 60, 109, [3, 7, 73], .null) := by decide +kernel
theorem t72_109 : am_T 72 109 = some (0, .iinc 5 1, 112, [], .int (1)) := by decide +kernel
theorem t72_112 : am_T 72 112 = some (1, .goto (-36), 115, [76], .null) := by decide +kernel
theorem t72_115 : am_T 72 115 = some (0, .iinc 2 1, 118, [], .int (1)) := by decide +kernel
theorem t72_118 : am_T 72 118 = some (1, .goto (-107), 121, [11], .null) := by decide +kernel
theorem t72_121 : am_T 72 121 = some (4, .return_, 122, [], .null) := by decide +kernel
theorem t73_0 : am_T 73 0 = some (0, .iload_n 1, 1, [], .null) := by decide +kernel
theorem t73_1 : am_T 73 1 = some (0, .bipush 14, 3, [], .int (14)) := by decide +kernel
theorem t73_3 : am_T 73 3 = some (0, .imul, 4, [], .null) := by decide +kernel
theorem t73_4 : am_T 73 4 = some (0, .istore_n 3, 5, [], .null) := by decide +kernel
theorem t73_5 : am_T 73 5 = some (0, .aload_n 0, 6, [], .null) := by decide +kernel
theorem t73_6 : am_T 73 6 = some (2, .getfield 36, 9, [6, 7], .null) := by decide +kernel
theorem t73_9 : am_T 73 9 = some (0, .iload_n 1, 10, [], .null) := by decide +kernel
theorem t73_10 : am_T 73 10 = some (3, .invokevirtual 63, 13, [2, 4, 30], .null) := by decide +kernel
theorem t73_13 : am_T 73 13 = some (0, .istore 4, 15, [], .null) := by decide +kernel
theorem t73_15 : am_T 73 15 = some (0, .aload_n 0, 16, [], .null) := by decide +kernel
theorem t73_16 : am_T 73 16 = some (2, .getfield 36, 19, [6, 7], .null) := by decide +kernel
theorem t73_19 : am_T 73 19 = some (0, .iload_n 1, 20, [], .null) := by decide +kernel
theorem t73_20 : am_T 73 20 = some (0, .iload 4, 22, [], .null) := by decide +kernel
theorem t73_22 : am_T 73 22 = some (0, .iconst 1, 23, [], .int (1)) := by decide +kernel
theorem t73_23 : am_T 73 23 = some (0, .iadd, 24, [], .null) := by decide +kernel
theorem t73_24 : am_T 73 24 = some (3, .invokevirtual 42, 27, [3, 4, 31], .null) := by decide +kernel
theorem t73_27 : am_T 73 27 = some (0, .iload 4, 29, [], .null) := by decide +kernel
theorem t73_29 : am_T 73 29 = some (1, .ifCond .le 50, 32, [79], .null) := by decide +kernel
theorem t73_32 : am_T 73 32 = some (0, .aload_n 0, 33, [], .null) := by decide +kernel
theorem t73_33 : am_T 73 33 = some (2, .getfield 39, 36, [7, 7], .null) := by decide +kernel
theorem t73_36 : am_T 73 36 = some (0, .iload_n 3, 37, [], .null) := by decide +kernel
theorem t73_37 : am_T 73 37 = some (0, .iload 4, 39, [], .null) := by decide +kernel
theorem t73_39 : am_T 73 39 = some (0, .iadd, 40, [], .null) := by decide +kernel
theorem t73_40 : am_T 73 40 = some (0, .iconst 1, 41, [], .int (1)) := by decide +kernel
theorem t73_41 : am_T 73 41 = some (0, .isub, 42, [], .null) := by decide +kernel
theorem t73_42 : am_T 73 42 = some (3, .invokevirtual 63, 45, [2, 4, 30], .null) := by decide +kernel
theorem t73_45 : am_T 73 45 = some (0, .iload_n 2, 46, [], .null) := by decide +kernel
theorem t73_46 : am_T 73 46 = some (1, .if_icmp .le 33, 49, [79], .null) := by decide +kernel
theorem t73_49 : am_T 73 49 = some (0, .aload_n 0, 50, [], .null) := by decide +kernel
theorem t73_50 : am_T 73 50 = some (2, .getfield 39, 53, [7, 7], .null) := by decide +kernel
theorem t73_53 : am_T 73 53 = some (0, .iload_n 3, 54, [], .null) := by decide +kernel
theorem t73_54 : am_T 73 54 = some (0, .iload 4, 56, [], .null) := by decide +kernel
theorem t73_56 : am_T 73 56 = some (0, .iadd, 57, [], .null) := by decide +kernel
theorem t73_57 : am_T 73 57 = some (0, .aload_n 0, 58, [], .null) := by decide +kernel
theorem t73_58 : am_T 73 58 = some (2, .getfield 39, 61, [7, 7], .null) := by decide +kernel
theorem t73_61 : am_T 73 61 = some (0, .iload_n 3, 62, [], .null) := by decide +kernel
theorem t73_62 : am_T 73 62 = some (0, .iload 4, 64, [], .null) := by decide +kernel
theorem t73_64 : am_T 73 64 = some (0, .iadd, 65, [], .null) := by decide +kernel
theorem t73_65 : am_T 73 65 = some (0, .iconst 1, 66, [], .int (1)) := by decide +kernel
theorem t73_66 : am_T 73 66 = some (0, .isub, 67, [], .null) := by decide +kernel
theorem t73_67 : am_T 73 67 = some (3, .invokevirtual 63, 70, [2, 4, 30], .null) := by decide +kernel
theorem t73_70 : am_T 73 70 = some (3, .invokevirtual 42, 73, [3, 4, 31], .null) := by decide +kernel
theorem t73_73 : am_T 73 73 = some (0, .iinc 4 (-1), 76, [], .int (-1)) := by decide +kernel
theorem t73_76 : am_T 73 76 = some (1, .goto (-49), 79, [27], .null) := by decide +kernel
theorem t73_79 : am_T 73 79 = some (0, .aload_n 0, 80, [], .null) := by decide +kernel
theorem t73_80 : am_T 73 80 = some (2, .getfield 39, 83, [7, 7], .null) := by decide +kernel
theorem t73_83 : am_T 73 83 = some (0, .iload_n 3, 84, [], .null) := by decide +kernel
theorem t73_84 : am_T 73 84 = some (0, .iload 4, 86, [], .null) := by decide +kernel
theorem t73_86 : am_T 73 86 = some (0, .iadd, 87, [], .null) := by decide +kernel
theorem t73_87 : am_T 73 87 = some (0, .iload_n 2, 88, [], .null) := by decide +kernel
theorem t73_88 : am_T 73 88 = some (3, .invokevirtual 42, 91, [3, 4, 31], .null) := by decide +kernel
theorem t73_91 : am_T 73 91 = some (4, .return_, 92, [], .null) := by decide +kernel
theorem t74_0 : am_T 74 0 = some (0, .aload_n 0, 1, [], .null) := by decide +kernel
theorem t74_1 : am_T 74 1 = some (2, .getfield 9, 4, [0, 7], .null) := by decide +kernel
theorem t74_4 : am_T 74 4 = some (4, .ireturn, 5, [0], .null) := by decide +kernel
theorem t75_0 : am_T 75 0 = some (0, .iload_n 1, 1, [], .null) := by decide +kernel
theorem t75_1 : am_T 75 1 = some (1, .ifCond .lt 15, 4, [16], .null) := by decide +kernel
theorem t75_4 : am_T 75 4 = some (0, .iload_n 1, 5, [], .null) := by decide +kernel
theorem t75_5 : am_T 75 5 = some (0, .aload_n 0, 6, [], .null) := by decide +kernel
theorem t75_6 : am_T 75 6 = some (2, .getfield 9, 9, [0, 7], .null) := by decide +kernel
theorem t75_9 : am_T 75 9 = some (1, .if_icmp .ge 7, 12, [16], .null) := by decide +kernel
theorem t75_12 : am_T 75 12 = some (0, .iconst 1, 13, [], .int (1)) := by decide +kernel
theorem t75_13 : am_T 75 13 = some (1, .goto 4, 16, [17], .null) := by decide +kernel
theorem t75_16 : am_T 75 16 = some (0, .iconst 0, 17, [], .int (0)) := by decide +kernel
theorem t75_17 : am_T 75 17 = some (4, .ireturn, 18, [1], .null) := by decide +kernel
theorem t76_0 : am_T 76 0 = some (0, .aload_n 0, 1, [], .null) := by decide +kernel
theorem t76_1 : am_T 76 1 = some (2, .getfield 15, 4, [1, 7], .null) := by decide +kernel
theorem t76_4 : am_T 76 4 = some (4, .ireturn, 5, [0], .null) := by decide +kernel
theorem t77_0 : am_T 77 0 = some (0, .aload_n 0, 1, [], .null) := by decide +kernel
theorem t77_1 : am_T 77 1 = some (2, .getfield 23, 4, [2, 7], .null) := by decide +kernel
theorem t77_4 : am_T 77 4 = some (0, .iload_n 1, 5, [], .null) := by decide +kernel
theorem t77_5 : am_T 77 5 = some (0, .iconst 5, 6, [], .int (5)) := by decide +kernel
theorem t77_6 : am_T 77 6 = some (0, .imul, 7, [], .null) := by decide +kernel
theorem t77_7 : am_T 77 7 = some (0, .iload_n 2, 8, [], .null) := by decide +kernel
theorem t77_8 : am_T 77 8 = some (0, .iadd, 9, [], .null) := by decide +kernel
theorem t77_9 : am_T 77 9 = some (3, .invokevirtual 63, 12, [2, 4, 30], .null) := by decide +kernel
theorem t77_12 : am_T 77 12 = some (4, .ireturn, 13, [0], .null) := by decide +kernel
theorem t78_0 : am_T 78 0 = some (0, .aload_n 0, 1, [], .null) := by decide +kernel
theorem t78_1 : am_T 78 1 = some (2, .getfield 30, 4, [4, 7], .null) := by decide +kernel
theorem t78_4 : am_T 78 4 = some (0, .iload_n 1, 5, [], .null) := by decide +kernel
theorem t78_5 : am_T 78 5 = some (3, .invokevirtual 63, 8, [2, 4, 30], .null) := by decide +kernel
theorem t78_8 : am_T 78 8 = some (4, .ireturn, 9, [0], .null) := by decide +kernel
theorem t79_0 : am_T 79 0 = some (0, .aload_n 0, 1, [], .null) := by decide +kernel
theorem t79_1 : am_T 79 1 = some (2, .getfield 33, 4, [5, 7], .null) := by decide +kernel
theorem t79_4 : am_T 79 4 = some (0, .iload_n 1, 5, [], .null) := by decide +kernel
theorem t79_5 : am_T 79 5 = some (3, .invokevirtual 63, 8, [2, 4, 30], .null) := by decide +kernel
theorem t79_8 : am_T 79 8 = some (4, .ireturn, 9, [0], .null) := by decide +kernel
theorem t80_0 : am_T 80 0 = some (0, .iload_n 1, 1, [], .null) := by decide +kernel
theorem t80_1 : am_T 80 1 = some (0, .iload_n 3, 2, [], .null) := by decide +kernel
theorem t80_2 : am_T 80 2 = some (0, .aload_n 0, 3, [], .null) := by decide +kernel
theorem t80_3 : am_T 80 3 = some (0, .iload_n 1, 4, [], .null) := by decide +kernel
theorem t80_4 : am_T 80 4 = some (0, .iload_n 2, 5, [], .null) := by decide +kernel
theorem t80_5 : am_T 80 5 = some (3, .invokevirtual 52, 8, [3, 7, 77], .null) := by decide +kernel
theorem t80_8 : am_T 80 8 = some (0, .isub, 9, [], .null) := by decide +kernel
theorem t80_9 : am_T 80 9 = some (0, .aload_n 0, 10, [], .null) := by decide +kernel
theorem t80_10 : am_T 80 10 = some (2, .getfield 27, 13, [3, 7], .null) := by decide +kernel
theorem t80_13 : am_T 80 13 = some (0, .iload_n 2, 14, [], .null) := by decide +kernel
theorem t80_14 : am_T 80 14 = some (3, .invokevirtual 63, 17, [2, 4, 30], .null) := by decide +kernel
theorem t80_17 : am_T 80 17 = some (0, .imul, 18, [], .null) := by decide +kernel
theorem t80_18 : am_T 80 18 = some (0, .iadd, 19, [], .null) := by decide +kernel
theorem t80_19 : am_T 80 19 = some (4, .ireturn, 20, [0], .null) := by decide +kernel
theorem t81_0 : am_T 81 0 = some (0, .aload_n 0, 1, [], .null) := by decide +kernel
theorem t81_1 : am_T 81 1 = some (2, .getfield 36, 4, [6, 7], .null) := by decide +kernel
theorem t81_4 : am_T 81 4 = some (0, .iload_n 1, 5, [], .null) := by decide +kernel
theorem t81_5 : am_T 81 5 = some (3, .invokevirtual 63, 8, [2, 4, 30], .null) := by decide +kernel
theorem t81_8 : am_T 81 8 = some (4, .ireturn, 9, [0], .null) := by decide +kernel
theorem t82_0 : am_T 82 0 = some (0, .aload_n 0, 1, [], .null) := by decide +kernel
theorem t82_1 : am_T 82 1 = some (2, .getfield 39, 4, [7, 7], .null) := by decide +kernel
theorem t82_4 : am_T 82 4 = some (0, .iload_n 1, 5, [], .null) := by decide +kernel
theorem t82_5 : am_T 82 5 = some (0, .bipush 14, 7, [], .int (14)) := by decide +kernel
theorem t82_7 : am_T 82 7 = some (0, .imul, 8, [], .null) := by decide +kernel
theorem t82_8 : am_T 82 8 = some (0, .iload_n 2, 9, [], .null) := by decide +kernel
theorem t82_9 : am_T 82 9 = some (0, .iadd, 10, [], .null) := by decide +kernel
theorem t82_10 : am_T 82 10 = some (3, .invokevirtual 63, 13, [2, 4, 30], .null) := by decide +kernel
theorem t82_13 : am_T 82 13 = some (4, .ireturn, 14, [0], .null) := by decide +kernel
theorem t83_0 : am_T 83 0 = some (0, .iconst 0, 1, [], .int (0)) := by decide +kernel
theorem t83_1 : am_T 83 1 = some (0, .istore_n 3, 2, [], .null) := by decide +kernel
theorem t83_2 : am_T 83 2 = some (0, .iconst 0, 3, [], .int (0)) := by decide +kernel
theorem t83_3 : am_T 83 3 = some (0, .istore 4, 5, [], .null) := by decide +kernel
theorem t83_5 : am_T 83 5 = some (0, .iload 4, 7, [], .null) := by decide +kernel
theorem t83_7 : am_T 83 7 = some (0, .aload_n 0, 8, [], .null) := by decide +kernel
theorem t83_8 : am_T 83 8 = some (2, .getfield 9, 11, [0, 7], .null) := by decide +kernel
theorem t83_11 : am_T 83 11 = some (1, .if_icmp .ge 33, 14, [44], .null) := by decide +kernel
theorem t83_14 : am_T 83 14 = some (0, .aload_n 0, 15, [], .null) := by decide +kernel
theorem t83_15 : am_T 83 15 = some (0, .iload_n 1, 16, [], .null) := by decide +kernel
theorem t83_16 : am_T 83 16 = some (0, .iload 4, 18, [], .null) := by decide +kernel
theorem t83_18 : am_T 83 18 = some (3, .invokevirtual 52, 21, [3, 7, 77], .null) := by decide +kernel
theorem t83_21 : am_T 83 21 = some (0, .aload_n 0, 22, [], .null) := by decide +kernel
theorem t83_22 : am_T 83 22 = some (0, .iload_n 2, 23, [], .null) := by decide +kernel
theorem t83_23 : am_T 83 23 = some (0, .iload 4, 25, [], .null) := by decide +kernel
theorem t83_25 : am_T 83 25 = some (3, .invokevirtual 52, 28, [3, 7, 77], .null) := by decide +kernel
theorem t83_28 : am_T 83 28 = some (1, .if_icmp .eq 10, 31, [38], .null) := by decide +kernel
theorem t83_31 : am_T 83 31 = some (0, .iload_n 3, 32, [], .null) := by decide +kernel
theorem t83_32 : am_T 83 32 = some (0, .iconst 1, 33, [], .int (1)) := by decide +kernel
theorem t83_33 : am_T 83 33 = some (0, .iload 4, 35, [], .null) := by decide +kernel
theorem t83_35 : am_T 83 35 = some (0, .ishl, 36, [], .null) := by decide +kernel
theorem t83_36 : am_T 83 36 = some (0, .ior, 37, [], .null) := by decide +kernel
theorem t83_37 : am_T 83 37 = some (0, .istore_n 3, 38, [], .null) := by decide +kernel
theorem t83_38 : am_T 83 38 = some (0, .iinc 4 1, 41, [], .int (1)) := by decide +kernel
theorem t83_41 : am_T 83 41 = some (1, .goto (-36), 44, [5], .null) := by decide +kernel
theorem t83_44 : am_T 83 44 = some (0, .iload_n 3, 45, [], .null) := by decide +kernel
theorem t83_45 : am_T 83 45 = some (4, .ireturn, 46, [0], .null) := by decide +kernel
theorem t84_0 : am_T 84 0 = some (0, .aload_n 0, 1, [], .null) := by decide +kernel
theorem t84_1 : am_T 84 1 = some (2, .getfield 9, 4, [0, 7], .null) := by decide +kernel
theorem t84_4 : am_T 84 4 = some (1, .ifCond .eq 7, 7, [11], .null) := by decide +kernel
theorem t84_7 : am_T 84 7 = some (0, .iload_n 1, 8, [], .null) := by decide +kernel
theorem t84_8 : am_T 84 8 = some (1, .ifCond .ge 5, 11, [13], .null) := by decide +kernel
theorem t84_11 : am_T 84 11 = some (0, .iconst (-1), 12, [], .int (-1)) := by decide +kernel
theorem t84_12 : am_T 84 12 = some (4, .ireturn, 13, [0], .null) := by decide +kernel
theorem t84_13 : am_T 84 13 = some (0, .iconst 0, 14, [], .int (0)) := by decide +kernel
theorem t84_14 : am_T 84 14 = some (0, .istore_n 2, 15, [], .null) := by decide +kernel
theorem t84_15 : am_T 84 15 = some (0, .iload_n 1, 16, [], .null) := by decide +kernel
theorem t84_16 : am_T 84 16 = some (0, .istore_n 3, 17, [], .null) := by decide +kernel
theorem t84_17 : am_T 84 17 = some (0, .aload_n 0, 18, [], .null) := by decide +kernel
theorem t84_18 : am_T 84 18 = some (2, .getfield 9, 21, [0, 7], .null) := by decide +kernel
theorem t84_21 : am_T 84 21 = some (0, .iconst 1, 22, [], .int (1)) := by decide +kernel
theorem t84_22 : am_T 84 22 = some (0, .isub, 23, [], .null) := by decide +kernel
theorem t84_23 : am_T 84 23 = some (0, .istore 4, 25, [], .null) := by decide +kernel
theorem t84_25 : am_T 84 25 = some (0, .iload 4, 27, [], .null) := by decide +kernel
theorem t84_27 : am_T 84 27 = some (1, .ifCond .lt 43, 30, [70], .null) := by decide +kernel
theorem t84_30 : am_T 84 30 = some (0, .iload_n 3, 31, [], .null) := by decide +kernel
theorem t84_31 : am_T 84 31 = some (0, .bipush 10, 33, [], .int (10)) := by decide +kernel
theorem t84_33 : am_T 84 33 = some (0, .irem, 34, [], .null) := by decide +kernel
theorem t84_34 : am_T 84 34 = some (0, .istore 5, 36, [], .null) := by decide +kernel
theorem t84_36 : am_T 84 36 = some (0, .iload 5, 38, [], .null) := by decide +kernel
theorem t84_38 : am_T 84 38 = some (0, .iconst 2, 39, [], .int (2)) := by decide +kernel
theorem t84_39 : am_T 84 39 = some (1, .if_icmp .le 5, 42, [44], .null) := by decide +kernel
theorem t84_42 : am_T 84 42 = some (0, .iconst (-1), 43, [], .int (-1)) := by decide +kernel
theorem t84_43 : am_T 84 43 = some (4, .ireturn, 44, [0], .null) := by decide +kernel
theorem t84_44 : am_T 84 44 = some (0, .iload_n 2, 45, [], .null) := by decide +kernel
theorem t84_45 : am_T 84 45 = some (0, .iload 5, 47, [], .null) := by decide +kernel
theorem t84_47 : am_T 84 47 = some (0, .aload_n 0, 48, [], .null) := by decide +kernel
theorem t84_48 : am_T 84 48 = some (2, .getfield 27, 51, [3, 7], .null) := by decide +kernel
theorem t84_51 : am_T 84 51 = some (0, .iload 4, 53, [], .null) := by decide +kernel
theorem t84_53 : am_T 84 53 = some (3, .invokevirtual 63, 56, [2, 4, 30], .null) := by decide +kernel
theorem t84_56 : am_T 84 56 = some (0, .imul, 57, [], .null) := by decide +kernel
theorem t84_57 : am_T 84 57 = some (0, .iadd, 58, [], .null) := by decide +kernel
theorem t84_58 : am_T 84 58 = some (0, .istore_n 2, 59, [], .null) := by decide +kernel
theorem t84_59 : am_T 84 59 = some (0, .iload_n 3, 60, [], .null) := by decide +kernel
theorem t84_60 : am_T 84 60 = some (0, .bipush 10, 62, [], .int (10)) := by decide +kernel
theorem t84_62 : am_T 84 62 = some (0, .idiv, 63, [], .null) := by decide +kernel
theorem t84_63 : am_T 84 63 = some (0, .istore_n 3, 64, [], .null) := by decide +kernel
theorem t84_64 : am_T 84 64 = some (0, .iinc 4 (-1), 67, [], .int (-1)) := by decide +kernel
theorem t84_67 : am_T 84 67 = some (1, .goto (-42), 70, [25], .null) := by decide +kernel
theorem t84_70 : am_T 84 70 = some (0, .iload_n 3, 71, [], .null) := by decide +kernel
theorem t84_71 : am_T 84 71 = some (1, .ifCond .ne 7, 74, [78], .null) := by decide +kernel
theorem t84_74 : am_T 84 74 = some (0, .iload_n 2, 75, [], .null) := by decide +kernel
theorem t84_75 : am_T 84 75 = some (1, .goto 4, 78, [79], .null) := by decide +kernel
theorem t84_78 : am_T 84 78 = some (0, .iconst (-1), 79, [], .int (-1)) := by decide +kernel
theorem t84_79 : am_T 84 79 = some (4, .ireturn, 80, [0], .null) := by decide +kernel
theorem t85_0 : am_T 85 0 = some (0, .iconst 0, 1, [], .int (0)) := by decide +kernel
theorem t85_1 : am_T 85 1 = some (0, .istore_n 2, 2, [], .null) := by decide +kernel
theorem t85_2 : am_T 85 2 = some (0, .iconst 0, 3, [], .int (0)) := by decide +kernel
theorem t85_3 : am_T 85 3 = some (0, .istore_n 3, 4, [], .null) := by decide +kernel
theorem t85_4 : am_T 85 4 = some (0, .iload_n 3, 5, [], .null) := by decide +kernel
theorem t85_5 : am_T 85 5 = some (0, .aload_n 0, 6, [], .null) := by decide +kernel
theorem t85_6 : am_T 85 6 = some (2, .getfield 9, 9, [0, 7], .null) := by decide +kernel
theorem t85_9 : am_T 85 9 = some (1, .if_icmp .ge 21, 12, [30], .null) := by decide +kernel
theorem t85_12 : am_T 85 12 = some (0, .iload_n 2, 13, [], .null) := by decide +kernel
theorem t85_13 : am_T 85 13 = some (0, .bipush 10, 15, [], .int (10)) := by decide +kernel
theorem t85_15 : am_T 85 15 = some (0, .imul, 16, [], .null) := by decide +kernel
theorem t85_16 : am_T 85 16 = some (0, .aload_n 0, 17, [], .null) := by decide +kernel
theorem t85_17 : am_T 85 17 = some (0, .iload_n 1, 18, [], .null) := by decide +kernel
theorem t85_18 : am_T 85 18 = some (0, .iload_n 3, 19, [], .null) := by decide +kernel
theorem t85_19 : am_T 85 19 = some (3, .invokevirtual 52, 22, [3, 7, 77], .null) := by decide +kernel
theorem t85_22 : am_T 85 22 = some (0, .iadd, 23, [], .null) := by decide +kernel
theorem t85_23 : am_T 85 23 = some (0, .istore_n 2, 24, [], .null) := by decide +kernel
theorem t85_24 : am_T 85 24 = some (0, .iinc 3 1, 27, [], .int (1)) := by decide +kernel
theorem t85_27 : am_T 85 27 = some (1, .goto (-23), 30, [4], .null) := by decide +kernel
theorem t85_30 : am_T 85 30 = some (0, .iload_n 2, 31, [], .null) := by decide +kernel
theorem t85_31 : am_T 85 31 = some (4, .ireturn, 32, [0], .null) := by decide +kernel
theorem t86_0 : am_T 86 0 = some (0, .aload_n 0, 1, [], .null) := by decide +kernel
theorem t86_1 : am_T 86 1 = some (3, .invokespecial 3, 4, [1, 50], .null) := by decide +kernel
theorem t86_4 : am_T 86 4 = some (0, .aload_n 0, 5, [], .null) := by decide +kernel
theorem t86_5 : am_T 86 5 = some (0, .iconst 0, 6, [], .int (0)) := by decide +kernel
theorem t86_6 : am_T 86 6 = some (2, .putfield 9, 9, [4, 0, 8], .null) := by decide +kernel
theorem t86_9 : am_T 86 9 = some (0, .aload_n 0, 10, [], .null) := by decide +kernel
theorem t86_10 : am_T 86 10 = some (0, .iconst 0, 11, [], .int (0)) := by decide +kernel
theorem t86_11 : am_T 86 11 = some (2, .putfield 15, 14, [5, 0, 8], .null) := by decide +kernel
theorem t86_14 : am_T 86 14 = some (0, .aload_n 0, 15, [], .null) := by decide +kernel
theorem t86_15 : am_T 86 15 = some (0, .iconst 0, 16, [], .int (0)) := by decide +kernel
theorem t86_16 : am_T 86 16 = some (2, .putfield 18, 19, [6, 0, 8], .null) := by decide +kernel
theorem t86_19 : am_T 86 19 = some (0, .aload_n 0, 20, [], .null) := by decide +kernel
theorem t86_20 : am_T 86 20 = some (0, .iconst 0, 21, [], .int (0)) := by decide +kernel
theorem t86_21 : am_T 86 21 = some (2, .putfield 21, 24, [7, 0, 8], .null) := by decide +kernel
theorem t86_24 : am_T 86 24 = some (4, .return_, 25, [], .null) := by decide +kernel
theorem t87_0 : am_T 87 0 = some (0, .aload_n 0, 1, [], .null) := by decide +kernel
theorem t87_1 : am_T 87 1 = some (0, .aload_n 1, 2, [], .null) := by decide +kernel
theorem t87_2 : am_T 87 2 = some (3, .invokevirtual 24, 5, [2, 8, 51], .null) := by decide +kernel
theorem t87_5 : am_T 87 5 = some (0, .aload_n 0, 6, [], .null) := by decide +kernel
theorem t87_6 : am_T 87 6 = some (0, .bipush 110, 8, [], .int (110)) := by decide +kernel
theorem t87_8 : am_T 87 8 = some (3, .invokevirtual 28, 11, [2, 8, 56], .null) := by decide +kernel
theorem t87_11 : am_T 87 11 = some (0, .aload_n 0, 12, [], .null) := by decide +kernel
theorem t87_12 : am_T 87 12 = some (0, .aload_n 0, 13, [], .null) := by decide +kernel
theorem t87_13 : am_T 87 13 = some (0, .iconst 2, 14, [], .int (2)) := by decide +kernel
theorem t87_14 : am_T 87 14 = some (0, .iconst 5, 15, [], .int (5)) := by decide +kernel
theorem t87_15 : am_T 87 15 = some (3, .invokevirtual 34, 18, [3, 8, 57], .null) := by decide +kernel
theorem t87_18 : am_T 87 18 = some (2, .putfield 9, 21, [4, 0, 8], .null) := by decide +kernel
theorem t87_21 : am_T 87 21 = some (0, .aload_n 0, 22, [], .null) := by decide +kernel
theorem t87_22 : am_T 87 22 = some (0, .iconst (-1), 23, [], .int (-1)) := by decide +kernel
theorem t87_23 : am_T 87 23 = some (2, .putfield 15, 26, [5, 0, 8], .null) := by decide +kernel
theorem t87_26 : am_T 87 26 = some (0, .aload_n 0, 27, [], .null) := by decide +kernel
theorem t87_27 : am_T 87 27 = some (0, .iconst (-1), 28, [], .int (-1)) := by decide +kernel
theorem t87_28 : am_T 87 28 = some (2, .putfield 18, 31, [6, 0, 8], .null) := by decide +kernel
theorem t87_31 : am_T 87 31 = some (0, .aload_n 0, 32, [], .null) := by decide +kernel
theorem t87_32 : am_T 87 32 = some (0, .iconst (-1), 33, [], .int (-1)) := by decide +kernel
theorem t87_33 : am_T 87 33 = some (2, .putfield 21, 36, [7, 0, 8], .null) := by decide +kernel
theorem t87_36 : am_T 87 36 = some (0, .iconst 0, 37, [], .int (0)) := by decide +kernel
theorem t87_37 : am_T 87 37 = some (0, .istore_n 2, 38, [], .null) := by decide +kernel
theorem t87_38 : am_T 87 38 = some (0, .iload_n 2, 39, [], .null) := by decide +kernel
theorem t87_39 : am_T 87 39 = some (0, .iconst 3, 40, [], .int (3)) := by decide +kernel
theorem t87_40 : am_T 87 40 = some (1, .if_icmp .ge 20, 43, [60], .null) := by decide +kernel
theorem t87_43 : am_T 87 43 = some (0, .aload_n 0, 44, [], .null) := by decide +kernel
theorem t87_44 : am_T 87 44 = some (3, .invokevirtual 38, 47, [1, 8, 52], .null) := by decide +kernel
theorem t87_47 : am_T 87 47 = some (1, .ifCond .eq 13, 50, [60], .null) := by decide +kernel
theorem t87_50 : am_T 87 50 = some (0, .aload_n 0, 51, [], .null) := by decide +kernel
theorem t87_51 : am_T 87 51 = some (3, .invokevirtual 42, 54, [1, 8, 88], .null) := by decide +kernel
theorem t87_54 : am_T 87 54 = some (0, .iinc 2 1, 57, [], .int (1)) := by decide +kernel
theorem t87_57 : am_T 87 57 = some (1, .goto (-19), 60, [38], .null) := by decide +kernel
theorem t87_60 : am_T 87 60 = some (0, .aload_n 0, 61, [], .null) := by decide +kernel
theorem t87_61 : am_T 87 61 = some (3, .invokevirtual 45, 64, [1, 8, 60], .null) := by decide +kernel
theorem t87_64 : am_T 87 64 = some (4, .ireturn, 65, [0], .null) := by decide +kernel
theorem t88_0 : am_T 88 0 = some (0, .aload_n 0, 1, [], .null) := by decide +kernel
theorem t88_1 : am_T 88 1 = some (2, .getfield 15, 4, [5, 8], .null) := by decide +kernel
theorem t88_4 : am_T 88 4 = some (0, .iconst (-1), 5, [], .int (-1)) := by decide +kernel
theorem t88_5 : am_T 88 5 = some (1, .if_icmp .ne 25, 8, [30], .null) := by decide +kernel
theorem t88_8 : am_T 88 8 = some (0, .aload_n 0, 9, [], .null) := by decide +kernel
theorem t88_9 : am_T 88 9 = some (0, .bipush 114, 11, [], .int (114)) := by decide +kernel
theorem t88_11 : am_T 88 11 = some (3, .invokevirtual 48, 14, [2, 8, 55], .null) := by decide +kernel
theorem t88_14 : am_T 88 14 = some (1, .ifCond .eq 16, 17, [30], .null) := by decide +kernel
theorem t88_17 : am_T 88 17 = some (0, .aload_n 0, 18, [], .null) := by decide +kernel
theorem t88_18 : am_T 88 18 = some (0, .aload_n 0, 19, [], .null) := by decide +kernel
theorem t88_19 : am_T 88 19 = some (0, .iconst 0, 20, [], .int (0)) := by decide +kernel
theorem t88_20 : am_T 88 20 = some (0, .iconst 5, 21, [], .int (5)) := by decide +kernel
theorem t88_21 : am_T 88 21 = some (3, .invokevirtual 34, 24, [3, 8, 57], .null) := by decide +kernel
theorem t88_24 : am_T 88 24 = some (2, .putfield 15, 27, [5, 0, 8], .null) := by decide +kernel
theorem t88_27 : am_T 88 27 = some (1, .goto 67, 30, [94], .null) := by decide +kernel
theorem t88_30 : am_T 88 30 = some (0, .aload_n 0, 31, [], .null) := by decide +kernel
theorem t88_31 : am_T 88 31 = some (2, .getfield 18, 34, [6, 8], .null) := by decide +kernel
theorem t88_34 : am_T 88 34 = some (0, .iconst (-1), 35, [], .int (-1)) := by decide +kernel
theorem t88_35 : am_T 88 35 = some (1, .if_icmp .ne 25, 38, [60], .null) := by decide +kernel
theorem t88_38 : am_T 88 38 = some (0, .aload_n 0, 39, [], .null) := by decide +kernel
theorem t88_39 : am_T 88 39 = some (0, .bipush 119, 41, [], .int (119)) := by decide +kernel
theorem t88_41 : am_T 88 41 = some (3, .invokevirtual 48, 44, [2, 8, 55], .null) := by decide +kernel
theorem t88_44 : am_T 88 44 = some (1, .ifCond .eq 16, 47, [60], .null) := by decide +kernel
theorem t88_47 : am_T 88 47 = some (0, .aload_n 0, 48, [], .null) := by decide +kernel
theorem t88_48 : am_T 88 48 = some (0, .aload_n 0, 49, [], .null) := by decide +kernel
theorem t88_49 : am_T 88 49 = some (0, .iconst 0, 50, [], .int (0)) := by decide +kernel
theorem t88_50 : am_T 88 50 = some (0, .iconst 5, 51, [], .int (5)) := by decide +kernel
theorem t88_51 : am_T 88 51 = some (3, .invokevirtual 34, 54, [3, 8, 57], .null) := by decide +kernel
theorem t88_54 : am_T 88 54 = some (2, .putfield 18, 57, [6, 0, 8], .null) := by decide +kernel
theorem t88_57 : am_T 88 57 = some (1, .goto 37, 60, [94], .null) := by decide +kernel
theorem t88_60 : am_T 88 60 = some (0, .aload_n 0, 61, [], .null) := by decide +kernel
theorem t88_61 : am_T 88 61 = some (2, .getfield 21, 64, [7, 8], .null) := by decide +kernel
theorem t88_64 : am_T 88 64 = some (0, .iconst (-1), 65, [], .int (-1)) := by decide +kernel
theorem t88_65 : am_T 88 65 = some (1, .if_icmp .ne 25, 68, [90], .null) := by decide +kernel
theorem t88_68 : am_T 88 68 = some (0, .aload_n 0, 69, [], .null) := by decide +kernel
theorem t88_69 : am_T 88 69 = some (0, .bipush 100, 71, [], .int (100)) := by decide +kernel
theorem t88_71 : am_T 88 71 = some (3, .invokevirtual 48, 74, [2, 8, 55], .null) := by decide +kernel
theorem t88_74 : am_T 88 74 = some (1, .ifCond .eq 16, 77, [90], .null) := by decide +kernel
theorem t88_77 : am_T 88 77 = some (0, .aload_n 0, 78, [], .null) := by decide +kernel
theorem t88_78 : am_T 88 78 = some (0, .aload_n 0, 79, [], .null) := by decide +kernel
theorem t88_79 : am_T 88 79 = some (0, .iconst 1, 80, [], .int (1)) := by decide +kernel
theorem t88_80 : am_T 88 80 = some (0, .iconst 5, 81, [], .int (5)) := by decide +kernel
theorem t88_81 : am_T 88 81 = some (3, .invokevirtual 34, 84, [3, 8, 57], .null) := by decide +kernel
theorem t88_84 : am_T 88 84 = some (2, .putfield 21, 87, [7, 0, 8], .null) := by decide +kernel
theorem t88_87 : am_T 88 87 = some (1, .goto 7, 90, [94], .null) := by decide +kernel
theorem t88_90 : am_T 88 90 = some (0, .aload_n 0, 91, [], .null) := by decide +kernel
theorem t88_91 : am_T 88 91 = some (3, .invokevirtual 52, 94, [1, 8, 59], .null) := by decide +kernel
theorem t88_94 : am_T 88 94 = some (4, .return_, 95, [], .null) := by decide +kernel
theorem t89_0 : am_T 89 0 = some (0, .aload_n 0, 1, [], .null) := by decide +kernel
theorem t89_1 : am_T 89 1 = some (2, .getfield 9, 4, [4, 8], .null) := by decide +kernel
theorem t89_4 : am_T 89 4 = some (4, .ireturn, 5, [0], .null) := by decide +kernel
theorem t90_0 : am_T 90 0 = some (0, .aload_n 0, 1, [], .null) := by decide +kernel
theorem t90_1 : am_T 90 1 = some (2, .getfield 15, 4, [5, 8], .null) := by decide +kernel
theorem t90_4 : am_T 90 4 = some (0, .iconst (-1), 5, [], .int (-1)) := by decide +kernel
theorem t90_5 : am_T 90 5 = some (1, .if_icmp .ne 7, 8, [12], .null) := by decide +kernel
theorem t90_8 : am_T 90 8 = some (0, .iconst 2, 9, [], .int (2)) := by decide +kernel
theorem t90_9 : am_T 90 9 = some (1, .goto 7, 12, [16], .null) := by decide +kernel
theorem t90_12 : am_T 90 12 = some (0, .aload_n 0, 13, [], .null) := by decide +kernel
theorem t90_13 : am_T 90 13 = some (2, .getfield 15, 16, [5, 8], .null) := by decide +kernel
theorem t90_16 : am_T 90 16 = some (4, .ireturn, 17, [0], .null) := by decide +kernel
theorem t91_0 : am_T 91 0 = some (0, .aload_n 0, 1, [], .null) := by decide +kernel
theorem t91_1 : am_T 91 1 = some (2, .getfield 18, 4, [6, 8], .null) := by decide +kernel
theorem t91_4 : am_T 91 4 = some (0, .iconst (-1), 5, [], .int (-1)) := by decide +kernel
theorem t91_5 : am_T 91 5 = some (1, .if_icmp .ne 7, 8, [12], .null) := by decide +kernel
theorem t91_8 : am_T 91 8 = some (0, .iconst 2, 9, [], .int (2)) := by decide +kernel
theorem t91_9 : am_T 91 9 = some (1, .goto 7, 12, [16], .null) := by decide +kernel
theorem t91_12 : am_T 91 12 = some (0, .aload_n 0, 13, [], .null) := by decide +kernel
theorem t91_13 : am_T 91 13 = some (2, .getfield 18, 16, [6, 8], .null) := by decide +kernel
theorem t91_16 : am_T 91 16 = some (4, .ireturn, 17, [0], .null) := by decide +kernel
theorem t92_0 : am_T 92 0 = some (0, .aload_n 0, 1, [], .null) := by decide +kernel
theorem t92_1 : am_T 92 1 = some (2, .getfield 21, 4, [7, 8], .null) := by decide +kernel
theorem t92_4 : am_T 92 4 = some (0, .iconst (-1), 5, [], .int (-1)) := by decide +kernel
theorem t92_5 : am_T 92 5 = some (1, .if_icmp .ne 7, 8, [12], .null) := by decide +kernel
theorem t92_8 : am_T 92 8 = some (0, .iconst 2, 9, [], .int (2)) := by decide +kernel
theorem t92_9 : am_T 92 9 = some (1, .goto 7, 12, [16], .null) := by decide +kernel
theorem t92_12 : am_T 92 12 = some (0, .aload_n 0, 13, [], .null) := by decide +kernel
theorem t92_13 : am_T 92 13 = some (2, .getfield 21, 16, [7, 8], .null) := by decide +kernel
theorem t92_16 : am_T 92 16 = some (4, .ireturn, 17, [0], .null) := by decide +kernel
theorem t93_0 : am_T 93 0 = some (0, .aload_n 0, 1, [], .null) := by decide +kernel
theorem t93_1 : am_T 93 1 = some (2, .invokespecial 3, 4, [], .null) := by decide +kernel
theorem t93_4 : am_T 93 4 = some (0, .aload_n 0, 5, [], .null) := by decide +kernel
theorem t93_5 : am_T 93 5 = some (0, .iconst 0, 6, [], .int (0)) := by decide +kernel
theorem t93_6 : am_T 93 6 = some (2, .putfield 9, 9, [1, 0, 9], .null) := by decide +kernel
theorem t93_9 : am_T 93 9 = some (0, .aload_n 0, 10, [], .null) := by decide +kernel
theorem t93_10 : am_T 93 10 = some (0, .iconst 0, 11, [], .int (0)) := by decide +kernel
theorem t93_11 : am_T 93 11 = some (2, .putfield 15, 14, [2, 0, 9], .null) := by decide +kernel
theorem t93_14 : am_T 93 14 = some (0, .aload_n 0, 15, [], .null) := by decide +kernel
theorem t93_15 : am_T 93 15 = some (0, .iconst 0, 16, [], .int (0)) := by decide +kernel
theorem t93_16 : am_T 93 16 = some (2, .putfield 18, 19, [3, 0, 9], .null) := by decide +kernel
theorem t93_19 : am_T 93 19 = some (0, .aload_n 0, 20, [], .null) := by decide +kernel
theorem t93_20 : am_T 93 20 = some (0, .iconst 0, 21, [], .int (0)) := by decide +kernel
theorem t93_21 : am_T 93 21 = some (2, .putfield 21, 24, [4, 0, 9], .null) := by decide +kernel
theorem t93_24 : am_T 93 24 = some (0, .aload_n 0, 25, [], .null) := by decide +kernel
theorem t93_25 : am_T 93 25 = some (0, .iconst 0, 26, [], .int (0)) := by decide +kernel
theorem t93_26 : am_T 93 26 = some (2, .putfield 24, 29, [5, 0, 9], .null) := by decide +kernel
theorem t93_29 : am_T 93 29 = some (0, .aload_n 0, 30, [], .null) := by decide +kernel
theorem t93_30 : am_T 93 30 = some (0, .iconst 0, 31, [], .int (0)) := by decide +kernel
theorem t93_31 : am_T 93 31 = some (2, .putfield 27, 34, [6, 0, 9], .null) := by decide +kernel
theorem t93_34 : am_T 93 34 = some (0, .aload_n 0, 35, [], .null) := by decide +kernel
theorem t93_35 : am_T 93 35 = some (2, .new 30, 38, [4, 2], .null) := by decide +kernel
theorem t93_38 : am_T 93 38 = some (0, .dup, 39, [], .null) := by decide +kernel
theorem t93_39 : am_T 93 39 = some (0, .bipush 60, 41, [], .int (60)) := by decide +kernel
theorem t93_41 : am_T 93 41 = some (3, .invokespecial 32, 44, [2, 28], .null) := by decide +kernel
theorem t93_44 : am_T 93 44 = some (2, .putfield 35, 47, [7, 2, 9], .null) := by decide +kernel
theorem t93_47 : am_T 93 47 = some (0, .aload_n 0, 48, [], .null) := by decide +kernel
theorem t93_48 : am_T 93 48 = some (2, .new 30, 51, [4, 2], .null) := by decide +kernel
theorem t93_51 : am_T 93 51 = some (0, .dup, 52, [], .null) := by decide +kernel
theorem t93_52 : am_T 93 52 = some (0, .bipush 60, 54, [], .int (60)) := by decide +kernel
theorem t93_54 : am_T 93 54 = some (3, .invokespecial 32, 57, [2, 28], .null) := by decide +kernel
theorem t93_57 : am_T 93 57 = some (2, .putfield 39, 60, [8, 2, 9], .null) := by decide +kernel
theorem t93_60 : am_T 93 60 = some (0, .aload_n 0, 61, [], .null) := by decide +kernel
theorem t93_61 : am_T 93 61 = some (2, .new 30, 64, [4, 2], .null) := by decide +kernel
theorem t93_64 : am_T 93 64 = some (0, .dup, 65, [], .null) := by decide +kernel
theorem t93_65 : am_T 93 65 = some (0, .bipush 60, 67, [], .int (60)) := by decide +kernel
theorem t93_67 : am_T 93 67 = some (3, .invokespecial 32, 70, [2, 28], .null) := by decide +kernel
theorem t93_70 : am_T 93 70 = some (2, .putfield 42, 73, [9, 2, 9], .null) := by decide +kernel
theorem t93_73 : am_T 93 73 = some (0, .aload_n 0, 74, [], .null) := by decide +kernel
theorem t93_74 : am_T 93 74 = some (2, .new 30, 77, [4, 2], .null) := by decide +kernel
theorem t93_77 : am_T 93 77 = some (0, .dup, 78, [], .null) := by decide +kernel
theorem t93_78 : am_T 93 78 = some (0, .bipush 60, 80, [], .int (60)) := by decide +kernel
theorem t93_80 : am_T 93 80 = some (3, .invokespecial 32, 83, [2, 28], .null) := by decide +kernel
theorem t93_83 : am_T 93 83 = some (2, .putfield 45, 86, [10, 2, 9], .null) := by decide +kernel
theorem t93_86 : am_T 93 86 = some (0, .aload_n 0, 87, [], .null) := by decide +kernel
theorem t93_87 : am_T 93 87 = some (0, .aload_n 1, 88, [], .null) := by decide +kernel
theorem t93_88 : am_T 93 88 = some (2, .putfield 48, 91, [0, 2, 9], .null) := by decide +kernel
theorem t93_91 : am_T 93 91 = some (4, .return_, 92, [], .null) := by decide +kernel
theorem t94_0 : am_T 94 0 = some (0, .aload_n 0, 1, [], .null) := by decide +kernel
theorem t94_1 : am_T 94 1 = some (0, .iload_n 1, 2, [], .null) := by decide +kernel
theorem t94_2 : am_T 94 2 = some (2, .putfield 9, 5, [1, 0, 9], .null) := by decide +kernel
theorem t94_5 : am_T 94 5 = some (0, .aload_n 0, 6, [], .null) := by decide +kernel
theorem t94_6 : am_T 94 6 = some (0, .iload_n 2, 7, [], .null) := by decide +kernel
theorem t94_7 : am_T 94 7 = some (2, .putfield 15, 10, [2, 0, 9], .null) := by decide +kernel
theorem t94_10 : am_T 94 10 = some (0, .aload_n 0, 11, [], .null) := by decide +kernel
theorem t94_11 : am_T 94 11 = some (0, .iload_n 3, 12, [], .null) := by decide +kernel
theorem t94_12 : am_T 94 12 = some (2, .putfield 18, 15, [3, 0, 9], .null) := by decide +kernel
theorem t94_15 : am_T 94 15 = some (0, .aload_n 0, 16, [], .null) := by decide +kernel
