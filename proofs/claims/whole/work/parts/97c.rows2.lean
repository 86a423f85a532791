theorem t190_75 : am_T 190 75 = some (0, .lcmp, 76, [], .null) := by decide +kernel
theorem t190_76 : am_T 190 76 = some (1, .ifCond .ne 7, 79, [83], .null) := by decide +kernel
theorem t190_79 : am_T 190 79 = some (0, .lconst 0, 80, [], .long 0) := by decide +kernel
theorem t190_80 : am_T 190 80 = some (1, .goto 7, 83, [87], .null) := by decide +kernel
theorem t190_83 : am_T 190 83 = some (0, .iload_n 1, 84, [], .null) := by decide +kernel
theorem t190_84 : am_T 190 84 = some (0, .i2l, 85, [], .null) := by decide +kernel
theorem t190_85 : am_T 190 85 = some (0, .lload_n 3, 86, [], .null) := by decide +kernel
theorem t190_86 : am_T 190 86 = some (0, .ldiv, 87, [], .null) := by decide +kernel
theorem t190_87 : am_T 190 87 = some (3, .invokestatic 206, 90, [1, 188], .null) := by decide +kernel
theorem t190_90 : am_T 190 90 = some (0, .istore_n 1, 91, [], .null) := by decide +kernel
theorem t190_91 : am_T 190 91 = some (1, .goto (-86), 94, [5], .null) := by decide +kernel
theorem t190_94 : am_T 190 94 = some (0, .iload_n 1, 95, [], .null) := by decide +kernel
theorem t190_95 : am_T 190 95 = some (4, .ireturn, 96, [0], .null) := by decide +kernel
theorem t191_0 : am_T 191 0 = some (0, .aload_n 0, 1, [], .null) := by decide +kernel
theorem t191_1 : am_T 191 1 = some (3, .invokevirtual 210, 4, [1, 12, 190], .null) := by decide +kernel
theorem t191_4 : am_T 191 4 = some (0, .istore_n 1, 5, [], .null) := by decide +kernel
theorem t191_5 : am_T 191 5 = some (0, .aload_n 0, 6, [], .null) := by decide +kernel
theorem t191_6 : am_T 191 6 = some (2, .getfield 160, 9, [11, 12], .null) := by decide +kernel
theorem t191_9 : am_T 191 9 = some (0, .iconst (-1), 10, [], .int (-1)) := by decide +kernel
theorem t191_10 : am_T 191 10 = some (1, .if_icmp .ne 74, 13, [84], .null) := by decide +kernel
theorem t191_13 : am_T 191 13 = some (0, .aload_n 0, 14, [], .null) := by decide +kernel
theorem t191_14 : am_T 191 14 = some (3, .invokevirtual 170, 17, [1, 12, 183], .null) := by decide +kernel
theorem t191_17 : am_T 191 17 = some (0, .bipush 43, 19, [], .int (43)) := by decide +kernel
theorem t191_19 : am_T 191 19 = some (1, .if_icmp .eq 12, 22, [31], .null) := by decide +kernel
theorem t191_22 : am_T 191 22 = some (0, .aload_n 0, 23, [], .null) := by decide +kernel
theorem t191_23 : am_T 191 23 = some (3, .invokevirtual 170, 26, [1, 12, 183], .null) := by decide +kernel
theorem t191_26 : am_T 191 26 = some (0, .bipush 45, 28, [], .int (45)) := by decide +kernel
theorem t191_28 : am_T 191 28 = some (1, .if_icmp .ne 56, 31, [84], .null) := by decide +kernel
theorem t191_31 : am_T 191 31 = some (0, .aload_n 0, 32, [], .null) := by decide +kernel
theorem t191_32 : am_T 191 32 = some (3, .invokevirtual 170, 35, [1, 12, 183], .null) := by decide +kernel
theorem t191_35 : am_T 191 35 = some (0, .bipush 43, 37, [], .int (43)) := by decide +kernel
theorem t191_37 : am_T 191 37 = some (1, .if_icmp .ne 7, 40, [44], .null) := by decide +kernel
theorem t191_40 : am_T 191 40 = some (0, .iconst 1, 41, [], .int (1)) := by decide +kernel
theorem t191_41 : am_T 191 41 = some (1, .goto 4, 44, [45], .null) := by decide +kernel
theorem t191_44 : am_T 191 44 = some (0, .iconst 0, 45, [], .int (0)) := by decide +kernel
theorem t191_45 : am_T 191 45 = some (0, .istore_n 2, 46, [], .null) := by decide +kernel
theorem t191_46 : am_T 191 46 = some (0, .aload_n 0, 47, [], .null) := by decide +kernel
theorem t191_47 : am_T 191 47 = some (0, .dup, 48, [], .null) := by decide +kernel
theorem t191_48 : am_T 191 48 = some (2, .getfield 151, 51, [10, 12], .null) := by decide +kernel
theorem t191_51 : am_T 191 51 = some (0, .iconst 1, 52, [], .int (1)) := by decide +kernel
theorem t191_52 : am_T 191 52 = some (0, .iadd, 53, [], .null) := by decide +kernel
theorem t191_53 : am_T 191 53 = some (2, .putfield 151, 56, [10, 0, 12], .null) := by decide +kernel
theorem t191_56 : am_T 191 56 = some (0, .aload_n 0, 57, [], .null) := by decide +kernel
theorem t191_57 : am_T 191 57 = some (3, .invokevirtual 210, 60, [1, 12, 190], .null) := by decide +kernel
theorem t191_60 : am_T 191 60 = some (0, .i2l, 61, [], .null) := by decide +kernel
theorem t191_61 : am_T 191 61 = some (0, .lstore_n 3, 62, [], .null) := by decide +kernel
theorem t191_62 : am_T 191 62 = some (0, .iload_n 2, 63, [], .null) := by decide +kernel
theorem t191_63 : am_T 191 63 = some (1, .ifCond .eq 10, 66, [73], .null) := by decide +kernel
theorem t191_66 : am_T 191 66 = some (0, .iload_n 1, 67, [], .null) := by decide +kernel
theorem t191_67 : am_T 191 67 = some (0, .i2l, 68, [], .null) := by decide +kernel
theorem t191_68 : am_T 191 68 = some (0, .lload_n 3, 69, [], .null) := by decide +kernel
theorem t191_69 : am_T 191 69 = some (0, .ladd, 70, [], .null) := by decide +kernel
theorem t191_70 : am_T 191 70 = some (1, .goto 7, 73, [77], .null) := by decide +kernel
theorem t191_73 : am_T 191 73 = some (0, .iload_n 1, 74, [], .null) := by decide +kernel
theorem t191_74 : am_T 191 74 = some (0, .i2l, 75, [], .null) := by decide +kernel
theorem t191_75 : am_T 191 75 = some (0, .lload_n 3, 76, [], .null) := by decide +kernel
theorem t191_76 : am_T 191 76 = some (0, .lsub, 77, [], .null) := by decide +kernel
theorem t191_77 : am_T 191 77 = some (3, .invokestatic 206, 80, [1, 188], .null) := by decide +kernel
theorem t191_80 : am_T 191 80 = some (0, .istore_n 1, 81, [], .null) := by decide +kernel
theorem t191_81 : am_T 191 81 = some (1, .goto (-76), 84, [5], .null) := by decide +kernel
theorem t191_84 : am_T 191 84 = some (0, .iload_n 1, 85, [], .null) := by decide +kernel
theorem t191_85 : am_T 191 85 = some (4, .ireturn, 86, [0], .null) := by decide +kernel
theorem t192_0 : am_T 192 0 = some (0, .iload_n 0, 1, [], .null) := by decide +kernel
theorem t192_1 : am_T 192 1 = some (0, .bipush 61, 3, [], .int (61)) := by decide +kernel
theorem t192_3 : am_T 192 3 = some (1, .if_icmp .eq 15, 6, [18], .null) := by decide +kernel
theorem t192_6 : am_T 192 6 = some (0, .iload_n 0, 7, [], .null) := by decide +kernel
theorem t192_7 : am_T 192 7 = some (0, .bipush 60, 9, [], .int (60)) := by decide +kernel
theorem t192_9 : am_T 192 9 = some (1, .if_icmp .eq 9, 12, [18], .null) := by decide +kernel
theorem t192_12 : am_T 192 12 = some (0, .iload_n 0, 13, [], .null) := by decide +kernel
theorem t192_13 : am_T 192 13 = some (0, .bipush 62, 15, [], .int (62)) := by decide +kernel
theorem t192_15 : am_T 192 15 = some (1, .if_icmp .ne 7, 18, [22], .null) := by decide +kernel
theorem t192_18 : am_T 192 18 = some (0, .iconst 1, 19, [], .int (1)) := by decide +kernel
theorem t192_19 : am_T 192 19 = some (1, .goto 4, 22, [23], .null) := by decide +kernel
theorem t192_22 : am_T 192 22 = some (0, .iconst 0, 23, [], .int (0)) := by decide +kernel
theorem t192_23 : am_T 192 23 = some (4, .ireturn, 24, [1], .null) := by decide +kernel
theorem t193_0 : am_T 193 0 = some (0, .iload_n 1, 1, [], .null) := by decide +kernel
theorem t193_1 : am_T 193 1 = some (1, .ifCond .eq 7, 4, [8], .null) := by decide +kernel
theorem t193_4 : am_T 193 4 = some (0, .iload_n 2, 5, [], .null) := by decide +kernel
theorem t193_5 : am_T 193 5 = some (1, .goto 7, 8, [12], .null) := by decide +kernel
theorem t193_8 : am_T 193 8 = some (0, .aload_n 0, 9, [], .null) := by decide +kernel
theorem t193_9 : am_T 193 9 = some (3, .invokevirtual 193, 12, [1, 12, 191], .null) := by decide +kernel
theorem t193_12 : am_T 193 12 = some (0, .istore_n 3, 13, [], .null) := by decide +kernel
theorem t193_13 : am_T 193 13 = some (0, .aload_n 0, 14, [], .null) := by decide +kernel
theorem t193_14 : am_T 193 14 = some (2, .getfield 160, 17, [11, 12], .null) := by decide +kernel
theorem t193_17 : am_T 193 17 = some (0, .iconst (-1), 18, [], .int (-1)) := by decide +kernel
theorem t193_18 : am_T 193 18 = some (1, .if_icmp .eq 5, 21, [23], .null) := by decide +kernel
theorem t193_21 : am_T 193 21 = some (0, .iconst 0, 22, [], .int (0)) := by decide +kernel
theorem t193_22 : am_T 193 22 = some (4, .ireturn, 23, [1], .null) := by decide +kernel
theorem t193_23 : am_T 193 23 = some (0, .aload_n 0, 24, [], .null) := by decide +kernel
theorem t193_24 : am_T 193 24 = some (3, .invokevirtual 170, 27, [1, 12, 183], .null) := by decide +kernel
theorem t193_27 : am_T 193 27 = some (0, .istore 4, 29, [], .null) := by decide +kernel
theorem t193_29 : am_T 193 29 = some (0, .iload 4, 31, [], .null) := by decide +kernel
theorem t193_31 : am_T 193 31 = some (3, .invokestatic 213, 34, [1, 192], .null) := by decide +kernel
theorem t193_34 : am_T 193 34 = some (1, .ifCond .ne 8, 37, [42], .null) := by decide +kernel
theorem t193_37 : am_T 193 37 = some (0, .aload_n 0, 38, [], .null) := by decide +kernel
theorem t193_38 : am_T 193 38 = some (3, .invokevirtual 166, 41, [1, 12, 184], .null) := by decide +kernel
theorem t193_41 : am_T 193 41 = some (4, .ireturn, 42, [1], .null) := by decide +kernel
theorem t193_42 : am_T 193 42 = some (0, .aload_n 0, 43, [], .null) := by decide +kernel
theorem t193_43 : am_T 193 43 = some (0, .dup, 44, [], .null) := by decide +kernel
theorem t193_44 : am_T 193 44 = some (2, .getfield 151, 47, [10, 12], .null) := by decide +kernel
theorem t193_47 : am_T 193 47 = some (0, .iconst 1, 48, [], .int (1)) := by decide +kernel
theorem t193_48 : am_T 193 48 = some (0, .iadd, 49, [], .null) := by decide +kernel
theorem t193_49 : am_T 193 49 = some (2, .putfield 151, 52, [10, 0, 12], .null) := by decide +kernel
theorem t193_52 : am_T 193 52 = some (0, .aload_n 0, 53, [], .null) := by decide +kernel
theorem t193_53 : am_T 193 53 = some (3, .invokevirtual 193, 56, [1, 12, 191], .null) := by decide +kernel
theorem t193_56 : am_T 193 56 = some (0, .istore 5, 58, [], .null) := by decide +kernel
theorem t193_58 : am_T 193 58 = some (0, .iload 4, 60, [], .null) := by decide +kernel
theorem t193_60 : am_T 193 60 = some (0, .bipush 61, 62, [], .int (61)) := by decide +kernel
theorem t193_62 : am_T 193 62 = some (1, .if_icmp .ne 17, 65, [79], .null) := by decide +kernel
theorem t193_65 : am_T 193 65 = some (0, .iload_n 3, 66, [], .null) := by decide +kernel
theorem t193_66 : am_T 193 66 = some (0, .iload 5, 68, [], .null) := by decide +kernel
theorem t193_68 : am_T 193 68 = some (1, .if_icmp .ne 7, 71, [75], .null) := by decide +kernel
theorem t193_71 : am_T 193 71 = some (0, .iconst 1, 72, [], .int (1)) := by decide +kernel
theorem t193_72 : am_T 193 72 = some (1, .goto 39, 75, [111], .null) := by decide +kernel
theorem t193_75 : am_T 193 75 = some (0, .iconst 0, 76, [], .int (0)) := by decide +kernel
theorem t193_76 : am_T 193 76 = some (1, .goto 35, 79, [111], .null) := by decide +kernel
theorem t193_79 : am_T 193 79 = some (0, .iload 4, 81, [], .null) := by decide +kernel
theorem t193_81 : am_T 193 81 = some (0, .bipush 60, 83, [], .int (60)) := by decide +kernel
theorem t193_83 : am_T 193 83 = some (1, .if_icmp .ne 17, 86, [100], .null) := by decide +kernel
theorem t193_86 : am_T 193 86 = some (0, .iload_n 3, 87, [], .null) := by decide +kernel
theorem t193_87 : am_T 193 87 = some (0, .iload 5, 89, [], .null) := by decide +kernel
theorem t193_89 : am_T 193 89 = some (1, .if_icmp .ge 7, 92, [96], .null) := by decide +kernel
theorem t193_92 : am_T 193 92 = some (0, .iconst 1, 93, [], .int (1)) := by decide +kernel
theorem t193_93 : am_T 193 93 = some (1, .goto 18, 96, [111], .null) := by decide +kernel
theorem t193_96 : am_T 193 96 = some (0, .iconst 0, 97, [], .int (0)) := by decide +kernel
theorem t193_97 : am_T 193 97 = some (1, .goto 14, 100, [111], .null) := by decide +kernel
theorem t193_100 : am_T 193 100 = some (0, .iload_n 3, 101, [], .null) := by decide +kernel
theorem t193_101 : am_T 193 101 = some (0, .iload 5, 103, [], .null) := by decide +kernel
theorem t193_103 : am_T 193 103 = some (1, .if_icmp .le 7, 106, [110], .null) := by decide +kernel
theorem t193_106 : am_T 193 106 = some (0, .iconst 1, 107, [], .int (1)) := by decide +kernel
theorem t193_107 : am_T 193 107 = some (1, .goto 4, 110, [111], .null) := by decide +kernel
theorem t193_110 : am_T 193 110 = some (0, .iconst 0, 111, [], .int (0)) := by decide +kernel
theorem t193_111 : am_T 193 111 = some (4, .ireturn, 112, [1], .null) := by decide +kernel
theorem t194_0 : am_T 194 0 = some (0, .aload_n 0, 1, [], .null) := by decide +kernel
theorem t194_1 : am_T 194 1 = some (3, .invokevirtual 170, 4, [1, 12, 183], .null) := by decide +kernel
theorem t194_4 : am_T 194 4 = some (0, .istore_n 1, 5, [], .null) := by decide +kernel
theorem t194_5 : am_T 194 5 = some (0, .iload_n 1, 6, [], .null) := by decide +kernel
theorem t194_6 : am_T 194 6 = some (0, .bipush 33, 8, [], .int (33)) := by decide +kernel
theorem t194_8 : am_T 194 8 = some (1, .if_icmp .ne 37, 11, [45], .null) := by decide +kernel
theorem t194_11 : am_T 194 11 = some (0, .aload_n 0, 12, [], .null) := by decide +kernel
theorem t194_12 : am_T 194 12 = some (3, .invokevirtual 190, 15, [1, 12, 185], .null) := by decide +kernel
theorem t194_15 : am_T 194 15 = some (1, .ifCond .ne 5, 18, [20], .null) := by decide +kernel
theorem t194_18 : am_T 194 18 = some (0, .iconst 0, 19, [], .int (0)) := by decide +kernel
theorem t194_19 : am_T 194 19 = some (4, .ireturn, 20, [1], .null) := by decide +kernel
theorem t194_20 : am_T 194 20 = some (0, .aload_n 0, 21, [], .null) := by decide +kernel
theorem t194_21 : am_T 194 21 = some (3, .invokevirtual 216, 24, [1, 12, 194], .null) := by decide +kernel
theorem t194_24 : am_T 194 24 = some (0, .istore_n 2, 25, [], .null) := by decide +kernel
theorem t194_25 : am_T 194 25 = some (0, .aload_n 0, 26, [], .null) := by decide +kernel
theorem t194_26 : am_T 194 26 = some (0, .dup, 27, [], .null) := by decide +kernel
theorem t194_27 : am_T 194 27 = some (2, .getfield 163, 30, [12, 12], .null) := by decide +kernel
theorem t194_30 : am_T 194 30 = some (0, .iconst 1, 31, [], .int (1)) := by decide +kernel
theorem t194_31 : am_T 194 31 = some (0, .isub, 32, [], .null) := by decide +kernel
theorem t194_32 : am_T 194 32 = some (2, .putfield 163, 35, [12, 0, 12], .null) := by decide +kernel
theorem t194_35 : am_T 194 35 = some (0, .iload_n 2, 36, [], .null) := by decide +kernel
theorem t194_36 : am_T 194 36 = some (1, .ifCond .ne 7, 39, [43], .null) := by decide +kernel
theorem t194_39 : am_T 194 39 = some (0, .iconst 1, 40, [], .int (1)) := by decide +kernel
theorem t194_40 : am_T 194 40 = some (1, .goto 4, 43, [44], .null) := by decide +kernel
theorem t194_43 : am_T 194 43 = some (0, .iconst 0, 44, [], .int (0)) := by decide +kernel
theorem t194_44 : am_T 194 44 = some (4, .ireturn, 45, [1], .null) := by decide +kernel
theorem t194_45 : am_T 194 45 = some (0, .iload_n 1, 46, [], .null) := by decide +kernel
theorem t194_46 : am_T 194 46 = some (0, .bipush 40, 48, [], .int (40)) := by decide +kernel
theorem t194_48 : am_T 194 48 = some (1, .if_icmp .ne 42, 51, [90], .null) := by decide +kernel
theorem t194_51 : am_T 194 51 = some (0, .aload_n 0, 52, [], .null) := by decide +kernel
theorem t194_52 : am_T 194 52 = some (3, .invokevirtual 190, 55, [1, 12, 185], .null) := by decide +kernel
theorem t194_55 : am_T 194 55 = some (1, .ifCond .ne 5, 58, [60], .null) := by decide +kernel
theorem t194_58 : am_T 194 58 = some (0, .iconst 0, 59, [], .int (0)) := by decide +kernel
theorem t194_59 : am_T 194 59 = some (4, .ireturn, 60, [1], .null) := by decide +kernel
theorem t194_60 : am_T 194 60 = some (0, .aload_n 0, 61, [], .null) := by decide +kernel
theorem t194_61 : am_T 194 61 = some (0, .iconst 0, 62, [], .int (0)) := by decide +kernel
theorem t194_62 : am_T 194 62 = some (0, .iconst 0, 63, [], .int (0)) := by decide +kernel
theorem t194_63 : am_T 194 63 = some (3, .invokevirtual 219, 66, [3, 12, 196], .null) := by decide +kernel
theorem t194_66 : am_T 194 66 = some (0, .istore_n 2, 67, [], .null) := by decide +kernel
theorem t194_67 : am_T 194 67 = some (0, .aload_n 0, 68, [], .null) := by decide +kernel
theorem t194_68 : am_T 194 68 = some (0, .bipush 41, 70, [], .int (41)) := by decide +kernel
theorem t194_70 : am_T 194 70 = some (3, .invokevirtual 196, 73, [2, 12, 186], .null) := by decide +kernel
theorem t194_73 : am_T 194 73 = some (1, .ifCond .ne 5, 76, [78], .null) := by decide +kernel
theorem t194_76 : am_T 194 76 = some (0, .iconst 0, 77, [], .int (0)) := by decide +kernel
theorem t194_77 : am_T 194 77 = some (4, .ireturn, 78, [1], .null) := by decide +kernel
theorem t194_78 : am_T 194 78 = some (0, .aload_n 0, 79, [], .null) := by decide +kernel
theorem t194_79 : am_T 194 79 = some (0, .dup, 80, [], .null) := by decide +kernel
theorem t194_80 : am_T 194 80 = some (2, .getfield 163, 83, [12, 12], .null) := by decide +kernel
theorem t194_83 : am_T 194 83 = some (0, .iconst 1, 84, [], .int (1)) := by decide +kernel
theorem t194_84 : am_T 194 84 = some (0, .isub, 85, [], .null) := by decide +kernel
theorem t194_85 : am_T 194 85 = some (2, .putfield 163, 88, [12, 0, 12], .null) := by decide +kernel
theorem t194_88 : am_T 194 88 = some (0, .iload_n 2, 89, [], .null) := by decide +kernel
theorem t194_89 : am_T 194 89 = some (4, .ireturn, 90, [1], .null) := by decide +kernel
theorem t194_90 : am_T 194 90 = some (0, .aload_n 0, 91, [], .null) := by decide +kernel
theorem t194_91 : am_T 194 91 = some (0, .iconst 0, 92, [], .int (0)) := by decide +kernel
theorem t194_92 : am_T 194 92 = some (0, .iconst 0, 93, [], .int (0)) := by decide +kernel
theorem t194_93 : am_T 194 93 = some (3, .invokevirtual 223, 96, [3, 12, 193], .null) := by decide +kernel
theorem t194_96 : am_T 194 96 = some (4, .ireturn, 97, [1], .null) := by decide +kernel
theorem t195_0 : am_T 195 0 = some (0, .iload_n 1, 1, [], .null) := by decide +kernel
theorem t195_1 : am_T 195 1 = some (1, .ifCond .eq 12, 4, [13], .null) := by decide +kernel
theorem t195_4 : am_T 195 4 = some (0, .aload_n 0, 5, [], .null) := by decide +kernel
theorem t195_5 : am_T 195 5 = some (0, .iconst 1, 6, [], .int (1)) := by decide +kernel
theorem t195_6 : am_T 195 6 = some (0, .iload_n 2, 7, [], .null) := by decide +kernel
theorem t195_7 : am_T 195 7 = some (3, .invokevirtual 223, 10, [3, 12, 193], .null) := by decide +kernel
theorem t195_10 : am_T 195 10 = some (1, .goto 7, 13, [17], .null) := by decide +kernel
theorem t195_13 : am_T 195 13 = some (0, .aload_n 0, 14, [], .null) := by decide +kernel
theorem t195_14 : am_T 195 14 = some (3, .invokevirtual 216, 17, [1, 12, 194], .null) := by decide +kernel
theorem t195_17 : am_T 195 17 = some (0, .istore_n 3, 18, [], .null) := by decide +kernel
theorem t195_18 : am_T 195 18 = some (0, .aload_n 0, 19, [], .null) := by decide +kernel
theorem t195_19 : am_T 195 19 = some (2, .getfield 160, 22, [11, 12], .null) := by decide +kernel
theorem t195_22 : am_T 195 22 = some (0, .iconst (-1), 23, [], .int (-1)) := by decide +kernel
theorem t195_23 : am_T 195 23 = some (1, .if_icmp .ne 46, 26, [69], .null) := by decide +kernel
theorem t195_26 : am_T 195 26 = some (0, .aload_n 0, 27, [], .null) := by decide +kernel
theorem t195_27 : am_T 195 27 = some (3, .invokevirtual 170, 30, [1, 12, 183], .null) := by decide +kernel
theorem t195_30 : am_T 195 30 = some (0, .bipush 38, 32, [], .int (38)) := by decide +kernel
theorem t195_32 : am_T 195 32 = some (1, .if_icmp .ne 37, 35, [69], .null) := by decide +kernel
theorem t195_35 : am_T 195 35 = some (0, .aload_n 0, 36, [], .null) := by decide +kernel
theorem t195_36 : am_T 195 36 = some (0, .dup, 37, [], .null) := by decide +kernel
theorem t195_37 : am_T 195 37 = some (2, .getfield 151, 40, [10, 12], .null) := by decide +kernel
theorem t195_40 : am_T 195 40 = some (0, .iconst 1, 41, [], .int (1)) := by decide +kernel
theorem t195_41 : am_T 195 41 = some (0, .iadd, 42, [], .null) := by decide +kernel
theorem t195_42 : am_T 195 42 = some (2, .putfield 151, 45, [10, 0, 12], .null) := by decide +kernel
theorem t195_45 : am_T 195 45 = some (0, .aload_n 0, 46, [], .null) := by decide +kernel
theorem t195_46 : am_T 195 46 = some (3, .invokevirtual 216, 49, [1, 12, 194], .null) := by decide +kernel
theorem t195_49 : am_T 195 49 = some (0, .istore 4, 51, [], .null) := by decide +kernel
theorem t195_51 : am_T 195 51 = some (0, .iload_n 3, 52, [], .null) := by decide +kernel
theorem t195_52 : am_T 195 52 = some (1, .ifCond .eq 12, 55, [64], .null) := by decide +kernel
theorem t195_55 : am_T 195 55 = some (0, .iload 4, 57, [], .null) := by decide +kernel
theorem t195_57 : am_T 195 57 = some (1, .ifCond .eq 7, 60, [64], .null) := by decide +kernel
theorem t195_60 : am_T 195 60 = some (0, .iconst 1, 61, [], .int (1)) := by decide +kernel
theorem t195_61 : am_T 195 61 = some (1, .goto 4, 64, [65], .null) := by decide +kernel
theorem t195_64 : am_T 195 64 = some (0, .iconst 0, 65, [], .int (0)) := by decide +kernel
theorem t195_65 : am_T 195 65 = some (0, .istore_n 3, 66, [], .null) := by decide +kernel
theorem t195_66 : am_T 195 66 = some (1, .goto (-48), 69, [18], .null) := by decide +kernel
theorem t195_69 : am_T 195 69 = some (0, .iload_n 3, 70, [], .null) := by decide +kernel
theorem t195_70 : am_T 195 70 = some (4, .ireturn, 71, [1], .null) := by decide +kernel
theorem t196_0 : am_T 196 0 = some (0, .aload_n 0, 1, [], .null) := by decide +kernel
theorem t196_1 : am_T 196 1 = some (0, .iload_n 1, 2, [], .null) := by decide +kernel
theorem t196_2 : am_T 196 2 = some (0, .iload_n 2, 3, [], .null) := by decide +kernel
theorem t196_3 : am_T 196 3 = some (3, .invokevirtual 226, 6, [3, 12, 195], .null) := by decide +kernel
theorem t196_6 : am_T 196 6 = some (0, .istore_n 3, 7, [], .null) := by decide +kernel
theorem t196_7 : am_T 196 7 = some (0, .aload_n 0, 8, [], .null) := by decide +kernel
theorem t196_8 : am_T 196 8 = some (2, .getfield 160, 11, [11, 12], .null) := by decide +kernel
theorem t196_11 : am_T 196 11 = some (0, .iconst (-1), 12, [], .int (-1)) := by decide +kernel
theorem t196_12 : am_T 196 12 = some (1, .if_icmp .ne 48, 15, [60], .null) := by decide +kernel
theorem t196_15 : am_T 196 15 = some (0, .aload_n 0, 16, [], .null) := by decide +kernel
theorem t196_16 : am_T 196 16 = some (3, .invokevirtual 170, 19, [1, 12, 183], .null) := by decide +kernel
theorem t196_19 : am_T 196 19 = some (0, .bipush 124, 21, [], .int (124)) := by decide +kernel
theorem t196_21 : am_T 196 21 = some (1, .if_icmp .ne 39, 24, [60], .null) := by decide +kernel
theorem t196_24 : am_T 196 24 = some (0, .aload_n 0, 25, [], .null) := by decide +kernel
theorem t196_25 : am_T 196 25 = some (0, .dup, 26, [], .null) := by decide +kernel
theorem t196_26 : am_T 196 26 = some (2, .getfield 151, 29, [10, 12], .null) := by decide +kernel
theorem t196_29 : am_T 196 29 = some (0, .iconst 1, 30, [], .int (1)) := by decide +kernel
theorem t196_30 : am_T 196 30 = some (0, .iadd, 31, [], .null) := by decide +kernel
theorem t196_31 : am_T 196 31 = some (2, .putfield 151, 34, [10, 0, 12], .null) := by decide +kernel
theorem t196_34 : am_T 196 34 = some (0, .aload_n 0, 35, [], .null) := by decide +kernel
theorem t196_35 : am_T 196 35 = some (0, .iconst 0, 36, [], .int (0)) := by decide +kernel
theorem t196_36 : am_T 196 36 = some (0, .iconst 0, 37, [], .int (0)) := by decide +kernel
theorem t196_37 : am_T 196 37 = some (3, .invokevirtual 226, 40, [3, 12, 195], .null) := by decide +kernel
theorem t196_40 : am_T 196 40 = some (0, .istore 4, 42, [], .null) := by decide +kernel
theorem t196_42 : am_T 196 42 = some (0, .iload_n 3, 43, [], .null) := by decide +kernel
theorem t196_43 : am_T 196 43 = some (1, .ifCond .ne 8, 46, [51], .null) := by decide +kernel
theorem t196_46 : am_T 196 46 = some (0, .iload 4, 48, [], .null) := by decide +kernel
theorem t196_48 : am_T 196 48 = some (1, .ifCond .eq 7, 51, [55], .null) := by decide +kernel
theorem t196_51 : am_T 196 51 = some (0, .iconst 1, 52, [], .int (1)) := by decide +kernel
theorem t196_52 : am_T 196 52 = some (1, .goto 4, 55, [56], .null) := by decide +kernel
theorem t196_55 : am_T 196 55 = some (0, .iconst 0, 56, [], .int (0)) := by decide +kernel
theorem t196_56 : am_T 196 56 = some (0, .istore_n 3, 57, [], .null) := by decide +kernel
theorem t196_57 : am_T 196 57 = some (1, .goto (-50), 60, [7], .null) := by decide +kernel
theorem t196_60 : am_T 196 60 = some (0, .iload_n 3, 61, [], .null) := by decide +kernel
theorem t196_61 : am_T 196 61 = some (4, .ireturn, 62, [1], .null) := by decide +kernel
theorem t197_0 : am_T 197 0 = some (0, .aload_n 0, 1, [], .null) := by decide +kernel
theorem t197_1 : am_T 197 1 = some (3, .invokevirtual 170, 4, [1, 12, 183], .null) := by decide +kernel
theorem t197_4 : am_T 197 4 = some (0, .istore_n 1, 5, [], .null) := by decide +kernel
theorem t197_5 : am_T 197 5 = some (2, .ldc 26, 7, [], .retAddr 2) := by decide +kernel
theorem t197_7 : am_T 197 7 = some (0, .iload_n 1, 8, [], .null) := by decide +kernel
theorem t197_8 : am_T 197 8 = some (3, .invokestatic 186, 11, [2, 178], .null) := by decide +kernel
theorem t197_11 : am_T 197 11 = some (1, .ifCond .ne 9, 14, [20], .null) := by decide +kernel
theorem t197_14 : am_T 197 14 = some (0, .aload_n 0, 15, [], .null) := by decide +kernel
theorem t197_15 : am_T 197 15 = some (3, .invokevirtual 166, 18, [1, 12, 184], .null) := by decide +kernel
theorem t197_18 : am_T 197 18 = some (0, .pop, 19, [], .null) := by decide +kernel
theorem t197_19 : am_T 197 19 = some (4, .return_, 20, [], .null) := by decide +kernel
theorem t197_20 : am_T 197 20 = some (0, .aload_n 0, 21, [], .null) := by decide +kernel
theorem t197_21 : am_T 197 21 = some (0, .dup, 22, [], .null) := by decide +kernel
theorem t197_22 : am_T 197 22 = some (2, .getfield 151, 25, [10, 12], .null) := by decide +kernel
theorem t197_25 : am_T 197 25 = some (0, .iconst 1, 26, [], .int (1)) := by decide +kernel
theorem t197_26 : am_T 197 26 = some (0, .iadd, 27, [], .null) := by decide +kernel
theorem t197_27 : am_T 197 27 = some (2, .putfield 151, 30, [10, 0, 12], .null) := by decide +kernel
theorem t197_30 : am_T 197 30 = some (0, .aload_n 0, 31, [], .null) := by decide +kernel
theorem t197_31 : am_T 197 31 = some (0, .bipush 58, 33, [], .int (58)) := by decide +kernel
theorem t197_33 : am_T 197 33 = some (3, .invokevirtual 196, 36, [2, 12, 186], .null) := by decide +kernel
theorem t197_36 : am_T 197 36 = some (1, .ifCond .ne 4, 39, [40], .null) := by decide +kernel
theorem t197_39 : am_T 197 39 = some (4, .return_, 40, [], .null) := by decide +kernel
theorem t197_40 : am_T 197 40 = some (0, .iconst 1, 41, [], .int (1)) := by decide +kernel
theorem t197_41 : am_T 197 41 = some (0, .istore_n 2, 42, [], .null) := by decide +kernel
theorem t197_42 : am_T 197 42 = some (0, .iconst 0, 43, [], .int (0)) := by decide +kernel
theorem t197_43 : am_T 197 43 = some (0, .istore_n 3, 44, [], .null) := by decide +kernel
theorem t197_44 : am_T 197 44 = some (0, .aload_n 0, 45, [], .null) := by decide +kernel
theorem t197_45 : am_T 197 45 = some (3, .invokevirtual 170, 48, [1, 12, 183], .null) := by decide +kernel
theorem t197_48 : am_T 197 48 = some (0, .istore 4, 50, [], .null) := by decide +kernel
theorem t197_50 : am_T 197 50 = some (0, .iload 4, 52, [], .null) := by decide +kernel
theorem t197_52 : am_T 197 52 = some (0, .bipush 33, 54, [], .int (33)) := by decide +kernel
theorem t197_54 : am_T 197 54 = some (1, .if_icmp .eq 10, 57, [64], .null) := by decide +kernel
theorem t197_57 : am_T 197 57 = some (0, .iload 4, 59, [], .null) := by decide +kernel
theorem t197_59 : am_T 197 59 = some (0, .bipush 40, 61, [], .int (40)) := by decide +kernel
theorem t197_61 : am_T 197 61 = some (1, .if_icmp .ne 28, 64, [89], .null) := by decide +kernel
theorem t197_64 : am_T 197 64 = some (0, .aload_n 0, 65, [], .null) := by decide +kernel
theorem t197_65 : am_T 197 65 = some (0, .iconst 0, 66, [], .int (0)) := by decide +kernel
theorem t197_66 : am_T 197 66 = some (0, .iconst 0, 67, [], .int (0)) := by decide +kernel
theorem t197_67 : am_T 197 67 = some (3, .invokevirtual 219, 70, [3, 12, 196], .null) := by decide +kernel
theorem t197_70 : am_T 197 70 = some (0, .istore_n 2, 71, [], .null) := by decide +kernel
theorem t197_71 : am_T 197 71 = some (0, .aload_n 0, 72, [], .null) := by decide +kernel
theorem t197_72 : am_T 197 72 = some (0, .bipush 63, 74, [], .int (63)) := by decide +kernel
theorem t197_74 : am_T 197 74 = some (3, .invokevirtual 196, 77, [2, 12, 186], .null) := by decide +kernel
theorem t197_77 : am_T 197 77 = some (1, .ifCond .ne 4, 80, [81], .null) := by decide +kernel
theorem t197_80 : am_T 197 80 = some (4, .return_, 81, [], .null) := by decide +kernel
theorem t197_81 : am_T 197 81 = some (0, .aload_n 0, 82, [], .null) := by decide +kernel
theorem t197_82 : am_T 197 82 = some (3, .invokevirtual 193, 85, [1, 12, 191], .null) := by decide +kernel
theorem t197_85 : am_T 197 85 = some (0, .istore_n 3, 86, [], .null) := by decide +kernel
theorem t197_86 : am_T 197 86 = some (1, .goto 48, 89, [134], .null) := by decide +kernel
theorem t197_89 : am_T 197 89 = some (0, .aload_n 0, 90, [], .null) := by decide +kernel
theorem t197_90 : am_T 197 90 = some (3, .invokevirtual 193, 93, [1, 12, 191], .null) := by decide +kernel
theorem t197_93 : am_T 197 93 = some (0, .istore_n 3, 94, [], .null) := by decide +kernel
theorem t197_94 : am_T 197 94 = some (0, .aload_n 0, 95, [], .null) := by decide +kernel
theorem t197_95 : am_T 197 95 = some (2, .getfield 160, 98, [11, 12], .null) := by decide +kernel
theorem t197_98 : am_T 197 98 = some (0, .iconst (-1), 99, [], .int (-1)) := by decide +kernel
theorem t197_99 : am_T 197 99 = some (1, .if_icmp .ne 35, 102, [134], .null) := by decide +kernel
theorem t197_102 : am_T 197 102 = some (0, .aload_n 0, 103, [], .null) := by decide +kernel
theorem t197_103 : am_T 197 103 = some (3, .invokevirtual 170, 106, [1, 12, 183], .null) := by decide +kernel
theorem t197_106 : am_T 197 106 = some (3, .invokestatic 213, 109, [1, 192], .null) := by decide +kernel
theorem t197_109 : am_T 197 109 = some (1, .ifCond .eq 25, 112, [134], .null) := by decide +kernel
theorem t197_112 : am_T 197 112 = some (0, .aload_n 0, 113, [], .null) := by decide +kernel
theorem t197_113 : am_T 197 113 = some (0, .iconst 1, 114, [], .int (1)) := by decide +kernel
theorem t197_114 : am_T 197 114 = some (0, .iload_n 3, 115, [], .null) := by decide +kernel
theorem t197_115 : am_T 197 115 = some (3, .invokevirtual 219, 118, [3, 12, 196], .null) := by decide +kernel
theorem t197_118 : am_T 197 118 = some (0, .istore_n 2, 119, [], .null) := by decide +kernel
theorem t197_119 : am_T 197 119 = some (0, .aload_n 0, 120, [], .null) := by decide +kernel
theorem t197_120 : am_T 197 120 = some (0, .bipush 63, 122, [], .int (63)) := by decide +kernel
theorem t197_122 : am_T 197 122 = some (3, .invokevirtual 196, 125, [2, 12, 186], .null) := by decide +kernel
theorem t197_125 : am_T 197 125 = some (1, .ifCond .ne 4, 128, [129], .null) := by decide +kernel
theorem t197_128 : am_T 197 128 = some (4, .return_, 129, [], .null) := by decide +kernel
theorem t197_129 : am_T 197 129 = some (0, .aload_n 0, 130, [], .null) := by decide +kernel
theorem t197_130 : am_T 197 130 = some (3, .invokevirtual 193, 133, [1, 12, 191], .null) := by decide +kernel
theorem t197_133 : am_T 197 133 = some (0, .istore_n 3, 134, [], .null) := by decide +kernel
theorem t197_134 : am_T 197 134 = some (0, .aload_n 0, 135, [], .null) := by decide +kernel
theorem t197_135 : am_T 197 135 = some (2, .getfield 160, 138, [11, 12], .null) := by decide +kernel
theorem t197_138 : am_T 197 138 = some (0, .iconst (-1), 139, [], .int (-1)) := by decide +kernel
theorem t197_139 : am_T 197 139 = some (1, .if_icmp .ne 22, 142, [161], .null) := by decide +kernel
theorem t197_142 : am_T 197 142 = some (0, .aload_n 0, 143, [], .null) := by decide +kernel
theorem t197_143 : am_T 197 143 = some (2, .getfield 229, 146, [17, 12], .null) := by decide +kernel
theorem t197_146 : am_T 197 146 = some (1, .ifCond .ne 15, 149, [161], .null) := by decide +kernel
theorem t197_149 : am_T 197 149 = some (0, .iload_n 1, 150, [], .null) := by decide +kernel
theorem t197_150 : am_T 197 150 = some (0, .aload_n 0, 151, [], .null) := by decide +kernel
theorem t197_151 : am_T 197 151 = some (2, .getfield 233, 154, [13, 12], .null) := by decide +kernel
theorem t197_154 : am_T 197 154 = some (1, .if_icmp .ne 7, 157, [161], .null) := by decide +kernel
theorem t197_157 : am_T 197 157 = some (0, .iload_n 2, 158, [], .null) := by decide +kernel
theorem t197_158 : am_T 197 158 = some (1, .ifCond .ne 4, 161, [162], .null) := by decide +kernel
theorem t197_161 : am_T 197 161 = some (4, .return_, 162, [], .null) := by decide +kernel
theorem t197_162 : am_T 197 162 = some (0, .aload_n 0, 163, [], .null) := by decide +kernel
theorem t197_163 : am_T 197 163 = some (0, .iconst 1, 164, [], .int (1)) := by decide +kernel
theorem t197_164 : am_T 197 164 = some (2, .putfield 229, 167, [17, 1, 12], .null) := by decide +kernel
theorem t197_167 : am_T 197 167 = some (0, .aload_n 0, 168, [], .null) := by decide +kernel
theorem t197_168 : am_T 197 168 = some (0, .iload_n 3, 169, [], .null) := by decide +kernel
theorem t197_169 : am_T 197 169 = some (2, .putfield 236, 172, [14, 0, 12], .null) := by decide +kernel
theorem t197_172 : am_T 197 172 = some (4, .return_, 173, [], .null) := by decide +kernel
theorem t198_0 : am_T 198 0 = some (0, .aload_n 0, 1, [], .null) := by decide +kernel
theorem t198_1 : am_T 198 1 = some (0, .aload_n 1, 2, [], .null) := by decide +kernel
theorem t198_2 : am_T 198 2 = some (2, .putfield 23, 5, [5, 2, 12], .null) := by decide +kernel
theorem t198_5 : am_T 198 5 = some (0, .aload_n 0, 6, [], .null) := by decide +kernel
theorem t198_6 : am_T 198 6 = some (0, .iload_n 2, 7, [], .null) := by decide +kernel
theorem t198_7 : am_T 198 7 = some (2, .putfield 157, 10, [8, 0, 12], .null) := by decide +kernel
theorem t198_10 : am_T 198 10 = some (0, .aload_n 0, 11, [], .null) := by decide +kernel
theorem t198_11 : am_T 198 11 = some (0, .iload_n 3, 12, [], .null) := by decide +kernel
theorem t198_12 : am_T 198 12 = some (2, .putfield 154, 15, [9, 0, 12], .null) := by decide +kernel
theorem t198_15 : am_T 198 15 = some (0, .aload_n 0, 16, [], .null) := by decide +kernel
theorem t198_16 : am_T 198 16 = some (0, .iconst 0, 17, [], .int (0)) := by decide +kernel
theorem t198_17 : am_T 198 17 = some (2, .putfield 151, 20, [10, 0, 12], .null) := by decide +kernel
theorem t198_20 : am_T 198 20 = some (0, .aload_n 0, 21, [], .null) := by decide +kernel
theorem t198_21 : am_T 198 21 = some (0, .iconst (-1), 22, [], .int (-1)) := by decide +kernel
theorem t198_22 : am_T 198 22 = some (2, .putfield 160, 25, [11, 0, 12], .null) := by decide +kernel
theorem t198_25 : am_T 198 25 = some (4, .return_, 26, [], .null) := by decide +kernel
theorem t199_0 : am_T 199 0 = some (0, .aload_n 0, 1, [], .null) := by decide +kernel
theorem t199_1 : am_T 199 1 = some (0, .aload_n 1, 2, [], .null) := by decide +kernel
theorem t199_2 : am_T 199 2 = some (0, .iload_n 2, 3, [], .null) := by decide +kernel
theorem t199_3 : am_T 199 3 = some (0, .iload_n 3, 4, [], .null) := by decide +kernel
theorem t199_4 : am_T 199 4 = some (3, .invokevirtual 239, 7, [4, 12, 198], .null) := by decide +kernel
theorem t199_7 : am_T 199 7 = some (0, .aload_n 0, 8, [], .null) := by decide +kernel
theorem t199_8 : am_T 199 8 = some (0, .bipush 121, 10, [], .int (121)) := by decide +kernel
theorem t199_10 : am_T 199 10 = some (2, .putfield 233, 13, [13, 0, 12], .null) := by decide +kernel
theorem t199_13 : am_T 199 13 = some (0, .aload_n 0, 14, [], .null) := by decide +kernel
theorem t199_14 : am_T 199 14 = some (0, .iconst 0, 15, [], .int (0)) := by decide +kernel
theorem t199_15 : am_T 199 15 = some (2, .putfield 163, 18, [12, 0, 12], .null) := by decide +kernel
theorem t199_18 : am_T 199 18 = some (0, .aload_n 0, 19, [], .null) := by decide +kernel
theorem t199_19 : am_T 199 19 = some (0, .iconst 0, 20, [], .int (0)) := by decide +kernel
theorem t199_20 : am_T 199 20 = some (2, .putfield 229, 23, [17, 1, 12], .null) := by decide +kernel
theorem t199_23 : am_T 199 23 = some (0, .aload_n 0, 24, [], .null) := by decide +kernel
theorem t199_24 : am_T 199 24 = some (0, .iconst 0, 25, [], .int (0)) := by decide +kernel
theorem t199_25 : am_T 199 25 = some (2, .putfield 236, 28, [14, 0, 12], .null) := by decide +kernel
theorem t199_28 : am_T 199 28 = some (0, .aload_n 0, 29, [], .null) := by decide +kernel
theorem t199_29 : am_T 199 29 = some (3, .invokevirtual 243, 32, [1, 12, 197], .null) := by decide +kernel
theorem t199_32 : am_T 199 32 = some (0, .aload_n 0, 33, [], .null) := by decide +kernel
theorem t199_33 : am_T 199 33 = some (2, .getfield 160, 36, [11, 12], .null) := by decide +kernel
theorem t199_36 : am_T 199 36 = some (0, .iconst (-1), 37, [], .int (-1)) := by decide +kernel
theorem t199_37 : am_T 199 37 = some (1, .if_icmp .ne 29, 40, [66], .null) := by decide +kernel
theorem t199_40 : am_T 199 40 = some (0, .aload_n 0, 41, [], .null) := by decide +kernel
theorem t199_41 : am_T 199 41 = some (3, .invokevirtual 170, 44, [1, 12, 183], .null) := by decide +kernel
theorem t199_44 : am_T 199 44 = some (0, .bipush 59, 46, [], .int (59)) := by decide +kernel
theorem t199_46 : am_T 199 46 = some (1, .if_icmp .ne 20, 49, [66], .null) := by decide +kernel
theorem t199_49 : am_T 199 49 = some (0, .aload_n 0, 50, [], .null) := by decide +kernel
theorem t199_50 : am_T 199 50 = some (0, .dup, 51, [], .null) := by decide +kernel
theorem t199_51 : am_T 199 51 = some (2, .getfield 151, 54, [10, 12], .null) := by decide +kernel
theorem t199_54 : am_T 199 54 = some (0, .iconst 1, 55, [], .int (1)) := by decide +kernel
theorem t199_55 : am_T 199 55 = some (0, .iadd, 56, [], .null) := by decide +kernel
theorem t199_56 : am_T 199 56 = some (2, .putfield 151, 59, [10, 0, 12], .null) := by decide +kernel
theorem t199_59 : am_T 199 59 = some (0, .aload_n 0, 60, [], .null) := by decide +kernel
theorem t199_60 : am_T 199 60 = some (3, .invokevirtual 243, 63, [1, 12, 197], .null) := by decide +kernel
theorem t199_63 : am_T 199 63 = some (1, .goto (-31), 66, [32], .null) := by decide +kernel
theorem t199_66 : am_T 199 66 = some (0, .aload_n 0, 67, [], .null) := by decide +kernel
theorem t199_67 : am_T 199 67 = some (2, .getfield 160, 70, [11, 12], .null) := by decide +kernel
theorem t199_70 : am_T 199 70 = some (0, .iconst (-1), 71, [], .int (-1)) := by decide +kernel
theorem t199_71 : am_T 199 71 = some (1, .if_icmp .ne 16, 74, [87], .null) := by decide +kernel
theorem t199_74 : am_T 199 74 = some (0, .aload_n 0, 75, [], .null) := by decide +kernel
theorem t199_75 : am_T 199 75 = some (3, .invokevirtual 170, 78, [1, 12, 183], .null) := by decide +kernel
theorem t199_78 : am_T 199 78 = some (0, .iconst (-1), 79, [], .int (-1)) := by decide +kernel
theorem t199_79 : am_T 199 79 = some (1, .if_icmp .eq 8, 82, [87], .null) := by decide +kernel
theorem t199_82 : am_T 199 82 = some (0, .aload_n 0, 83, [], .null) := by decide +kernel
theorem t199_83 : am_T 199 83 = some (3, .invokevirtual 166, 86, [1, 12, 184], .null) := by decide +kernel
theorem t199_86 : am_T 199 86 = some (0, .pop, 87, [], .null) := by decide +kernel
theorem t199_87 : am_T 199 87 = some (4, .return_, 88, [], .null) := by decide +kernel
theorem t200_0 : am_T 200 0 = some (0, .aload_n 0, 1, [], .null) := by decide +kernel
theorem t200_1 : am_T 200 1 = some (3, .invokevirtual 170, 4, [1, 12, 183], .null) := by decide +kernel
theorem t200_4 : am_T 200 4 = some (0, .istore_n 3, 5, [], .null) := by decide +kernel
theorem t200_5 : am_T 200 5 = some (0, .aload_n 0, 6, [], .null) := by decide +kernel
theorem t200_6 : am_T 200 6 = some (3, .invokevirtual 200, 9, [1, 12, 187], .null) := by decide +kernel
theorem t200_9 : am_T 200 9 = some (1, .ifCond .eq 18, 12, [27], .null) := by decide +kernel
theorem t200_12 : am_T 200 12 = some (0, .iload_n 3, 13, [], .null) := by decide +kernel
theorem t200_13 : am_T 200 13 = some (0, .bipush 48, 15, [], .int (48)) := by decide +kernel
theorem t200_15 : am_T 200 15 = some (0, .isub, 16, [], .null) := by decide +kernel
theorem t200_16 : am_T 200 16 = some (0, .i2l, 17, [], .null) := by decide +kernel
theorem t200_17 : am_T 200 17 = some (0, .iload_n 1, 18, [], .null) := by decide +kernel
theorem t200_18 : am_T 200 18 = some (0, .i2l, 19, [], .null) := by decide +kernel
theorem t200_19 : am_T 200 19 = some (0, .iload_n 2, 20, [], .null) := by decide +kernel
theorem t200_20 : am_T 200 20 = some (0, .i2l, 21, [], .null) := by decide +kernel
theorem t200_21 : am_T 200 21 = some (3, .invokestatic 246, 24, [3, 176], .null) := by decide +kernel
theorem t200_24 : am_T 200 24 = some (1, .ifCond .ne 10, 27, [34], .null) := by decide +kernel
theorem t200_27 : am_T 200 27 = some (0, .aload_n 0, 28, [], .null) := by decide +kernel
theorem t200_28 : am_T 200 28 = some (3, .invokevirtual 166, 31, [1, 12, 184], .null) := by decide +kernel
theorem t200_31 : am_T 200 31 = some (0, .pop, 32, [], .null) := by decide +kernel
theorem t200_32 : am_T 200 32 = some (0, .iconst (-1), 33, [], .int (-1)) := by decide +kernel
theorem t200_33 : am_T 200 33 = some (4, .ireturn, 34, [0], .null) := by decide +kernel
theorem t200_34 : am_T 200 34 = some (0, .aload_n 0, 35, [], .null) := by decide +kernel
theorem t200_35 : am_T 200 35 = some (0, .dup, 36, [], .null) := by decide +kernel
theorem t200_36 : am_T 200 36 = some (2, .getfield 151, 39, [10, 12], .null) := by decide +kernel
theorem t200_39 : am_T 200 39 = some (0, .iconst 1, 40, [], .int (1)) := by decide +kernel
theorem t200_40 : am_T 200 40 = some (0, .iadd, 41, [], .null) := by decide +kernel
theorem t200_41 : am_T 200 41 = some (2, .putfield 151, 44, [10, 0, 12], .null) := by decide +kernel
theorem t200_44 : am_T 200 44 = some (0, .iload_n 3, 45, [], .null) := by decide +kernel
theorem t200_45 : am_T 200 45 = some (0, .bipush 48, 47, [], .int (48)) := by decide +kernel
theorem t200_47 : am_T 200 47 = some (0, .isub, 48, [], .null) := by decide +kernel
theorem t200_48 : am_T 200 48 = some (4, .ireturn, 49, [0], .null) := by decide +kernel
theorem t201_0 : am_T 201 0 = some (0, .aload_n 0, 1, [], .null) := by decide +kernel
theorem t201_1 : am_T 201 1 = some (0, .aload_n 0, 2, [], .null) := by decide +kernel
theorem t201_2 : am_T 201 2 = some (2, .getfield 9, 5, [1, 12], .null) := by decide +kernel
theorem t201_5 : am_T 201 5 = some (0, .iconst 0, 6, [], .int (0)) := by decide +kernel
theorem t201_6 : am_T 201 6 = some (0, .aload_n 0, 7, [], .null) := by decide +kernel
theorem t201_7 : am_T 201 7 = some (2, .getfield 141, 10, [6, 12], .null) := by decide +kernel
theorem t201_10 : am_T 201 10 = some (3, .invokevirtual 239, 13, [4, 12, 198], .null) := by decide +kernel
theorem t201_13 : am_T 201 13 = some (0, .aload_n 0, 14, [], .null) := by decide +kernel
theorem t201_14 : am_T 201 14 = some (2, .getfield 40, 17, [19, 12], .null) := by decide +kernel
theorem t201_17 : am_T 201 17 = some (0, .iconst 1, 18, [], .int (1)) := by decide +kernel
theorem t201_18 : am_T 201 18 = some (0, .iconst 2, 19, [], .int (2)) := by decide +kernel
theorem t201_19 : am_T 201 19 = some (2, .iastore, 20, [], .null) := by decide +kernel
theorem t201_20 : am_T 201 20 = some (0, .aload_n 0, 21, [], .null) := by decide +kernel
theorem t201_21 : am_T 201 21 = some (2, .getfield 40, 24, [19, 12], .null) := by decide +kernel
theorem t201_24 : am_T 201 24 = some (0, .iconst 2, 25, [], .int (2)) := by decide +kernel
theorem t201_25 : am_T 201 25 = some (0, .iconst 2, 26, [], .int (2)) := by decide +kernel
theorem t201_26 : am_T 201 26 = some (2, .iastore, 27, [], .null) := by decide +kernel
theorem t201_27 : am_T 201 27 = some (0, .aload_n 0, 28, [], .null) := by decide +kernel
theorem t201_28 : am_T 201 28 = some (0, .iconst 2, 29, [], .int (2)) := by decide +kernel
theorem t201_29 : am_T 201 29 = some (2, .putfield 250, 32, [23, 0, 12], .null) := by decide +kernel
theorem t201_32 : am_T 201 32 = some (0, .aload_n 0, 33, [], .null) := by decide +kernel
theorem t201_33 : am_T 201 33 = some (0, .bipush 110, 35, [], .int (110)) := by decide +kernel
theorem t201_35 : am_T 201 35 = some (3, .invokevirtual 196, 38, [2, 12, 186], .null) := by decide +kernel
theorem t201_38 : am_T 201 38 = some (1, .ifCond .ne 4, 41, [42], .null) := by decide +kernel
theorem t201_41 : am_T 201 41 = some (4, .return_, 42, [], .null) := by decide +kernel
theorem t201_42 : am_T 201 42 = some (0, .aload_n 0, 43, [], .null) := by decide +kernel
theorem t201_43 : am_T 201 43 = some (0, .aload_n 0, 44, [], .null) := by decide +kernel
theorem t201_44 : am_T 201 44 = some (0, .iconst 2, 45, [], .int (2)) := by decide +kernel
theorem t201_45 : am_T 201 45 = some (0, .iconst 5, 46, [], .int (5)) := by decide +kernel
theorem t201_46 : am_T 201 46 = some (3, .invokevirtual 253, 49, [3, 12, 200], .null) := by decide +kernel
theorem t201_49 : am_T 201 49 = some (2, .putfield 257, 52, [22, 0, 12], .null) := by decide +kernel
theorem t201_52 : am_T 201 52 = some (0, .iconst 0, 53, [], .int (0)) := by decide +kernel
theorem t201_53 : am_T 201 53 = some (0, .istore_n 1, 54, [], .null) := by decide +kernel
theorem t201_54 : am_T 201 54 = some (0, .aload_n 0, 55, [], .null) := by decide +kernel
theorem t201_55 : am_T 201 55 = some (2, .getfield 160, 58, [11, 12], .null) := by decide +kernel
theorem t201_58 : am_T 201 58 = some (0, .iconst (-1), 59, [], .int (-1)) := by decide +kernel
theorem t201_59 : am_T 201 59 = some (1, .if_icmp .ne 10, 62, [69], .null) := by decide +kernel
theorem t201_62 : am_T 201 62 = some (0, .aload_n 0, 63, [], .null) := by decide +kernel
theorem t201_63 : am_T 201 63 = some (3, .invokevirtual 170, 66, [1, 12, 183], .null) := by decide +kernel
theorem t201_66 : am_T 201 66 = some (1, .goto 4, 69, [70], .null) := by decide +kernel
theorem t201_69 : am_T 201 69 = some (0, .iconst (-1), 70, [], .int (-1)) := by decide +kernel
theorem t201_70 : am_T 201 70 = some (0, .istore_n 2, 71, [], .null) := by decide +kernel
theorem t201_71 : am_T 201 71 = some (0, .iload_n 2, 72, [], .null) := by decide +kernel
theorem t201_72 : am_T 201 72 = some (0, .bipush 114, 74, [], .int (114)) := by decide +kernel
theorem t201_74 : am_T 201 74 = some (1, .if_icmp .eq 15, 77, [89], .null) := by decide +kernel
theorem t201_77 : am_T 201 77 = some (0, .iload_n 2, 78, [], .null) := by decide +kernel
theorem t201_78 : am_T 201 78 = some (0, .bipush 119, 80, [], .int (119)) := by decide +kernel
theorem t201_80 : am_T 201 80 = some (1, .if_icmp .eq 9, 83, [89], .null) := by decide +kernel
theorem t201_83 : am_T 201 83 = some (0, .iload_n 2, 84, [], .null) := by decide +kernel
theorem t201_84 : am_T 201 84 = some (0, .bipush 100, 86, [], .int (100)) := by decide +kernel
theorem t201_86 : am_T 201 86 = some (1, .if_icmp .ne 109, 89, [195], .null) := by decide +kernel
theorem t201_89 : am_T 201 89 = some (0, .iload_n 2, 90, [], .null) := by decide +kernel
theorem t201_90 : am_T 201 90 = some (0, .bipush 114, 92, [], .int (114)) := by decide +kernel
theorem t201_92 : am_T 201 92 = some (1, .if_icmp .ne 7, 95, [99], .null) := by decide +kernel
theorem t201_95 : am_T 201 95 = some (0, .iconst 1, 96, [], .int (1)) := by decide +kernel
theorem t201_96 : am_T 201 96 = some (1, .goto 14, 99, [110], .null) := by decide +kernel
theorem t201_99 : am_T 201 99 = some (0, .iload_n 2, 100, [], .null) := by decide +kernel
theorem t201_100 : am_T 201 100 = some (0, .bipush 119, 102, [], .int (119)) := by decide +kernel
theorem t201_102 : am_T 201 102 = some (1, .if_icmp .ne 7, 105, [109], .null) := by decide +kernel
theorem t201_105 : am_T 201 105 = some (0, .iconst 2, 106, [], .int (2)) := by decide +kernel
theorem t201_106 : am_T 201 106 = some (1, .goto 4, 109, [110], .null) := by decide +kernel
theorem t201_109 : am_T 201 109 = some (0, .iconst 0, 110, [], .int (0)) := by decide +kernel
theorem t201_110 : am_T 201 110 = some (0, .istore_n 3, 111, [], .null) := by decide +kernel
theorem t201_111 : am_T 201 111 = some (0, .iload_n 1, 112, [], .null) := by decide +kernel
theorem t201_112 : am_T 201 112 = some (0, .iload_n 3, 113, [], .null) := by decide +kernel
theorem t201_113 : am_T 201 113 = some (3, .invokestatic 260, 116, [2, 177], .null) := by decide +kernel
theorem t201_116 : am_T 201 116 = some (1, .ifCond .eq 9, 119, [125], .null) := by decide +kernel
theorem t201_119 : am_T 201 119 = some (0, .aload_n 0, 120, [], .null) := by decide +kernel
theorem t201_120 : am_T 201 120 = some (3, .invokevirtual 166, 123, [1, 12, 184], .null) := by decide +kernel
theorem t201_123 : am_T 201 123 = some (0, .pop, 124, [], .null) := by decide +kernel
theorem t201_124 : am_T 201 124 = some (4, .return_, 125, [], .null) := by decide +kernel
theorem t201_125 : am_T 201 125 = some (0, .iload_n 1, 126, [], .null) := by decide +kernel
theorem t201_126 : am_T 201 126 = some (0, .iconst 1, 127, [], .int (1)) := by decide +kernel
theorem t201_127 : am_T 201 127 = some (0, .iload_n 3, 128, [], .null) := by decide +kernel
theorem t201_128 : am_T 201 128 = some (0, .ishl, 129, [], .null) := by decide +kernel
theorem t201_129 : am_T 201 129 = some (0, .ior, 130, [], .null) := by decide +kernel
theorem t201_130 : am_T 201 130 = some (0, .istore_n 1, 131, [], .null) := by decide +kernel
theorem t201_131 : am_T 201 131 = some (0, .aload_n 0, 132, [], .null) := by decide +kernel
theorem t201_132 : am_T 201 132 = some (0, .dup, 133, [], .null) := by decide +kernel
theorem t201_133 : am_T 201 133 = some (2, .getfield 151, 136, [10, 12], .null) := by decide +kernel
theorem t201_136 : am_T 201 136 = some (0, .iconst 1, 137, [], .int (1)) := by decide +kernel
theorem t201_137 : am_T 201 137 = some (0, .iadd, 138, [], .null) := by decide +kernel
theorem t201_138 : am_T 201 138 = some (2, .putfield 151, 141, [10, 0, 12], .null) := by decide +kernel
theorem t201_141 : am_T 201 141 = some (0, .aload_n 0, 142, [], .null) := by decide +kernel
theorem t201_142 : am_T 201 142 = some (0, .iload_n 3, 143, [], .null) := by decide +kernel
theorem t201_143 : am_T 201 143 = some (1, .ifCond .ne 7, 146, [150], .null) := by decide +kernel
theorem t201_146 : am_T 201 146 = some (0, .iconst 1, 147, [], .int (1)) := by decide +kernel
theorem t201_147 : am_T 201 147 = some (1, .goto 4, 150, [151], .null) := by decide +kernel
theorem t201_150 : am_T 201 150 = some (0, .iconst 0, 151, [], .int (0)) := by decide +kernel
theorem t201_151 : am_T 201 151 = some (0, .iconst 5, 152, [], .int (5)) := by decide +kernel
theorem t201_152 : am_T 201 152 = some (3, .invokevirtual 253, 155, [3, 12, 200], .null) := by decide +kernel
theorem t201_155 : am_T 201 155 = some (0, .istore 4, 157, [], .null) := by decide +kernel
theorem t201_157 : am_T 201 157 = some (0, .aload_n 0, 158, [], .null) := by decide +kernel
theorem t201_158 : am_T 201 158 = some (2, .getfield 160, 161, [11, 12], .null) := by decide +kernel
theorem t201_161 : am_T 201 161 = some (0, .iconst (-1), 162, [], .int (-1)) := by decide +kernel
theorem t201_162 : am_T 201 162 = some (1, .if_icmp .eq 4, 165, [166], .null) := by decide +kernel
theorem t201_165 : am_T 201 165 = some (4, .return_, 166, [], .null) := by decide +kernel
theorem t201_166 : am_T 201 166 = some (0, .iload_n 3, 167, [], .null) := by decide +kernel
theorem t201_167 : am_T 201 167 = some (1, .ifCond .ne 12, 170, [179], .null) := by decide +kernel
theorem t201_170 : am_T 201 170 = some (0, .aload_n 0, 171, [], .null) := by decide +kernel
theorem t201_171 : am_T 201 171 = some (0, .iload 4, 173, [], .null) := by decide +kernel
theorem t201_173 : am_T 201 173 = some (2, .putfield 250, 176, [23, 0, 12], .null) := by decide +kernel
theorem t201_176 : am_T 201 176 = some (1, .goto 11, 179, [187], .null) := by decide +kernel
theorem t201_179 : am_T 201 179 = some (0, .aload_n 0, 180, [], .null) := by decide +kernel
theorem t201_180 : am_T 201 180 = some (2, .getfield 40, 183, [19, 12], .null) := by decide +kernel
theorem t201_183 : am_T 201 183 = some (0, .iload_n 3, 184, [], .null) := by decide +kernel
theorem t201_184 : am_T 201 184 = some (0, .iload 4, 186, [], .null) := by decide +kernel
theorem t201_186 : am_T 201 186 = some (2, .iastore, 187, [], .null) := by decide +kernel
theorem t201_187 : am_T 201 187 = some (0, .aload_n 0, 188, [], .null) := by decide +kernel
theorem t201_188 : am_T 201 188 = some (3, .invokevirtual 170, 191, [1, 12, 183], .null) := by decide +kernel
theorem t201_191 : am_T 201 191 = some (0, .istore_n 2, 192, [], .null) := by decide +kernel
theorem t201_192 : am_T 201 192 = some (1, .goto (-121), 195, [71], .null) := by decide +kernel
theorem t201_195 : am_T 201 195 = some (0, .aload_n 0, 196, [], .null) := by decide +kernel
theorem t201_196 : am_T 201 196 = some (2, .getfield 160, 199, [11, 12], .null) := by decide +kernel
theorem t201_199 : am_T 201 199 = some (0, .iconst (-1), 200, [], .int (-1)) := by decide +kernel
theorem t201_200 : am_T 201 200 = some (1, .if_icmp .ne 16, 203, [216], .null) := by decide +kernel
theorem t201_203 : am_T 201 203 = some (0, .aload_n 0, 204, [], .null) := by decide +kernel
theorem t201_204 : am_T 201 204 = some (3, .invokevirtual 170, 207, [1, 12, 183], .null) := by decide +kernel
theorem t201_207 : am_T 201 207 = some (0, .iconst (-1), 208, [], .int (-1)) := by decide +kernel
theorem t201_208 : am_T 201 208 = some (1, .if_icmp .eq 8, 211, [216], .null) := by decide +kernel
theorem t201_211 : am_T 201 211 = some (0, .aload_n 0, 212, [], .null) := by decide +kernel
theorem t201_212 : am_T 201 212 = some (3, .invokevirtual 166, 215, [1, 12, 184], .null) := by decide +kernel
theorem t201_215 : am_T 201 215 = some (0, .pop, 216, [], .null) := by decide +kernel
theorem t201_216 : am_T 201 216 = some (4, .return_, 217, [], .null) := by decide +kernel
theorem t202_0 : am_T 202 0 = some (0, .iload_n 0, 1, [], .null) := by decide +kernel
theorem t202_1 : am_T 202 1 = some (0, .bipush 46, 3, [], .int (46)) := by decide +kernel
theorem t202_3 : am_T 202 3 = some (1, .if_icmp .ne 7, 6, [10], .null) := by decide +kernel
theorem t202_6 : am_T 202 6 = some (0, .iconst 0, 7, [], .int (0)) := by decide +kernel
theorem t202_7 : am_T 202 7 = some (1, .goto 34, 10, [41], .null) := by decide +kernel
theorem t202_10 : am_T 202 10 = some (0, .iload_n 0, 11, [], .null) := by decide +kernel
theorem t202_11 : am_T 202 11 = some (0, .bipush 114, 13, [], .int (114)) := by decide +kernel
theorem t202_13 : am_T 202 13 = some (1, .if_icmp .ne 7, 16, [20], .null) := by decide +kernel
theorem t202_16 : am_T 202 16 = some (0, .iconst 1, 17, [], .int (1)) := by decide +kernel
theorem t202_17 : am_T 202 17 = some (1, .goto 24, 20, [41], .null) := by decide +kernel
theorem t202_20 : am_T 202 20 = some (0, .iload_n 0, 21, [], .null) := by decide +kernel
theorem t202_21 : am_T 202 21 = some (0, .bipush 119, 23, [], .int (119)) := by decide +kernel
theorem t202_23 : am_T 202 23 = some (1, .if_icmp .ne 7, 26, [30], .null) := by decide +kernel
theorem t202_26 : am_T 202 26 = some (0, .iconst 2, 27, [], .int (2)) := by decide +kernel
theorem t202_27 : am_T 202 27 = some (1, .goto 14, 30, [41], .null) := by decide +kernel
theorem t202_30 : am_T 202 30 = some (0, .iload_n 0, 31, [], .null) := by decide +kernel
theorem t202_31 : am_T 202 31 = some (0, .bipush 63, 33, [], .int (63)) := by decide +kernel
theorem t202_33 : am_T 202 33 = some (1, .if_icmp .ne 7, 36, [40], .null) := by decide +kernel
theorem t202_36 : am_T 202 36 = some (0, .iconst 3, 37, [], .int (3)) := by decide +kernel
theorem t202_37 : am_T 202 37 = some (1, .goto 4, 40, [41], .null) := by decide +kernel
theorem t202_40 : am_T 202 40 = some (0, .iconst (-1), 41, [], .int (-1)) := by decide +kernel
theorem t202_41 : am_T 202 41 = some (4, .ireturn, 42, [0], .null) := by decide +kernel
theorem t203_0 : am_T 203 0 = some (0, .aload_n 0, 1, [], .null) := by decide +kernel
theorem t203_1 : am_T 203 1 = some (3, .invokevirtual 170, 4, [1, 12, 183], .null) := by decide +kernel
theorem t203_4 : am_T 203 4 = some (0, .istore_n 1, 5, [], .null) := by decide +kernel
theorem t203_5 : am_T 203 5 = some (0, .iload_n 1, 6, [], .null) := by decide +kernel
theorem t203_6 : am_T 203 6 = some (0, .bipush 97, 8, [], .int (97)) := by decide +kernel
theorem t203_8 : am_T 203 8 = some (1, .if_icmp .lt 13, 11, [21], .null) := by decide +kernel
theorem t203_11 : am_T 203 11 = some (0, .iload_n 1, 12, [], .null) := by decide +kernel
theorem t203_12 : am_T 203 12 = some (0, .bipush 104, 14, [], .int (104)) := by decide +kernel
theorem t203_14 : am_T 203 14 = some (1, .if_icmp .gt 7, 17, [21], .null) := by decide +kernel
theorem t203_17 : am_T 203 17 = some (0, .iconst 1, 18, [], .int (1)) := by decide +kernel
theorem t203_18 : am_T 203 18 = some (1, .goto 4, 21, [22], .null) := by decide +kernel
theorem t203_21 : am_T 203 21 = some (0, .iconst 0, 22, [], .int (0)) := by decide +kernel
theorem t203_22 : am_T 203 22 = some (4, .ireturn, 23, [1], .null) := by decide +kernel
theorem t204_0 : am_T 204 0 = some (0, .aload_n 0, 1, [], .null) := by decide +kernel
theorem t204_1 : am_T 204 1 = some (0, .aload_n 0, 2, [], .null) := by decide +kernel
theorem t204_2 : am_T 204 2 = some (2, .getfield 9, 5, [1, 12], .null) := by decide +kernel
theorem t204_5 : am_T 204 5 = some (0, .iconst 0, 6, [], .int (0)) := by decide +kernel
theorem t204_6 : am_T 204 6 = some (0, .aload_n 0, 7, [], .null) := by decide +kernel
theorem t204_7 : am_T 204 7 = some (2, .getfield 141, 10, [6, 12], .null) := by decide +kernel
theorem t204_10 : am_T 204 10 = some (3, .invokevirtual 239, 13, [4, 12, 198], .null) := by decide +kernel
theorem t204_13 : am_T 204 13 = some (0, .iconst 0, 14, [], .int (0)) := by decide +kernel
theorem t204_14 : am_T 204 14 = some (0, .istore_n 1, 15, [], .null) := by decide +kernel
theorem t204_15 : am_T 204 15 = some (0, .iconst 0, 16, [], .int (0)) := by decide +kernel
theorem t204_16 : am_T 204 16 = some (0, .istore_n 2, 17, [], .null) := by decide +kernel
theorem t204_17 : am_T 204 17 = some (0, .iconst 1, 18, [], .int (1)) := by decide +kernel
theorem t204_18 : am_T 204 18 = some (0, .istore_n 3, 19, [], .null) := by decide +kernel
theorem t204_19 : am_T 204 19 = some (0, .iload_n 3, 20, [], .null) := by decide +kernel
theorem t204_20 : am_T 204 20 = some (1, .ifCond .eq 197, 23, [217], .null) := by decide +kernel
theorem t204_23 : am_T 204 23 = some (0, .aload_n 0, 24, [], .null) := by decide +kernel
theorem t204_24 : am_T 204 24 = some (3, .invokevirtual 264, 27, [1, 12, 203], .null) := by decide +kernel
theorem t204_27 : am_T 204 27 = some (1, .ifCond .ne 9, 30, [36], .null) := by decide +kernel
theorem t204_30 : am_T 204 30 = some (0, .aload_n 0, 31, [], .null) := by decide +kernel
theorem t204_31 : am_T 204 31 = some (3, .invokevirtual 166, 34, [1, 12, 184], .null) := by decide +kernel
theorem t204_34 : am_T 204 34 = some (0, .pop, 35, [], .null) := by decide +kernel
theorem t204_35 : am_T 204 35 = some (4, .return_, 36, [], .null) := by decide +kernel
theorem t204_36 : am_T 204 36 = some (0, .aload_n 0, 37, [], .null) := by decide +kernel
theorem t204_37 : am_T 204 37 = some (2, .getfield 43, 40, [24, 12], .null) := by decide +kernel
theorem t204_40 : am_T 204 40 = some (0, .bipush 24, 42, [], .int (24)) := by decide +kernel
theorem t204_42 : am_T 204 42 = some (0, .iload_n 1, 43, [], .null) := by decide +kernel
theorem t204_43 : am_T 204 43 = some (0, .iadd, 44, [], .null) := by decide +kernel
theorem t204_44 : am_T 204 44 = some (0, .aload_n 0, 45, [], .null) := by decide +kernel
theorem t204_45 : am_T 204 45 = some (3, .invokevirtual 170, 48, [1, 12, 183], .null) := by decide +kernel
theorem t204_48 : am_T 204 48 = some (0, .bipush 97, 50, [], .int (97)) := by decide +kernel
theorem t204_50 : am_T 204 50 = some (0, .isub, 51, [], .null) := by decide +kernel
theorem t204_51 : am_T 204 51 = some (2, .iastore, 52, [], .null) := by decide +kernel
theorem t204_52 : am_T 204 52 = some (0, .aload_n 0, 53, [], .null) := by decide +kernel
theorem t204_53 : am_T 204 53 = some (0, .dup, 54, [], .null) := by decide +kernel
theorem t204_54 : am_T 204 54 = some (2, .getfield 151, 57, [10, 12], .null) := by decide +kernel
theorem t204_57 : am_T 204 57 = some (0, .iconst 1, 58, [], .int (1)) := by decide +kernel
theorem t204_58 : am_T 204 58 = some (0, .iadd, 59, [], .null) := by decide +kernel
theorem t204_59 : am_T 204 59 = some (2, .putfield 151, 62, [10, 0, 12], .null) := by decide +kernel
theorem t204_62 : am_T 204 62 = some (0, .aload_n 0, 63, [], .null) := by decide +kernel
theorem t204_63 : am_T 204 63 = some (0, .bipush 61, 65, [], .int (61)) := by decide +kernel
theorem t204_65 : am_T 204 65 = some (3, .invokevirtual 196, 68, [2, 12, 186], .null) := by decide +kernel
theorem t204_68 : am_T 204 68 = some (1, .ifCond .ne 4, 71, [72], .null) := by decide +kernel
theorem t204_71 : am_T 204 71 = some (4, .return_, 72, [], .null) := by decide +kernel
theorem t204_72 : am_T 204 72 = some (0, .iconst 0, 73, [], .int (0)) := by decide +kernel
theorem t204_73 : am_T 204 73 = some (0, .istore 4, 75, [], .null) := by decide +kernel
theorem t204_75 : am_T 204 75 = some (0, .aload_n 0, 76, [], .null) := by decide +kernel
theorem t204_76 : am_T 204 76 = some (3, .invokevirtual 170, 79, [1, 12, 183], .null) := by decide +kernel
theorem t204_79 : am_T 204 79 = some (3, .invokestatic 267, 82, [1, 202], .null) := by decide +kernel
theorem t204_82 : am_T 204 82 = some (0, .iconst (-1), 83, [], .int (-1)) := by decide +kernel
theorem t204_83 : am_T 204 83 = some (1, .if_icmp .eq 60, 86, [143], .null) := by decide +kernel
theorem t204_86 : am_T 204 86 = some (0, .iload 4, 88, [], .null) := by decide +kernel
theorem t204_88 : am_T 204 88 = some (0, .iload_n 1, 89, [], .null) := by decide +kernel
theorem t204_89 : am_T 204 89 = some (1, .ifCond .ne 7, 92, [96], .null) := by decide +kernel
theorem t204_92 : am_T 204 92 = some (0, .iconst 5, 93, [], .int (5)) := by decide +kernel
theorem t204_93 : am_T 204 93 = some (1, .goto 4, 96, [97], .null) := by decide +kernel
theorem t204_96 : am_T 204 96 = some (0, .iload_n 2, 97, [], .null) := by decide +kernel
theorem t204_97 : am_T 204 97 = some (1, .if_icmp .ne 9, 100, [106], .null) := by decide +kernel
theorem t204_100 : am_T 204 100 = some (0, .aload_n 0, 101, [], .null) := by decide +kernel
theorem t204_101 : am_T 204 101 = some (3, .invokevirtual 166, 104, [1, 12, 184], .null) := by decide +kernel
theorem t204_104 : am_T 204 104 = some (0, .pop, 105, [], .null) := by decide +kernel
theorem t204_105 : am_T 204 105 = some (4, .return_, 106, [], .null) := by decide +kernel
theorem t204_106 : am_T 204 106 = some (0, .aload_n 0, 107, [], .null) := by decide +kernel
theorem t204_107 : am_T 204 107 = some (2, .getfield 46, 110, [25, 12], .null) := by decide +kernel
theorem t204_110 : am_T 204 110 = some (0, .bipush 24, 112, [], .int (24)) := by decide +kernel
theorem t204_112 : am_T 204 112 = some (0, .iload_n 1, 113, [], .null) := by decide +kernel
theorem t204_113 : am_T 204 113 = some (0, .iadd, 114, [], .null) := by decide +kernel
theorem t204_114 : am_T 204 114 = some (0, .iconst 5, 115, [], .int (5)) := by decide +kernel
theorem t204_115 : am_T 204 115 = some (0, .imul, 116, [], .null) := by decide +kernel
theorem t204_116 : am_T 204 116 = some (0, .iload 4, 118, [], .null) := by decide +kernel
theorem t204_118 : am_T 204 118 = some (0, .iadd, 119, [], .null) := by decide +kernel
theorem t204_119 : am_T 204 119 = some (0, .aload_n 0, 120, [], .null) := by decide +kernel
theorem t204_120 : am_T 204 120 = some (3, .invokevirtual 170, 123, [1, 12, 183], .null) := by decide +kernel
theorem t204_123 : am_T 204 123 = some (3, .invokestatic 267, 126, [1, 202], .null) := by decide +kernel
theorem t204_126 : am_T 204 126 = some (2, .iastore, 127, [], .null) := by decide +kernel
theorem t204_127 : am_T 204 127 = some (0, .iinc 4 1, 130, [], .int (1)) := by decide +kernel
theorem t204_130 : am_T 204 130 = some (0, .aload_n 0, 131, [], .null) := by decide +kernel
theorem t204_131 : am_T 204 131 = some (0, .dup, 132, [], .null) := by decide +kernel
theorem t204_132 : am_T 204 132 = some (2, .getfield 151, 135, [10, 12], .null) := by decide +kernel
theorem t204_135 : am_T 204 135 = some (0, .iconst 1, 136, [], .int (1)) := by decide +kernel
theorem t204_136 : am_T 204 136 = some (0, .iadd, 137, [], .null) := by decide +kernel
theorem t204_137 : am_T 204 137 = some (2, .putfield 151, 140, [10, 0, 12], .null) := by decide +kernel
theorem t204_140 : am_T 204 140 = some (1, .goto (-65), 143, [75], .null) := by decide +kernel
theorem t204_143 : am_T 204 143 = some (0, .iload 4, 145, [], .null) := by decide +kernel
theorem t204_145 : am_T 204 145 = some (0, .iload_n 1, 146, [], .null) := by decide +kernel
theorem t204_146 : am_T 204 146 = some (1, .ifCond .ne 7, 149, [153], .null) := by decide +kernel
theorem t204_149 : am_T 204 149 = some (0, .iconst 2, 150, [], .int (2)) := by decide +kernel
theorem t204_150 : am_T 204 150 = some (1, .goto 4, 153, [154], .null) := by decide +kernel
theorem t204_153 : am_T 204 153 = some (0, .iload_n 2, 154, [], .null) := by decide +kernel
theorem t204_154 : am_T 204 154 = some (1, .if_icmp .ge 9, 157, [163], .null) := by decide +kernel
theorem t204_157 : am_T 204 157 = some (0, .aload_n 0, 158, [], .null) := by decide +kernel
theorem t204_158 : am_T 204 158 = some (3, .invokevirtual 166, 161, [1, 12, 184], .null) := by decide +kernel
theorem t204_161 : am_T 204 161 = some (0, .pop, 162, [], .null) := by decide +kernel
theorem t204_162 : am_T 204 162 = some (4, .return_, 163, [], .null) := by decide +kernel
theorem t204_163 : am_T 204 163 = some (0, .iload 4, 165, [], .null) := by decide +kernel
theorem t204_165 : am_T 204 165 = some (0, .istore_n 2, 166, [], .null) := by decide +kernel
theorem t204_166 : am_T 204 166 = some (0, .iinc 1 1, 169, [], .int (1)) := by decide +kernel
theorem t204_169 : am_T 204 169 = some (0, .aload_n 0, 170, [], .null) := by decide +kernel
theorem t204_170 : am_T 204 170 = some (3, .invokevirtual 170, 173, [1, 12, 183], .null) := by decide +kernel
theorem t204_173 : am_T 204 173 = some (0, .bipush 59, 175, [], .int (59)) := by decide +kernel
theorem t204_175 : am_T 204 175 = some (1, .if_icmp .ne 7, 178, [182], .null) := by decide +kernel
theorem t204_178 : am_T 204 178 = some (0, .iconst 1, 179, [], .int (1)) := by decide +kernel
theorem t204_179 : am_T 204 179 = some (1, .goto 4, 182, [183], .null) := by decide +kernel
theorem t204_182 : am_T 204 182 = some (0, .iconst 0, 183, [], .int (0)) := by decide +kernel
theorem t204_183 : am_T 204 183 = some (0, .istore_n 3, 184, [], .null) := by decide +kernel
theorem t204_184 : am_T 204 184 = some (0, .iload_n 3, 185, [], .null) := by decide +kernel
theorem t204_185 : am_T 204 185 = some (1, .ifCond .eq 15, 188, [200], .null) := by decide +kernel
theorem t204_188 : am_T 204 188 = some (0, .iload_n 1, 189, [], .null) := by decide +kernel
theorem t204_189 : am_T 204 189 = some (0, .bipush 8, 191, [], .int (8)) := by decide +kernel
theorem t204_191 : am_T 204 191 = some (1, .if_icmp .ne 9, 194, [200], .null) := by decide +kernel
theorem t204_194 : am_T 204 194 = some (0, .aload_n 0, 195, [], .null) := by decide +kernel
theorem t204_195 : am_T 204 195 = some (3, .invokevirtual 166, 198, [1, 12, 184], .null) := by decide +kernel
theorem t204_198 : am_T 204 198 = some (0, .pop, 199, [], .null) := by decide +kernel
theorem t204_199 : am_T 204 199 = some (4, .return_, 200, [], .null) := by decide +kernel
theorem t204_200 : am_T 204 200 = some (0, .iload_n 3, 201, [], .null) := by decide +kernel
theorem t204_201 : am_T 204 201 = some (1, .ifCond .eq 13, 204, [214], .null) := by decide +kernel
theorem t204_204 : am_T 204 204 = some (0, .aload_n 0, 205, [], .null) := by decide +kernel
theorem t204_205 : am_T 204 205 = some (0, .dup, 206, [], .null) := by decide +kernel
theorem t204_206 : am_T 204 206 = some (2, .getfield 151, 209, [10, 12], .null) := by decide +kernel
theorem t204_209 : am_T 204 209 = some (0, .iconst 1, 210, [], .int (1)) := by decide +kernel
theorem t204_210 : am_T 204 210 = some (0, .iadd, 211, [], .null) := by decide +kernel
theorem t204_211 : am_T 204 211 = some (2, .putfield 151, 214, [10, 0, 12], .null) := by decide +kernel
theorem t204_214 : am_T 204 214 = some (1, .goto (-195), 217, [19], .null) := by decide +kernel
theorem t204_217 : am_T 204 217 = some (0, .aload_n 0, 218, [], .null) := by decide +kernel
theorem t204_218 : am_T 204 218 = some (3, .invokevirtual 170, 221, [1, 12, 183], .null) := by decide +kernel
theorem t204_221 : am_T 204 221 = some (0, .iconst (-1), 222, [], .int (-1)) := by decide +kernel
theorem t204_222 : am_T 204 222 = some (1, .if_icmp .eq 9, 225, [231], .null) := by decide +kernel
theorem t204_225 : am_T 204 225 = some (0, .aload_n 0, 226, [], .null) := by decide +kernel
theorem t204_226 : am_T 204 226 = some (3, .invokevirtual 166, 229, [1, 12, 184], .null) := by decide +kernel
theorem t204_229 : am_T 204 229 = some (0, .pop, 230, [], .null) := by decide +kernel
theorem t204_230 : am_T 204 230 = some (4, .return_, 231, [], .null) := by decide +kernel
theorem t204_231 : am_T 204 231 = some (0, .aload_n 0, 232, [], .null) := by decide +kernel
theorem t204_232 : am_T 204 232 = some (2, .getfield 49, 235, [26, 12], .null) := by decide +kernel
theorem t204_235 : am_T 204 235 = some (0, .iconst 3, 236, [], .int (3)) := by decide +kernel
theorem t204_236 : am_T 204 236 = some (0, .iload_n 1, 237, [], .null) := by decide +kernel
theorem t204_237 : am_T 204 237 = some (2, .iastore, 238, [], .null) := by decide +kernel
theorem t204_238 : am_T 204 238 = some (0, .aload_n 0, 239, [], .null) := by decide +kernel
theorem t204_239 : am_T 204 239 = some (2, .getfield 52, 242, [27, 12], .null) := by decide +kernel
theorem t204_242 : am_T 204 242 = some (0, .iconst 3, 243, [], .int (3)) := by decide +kernel
theorem t204_243 : am_T 204 243 = some (0, .iload_n 2, 244, [], .null) := by decide +kernel
theorem t204_244 : am_T 204 244 = some (2, .iastore, 245, [], .null) := by decide +kernel
theorem t204_245 : am_T 204 245 = some (4, .return_, 246, [], .null) := by decide +kernel
theorem t205_0 : am_T 205 0 = some (0, .aload_n 0, 1, [], .null) := by decide +kernel
theorem t205_1 : am_T 205 1 = some (0, .aload_n 0, 2, [], .null) := by decide +kernel
theorem t205_2 : am_T 205 2 = some (2, .getfield 9, 5, [1, 12], .null) := by decide +kernel
theorem t205_5 : am_T 205 5 = some (0, .iconst 0, 6, [], .int (0)) := by decide +kernel
theorem t205_6 : am_T 205 6 = some (0, .aload_n 0, 7, [], .null) := by decide +kernel
theorem t205_7 : am_T 205 7 = some (2, .getfield 141, 10, [6, 12], .null) := by decide +kernel
theorem t205_10 : am_T 205 10 = some (3, .invokevirtual 239, 13, [4, 12, 198], .null) := by decide +kernel
theorem t205_13 : am_T 205 13 = some (0, .iconst 0, 14, [], .int (0)) := by decide +kernel
theorem t205_14 : am_T 205 14 = some (0, .istore_n 1, 15, [], .null) := by decide +kernel
theorem t205_15 : am_T 205 15 = some (0, .aload_n 0, 16, [], .null) := by decide +kernel
theorem t205_16 : am_T 205 16 = some (3, .invokevirtual 264, 19, [1, 12, 203], .null) := by decide +kernel
theorem t205_19 : am_T 205 19 = some (1, .ifCond .eq 41, 22, [60], .null) := by decide +kernel
theorem t205_22 : am_T 205 22 = some (0, .iload_n 1, 23, [], .null) := by decide +kernel
theorem t205_23 : am_T 205 23 = some (0, .bipush 8, 25, [], .int (8)) := by decide +kernel
theorem t205_25 : am_T 205 25 = some (1, .if_icmp .ge 35, 28, [60], .null) := by decide +kernel
theorem t205_28 : am_T 205 28 = some (0, .aload_n 0, 29, [], .null) := by decide +kernel
theorem t205_29 : am_T 205 29 = some (2, .getfield 55, 32, [29, 12], .null) := by decide +kernel
theorem t205_32 : am_T 205 32 = some (0, .bipush 32, 34, [], .int (32)) := by decide +kernel
theorem t205_34 : am_T 205 34 = some (0, .iload_n 1, 35, [], .null) := by decide +kernel
theorem t205_35 : am_T 205 35 = some (0, .iadd, 36, [], .null) := by decide +kernel
theorem t205_36 : am_T 205 36 = some (0, .aload_n 0, 37, [], .null) := by decide +kernel
theorem t205_37 : am_T 205 37 = some (3, .invokevirtual 170, 40, [1, 12, 183], .null) := by decide +kernel
theorem t205_40 : am_T 205 40 = some (0, .bipush 97, 42, [], .int (97)) := by decide +kernel
theorem t205_42 : am_T 205 42 = some (0, .isub, 43, [], .null) := by decide +kernel
theorem t205_43 : am_T 205 43 = some (2, .iastore, 44, [], .null) := by decide +kernel
theorem t205_44 : am_T 205 44 = some (0, .iinc 1 1, 47, [], .int (1)) := by decide +kernel
theorem t205_47 : am_T 205 47 = some (0, .aload_n 0, 48, [], .null) := by decide +kernel
theorem t205_48 : am_T 205 48 = some (0, .dup, 49, [], .null) := by decide +kernel
theorem t205_49 : am_T 205 49 = some (2, .getfield 151, 52, [10, 12], .null) := by decide +kernel
theorem t205_52 : am_T 205 52 = some (0, .iconst 1, 53, [], .int (1)) := by decide +kernel
theorem t205_53 : am_T 205 53 = some (0, .iadd, 54, [], .null) := by decide +kernel
theorem t205_54 : am_T 205 54 = some (2, .putfield 151, 57, [10, 0, 12], .null) := by decide +kernel
theorem t205_57 : am_T 205 57 = some (1, .goto (-42), 60, [15], .null) := by decide +kernel
theorem t205_60 : am_T 205 60 = some (0, .iload_n 1, 61, [], .null) := by decide +kernel
theorem t205_61 : am_T 205 61 = some (1, .ifCond .eq 11, 64, [72], .null) := by decide +kernel
theorem t205_64 : am_T 205 64 = some (0, .aload_n 0, 65, [], .null) := by decide +kernel
theorem t205_65 : am_T 205 65 = some (3, .invokevirtual 170, 68, [1, 12, 183], .null) := by decide +kernel
theorem t205_68 : am_T 205 68 = some (0, .iconst (-1), 69, [], .int (-1)) := by decide +kernel
theorem t205_69 : am_T 205 69 = some (1, .if_icmp .eq 8, 72, [77], .null) := by decide +kernel
theorem t205_72 : am_T 205 72 = some (0, .aload_n 0, 73, [], .null) := by decide +kernel
theorem t205_73 : am_T 205 73 = some (3, .invokevirtual 166, 76, [1, 12, 184], .null) := by decide +kernel
theorem t205_76 : am_T 205 76 = some (0, .pop, 77, [], .null) := by decide +kernel
theorem t205_77 : am_T 205 77 = some (0, .aload_n 0, 78, [], .null) := by decide +kernel
theorem t205_78 : am_T 205 78 = some (2, .getfield 58, 81, [30, 12], .null) := by decide +kernel
theorem t205_81 : am_T 205 81 = some (0, .iconst 4, 82, [], .int (4)) := by decide +kernel
theorem t205_82 : am_T 205 82 = some (0, .iload_n 1, 83, [], .null) := by decide +kernel
theorem t205_83 : am_T 205 83 = some (2, .iastore, 84, [], .null) := by decide +kernel
theorem t205_84 : am_T 205 84 = some (4, .return_, 85, [], .null) := by decide +kernel
theorem t206_0 : am_T 206 0 = some (0, .aload_n 0, 1, [], .null) := by decide +kernel
theorem t206_1 : am_T 206 1 = some (0, .iconst 0, 2, [], .int (0)) := by decide +kernel
theorem t206_2 : am_T 206 2 = some (2, .putfield 128, 5, [0, 0, 12], .null) := by decide +kernel
theorem t206_5 : am_T 206 5 = some (0, .iload_n 1, 6, [], .null) := by decide +kernel
theorem t206_6 : am_T 206 6 = some (0, .i2l, 7, [], .null) := by decide +kernel
theorem t206_7 : am_T 206 7 = some (0, .lconst 0, 8, [], .long 0) := by decide +kernel
theorem t206_8 : am_T 206 8 = some (0, .ldc2_w 270, 11, [], .long (3)) := by decide +kernel
theorem t206_11 : am_T 206 11 = some (3, .invokestatic 246, 14, [3, 176], .null) := by decide +kernel
theorem t206_14 : am_T 206 14 = some (1, .ifCond .ne 6, 17, [20], .null) := by decide +kernel
theorem t206_17 : am_T 206 17 = some (0, .bipush (-2), 19, [], .int (-2)) := by decide +kernel
theorem t206_19 : am_T 206 19 = some (4, .ireturn, 20, [0], .null) := by decide +kernel
theorem t206_20 : am_T 206 20 = some (0, .iload_n 1, 21, [], .null) := by decide +kernel
theorem t206_21 : am_T 206 21 = some (1, .ifCond .ne 7, 24, [28], .null) := by decide +kernel
theorem t206_24 : am_T 206 24 = some (0, .aload_n 0, 25, [], .null) := by decide +kernel
theorem t206_25 : am_T 206 25 = some (3, .invokevirtual 272, 28, [1, 12, 201], .null) := by decide +kernel
theorem t206_28 : am_T 206 28 = some (0, .iload_n 1, 29, [], .null) := by decide +kernel
theorem t206_29 : am_T 206 29 = some (0, .iconst 1, 30, [], .int (1)) := by decide +kernel
theorem t206_30 : am_T 206 30 = some (1, .if_icmp .ne 7, 33, [37], .null) := by decide +kernel
theorem t206_33 : am_T 206 33 = some (0, .aload_n 0, 34, [], .null) := by decide +kernel
theorem t206_34 : am_T 206 34 = some (3, .invokevirtual 275, 37, [1, 12, 204], .null) := by decide +kernel
theorem t206_37 : am_T 206 37 = some (0, .iload_n 1, 38, [], .null) := by decide +kernel
theorem t206_38 : am_T 206 38 = some (0, .iconst 2, 39, [], .int (2)) := by decide +kernel
theorem t206_39 : am_T 206 39 = some (1, .if_icmp .ne 7, 42, [46], .null) := by decide +kernel
theorem t206_42 : am_T 206 42 = some (0, .aload_n 0, 43, [], .null) := by decide +kernel
theorem t206_43 : am_T 206 43 = some (3, .invokevirtual 278, 46, [1, 12, 205], .null) := by decide +kernel
theorem t206_46 : am_T 206 46 = some (0, .iload_n 1, 47, [], .null) := by decide +kernel
theorem t206_47 : am_T 206 47 = some (0, .iconst 3, 48, [], .int (3)) := by decide +kernel
theorem t206_48 : am_T 206 48 = some (1, .if_icmp .ne 16, 51, [64], .null) := by decide +kernel
theorem t206_51 : am_T 206 51 = some (0, .aload_n 0, 52, [], .null) := by decide +kernel
theorem t206_52 : am_T 206 52 = some (0, .aload_n 0, 53, [], .null) := by decide +kernel
theorem t206_53 : am_T 206 53 = some (2, .getfield 9, 56, [1, 12], .null) := by decide +kernel
theorem t206_56 : am_T 206 56 = some (0, .iconst 0, 57, [], .int (0)) := by decide +kernel
theorem t206_57 : am_T 206 57 = some (0, .aload_n 0, 58, [], .null) := by decide +kernel
theorem t206_58 : am_T 206 58 = some (2, .getfield 141, 61, [6, 12], .null) := by decide +kernel
theorem t206_61 : am_T 206 61 = some (3, .invokevirtual 281, 64, [4, 12, 199], .null) := by decide +kernel
theorem t206_64 : am_T 206 64 = some (0, .aload_n 0, 65, [], .null) := by decide +kernel
theorem t206_65 : am_T 206 65 = some (2, .getfield 160, 68, [11, 12], .null) := by decide +kernel
theorem t206_68 : am_T 206 68 = some (4, .ireturn, 69, [0], .null) := by decide +kernel
theorem t207_0 : am_T 207 0 = some (0, .iload_n 1, 1, [], .null) := by decide +kernel
theorem t207_1 : am_T 207 1 = some (1, .ifCond .eq 42, 4, [43], .null) := by decide +kernel
theorem t207_4 : am_T 207 4 = some (0, .iload_n 1, 5, [], .null) := by decide +kernel
theorem t207_5 : am_T 207 5 = some (0, .iconst 1, 6, [], .int (1)) := by decide +kernel
theorem t207_6 : am_T 207 6 = some (1, .if_icmp .ne 11, 9, [17], .null) := by decide +kernel
theorem t207_9 : am_T 207 9 = some (0, .aload_n 0, 10, [], .null) := by decide +kernel
theorem t207_10 : am_T 207 10 = some (2, .getfield 284, 13, [28, 12], .null) := by decide +kernel
theorem t207_13 : am_T 207 13 = some (0, .iconst 3, 14, [], .int (3)) := by decide +kernel
theorem t207_14 : am_T 207 14 = some (1, .if_icmp .lt 29, 17, [43], .null) := by decide +kernel
theorem t207_17 : am_T 207 17 = some (0, .iload_n 1, 18, [], .null) := by decide +kernel
theorem t207_18 : am_T 207 18 = some (0, .iconst 2, 19, [], .int (2)) := by decide +kernel
theorem t207_19 : am_T 207 19 = some (1, .if_icmp .ne 11, 22, [30], .null) := by decide +kernel
theorem t207_22 : am_T 207 22 = some (0, .aload_n 0, 23, [], .null) := by decide +kernel
theorem t207_23 : am_T 207 23 = some (2, .getfield 287, 26, [31, 12], .null) := by decide +kernel
theorem t207_26 : am_T 207 26 = some (0, .iconst 4, 27, [], .int (4)) := by decide +kernel
theorem t207_27 : am_T 207 27 = some (1, .if_icmp .lt 16, 30, [43], .null) := by decide +kernel
theorem t207_30 : am_T 207 30 = some (0, .iload_n 1, 31, [], .null) := by decide +kernel
theorem t207_31 : am_T 207 31 = some (0, .iconst 3, 32, [], .int (3)) := by decide +kernel
theorem t207_32 : am_T 207 32 = some (1, .if_icmp .ne 15, 35, [47], .null) := by decide +kernel
theorem t207_35 : am_T 207 35 = some (0, .aload_n 0, 36, [], .null) := by decide +kernel
theorem t207_36 : am_T 207 36 = some (2, .getfield 290, 39, [7, 12], .null) := by decide +kernel
theorem t207_39 : am_T 207 39 = some (0, .iconst 4, 40, [], .int (4)) := by decide +kernel
theorem t207_40 : am_T 207 40 = some (1, .if_icmp .ge 7, 43, [47], .null) := by decide +kernel
theorem t207_43 : am_T 207 43 = some (0, .iconst 1, 44, [], .int (1)) := by decide +kernel
theorem t207_44 : am_T 207 44 = some (1, .goto 4, 47, [48], .null) := by decide +kernel
theorem t207_47 : am_T 207 47 = some (0, .iconst 0, 48, [], .int (0)) := by decide +kernel
theorem t207_48 : am_T 207 48 = some (4, .ireturn, 49, [1], .null) := by decide +kernel
theorem t208_0 : am_T 208 0 = some (0, .aload_n 0, 1, [], .null) := by decide +kernel
theorem t208_1 : am_T 208 1 = some (0, .iconst 0, 2, [], .int (0)) := by decide +kernel
theorem t208_2 : am_T 208 2 = some (2, .putfield 128, 5, [0, 0, 12], .null) := by decide +kernel
theorem t208_5 : am_T 208 5 = some (0, .iload_n 1, 6, [], .null) := by decide +kernel
theorem t208_6 : am_T 208 6 = some (0, .i2l, 7, [], .null) := by decide +kernel
theorem t208_7 : am_T 208 7 = some (0, .lconst 0, 8, [], .long 0) := by decide +kernel
theorem t208_8 : am_T 208 8 = some (0, .ldc2_w 270, 11, [], .long (3)) := by decide +kernel
theorem t208_11 : am_T 208 11 = some (3, .invokestatic 246, 14, [3, 176], .null) := by decide +kernel
theorem t208_14 : am_T 208 14 = some (1, .ifCond .eq 20, 17, [34], .null) := by decide +kernel
theorem t208_17 : am_T 208 17 = some (0, .aload_n 0, 18, [], .null) := by decide +kernel
theorem t208_18 : am_T 208 18 = some (0, .iload_n 1, 19, [], .null) := by decide +kernel
theorem t208_19 : am_T 208 19 = some (3, .invokevirtual 293, 22, [2, 12, 207], .null) := by decide +kernel
theorem t208_22 : am_T 208 22 = some (1, .ifCond .eq 12, 25, [34], .null) := by decide +kernel
theorem t208_25 : am_T 208 25 = some (0, .aload_n 0, 26, [], .null) := by decide +kernel
theorem t208_26 : am_T 208 26 = some (0, .iload_n 1, 27, [], .null) := by decide +kernel
theorem t208_27 : am_T 208 27 = some (3, .invokevirtual 296, 30, [2, 12, 206], .null) := by decide +kernel
theorem t208_30 : am_T 208 30 = some (0, .iconst (-1), 31, [], .int (-1)) := by decide +kernel
theorem t208_31 : am_T 208 31 = some (1, .if_icmp .eq 5, 34, [36], .null) := by decide +kernel
theorem t208_34 : am_T 208 34 = some (0, .iconst (-1), 35, [], .int (-1)) := by decide +kernel
theorem t208_35 : am_T 208 35 = some (4, .ireturn, 36, [0], .null) := by decide +kernel
theorem t208_36 : am_T 208 36 = some (0, .aload_n 0, 37, [], .null) := by decide +kernel
theorem t208_37 : am_T 208 37 = some (2, .getfield 141, 40, [6, 12], .null) := by decide +kernel
theorem t208_40 : am_T 208 40 = some (0, .istore_n 2, 41, [], .null) := by decide +kernel
theorem t208_41 : am_T 208 41 = some (0, .aload_n 0, 42, [], .null) := by decide +kernel
theorem t208_42 : am_T 208 42 = some (0, .iconst 0, 43, [], .int (0)) := by decide +kernel
theorem t208_43 : am_T 208 43 = some (2, .putfield 141, 46, [6, 0, 12], .null) := by decide +kernel
theorem t208_46 : am_T 208 46 = some (0, .iload_n 1, 47, [], .null) := by decide +kernel
theorem t208_47 : am_T 208 47 = some (0, .iconst 1, 48, [], .int (1)) := by decide +kernel
theorem t208_48 : am_T 208 48 = some (1, .if_icmp .ne 124, 51, [172], .null) := by decide +kernel
theorem t208_51 : am_T 208 51 = some (0, .iconst 0, 52, [], .int (0)) := by decide +kernel
theorem t208_52 : am_T 208 52 = some (0, .istore_n 3, 53, [], .null) := by decide +kernel
theorem t208_53 : am_T 208 53 = some (0, .iload_n 3, 54, [], .null) := by decide +kernel
theorem t208_54 : am_T 208 54 = some (0, .bipush 8, 56, [], .int (8)) := by decide +kernel
theorem t208_56 : am_T 208 56 = some (1, .if_icmp .ge 32, 59, [88], .null) := by decide +kernel
theorem t208_59 : am_T 208 59 = some (0, .aload_n 0, 60, [], .null) := by decide +kernel
theorem t208_60 : am_T 208 60 = some (2, .getfield 43, 63, [24, 12], .null) := by decide +kernel
theorem t208_63 : am_T 208 63 = some (0, .bipush 8, 65, [], .int (8)) := by decide +kernel
theorem t208_65 : am_T 208 65 = some (0, .aload_n 0, 66, [], .null) := by decide +kernel
theorem t208_66 : am_T 208 66 = some (2, .getfield 284, 69, [28, 12], .null) := by decide +kernel
theorem t208_69 : am_T 208 69 = some (0, .imul, 70, [], .null) := by decide +kernel
theorem t208_70 : am_T 208 70 = some (0, .iload_n 3, 71, [], .null) := by decide +kernel
theorem t208_71 : am_T 208 71 = some (0, .iadd, 72, [], .null) := by decide +kernel
theorem t208_72 : am_T 208 72 = some (0, .aload_n 0, 73, [], .null) := by decide +kernel
theorem t208_73 : am_T 208 73 = some (2, .getfield 43, 76, [24, 12], .null) := by decide +kernel
theorem t208_76 : am_T 208 76 = some (0, .bipush 24, 78, [], .int (24)) := by decide +kernel
theorem t208_78 : am_T 208 78 = some (0, .iload_n 3, 79, [], .null) := by decide +kernel
theorem t208_79 : am_T 208 79 = some (0, .iadd, 80, [], .null) := by decide +kernel
theorem t208_80 : am_T 208 80 = some (2, .iaload, 81, [], .null) := by decide +kernel
theorem t208_81 : am_T 208 81 = some (2, .iastore, 82, [], .null) := by decide +kernel
theorem t208_82 : am_T 208 82 = some (0, .iinc 3 1, 85, [], .int (1)) := by decide +kernel
theorem t208_85 : am_T 208 85 = some (1, .goto (-32), 88, [53], .null) := by decide +kernel
theorem t208_88 : am_T 208 88 = some (0, .iconst 0, 89, [], .int (0)) := by decide +kernel
theorem t208_89 : am_T 208 89 = some (0, .istore_n 3, 90, [], .null) := by decide +kernel
theorem t208_90 : am_T 208 90 = some (0, .iload_n 3, 91, [], .null) := by decide +kernel
theorem t208_91 : am_T 208 91 = some (0, .bipush 40, 93, [], .int (40)) := by decide +kernel
theorem t208_93 : am_T 208 93 = some (1, .if_icmp .ge 32, 96, [125], .null) := by decide +kernel
theorem t208_96 : am_T 208 96 = some (0, .aload_n 0, 97, [], .null) := by decide +kernel
theorem t208_97 : am_T 208 97 = some (2, .getfield 46, 100, [25, 12], .null) := by decide +kernel
theorem t208_100 : am_T 208 100 = some (0, .bipush 40, 102, [], .int (40)) := by decide +kernel
theorem t208_102 : am_T 208 102 = some (0, .aload_n 0, 103, [], .null) := by decide +kernel
theorem t208_103 : am_T 208 103 = some (2, .getfield 284, 106, [28, 12], .null) := by decide +kernel
theorem t208_106 : am_T 208 106 = some (0, .imul, 107, [], .null) := by decide +kernel
theorem t208_107 : am_T 208 107 = some (0, .iload_n 3, 108, [], .null) := by decide +kernel
theorem t208_108 : am_T 208 108 = some (0, .iadd, 109, [], .null) := by decide +kernel
theorem t208_109 : am_T 208 109 = some (0, .aload_n 0, 110, [], .null) := by decide +kernel
theorem t208_110 : am_T 208 110 = some (2, .getfield 46, 113, [25, 12], .null) := by decide +kernel
theorem t208_113 : am_T 208 113 = some (0, .bipush 120, 115, [], .int (120)) := by decide +kernel
theorem t208_115 : am_T 208 115 = some (0, .iload_n 3, 116, [], .null) := by decide +kernel
theorem t208_116 : am_T 208 116 = some (0, .iadd, 117, [], .null) := by decide +kernel
theorem t208_117 : am_T 208 117 = some (2, .iaload, 118, [], .null) := by decide +kernel
theorem t208_118 : am_T 208 118 = some (2, .iastore, 119, [], .null) := by decide +kernel
theorem t208_119 : am_T 208 119 = some (0, .iinc 3 1, 122, [], .int (1)) := by decide +kernel
theorem t208_122 : am_T 208 122 = some (1, .goto (-32), 125, [90], .null) := by decide +kernel
theorem t208_125 : am_T 208 125 = some (0, .aload_n 0, 126, [], .null) := by decide +kernel
theorem t208_126 : am_T 208 126 = some (2, .getfield 49, 129, [26, 12], .null) := by decide +kernel
theorem t208_129 : am_T 208 129 = some (0, .aload_n 0, 130, [], .null) := by decide +kernel
theorem t208_130 : am_T 208 130 = some (2, .getfield 284, 133, [28, 12], .null) := by decide +kernel
theorem t208_133 : am_T 208 133 = some (0, .aload_n 0, 134, [], .null) := by decide +kernel
theorem t208_134 : am_T 208 134 = some (2, .getfield 49, 137, [26, 12], .null) := by decide +kernel
theorem t208_137 : am_T 208 137 = some (0, .iconst 3, 138, [], .int (3)) := by decide +kernel
theorem t208_138 : am_T 208 138 = some (2, .iaload, 139, [], .null) := by decide +kernel
theorem t208_139 : am_T 208 139 = some (2, .iastore, 140, [], .null) := by decide +kernel
theorem t208_140 : am_T 208 140 = some (0, .aload_n 0, 141, [], .null) := by decide +kernel
theorem t208_141 : am_T 208 141 = some (2, .getfield 52, 144, [27, 12], .null) := by decide +kernel
theorem t208_144 : am_T 208 144 = some (0, .aload_n 0, 145, [], .null) := by decide +kernel
theorem t208_145 : am_T 208 145 = some (2, .getfield 284, 148, [28, 12], .null) := by decide +kernel
theorem t208_148 : am_T 208 148 = some (0, .aload_n 0, 149, [], .null) := by decide +kernel
theorem t208_149 : am_T 208 149 = some (2, .getfield 52, 152, [27, 12], .null) := by decide +kernel
theorem t208_152 : am_T 208 152 = some (0, .iconst 3, 153, [], .int (3)) := by decide +kernel
theorem t208_153 : am_T 208 153 = some (2, .iaload, 154, [], .null) := by decide +kernel
theorem t208_154 : am_T 208 154 = some (2, .iastore, 155, [], .null) := by decide +kernel
theorem t208_155 : am_T 208 155 = some (0, .aload_n 0, 156, [], .null) := by decide +kernel
theorem t208_156 : am_T 208 156 = some (0, .dup, 157, [], .null) := by decide +kernel
theorem t208_157 : am_T 208 157 = some (2, .getfield 284, 160, [28, 12], .null) := by decide +kernel
theorem t208_160 : am_T 208 160 = some (0, .iconst 1, 161, [], .int (1)) := by decide +kernel
theorem t208_161 : am_T 208 161 = some (0, .iadd, 162, [], .null) := by decide +kernel
theorem t208_162 : am_T 208 162 = some (2, .putfield 284, 165, [28, 0, 12], .null) := by decide +kernel
theorem t208_165 : am_T 208 165 = some (0, .aload_n 0, 166, [], .null) := by decide +kernel
theorem t208_166 : am_T 208 166 = some (2, .getfield 284, 169, [28, 12], .null) := by decide +kernel
theorem t208_169 : am_T 208 169 = some (0, .iconst 1, 170, [], .int (1)) := by decide +kernel
theorem t208_170 : am_T 208 170 = some (0, .isub, 171, [], .null) := by decide +kernel
theorem t208_171 : am_T 208 171 = some (4, .ireturn, 172, [0], .null) := by decide +kernel
theorem t208_172 : am_T 208 172 = some (0, .iload_n 1, 173, [], .null) := by decide +kernel
theorem t208_173 : am_T 208 173 = some (0, .iconst 2, 174, [], .int (2)) := by decide +kernel
theorem t208_174 : am_T 208 174 = some (1, .if_icmp .ne 72, 177, [246], .null) := by decide +kernel
theorem t208_177 : am_T 208 177 = some (0, .iconst 0, 178, [], .int (0)) := by decide +kernel
theorem t208_178 : am_T 208 178 = some (0, .istore_n 3, 179, [], .null) := by decide +kernel
theorem t208_179 : am_T 208 179 = some (0, .iload_n 3, 180, [], .null) := by decide +kernel
theorem t208_180 : am_T 208 180 = some (0, .bipush 8, 182, [], .int (8)) := by decide +kernel
theorem t208_182 : am_T 208 182 = some (1, .if_icmp .ge 32, 185, [214], .null) := by decide +kernel
theorem t208_185 : am_T 208 185 = some (0, .aload_n 0, 186, [], .null) := by decide +kernel
theorem t208_186 : am_T 208 186 = some (2, .getfield 55, 189, [29, 12], .null) := by decide +kernel
theorem t208_189 : am_T 208 189 = some (0, .bipush 8, 191, [], .int (8)) := by decide +kernel
theorem t208_191 : am_T 208 191 = some (0, .aload_n 0, 192, [], .null) := by decide +kernel
theorem t208_192 : am_T 208 192 = some (2, .getfield 287, 195, [31, 12], .null) := by decide +kernel
theorem t208_195 : am_T 208 195 = some (0, .imul, 196, [], .null) := by decide +kernel
theorem t208_196 : am_T 208 196 = some (0, .iload_n 3, 197, [], .null) := by decide +kernel
theorem t208_197 : am_T 208 197 = some (0, .iadd, 198, [], .null) := by decide +kernel
theorem t208_198 : am_T 208 198 = some (0, .aload_n 0, 199, [], .null) := by decide +kernel
theorem t208_199 : am_T 208 199 = some (2, .getfield 55, 202, [29, 12], .null) := by decide +kernel
theorem t208_202 : am_T 208 202 = some (0, .bipush 32, 204, [], .int (32)) := by decide +kernel
theorem t208_204 : am_T 208 204 = some (0, .iload_n 3, 205, [], .null) := by decide +kernel
theorem t208_205 : am_T 208 205 = some (0, .iadd, 206, [], .null) := by decide +kernel
theorem t208_206 : am_T 208 206 = some (2, .iaload, 207, [], .null) := by decide +kernel
theorem t208_207 : am_T 208 207 = some (2, .iastore, 208, [], .null) := by decide +kernel
theorem t208_208 : am_T 208 208 = some (0, .iinc 3 1, 211, [], .int (1)) := by decide +kernel
theorem t208_211 : am_T 208 211 = some (1, .goto (-32), 214, [179], .null) := by decide +kernel
theorem t208_214 : am_T 208 214 = some (0, .aload_n 0, 215, [], .null) := by decide +kernel
theorem t208_215 : am_T 208 215 = some (2, .getfield 58, 218, [30, 12], .null) := by decide +kernel
theorem t208_218 : am_T 208 218 = some (0, .aload_n 0, 219, [], .null) := by decide +kernel
theorem t208_219 : am_T 208 219 = some (2, .getfield 287, 222, [31, 12], .null) := by decide +kernel
theorem t208_222 : am_T 208 222 = some (0, .aload_n 0, 223, [], .null) := by decide +kernel
theorem t208_223 : am_T 208 223 = some (2, .getfield 58, 226, [30, 12], .null) := by decide +kernel
theorem t208_226 : am_T 208 226 = some (0, .iconst 4, 227, [], .int (4)) := by decide +kernel
theorem t208_227 : am_T 208 227 = some (2, .iaload, 228, [], .null) := by decide +kernel
theorem t208_228 : am_T 208 228 = some (2, .iastore, 229, [], .null) := by decide +kernel
theorem t208_229 : am_T 208 229 = some (0, .aload_n 0, 230, [], .null) := by decide +kernel
theorem t208_230 : am_T 208 230 = some (0, .dup, 231, [], .null) := by decide +kernel
theorem t208_231 : am_T 208 231 = some (2, .getfield 287, 234, [31, 12], .null) := by decide +kernel
theorem t208_234 : am_T 208 234 = some (0, .iconst 1, 235, [], .int (1)) := by decide +kernel
theorem t208_235 : am_T 208 235 = some (0, .iadd, 236, [], .null) := by decide +kernel
theorem t208_236 : am_T 208 236 = some (2, .putfield 287, 239, [31, 0, 12], .null) := by decide +kernel
theorem t208_239 : am_T 208 239 = some (0, .aload_n 0, 240, [], .null) := by decide +kernel
theorem t208_240 : am_T 208 240 = some (2, .getfield 287, 243, [31, 12], .null) := by decide +kernel
theorem t208_243 : am_T 208 243 = some (0, .iconst 1, 244, [], .int (1)) := by decide +kernel
theorem t208_244 : am_T 208 244 = some (0, .isub, 245, [], .null) := by decide +kernel
theorem t208_245 : am_T 208 245 = some (4, .ireturn, 246, [0], .null) := by decide +kernel
theorem t208_246 : am_T 208 246 = some (0, .iload_n 1, 247, [], .null) := by decide +kernel
theorem t208_247 : am_T 208 247 = some (0, .iconst 3, 248, [], .int (3)) := by decide +kernel
theorem t208_248 : am_T 208 248 = some (1, .if_icmp .ne 63, 251, [311], .null) := by decide +kernel
theorem t208_251 : am_T 208 251 = some (0, .iconst 0, 252, [], .int (0)) := by decide +kernel
theorem t208_252 : am_T 208 252 = some (0, .istore_n 3, 253, [], .null) := by decide +kernel
theorem t208_253 : am_T 208 253 = some (0, .iload_n 3, 254, [], .null) := by decide +kernel
theorem t208_254 : am_T 208 254 = some (0, .iload_n 2, 255, [], .null) := by decide +kernel
theorem t208_255 : am_T 208 255 = some (1, .if_icmp .ge 29, 258, [284], .null) := by decide +kernel
theorem t208_258 : am_T 208 258 = some (0, .aload_n 0, 259, [], .null) := by decide +kernel
theorem t208_259 : am_T 208 259 = some (2, .getfield 13, 262, [2, 12], .null) := by decide +kernel
theorem t208_262 : am_T 208 262 = some (0, .bipush 120, 264, [], .int (120)) := by decide +kernel
theorem t208_264 : am_T 208 264 = some (0, .aload_n 0, 265, [], .null) := by decide +kernel
theorem t208_265 : am_T 208 265 = some (2, .getfield 290, 268, [7, 12], .null) := by decide +kernel
theorem t208_268 : am_T 208 268 = some (0, .imul, 269, [], .null) := by decide +kernel
theorem t208_269 : am_T 208 269 = some (0, .iload_n 3, 270, [], .null) := by decide +kernel
theorem t208_270 : am_T 208 270 = some (0, .iadd, 271, [], .null) := by decide +kernel
theorem t208_271 : am_T 208 271 = some (0, .aload_n 0, 272, [], .null) := by decide +kernel
theorem t208_272 : am_T 208 272 = some (2, .getfield 9, 275, [1, 12], .null) := by decide +kernel
theorem t208_275 : am_T 208 275 = some (0, .iload_n 3, 276, [], .null) := by decide +kernel
theorem t208_276 : am_T 208 276 = some (2, .baload, 277, [], .null) := by decide +kernel
theorem t208_277 : am_T 208 277 = some (2, .bastore, 278, [], .null) := by decide +kernel
theorem t208_278 : am_T 208 278 = some (0, .iinc 3 1, 281, [], .int (1)) := by decide +kernel
theorem t208_281 : am_T 208 281 = some (1, .goto (-28), 284, [253], .null) := by decide +kernel
theorem t208_284 : am_T 208 284 = some (0, .aload_n 0, 285, [], .null) := by decide +kernel
theorem t208_285 : am_T 208 285 = some (2, .getfield 16, 288, [3, 12], .null) := by decide +kernel
theorem t208_288 : am_T 208 288 = some (0, .aload_n 0, 289, [], .null) := by decide +kernel
theorem t208_289 : am_T 208 289 = some (2, .getfield 290, 292, [7, 12], .null) := by decide +kernel
theorem t208_292 : am_T 208 292 = some (0, .iload_n 2, 293, [], .null) := by decide +kernel
theorem t208_293 : am_T 208 293 = some (2, .iastore, 294, [], .null) := by decide +kernel
theorem t208_294 : am_T 208 294 = some (0, .aload_n 0, 295, [], .null) := by decide +kernel
theorem t208_295 : am_T 208 295 = some (0, .dup, 296, [], .null) := by decide +kernel
theorem t208_296 : am_T 208 296 = some (2, .getfield 290, 299, [7, 12], .null) := by decide +kernel
theorem t208_299 : am_T 208 299 = some (0, .iconst 1, 300, [], .int (1)) := by decide +kernel
theorem t208_300 : am_T 208 300 = some (0, .iadd, 301, [], .null) := by decide +kernel
theorem t208_301 : am_T 208 301 = some (2, .putfield 290, 304, [7, 0, 12], .null) := by decide +kernel
theorem t208_304 : am_T 208 304 = some (0, .aload_n 0, 305, [], .null) := by decide +kernel
theorem t208_305 : am_T 208 305 = some (2, .getfield 290, 308, [7, 12], .null) := by decide +kernel
theorem t208_308 : am_T 208 308 = some (0, .iconst 1, 309, [], .int (1)) := by decide +kernel
theorem t208_309 : am_T 208 309 = some (0, .isub, 310, [], .null) := by decide +kernel
theorem t208_310 : am_T 208 310 = some (4, .ireturn, 311, [0], .null) := by decide +kernel
theorem t208_311 : am_T 208 311 = some (0, .aload_n 0, 312, [], .null) := by decide +kernel
theorem t208_312 : am_T 208 312 = some (0, .aload_n 0, 313, [], .null) := by decide +kernel
theorem t208_313 : am_T 208 313 = some (2, .getfield 257, 316, [22, 12], .null) := by decide +kernel
theorem t208_316 : am_T 208 316 = some (2, .putfield 298, 319, [20, 0, 12], .null) := by decide +kernel
theorem t208_319 : am_T 208 319 = some (0, .aload_n 0, 320, [], .null) := by decide +kernel
theorem t208_320 : am_T 208 320 = some (2, .getfield 37, 323, [18, 12], .null) := by decide +kernel
theorem t208_323 : am_T 208 323 = some (0, .iconst 1, 324, [], .int (1)) := by decide +kernel
theorem t208_324 : am_T 208 324 = some (0, .aload_n 0, 325, [], .null) := by decide +kernel
theorem t208_325 : am_T 208 325 = some (2, .getfield 40, 328, [19, 12], .null) := by decide +kernel
theorem t208_328 : am_T 208 328 = some (0, .iconst 1, 329, [], .int (1)) := by decide +kernel
theorem t208_329 : am_T 208 329 = some (2, .iaload, 330, [], .null) := by decide +kernel
theorem t208_330 : am_T 208 330 = some (2, .iastore, 331, [], .null) := by decide +kernel
theorem t208_331 : am_T 208 331 = some (0, .aload_n 0, 332, [], .null) := by decide +kernel
theorem t208_332 : am_T 208 332 = some (2, .getfield 37, 335, [18, 12], .null) := by decide +kernel
theorem t208_335 : am_T 208 335 = some (0, .iconst 2, 336, [], .int (2)) := by decide +kernel
theorem t208_336 : am_T 208 336 = some (0, .aload_n 0, 337, [], .null) := by decide +kernel
theorem t208_337 : am_T 208 337 = some (2, .getfield 40, 340, [19, 12], .null) := by decide +kernel
theorem t208_340 : am_T 208 340 = some (0, .iconst 2, 341, [], .int (2)) := by decide +kernel
theorem t208_341 : am_T 208 341 = some (2, .iaload, 342, [], .null) := by decide +kernel
theorem t208_342 : am_T 208 342 = some (2, .iastore, 343, [], .null) := by decide +kernel
theorem t208_343 : am_T 208 343 = some (0, .aload_n 0, 344, [], .null) := by decide +kernel
theorem t208_344 : am_T 208 344 = some (0, .aload_n 0, 345, [], .null) := by decide +kernel
theorem t208_345 : am_T 208 345 = some (2, .getfield 250, 348, [23, 12], .null) := by decide +kernel
theorem t208_348 : am_T 208 348 = some (2, .putfield 301, 351, [21, 0, 12], .null) := by decide +kernel
theorem t208_351 : am_T 208 351 = some (0, .aload_n 0, 352, [], .null) := by decide +kernel
theorem t208_352 : am_T 208 352 = some (0, .iconst (-1), 353, [], .int (-1)) := by decide +kernel
theorem t208_353 : am_T 208 353 = some (2, .putfield 61, 356, [32, 0, 12], .null) := by decide +kernel
theorem t208_356 : am_T 208 356 = some (0, .aload_n 0, 357, [], .null) := by decide +kernel
theorem t208_357 : am_T 208 357 = some (0, .iconst 0, 358, [], .int (0)) := by decide +kernel
theorem t208_358 : am_T 208 358 = some (2, .putfield 304, 361, [33, 0, 12], .null) := by decide +kernel
theorem t208_361 : am_T 208 361 = some (0, .aload_n 0, 362, [], .null) := by decide +kernel
theorem t208_362 : am_T 208 362 = some (0, .iconst 0, 363, [], .int (0)) := by decide +kernel
theorem t208_363 : am_T 208 363 = some (2, .putfield 307, 366, [34, 0, 12], .null) := by decide +kernel
theorem t208_366 : am_T 208 366 = some (0, .aload_n 0, 367, [], .null) := by decide +kernel
theorem t208_367 : am_T 208 367 = some (0, .aload_n 0, 368, [], .null) := by decide +kernel
theorem t208_368 : am_T 208 368 = some (2, .getfield 301, 371, [21, 12], .null) := by decide +kernel
theorem t208_371 : am_T 208 371 = some (2, .putfield 310, 374, [35, 0, 12], .null) := by decide +kernel
theorem t208_374 : am_T 208 374 = some (0, .aload_n 0, 375, [], .null) := by decide +kernel
theorem t208_375 : am_T 208 375 = some (0, .iconst 0, 376, [], .int (0)) := by decide +kernel
theorem t208_376 : am_T 208 376 = some (2, .putfield 313, 379, [40, 0, 12], .null) := by decide +kernel
theorem t208_379 : am_T 208 379 = some (0, .aload_n 0, 380, [], .null) := by decide +kernel
theorem t208_380 : am_T 208 380 = some (0, .iconst 0, 381, [], .int (0)) := by decide +kernel
theorem t208_381 : am_T 208 381 = some (2, .putfield 316, 384, [53, 0, 12], .null) := by decide +kernel
theorem t208_384 : am_T 208 384 = some (0, .aload_n 0, 385, [], .null) := by decide +kernel
theorem t208_385 : am_T 208 385 = some (0, .iconst 0, 386, [], .int (0)) := by decide +kernel
theorem t208_386 : am_T 208 386 = some (2, .putfield 319, 389, [58, 0, 12], .null) := by decide +kernel
theorem t208_389 : am_T 208 389 = some (0, .aload_n 0, 390, [], .null) := by decide +kernel
theorem t208_390 : am_T 208 390 = some (0, .iconst 0, 391, [], .int (0)) := by decide +kernel
theorem t208_391 : am_T 208 391 = some (2, .putfield 322, 394, [64, 1, 12], .null) := by decide +kernel
theorem t208_394 : am_T 208 394 = some (0, .aload_n 0, 395, [], .null) := by decide +kernel
theorem t208_395 : am_T 208 395 = some (2, .getfield 298, 398, [20, 12], .null) := by decide +kernel
theorem t208_398 : am_T 208 398 = some (4, .ireturn, 399, [0], .null) := by decide +kernel
theorem t209_0 : am_T 209 0 = some (0, .iconst 1, 1, [], .int (1)) := by decide +kernel
theorem t209_1 : am_T 209 1 = some (0, .istore_n 1, 2, [], .null) := by decide +kernel
theorem t209_2 : am_T 209 2 = some (0, .iconst 0, 3, [], .int (0)) := by decide +kernel
theorem t209_3 : am_T 209 3 = some (0, .istore_n 2, 4, [], .null) := by decide +kernel
theorem t209_4 : am_T 209 4 = some (0, .iload_n 2, 5, [], .null) := by decide +kernel
theorem t209_5 : am_T 209 5 = some (0, .aload_n 0, 6, [], .null) := by decide +kernel
theorem t209_6 : am_T 209 6 = some (2, .getfield 298, 9, [20, 12], .null) := by decide +kernel
theorem t209_9 : am_T 209 9 = some (1, .if_icmp .ge 13, 12, [22], .null) := by decide +kernel
theorem t209_12 : am_T 209 12 = some (0, .iload_n 1, 13, [], .null) := by decide +kernel
theorem t209_13 : am_T 209 13 = some (0, .iconst 3, 14, [], .int (3)) := by decide +kernel
theorem t209_14 : am_T 209 14 = some (0, .imul, 15, [], .null) := by decide +kernel
theorem t209_15 : am_T 209 15 = some (0, .istore_n 1, 16, [], .null) := by decide +kernel
theorem t209_16 : am_T 209 16 = some (0, .iinc 2 1, 19, [], .int (1)) := by decide +kernel
theorem t209_19 : am_T 209 19 = some (1, .goto (-15), 22, [4], .null) := by decide +kernel
theorem t209_22 : am_T 209 22 = some (0, .iload_n 1, 23, [], .null) := by decide +kernel
theorem t209_23 : am_T 209 23 = some (4, .ireturn, 24, [0], .null) := by decide +kernel
theorem t210_0 : am_T 210 0 = some (0, .iconst 1, 1, [], .int (1)) := by decide +kernel
theorem t210_1 : am_T 210 1 = some (0, .istore_n 2, 2, [], .null) := by decide +kernel
theorem t210_2 : am_T 210 2 = some (0, .aload_n 0, 3, [], .null) := by decide +kernel
theorem t210_3 : am_T 210 3 = some (2, .getfield 298, 6, [20, 12], .null) := by decide +kernel
theorem t210_6 : am_T 210 6 = some (0, .iconst 1, 7, [], .int (1)) := by decide +kernel
theorem t210_7 : am_T 210 7 = some (0, .isub, 8, [], .null) := by decide +kernel
theorem t210_8 : am_T 210 8 = some (0, .istore_n 3, 9, [], .null) := by decide +kernel
theorem t210_9 : am_T 210 9 = some (0, .iload_n 3, 10, [], .null) := by decide +kernel
theorem t210_10 : am_T 210 10 = some (0, .iload_n 1, 11, [], .null) := by decide +kernel
theorem t210_11 : am_T 210 11 = some (1, .if_icmp .le 13, 14, [24], .null) := by decide +kernel
theorem t210_14 : am_T 210 14 = some (0, .iload_n 2, 15, [], .null) := by decide +kernel
theorem t210_15 : am_T 210 15 = some (0, .iconst 3, 16, [], .int (3)) := by decide +kernel
theorem t210_16 : am_T 210 16 = some (0, .imul, 17, [], .null) := by decide +kernel
theorem t210_17 : am_T 210 17 = some (0, .istore_n 2, 18, [], .null) := by decide +kernel
theorem t210_18 : am_T 210 18 = some (0, .iinc 3 (-1), 21, [], .int (-1)) := by decide +kernel
theorem t210_21 : am_T 210 21 = some (1, .goto (-12), 24, [9], .null) := by decide +kernel
theorem t210_24 : am_T 210 24 = some (0, .iload_n 2, 25, [], .null) := by decide +kernel
theorem t210_25 : am_T 210 25 = some (4, .ireturn, 26, [0], .null) := by decide +kernel
theorem t211_0 : am_T 211 0 = some (0, .iload_n 1, 1, [], .null) := by decide +kernel
theorem t211_1 : am_T 211 1 = some (0, .aload_n 0, 2, [], .null) := by decide +kernel
theorem t211_2 : am_T 211 2 = some (0, .iload_n 2, 3, [], .null) := by decide +kernel
theorem t211_3 : am_T 211 3 = some (3, .invokevirtual 325, 6, [2, 12, 210], .null) := by decide +kernel
theorem t211_6 : am_T 211 6 = some (0, .idiv, 7, [], .null) := by decide +kernel
theorem t211_7 : am_T 211 7 = some (0, .iconst 3, 8, [], .int (3)) := by decide +kernel
theorem t211_8 : am_T 211 8 = some (0, .irem, 9, [], .null) := by decide +kernel
theorem t211_9 : am_T 211 9 = some (4, .ireturn, 10, [0], .null) := by decide +kernel
theorem t212_0 : am_T 212 0 = some (0, .iload_n 1, 1, [], .null) := by decide +kernel
theorem t212_1 : am_T 212 1 = some (0, .iload_n 3, 2, [], .null) := by decide +kernel
theorem t212_2 : am_T 212 2 = some (0, .aload_n 0, 3, [], .null) := by decide +kernel
theorem t212_3 : am_T 212 3 = some (0, .iload_n 1, 4, [], .null) := by decide +kernel
theorem t212_4 : am_T 212 4 = some (0, .iload_n 2, 5, [], .null) := by decide +kernel
theorem t212_5 : am_T 212 5 = some (3, .invokevirtual 328, 8, [3, 12, 211], .null) := by decide +kernel
theorem t212_8 : am_T 212 8 = some (0, .isub, 9, [], .null) := by decide +kernel
theorem t212_9 : am_T 212 9 = some (0, .aload_n 0, 10, [], .null) := by decide +kernel
theorem t212_10 : am_T 212 10 = some (0, .iload_n 2, 11, [], .null) := by decide +kernel
theorem t212_11 : am_T 212 11 = some (3, .invokevirtual 325, 14, [2, 12, 210], .null) := by decide +kernel
theorem t212_14 : am_T 212 14 = some (0, .imul, 15, [], .null) := by decide +kernel
theorem t212_15 : am_T 212 15 = some (0, .iadd, 16, [], .null) := by decide +kernel
theorem t212_16 : am_T 212 16 = some (4, .ireturn, 17, [0], .null) := by decide +kernel
theorem t213_0 : am_T 213 0 = some (0, .iconst 0, 1, [], .int (0)) := by decide +kernel
theorem t213_1 : am_T 213 1 = some (0, .istore_n 3, 2, [], .null) := by decide +kernel
theorem t213_2 : am_T 213 2 = some (0, .iconst 0, 3, [], .int (0)) := by decide +kernel
theorem t213_3 : am_T 213 3 = some (0, .istore 4, 5, [], .null) := by decide +kernel
theorem t213_5 : am_T 213 5 = some (0, .iload 4, 7, [], .null) := by decide +kernel
theorem t213_7 : am_T 213 7 = some (0, .aload_n 0, 8, [], .null) := by decide +kernel
theorem t213_8 : am_T 213 8 = some (2, .getfield 298, 11, [20, 12], .null) := by decide +kernel
theorem t213_11 : am_T 213 11 = some (1, .if_icmp .ge 28, 14, [39], .null) := by decide +kernel
theorem t213_14 : am_T 213 14 = some (0, .iload_n 3, 15, [], .null) := by decide +kernel
theorem t213_15 : am_T 213 15 = some (0, .aload_n 0, 16, [], .null) := by decide +kernel
theorem t213_16 : am_T 213 16 = some (0, .iload_n 1, 17, [], .null) := by decide +kernel
theorem t213_17 : am_T 213 17 = some (0, .iload 4, 19, [], .null) := by decide +kernel
theorem t213_19 : am_T 213 19 = some (3, .invokevirtual 328, 22, [3, 12, 211], .null) := by decide +kernel
theorem t213_22 : am_T 213 22 = some (0, .iload_n 2, 23, [], .null) := by decide +kernel
theorem t213_23 : am_T 213 23 = some (1, .if_icmp .ne 7, 26, [30], .null) := by decide +kernel
theorem t213_26 : am_T 213 26 = some (0, .iconst 1, 27, [], .int (1)) := by decide +kernel
theorem t213_27 : am_T 213 27 = some (1, .goto 4, 30, [31], .null) := by decide +kernel
theorem t213_30 : am_T 213 30 = some (0, .iconst 0, 31, [], .int (0)) := by decide +kernel
theorem t213_31 : am_T 213 31 = some (0, .iadd, 32, [], .null) := by decide +kernel
theorem t213_32 : am_T 213 32 = some (0, .istore_n 3, 33, [], .null) := by decide +kernel
theorem t213_33 : am_T 213 33 = some (0, .iinc 4 1, 36, [], .int (1)) := by decide +kernel
theorem t213_36 : am_T 213 36 = some (1, .goto (-31), 39, [5], .null) := by decide +kernel
theorem t213_39 : am_T 213 39 = some (0, .iload_n 3, 40, [], .null) := by decide +kernel
theorem t213_40 : am_T 213 40 = some (4, .ireturn, 41, [0], .null) := by decide +kernel
theorem t214_0 : am_T 214 0 = some (0, .aload_n 0, 1, [], .null) := by decide +kernel
theorem t214_1 : am_T 214 1 = some (0, .iload_n 1, 2, [], .null) := by decide +kernel
theorem t214_2 : am_T 214 2 = some (0, .iconst 1, 3, [], .int (1)) := by decide +kernel
theorem t214_3 : am_T 214 3 = some (3, .invokevirtual 331, 6, [3, 12, 213], .null) := by decide +kernel
theorem t214_6 : am_T 214 6 = some (0, .aload_n 0, 7, [], .null) := by decide +kernel
theorem t214_7 : am_T 214 7 = some (2, .getfield 37, 10, [18, 12], .null) := by decide +kernel
theorem t214_10 : am_T 214 10 = some (0, .iconst 1, 11, [], .int (1)) := by decide +kernel
theorem t214_11 : am_T 214 11 = some (2, .iaload, 12, [], .null) := by decide +kernel
theorem t214_12 : am_T 214 12 = some (1, .if_icmp .gt 22, 15, [34], .null) := by decide +kernel
theorem t214_15 : am_T 214 15 = some (0, .aload_n 0, 16, [], .null) := by decide +kernel
theorem t214_16 : am_T 214 16 = some (0, .iload_n 1, 17, [], .null) := by decide +kernel
theorem t214_17 : am_T 214 17 = some (0, .iconst 2, 18, [], .int (2)) := by decide +kernel
theorem t214_18 : am_T 214 18 = some (3, .invokevirtual 331, 21, [3, 12, 213], .null) := by decide +kernel
theorem t214_21 : am_T 214 21 = some (0, .aload_n 0, 22, [], .null) := by decide +kernel
theorem t214_22 : am_T 214 22 = some (2, .getfield 37, 25, [18, 12], .null) := by decide +kernel
theorem t214_25 : am_T 214 25 = some (0, .iconst 2, 26, [], .int (2)) := by decide +kernel
theorem t214_26 : am_T 214 26 = some (2, .iaload, 27, [], .null) := by decide +kernel
theorem t214_27 : am_T 214 27 = some (1, .if_icmp .gt 7, 30, [34], .null) := by decide +kernel
theorem t214_30 : am_T 214 30 = some (0, .iconst 1, 31, [], .int (1)) := by decide +kernel
theorem t214_31 : am_T 214 31 = some (1, .goto 4, 34, [35], .null) := by decide +kernel
theorem t214_34 : am_T 214 34 = some (0, .iconst 0, 35, [], .int (0)) := by decide +kernel
theorem t214_35 : am_T 214 35 = some (4, .ireturn, 36, [1], .null) := by decide +kernel
theorem t215_0 : am_T 215 0 = some (0, .iconst 0, 1, [], .int (0)) := by decide +kernel
theorem t215_1 : am_T 215 1 = some (0, .istore_n 2, 2, [], .null) := by decide +kernel
theorem t215_2 : am_T 215 2 = some (0, .iconst 0, 3, [], .int (0)) := by decide +kernel
theorem t215_3 : am_T 215 3 = some (0, .istore_n 3, 4, [], .null) := by decide +kernel
theorem t215_4 : am_T 215 4 = some (0, .iload_n 3, 5, [], .null) := by decide +kernel
theorem t215_5 : am_T 215 5 = some (0, .aload_n 0, 6, [], .null) := by decide +kernel
theorem t215_6 : am_T 215 6 = some (2, .getfield 298, 9, [20, 12], .null) := by decide +kernel
theorem t215_9 : am_T 215 9 = some (1, .if_icmp .ge 21, 12, [30], .null) := by decide +kernel
theorem t215_12 : am_T 215 12 = some (0, .bipush 10, 14, [], .int (10)) := by decide +kernel
theorem t215_14 : am_T 215 14 = some (0, .iload_n 2, 15, [], .null) := by decide +kernel
theorem t215_15 : am_T 215 15 = some (0, .imul, 16, [], .null) := by decide +kernel
theorem t215_16 : am_T 215 16 = some (0, .aload_n 0, 17, [], .null) := by decide +kernel
theorem t215_17 : am_T 215 17 = some (0, .iload_n 1, 18, [], .null) := by decide +kernel
theorem t215_18 : am_T 215 18 = some (0, .iload_n 3, 19, [], .null) := by decide +kernel
theorem t215_19 : am_T 215 19 = some (3, .invokevirtual 328, 22, [3, 12, 211], .null) := by decide +kernel
theorem t215_22 : am_T 215 22 = some (0, .iadd, 23, [], .null) := by decide +kernel
theorem t215_23 : am_T 215 23 = some (0, .istore_n 2, 24, [], .null) := by decide +kernel
theorem t215_24 : am_T 215 24 = some (0, .iinc 3 1, 27, [], .int (1)) := by decide +kernel
theorem t215_27 : am_T 215 27 = some (1, .goto (-23), 30, [4], .null) := by decide +kernel
theorem t215_30 : am_T 215 30 = some (0, .iload_n 2, 31, [], .null) := by decide +kernel
theorem t215_31 : am_T 215 31 = some (4, .ireturn, 32, [0], .null) := by decide +kernel
theorem t216_0 : am_T 216 0 = some (0, .iload_n 1, 1, [], .null) := by decide +kernel
theorem t216_1 : am_T 216 1 = some (0, .istore_n 2, 2, [], .null) := by decide +kernel
theorem t216_2 : am_T 216 2 = some (0, .iconst 0, 3, [], .int (0)) := by decide +kernel
theorem t216_3 : am_T 216 3 = some (0, .istore_n 3, 4, [], .null) := by decide +kernel
theorem t216_4 : am_T 216 4 = some (0, .aload_n 0, 5, [], .null) := by decide +kernel
theorem t216_5 : am_T 216 5 = some (2, .getfield 298, 8, [20, 12], .null) := by decide +kernel
theorem t216_8 : am_T 216 8 = some (1, .ifCond .eq 7, 11, [15], .null) := by decide +kernel
theorem t216_11 : am_T 216 11 = some (0, .iload_n 1, 12, [], .null) := by decide +kernel
theorem t216_12 : am_T 216 12 = some (1, .ifCond .ge 5, 15, [17], .null) := by decide +kernel
theorem t216_15 : am_T 216 15 = some (0, .iconst (-1), 16, [], .int (-1)) := by decide +kernel
theorem t216_16 : am_T 216 16 = some (4, .ireturn, 17, [0], .null) := by decide +kernel
theorem t216_17 : am_T 216 17 = some (0, .aload_n 0, 18, [], .null) := by decide +kernel
theorem t216_18 : am_T 216 18 = some (2, .getfield 298, 21, [20, 12], .null) := by decide +kernel
theorem t216_21 : am_T 216 21 = some (0, .iconst 1, 22, [], .int (1)) := by decide +kernel
theorem t216_22 : am_T 216 22 = some (0, .isub, 23, [], .null) := by decide +kernel
theorem t216_23 : am_T 216 23 = some (0, .istore 4, 25, [], .null) := by decide +kernel
theorem t216_25 : am_T 216 25 = some (0, .iload 4, 27, [], .null) := by decide +kernel
theorem t216_27 : am_T 216 27 = some (1, .ifCond .lt 36, 30, [63], .null) := by decide +kernel
theorem t216_30 : am_T 216 30 = some (0, .iload_n 2, 31, [], .null) := by decide +kernel
theorem t216_31 : am_T 216 31 = some (0, .bipush 10, 33, [], .int (10)) := by decide +kernel
theorem t216_33 : am_T 216 33 = some (0, .irem, 34, [], .null) := by decide +kernel
theorem t216_34 : am_T 216 34 = some (0, .iconst 2, 35, [], .int (2)) := by decide +kernel
theorem t216_35 : am_T 216 35 = some (1, .if_icmp .le 5, 38, [40], .null) := by decide +kernel
theorem t216_38 : am_T 216 38 = some (0, .iconst (-1), 39, [], .int (-1)) := by decide +kernel
theorem t216_39 : am_T 216 39 = some (4, .ireturn, 40, [0], .null) := by decide +kernel
theorem t216_40 : am_T 216 40 = some (0, .aload_n 0, 41, [], .null) := by decide +kernel
theorem t216_41 : am_T 216 41 = some (0, .iload_n 3, 42, [], .null) := by decide +kernel
theorem t216_42 : am_T 216 42 = some (0, .iload 4, 44, [], .null) := by decide +kernel
theorem t216_44 : am_T 216 44 = some (0, .iload_n 2, 45, [], .null) := by decide +kernel
theorem t216_45 : am_T 216 45 = some (0, .bipush 10, 47, [], .int (10)) := by decide +kernel
theorem t216_47 : am_T 216 47 = some (0, .irem, 48, [], .null) := by decide +kernel
theorem t216_48 : am_T 216 48 = some (3, .invokevirtual 334, 51, [4, 12, 212], .null) := by decide +kernel
theorem t216_51 : am_T 216 51 = some (0, .istore_n 3, 52, [], .null) := by decide +kernel
theorem t216_52 : am_T 216 52 = some (0, .iload_n 2, 53, [], .null) := by decide +kernel
theorem t216_53 : am_T 216 53 = some (0, .bipush 10, 55, [], .int (10)) := by decide +kernel
theorem t216_55 : am_T 216 55 = some (0, .idiv, 56, [], .null) := by decide +kernel
theorem t216_56 : am_T 216 56 = some (0, .istore_n 2, 57, [], .null) := by decide +kernel
theorem t216_57 : am_T 216 57 = some (0, .iinc 4 (-1), 60, [], .int (-1)) := by decide +kernel
theorem t216_60 : am_T 216 60 = some (1, .goto (-35), 63, [25], .null) := by decide +kernel
theorem t216_63 : am_T 216 63 = some (0, .iload_n 2, 64, [], .null) := by decide +kernel
theorem t216_64 : am_T 216 64 = some (1, .ifCond .ne 7, 67, [71], .null) := by decide +kernel
theorem t216_67 : am_T 216 67 = some (0, .iload_n 3, 68, [], .null) := by decide +kernel
theorem t216_68 : am_T 216 68 = some (1, .goto 4, 71, [72], .null) := by decide +kernel
theorem t216_71 : am_T 216 71 = some (0, .iconst (-1), 72, [], .int (-1)) := by decide +kernel
theorem t216_72 : am_T 216 72 = some (4, .ireturn, 73, [0], .null) := by decide +kernel
theorem t217_0 : am_T 217 0 = some (0, .iload_n 1, 1, [], .null) := by decide +kernel
theorem t217_1 : am_T 217 1 = some (1, .ifCond .lt 15, 4, [16], .null) := by decide +kernel
theorem t217_4 : am_T 217 4 = some (0, .iload_n 1, 5, [], .null) := by decide +kernel
theorem t217_5 : am_T 217 5 = some (0, .aload_n 0, 6, [], .null) := by decide +kernel
theorem t217_6 : am_T 217 6 = some (2, .getfield 298, 9, [20, 12], .null) := by decide +kernel
theorem t217_9 : am_T 217 9 = some (1, .if_icmp .ge 7, 12, [16], .null) := by decide +kernel
theorem t217_12 : am_T 217 12 = some (0, .iconst 1, 13, [], .int (1)) := by decide +kernel
theorem t217_13 : am_T 217 13 = some (1, .goto 4, 16, [17], .null) := by decide +kernel
theorem t217_16 : am_T 217 16 = some (0, .iconst 0, 17, [], .int (0)) := by decide +kernel
theorem t217_17 : am_T 217 17 = some (4, .ireturn, 18, [1], .null) := by decide +kernel
theorem t218_0 : am_T 218 0 = some (0, .aload_n 0, 1, [], .null) := by decide +kernel
theorem t218_1 : am_T 218 1 = some (2, .getfield 298, 4, [20, 12], .null) := by decide +kernel
theorem t218_4 : am_T 218 4 = some (1, .ifCond .le 19, 7, [23], .null) := by decide +kernel
theorem t218_7 : am_T 218 7 = some (0, .iload_n 1, 8, [], .null) := by decide +kernel
theorem t218_8 : am_T 218 8 = some (1, .ifCond .lt 15, 11, [23], .null) := by decide +kernel
theorem t218_11 : am_T 218 11 = some (0, .iload_n 1, 12, [], .null) := by decide +kernel
theorem t218_12 : am_T 218 12 = some (0, .aload_n 0, 13, [], .null) := by decide +kernel
theorem t218_13 : am_T 218 13 = some (2, .getfield 284, 16, [28, 12], .null) := by decide +kernel
theorem t218_16 : am_T 218 16 = some (1, .if_icmp .ge 7, 19, [23], .null) := by decide +kernel
theorem t218_19 : am_T 218 19 = some (0, .iconst 1, 20, [], .int (1)) := by decide +kernel
theorem t218_20 : am_T 218 20 = some (1, .goto 4, 23, [24], .null) := by decide +kernel
theorem t218_23 : am_T 218 23 = some (0, .iconst 0, 24, [], .int (0)) := by decide +kernel
theorem t218_24 : am_T 218 24 = some (4, .ireturn, 25, [1], .null) := by decide +kernel
theorem t219_0 : am_T 219 0 = some (0, .aload_n 0, 1, [], .null) := by decide +kernel
theorem t219_1 : am_T 219 1 = some (0, .aload_n 0, 2, [], .null) := by decide +kernel
theorem t219_2 : am_T 219 2 = some (0, .iload_n 1, 3, [], .null) := by decide +kernel
theorem t219_3 : am_T 219 3 = some (3, .invokevirtual 338, 6, [2, 12, 217], .null) := by decide +kernel
theorem t219_6 : am_T 219 6 = some (1, .ifCond .eq 7, 9, [13], .null) := by decide +kernel
theorem t219_9 : am_T 219 9 = some (0, .iconst 0, 10, [], .int (0)) := by decide +kernel
theorem t219_10 : am_T 219 10 = some (1, .goto 4, 13, [14], .null) := by decide +kernel
theorem t219_13 : am_T 219 13 = some (0, .iconst 1, 14, [], .int (1)) := by decide +kernel
theorem t219_14 : am_T 219 14 = some (2, .putfield 128, 17, [0, 0, 12], .null) := by decide +kernel
theorem t219_17 : am_T 219 17 = some (0, .aload_n 0, 18, [], .null) := by decide +kernel
theorem t219_18 : am_T 219 18 = some (2, .getfield 128, 21, [0, 12], .null) := by decide +kernel
theorem t219_21 : am_T 219 21 = some (1, .ifCond .le 7, 24, [28], .null) := by decide +kernel
theorem t219_24 : am_T 219 24 = some (0, .iconst 0, 25, [], .int (0)) := by decide +kernel
theorem t219_25 : am_T 219 25 = some (1, .goto 12, 28, [37], .null) := by decide +kernel
theorem t219_28 : am_T 219 28 = some (0, .aload_n 0, 29, [], .null) := by decide +kernel
theorem t219_29 : am_T 219 29 = some (0, .aload_n 0, 30, [], .null) := by decide +kernel
theorem t219_30 : am_T 219 30 = some (2, .getfield 304, 33, [33, 12], .null) := by decide +kernel
theorem t219_33 : am_T 219 33 = some (0, .iload_n 1, 34, [], .null) := by decide +kernel
theorem t219_34 : am_T 219 34 = some (3, .invokevirtual 328, 37, [3, 12, 211], .null) := by decide +kernel
theorem t219_37 : am_T 219 37 = some (4, .ireturn, 38, [0], .null) := by decide +kernel
theorem t220_0 : am_T 220 0 = some (0, .aload_n 0, 1, [], .null) := by decide +kernel
theorem t220_1 : am_T 220 1 = some (2, .getfield 61, 4, [32, 12], .null) := by decide +kernel
theorem t220_4 : am_T 220 4 = some (0, .iconst (-1), 5, [], .int (-1)) := by decide +kernel
theorem t220_5 : am_T 220 5 = some (1, .if_icmp .ne 5, 8, [10], .null) := by decide +kernel
theorem t220_8 : am_T 220 8 = some (0, .iconst 0, 9, [], .int (0)) := by decide +kernel
theorem t220_9 : am_T 220 9 = some (4, .ireturn, 10, [0], .null) := by decide +kernel
theorem t220_10 : am_T 220 10 = some (0, .aload_n 0, 11, [], .null) := by decide +kernel
theorem t220_11 : am_T 220 11 = some (2, .getfield 20, 14, [4, 12], .null) := by decide +kernel
theorem t220_14 : am_T 220 14 = some (0, .bipush 112, 16, [], .int (112)) := by decide +kernel
theorem t220_16 : am_T 220 16 = some (0, .iload_n 1, 17, [], .null) := by decide +kernel
theorem t220_17 : am_T 220 17 = some (2, .iastore, 18, [], .null) := by decide +kernel
theorem t220_18 : am_T 220 18 = some (0, .aload_n 0, 19, [], .null) := by decide +kernel
theorem t220_19 : am_T 220 19 = some (2, .getfield 20, 22, [4, 12], .null) := by decide +kernel
theorem t220_22 : am_T 220 22 = some (0, .bipush 100, 24, [], .int (100)) := by decide +kernel
theorem t220_24 : am_T 220 24 = some (0, .aload_n 0, 25, [], .null) := by decide +kernel
theorem t220_25 : am_T 220 25 = some (2, .getfield 307, 28, [34, 12], .null) := by decide +kernel
theorem t220_28 : am_T 220 28 = some (2, .iastore, 29, [], .null) := by decide +kernel
theorem t220_29 : am_T 220 29 = some (0, .aload_n 0, 30, [], .null) := by decide +kernel
theorem t220_30 : am_T 220 30 = some (2, .getfield 20, 33, [4, 12], .null) := by decide +kernel
theorem t220_33 : am_T 220 33 = some (0, .bipush 115, 35, [], .int (115)) := by decide +kernel
theorem t220_35 : am_T 220 35 = some (0, .iload_n 2, 36, [], .null) := by decide +kernel
theorem t220_36 : am_T 220 36 = some (2, .iastore, 37, [], .null) := by decide +kernel
theorem t220_37 : am_T 220 37 = some (0, .aload_n 0, 38, [], .null) := by decide +kernel
theorem t220_38 : am_T 220 38 = some (2, .getfield 20, 41, [4, 12], .null) := by decide +kernel
theorem t220_41 : am_T 220 41 = some (0, .bipush 110, 43, [], .int (110)) := by decide +kernel
theorem t220_43 : am_T 220 43 = some (0, .aload_n 0, 44, [], .null) := by decide +kernel
theorem t220_44 : am_T 220 44 = some (2, .getfield 298, 47, [20, 12], .null) := by decide +kernel
theorem t220_47 : am_T 220 47 = some (2, .iastore, 48, [], .null) := by decide +kernel
theorem t220_48 : am_T 220 48 = some (0, .aload_n 0, 49, [], .null) := by decide +kernel
theorem t220_49 : am_T 220 49 = some (0, .aload_n 0, 50, [], .null) := by decide +kernel
theorem t220_50 : am_T 220 50 = some (2, .getfield 13, 53, [2, 12], .null) := by decide +kernel
theorem t220_53 : am_T 220 53 = some (0, .bipush 120, 55, [], .int (120)) := by decide +kernel
theorem t220_55 : am_T 220 55 = some (0, .aload_n 0, 56, [], .null) := by decide +kernel
theorem t220_56 : am_T 220 56 = some (2, .getfield 61, 59, [32, 12], .null) := by decide +kernel
theorem t220_59 : am_T 220 59 = some (0, .imul, 60, [], .null) := by decide +kernel
theorem t220_60 : am_T 220 60 = some (0, .aload_n 0, 61, [], .null) := by decide +kernel
theorem t220_61 : am_T 220 61 = some (2, .getfield 16, 64, [3, 12], .null) := by decide +kernel
theorem t220_64 : am_T 220 64 = some (0, .aload_n 0, 65, [], .null) := by decide +kernel
theorem t220_65 : am_T 220 65 = some (2, .getfield 61, 68, [32, 12], .null) := by decide +kernel
theorem t220_68 : am_T 220 68 = some (2, .iaload, 69, [], .null) := by decide +kernel
theorem t220_69 : am_T 220 69 = some (3, .invokevirtual 281, 72, [4, 12, 199], .null) := by decide +kernel
theorem t220_72 : am_T 220 72 = some (0, .aload_n 0, 73, [], .null) := by decide +kernel
theorem t220_73 : am_T 220 73 = some (2, .getfield 236, 76, [14, 12], .null) := by decide +kernel
theorem t220_76 : am_T 220 76 = some (4, .ireturn, 77, [0], .null) := by decide +kernel
theorem t221_0 : am_T 221 0 = some (0, .aload_n 0, 1, [], .null) := by decide +kernel
theorem t221_1 : am_T 221 1 = some (0, .iconst 0, 2, [], .int (0)) := by decide +kernel
theorem t221_2 : am_T 221 2 = some (2, .putfield 128, 5, [0, 0, 12], .null) := by decide +kernel
theorem t221_5 : am_T 221 5 = some (0, .aload_n 0, 6, [], .null) := by decide +kernel
theorem t221_6 : am_T 221 6 = some (0, .iload_n 1, 7, [], .null) := by decide +kernel
theorem t221_7 : am_T 221 7 = some (3, .invokevirtual 338, 10, [2, 12, 217], .null) := by decide +kernel
theorem t221_10 : am_T 221 10 = some (1, .ifCond .eq 24, 13, [34], .null) := by decide +kernel
theorem t221_13 : am_T 221 13 = some (0, .iload_n 2, 14, [], .null) := by decide +kernel
theorem t221_14 : am_T 221 14 = some (0, .i2l, 15, [], .null) := by decide +kernel
theorem t221_15 : am_T 221 15 = some (0, .lconst 1, 16, [], .long 1) := by decide +kernel
theorem t221_16 : am_T 221 16 = some (0, .ldc2_w 341, 19, [], .long (2)) := by decide +kernel
theorem t221_19 : am_T 221 19 = some (3, .invokestatic 246, 22, [3, 176], .null) := by decide +kernel
theorem t221_22 : am_T 221 22 = some (1, .ifCond .eq 12, 25, [34], .null) := by decide +kernel
theorem t221_25 : am_T 221 25 = some (0, .aload_n 0, 26, [], .null) := by decide +kernel
theorem t221_26 : am_T 221 26 = some (0, .iload_n 1, 27, [], .null) := by decide +kernel
theorem t221_27 : am_T 221 27 = some (0, .iload_n 2, 28, [], .null) := by decide +kernel
theorem t221_28 : am_T 221 28 = some (3, .invokevirtual 343, 31, [3, 12, 220], .null) := by decide +kernel
theorem t221_31 : am_T 221 31 = some (1, .goto 6, 34, [37], .null) := by decide +kernel
theorem t221_34 : am_T 221 34 = some (0, .ldc_w 346, 37, [], .int (-1000000)) := by decide +kernel
theorem t221_37 : am_T 221 37 = some (4, .ireturn, 38, [0], .null) := by decide +kernel
theorem t222_0 : am_T 222 0 = some (0, .aload_n 0, 1, [], .null) := by decide +kernel
theorem t222_1 : am_T 222 1 = some (0, .iconst 0, 2, [], .int (0)) := by decide +kernel
theorem t222_2 : am_T 222 2 = some (2, .putfield 128, 5, [0, 0, 12], .null) := by decide +kernel
theorem t222_5 : am_T 222 5 = some (0, .aload_n 0, 6, [], .null) := by decide +kernel
theorem t222_6 : am_T 222 6 = some (2, .getfield 298, 9, [20, 12], .null) := by decide +kernel
theorem t222_9 : am_T 222 9 = some (1, .ifCond .eq 24, 12, [33], .null) := by decide +kernel
theorem t222_12 : am_T 222 12 = some (0, .iload_n 1, 13, [], .null) := by decide +kernel
theorem t222_13 : am_T 222 13 = some (0, .iconst (-1), 14, [], .int (-1)) := by decide +kernel
theorem t222_14 : am_T 222 14 = some (1, .if_icmp .eq 21, 17, [35], .null) := by decide +kernel
theorem t222_17 : am_T 222 17 = some (0, .iload_n 1, 18, [], .null) := by decide +kernel
theorem t222_18 : am_T 222 18 = some (0, .i2l, 19, [], .null) := by decide +kernel
theorem t222_19 : am_T 222 19 = some (0, .lconst 0, 20, [], .long 0) := by decide +kernel
theorem t222_20 : am_T 222 20 = some (0, .aload_n 0, 21, [], .null) := by decide +kernel
theorem t222_21 : am_T 222 21 = some (2, .getfield 290, 24, [7, 12], .null) := by decide +kernel
theorem t222_24 : am_T 222 24 = some (0, .iconst 1, 25, [], .int (1)) := by decide +kernel
theorem t222_25 : am_T 222 25 = some (0, .isub, 26, [], .null) := by decide +kernel
theorem t222_26 : am_T 222 26 = some (0, .i2l, 27, [], .null) := by decide +kernel
theorem t222_27 : am_T 222 27 = some (3, .invokestatic 246, 30, [3, 176], .null) := by decide +kernel
theorem t222_30 : am_T 222 30 = some (1, .ifCond .ne 5, 33, [35], .null) := by decide +kernel
theorem t222_33 : am_T 222 33 = some (0, .iconst 0, 34, [], .int (0)) := by decide +kernel
theorem t222_34 : am_T 222 34 = some (4, .ireturn, 35, [1], .null) := by decide +kernel
theorem t222_35 : am_T 222 35 = some (0, .aload_n 0, 36, [], .null) := by decide +kernel
theorem t222_36 : am_T 222 36 = some (0, .iload_n 1, 37, [], .null) := by decide +kernel
theorem t222_37 : am_T 222 37 = some (2, .putfield 61, 40, [32, 0, 12], .null) := by decide +kernel
theorem t222_40 : am_T 222 40 = some (0, .iconst 1, 41, [], .int (1)) := by decide +kernel
theorem t222_41 : am_T 222 41 = some (4, .ireturn, 42, [1], .null) := by decide +kernel
theorem t223_0 : am_T 223 0 = some (0, .aload_n 0, 1, [], .null) := by decide +kernel
theorem t223_1 : am_T 223 1 = some (2, .getfield 313, 4, [40, 12], .null) := by decide +kernel
theorem t223_4 : am_T 223 4 = some (0, .bipush 60, 6, [], .int (60)) := by decide +kernel
theorem t223_6 : am_T 223 6 = some (1, .if_icmp .ne 69, 9, [75], .null) := by decide +kernel
theorem t223_9 : am_T 223 9 = some (0, .iconst 1, 10, [], .int (1)) := by decide +kernel
theorem t223_10 : am_T 223 10 = some (0, .istore_n 1, 11, [], .null) := by decide +kernel
theorem t223_11 : am_T 223 11 = some (0, .iload_n 1, 12, [], .null) := by decide +kernel
theorem t223_12 : am_T 223 12 = some (0, .bipush 60, 14, [], .int (60)) := by decide +kernel
theorem t223_14 : am_T 223 14 = some (1, .if_icmp .ge 51, 17, [65], .null) := by decide +kernel
theorem t223_17 : am_T 223 17 = some (0, .aload_n 0, 18, [], .null) := by decide +kernel
theorem t223_18 : am_T 223 18 = some (2, .getfield 68, 21, [37, 12], .null) := by decide +kernel
theorem t223_21 : am_T 223 21 = some (0, .iload_n 1, 22, [], .null) := by decide +kernel
theorem t223_22 : am_T 223 22 = some (0, .iconst 1, 23, [], .int (1)) := by decide +kernel
theorem t223_23 : am_T 223 23 = some (0, .isub, 24, [], .null) := by decide +kernel
theorem t223_24 : am_T 223 24 = some (0, .aload_n 0, 25, [], .null) := by decide +kernel
theorem t223_25 : am_T 223 25 = some (2, .getfield 68, 28, [37, 12], .null) := by decide +kernel
theorem t223_28 : am_T 223 28 = some (0, .iload_n 1, 29, [], .null) := by decide +kernel
theorem t223_29 : am_T 223 29 = some (2, .iaload, 30, [], .null) := by decide +kernel
theorem t223_30 : am_T 223 30 = some (2, .iastore, 31, [], .null) := by decide +kernel
theorem t223_31 : am_T 223 31 = some (0, .aload_n 0, 32, [], .null) := by decide +kernel
theorem t223_32 : am_T 223 32 = some (2, .getfield 71, 35, [38, 12], .null) := by decide +kernel
theorem t223_35 : am_T 223 35 = some (0, .iload_n 1, 36, [], .null) := by decide +kernel
theorem t223_36 : am_T 223 36 = some (0, .iconst 1, 37, [], .int (1)) := by decide +kernel
theorem t223_37 : am_T 223 37 = some (0, .isub, 38, [], .null) := by decide +kernel
theorem t223_38 : am_T 223 38 = some (0, .aload_n 0, 39, [], .null) := by decide +kernel
theorem t223_39 : am_T 223 39 = some (2, .getfield 71, 42, [38, 12], .null) := by decide +kernel
theorem t223_42 : am_T 223 42 = some (0, .iload_n 1, 43, [], .null) := by decide +kernel
theorem t223_43 : am_T 223 43 = some (2, .iaload, 44, [], .null) := by decide +kernel
theorem t223_44 : am_T 223 44 = some (2, .iastore, 45, [], .null) := by decide +kernel
theorem t223_45 : am_T 223 45 = some (0, .aload_n 0, 46, [], .null) := by decide +kernel
theorem t223_46 : am_T 223 46 = some (2, .getfield 74, 49, [39, 12], .null) := by decide +kernel
theorem t223_49 : am_T 223 49 = some (0, .iload_n 1, 50, [], .null) := by decide +kernel
theorem t223_50 : am_T 223 50 = some (0, .iconst 1, 51, [], .int (1)) := by decide +kernel
theorem t223_51 : am_T 223 51 = some (0, .isub, 52, [], .null) := by decide +kernel
theorem t223_52 : am_T 223 52 = some (0, .aload_n 0, 53, [], .null) := by decide +kernel
theorem t223_53 : am_T 223 53 = some (2, .getfield 74, 56, [39, 12], .null) := by decide +kernel
theorem t223_56 : am_T 223 56 = some (0, .iload_n 1, 57, [], .null) := by decide +kernel
theorem t223_57 : am_T 223 57 = some (2, .iaload, 58, [], .null) := by decide +kernel
theorem t223_58 : am_T 223 58 = some (2, .iastore, 59, [], .null) := by decide +kernel
theorem t223_59 : am_T 223 59 = some (0, .iinc 1 1, 62, [], .int (1)) := by decide +kernel
theorem t223_62 : am_T 223 62 = some (1, .goto (-51), 65, [11], .null) := by decide +kernel
theorem t223_65 : am_T 223 65 = some (0, .aload_n 0, 66, [], .null) := by decide +kernel
theorem t223_66 : am_T 223 66 = some (0, .dup, 67, [], .null) := by decide +kernel
theorem t223_67 : am_T 223 67 = some (2, .getfield 313, 70, [40, 12], .null) := by decide +kernel
theorem t223_70 : am_T 223 70 = some (0, .iconst 1, 71, [], .int (1)) := by decide +kernel
theorem t223_71 : am_T 223 71 = some (0, .isub, 72, [], .null) := by decide +kernel
theorem t223_72 : am_T 223 72 = some (2, .putfield 313, 75, [40, 0, 12], .null) := by decide +kernel
theorem t223_75 : am_T 223 75 = some (0, .aload_n 0, 76, [], .null) := by decide +kernel
theorem t223_76 : am_T 223 76 = some (2, .getfield 68, 79, [37, 12], .null) := by decide +kernel
theorem t223_79 : am_T 223 79 = some (0, .aload_n 0, 80, [], .null) := by decide +kernel
theorem t223_80 : am_T 223 80 = some (2, .getfield 313, 83, [40, 12], .null) := by decide +kernel
theorem t223_83 : am_T 223 83 = some (0, .aload_n 0, 84, [], .null) := by decide +kernel
theorem t223_84 : am_T 223 84 = some (2, .getfield 304, 87, [33, 12], .null) := by decide +kernel
theorem t223_87 : am_T 223 87 = some (2, .iastore, 88, [], .null) := by decide +kernel
theorem t223_88 : am_T 223 88 = some (0, .aload_n 0, 89, [], .null) := by decide +kernel
theorem t223_89 : am_T 223 89 = some (2, .getfield 71, 92, [38, 12], .null) := by decide +kernel
theorem t223_92 : am_T 223 92 = some (0, .aload_n 0, 93, [], .null) := by decide +kernel
theorem t223_93 : am_T 223 93 = some (2, .getfield 313, 96, [40, 12], .null) := by decide +kernel
theorem t223_96 : am_T 223 96 = some (0, .aload_n 0, 97, [], .null) := by decide +kernel
theorem t223_97 : am_T 223 97 = some (2, .getfield 310, 100, [35, 12], .null) := by decide +kernel
theorem t223_100 : am_T 223 100 = some (2, .iastore, 101, [], .null) := by decide +kernel
theorem t223_101 : am_T 223 101 = some (0, .aload_n 0, 102, [], .null) := by decide +kernel
theorem t223_102 : am_T 223 102 = some (2, .getfield 74, 105, [39, 12], .null) := by decide +kernel
theorem t223_105 : am_T 223 105 = some (0, .aload_n 0, 106, [], .null) := by decide +kernel
theorem t223_106 : am_T 223 106 = some (2, .getfield 313, 109, [40, 12], .null) := by decide +kernel
theorem t223_109 : am_T 223 109 = some (0, .aload_n 0, 110, [], .null) := by decide +kernel
theorem t223_110 : am_T 223 110 = some (2, .getfield 307, 113, [34, 12], .null) := by decide +kernel
theorem t223_113 : am_T 223 113 = some (2, .iastore, 114, [], .null) := by decide +kernel
theorem t223_114 : am_T 223 114 = some (0, .aload_n 0, 115, [], .null) := by decide +kernel
theorem t223_115 : am_T 223 115 = some (0, .dup, 116, [], .null) := by decide +kernel
theorem t223_116 : am_T 223 116 = some (2, .getfield 313, 119, [40, 12], .null) := by decide +kernel
theorem t223_119 : am_T 223 119 = some (0, .iconst 1, 120, [], .int (1)) := by decide +kernel
theorem t223_120 : am_T 223 120 = some (0, .iadd, 121, [], .null) := by decide +kernel
theorem t223_121 : am_T 223 121 = some (2, .putfield 313, 124, [40, 0, 12], .null) := by decide +kernel
theorem t223_124 : am_T 223 124 = some (4, .return_, 125, [], .null) := by decide +kernel
theorem t224_0 : am_T 224 0 = some (0, .aload_n 0, 1, [], .null) := by decide +kernel
theorem t224_1 : am_T 224 1 = some (3, .invokevirtual 347, 4, [1, 12, 223], .null) := by decide +kernel
theorem t224_4 : am_T 224 4 = some (0, .aload_n 0, 5, [], .null) := by decide +kernel
theorem t224_5 : am_T 224 5 = some (0, .iload_n 1, 6, [], .null) := by decide +kernel
theorem t224_6 : am_T 224 6 = some (2, .putfield 304, 9, [33, 0, 12], .null) := by decide +kernel
theorem t224_9 : am_T 224 9 = some (0, .aload_n 0, 10, [], .null) := by decide +kernel
theorem t224_10 : am_T 224 10 = some (0, .dup, 11, [], .null) := by decide +kernel
theorem t224_11 : am_T 224 11 = some (2, .getfield 310, 14, [35, 12], .null) := by decide +kernel
theorem t224_14 : am_T 224 14 = some (0, .iconst 1, 15, [], .int (1)) := by decide +kernel
theorem t224_15 : am_T 224 15 = some (0, .isub, 16, [], .null) := by decide +kernel
theorem t224_16 : am_T 224 16 = some (2, .putfield 310, 19, [35, 0, 12], .null) := by decide +kernel
theorem t224_19 : am_T 224 19 = some (0, .aload_n 0, 20, [], .null) := by decide +kernel
theorem t224_20 : am_T 224 20 = some (2, .getfield 310, 23, [35, 12], .null) := by decide +kernel
theorem t224_23 : am_T 224 23 = some (4, .ireturn, 24, [0], .null) := by decide +kernel
theorem t225_0 : am_T 225 0 = some (0, .aload_n 0, 1, [], .null) := by decide +kernel
theorem t225_1 : am_T 225 1 = some (0, .iconst 0, 2, [], .int (0)) := by decide +kernel
theorem t225_2 : am_T 225 2 = some (2, .putfield 128, 5, [0, 0, 12], .null) := by decide +kernel
theorem t225_5 : am_T 225 5 = some (0, .aload_n 0, 6, [], .null) := by decide +kernel
theorem t225_6 : am_T 225 6 = some (2, .getfield 310, 9, [35, 12], .null) := by decide +kernel
theorem t225_9 : am_T 225 9 = some (1, .ifCond .eq 53, 12, [62], .null) := by decide +kernel
theorem t225_12 : am_T 225 12 = some (0, .aload_n 0, 13, [], .null) := by decide +kernel
theorem t225_13 : am_T 225 13 = some (0, .iload_n 1, 14, [], .null) := by decide +kernel
theorem t225_14 : am_T 225 14 = some (3, .invokevirtual 338, 17, [2, 12, 217], .null) := by decide +kernel
theorem t225_17 : am_T 225 17 = some (1, .ifCond .eq 45, 20, [62], .null) := by decide +kernel
theorem t225_20 : am_T 225 20 = some (0, .iload_n 2, 21, [], .null) := by decide +kernel
theorem t225_21 : am_T 225 21 = some (0, .i2l, 22, [], .null) := by decide +kernel
theorem t225_22 : am_T 225 22 = some (0, .lconst 1, 23, [], .long 1) := by decide +kernel
theorem t225_23 : am_T 225 23 = some (0, .ldc2_w 341, 26, [], .long (2)) := by decide +kernel
theorem t225_26 : am_T 225 26 = some (3, .invokestatic 246, 29, [3, 176], .null) := by decide +kernel
theorem t225_29 : am_T 225 29 = some (1, .ifCond .eq 33, 32, [62], .null) := by decide +kernel
theorem t225_32 : am_T 225 32 = some (0, .aload_n 0, 33, [], .null) := by decide +kernel
theorem t225_33 : am_T 225 33 = some (0, .aload_n 0, 34, [], .null) := by decide +kernel
theorem t225_34 : am_T 225 34 = some (2, .getfield 304, 37, [33, 12], .null) := by decide +kernel
theorem t225_37 : am_T 225 37 = some (0, .iload_n 1, 38, [], .null) := by decide +kernel
theorem t225_38 : am_T 225 38 = some (3, .invokevirtual 328, 41, [3, 12, 211], .null) := by decide +kernel
theorem t225_41 : am_T 225 41 = some (1, .ifCond .ne 21, 44, [62], .null) := by decide +kernel
theorem t225_44 : am_T 225 44 = some (0, .aload_n 0, 45, [], .null) := by decide +kernel
theorem t225_45 : am_T 225 45 = some (0, .aload_n 0, 46, [], .null) := by decide +kernel
theorem t225_46 : am_T 225 46 = some (2, .getfield 304, 49, [33, 12], .null) := by decide +kernel
theorem t225_49 : am_T 225 49 = some (0, .iload_n 2, 50, [], .null) := by decide +kernel
theorem t225_50 : am_T 225 50 = some (3, .invokevirtual 331, 53, [3, 12, 213], .null) := by decide +kernel
theorem t225_53 : am_T 225 53 = some (0, .aload_n 0, 54, [], .null) := by decide +kernel
theorem t225_54 : am_T 225 54 = some (2, .getfield 37, 57, [18, 12], .null) := by decide +kernel
theorem t225_57 : am_T 225 57 = some (0, .iload_n 2, 58, [], .null) := by decide +kernel
theorem t225_58 : am_T 225 58 = some (2, .iaload, 59, [], .null) := by decide +kernel
theorem t225_59 : am_T 225 59 = some (1, .if_icmp .ne 5, 62, [64], .null) := by decide +kernel
theorem t225_62 : am_T 225 62 = some (0, .iconst (-1), 63, [], .int (-1)) := by decide +kernel
theorem t225_63 : am_T 225 63 = some (4, .ireturn, 64, [0], .null) := by decide +kernel
theorem t225_64 : am_T 225 64 = some (0, .aload_n 0, 65, [], .null) := by decide +kernel
theorem t225_65 : am_T 225 65 = some (0, .aload_n 0, 66, [], .null) := by decide +kernel
theorem t225_66 : am_T 225 66 = some (0, .aload_n 0, 67, [], .null) := by decide +kernel
theorem t225_67 : am_T 225 67 = some (2, .getfield 304, 70, [33, 12], .null) := by decide +kernel
theorem t225_70 : am_T 225 70 = some (0, .iload_n 1, 71, [], .null) := by decide +kernel
theorem t225_71 : am_T 225 71 = some (0, .iload_n 2, 72, [], .null) := by decide +kernel
theorem t225_72 : am_T 225 72 = some (3, .invokevirtual 334, 75, [4, 12, 212], .null) := by decide +kernel
theorem t225_75 : am_T 225 75 = some (3, .invokevirtual 350, 78, [2, 12, 224], .null) := by decide +kernel
theorem t225_78 : am_T 225 78 = some (4, .ireturn, 79, [0], .null) := by decide +kernel
theorem t226_0 : am_T 226 0 = some (0, .aload_n 0, 1, [], .null) := by decide +kernel
theorem t226_1 : am_T 226 1 = some (0, .iconst 0, 2, [], .int (0)) := by decide +kernel
theorem t226_2 : am_T 226 2 = some (2, .putfield 128, 5, [0, 0, 12], .null) := by decide +kernel
theorem t226_5 : am_T 226 5 = some (0, .aload_n 0, 6, [], .null) := by decide +kernel
theorem t226_6 : am_T 226 6 = some (2, .getfield 310, 9, [35, 12], .null) := by decide +kernel
theorem t226_9 : am_T 226 9 = some (1, .ifCond .eq 23, 12, [32], .null) := by decide +kernel
theorem t226_12 : am_T 226 12 = some (0, .aload_n 0, 13, [], .null) := by decide +kernel
theorem t226_13 : am_T 226 13 = some (0, .iload_n 1, 14, [], .null) := by decide +kernel
theorem t226_14 : am_T 226 14 = some (3, .invokevirtual 338, 17, [2, 12, 217], .null) := by decide +kernel
theorem t226_17 : am_T 226 17 = some (1, .ifCond .eq 15, 20, [32], .null) := by decide +kernel
theorem t226_20 : am_T 226 20 = some (0, .aload_n 0, 21, [], .null) := by decide +kernel
theorem t226_21 : am_T 226 21 = some (0, .aload_n 0, 22, [], .null) := by decide +kernel
theorem t226_22 : am_T 226 22 = some (2, .getfield 304, 25, [33, 12], .null) := by decide +kernel
theorem t226_25 : am_T 226 25 = some (0, .iload_n 1, 26, [], .null) := by decide +kernel
theorem t226_26 : am_T 226 26 = some (3, .invokevirtual 328, 29, [3, 12, 211], .null) := by decide +kernel
theorem t226_29 : am_T 226 29 = some (1, .ifCond .ne 5, 32, [34], .null) := by decide +kernel
theorem t226_32 : am_T 226 32 = some (0, .iconst (-1), 33, [], .int (-1)) := by decide +kernel
theorem t226_33 : am_T 226 33 = some (4, .ireturn, 34, [0], .null) := by decide +kernel
theorem t226_34 : am_T 226 34 = some (0, .aload_n 0, 35, [], .null) := by decide +kernel
theorem t226_35 : am_T 226 35 = some (0, .aload_n 0, 36, [], .null) := by decide +kernel
theorem t226_36 : am_T 226 36 = some (0, .aload_n 0, 37, [], .null) := by decide +kernel
theorem t226_37 : am_T 226 37 = some (2, .getfield 304, 40, [33, 12], .null) := by decide +kernel
theorem t226_40 : am_T 226 40 = some (0, .iload_n 1, 41, [], .null) := by decide +kernel
theorem t226_41 : am_T 226 41 = some (0, .iconst 0, 42, [], .int (0)) := by decide +kernel
theorem t226_42 : am_T 226 42 = some (3, .invokevirtual 334, 45, [4, 12, 212], .null) := by decide +kernel
theorem t226_45 : am_T 226 45 = some (3, .invokevirtual 350, 48, [2, 12, 224], .null) := by decide +kernel
theorem t226_48 : am_T 226 48 = some (4, .ireturn, 49, [0], .null) := by decide +kernel
theorem t227_0 : am_T 227 0 = some (0, .aload_n 0, 1, [], .null) := by decide +kernel
theorem t227_1 : am_T 227 1 = some (0, .iconst 0, 2, [], .int (0)) := by decide +kernel
theorem t227_2 : am_T 227 2 = some (2, .putfield 128, 5, [0, 0, 12], .null) := by decide +kernel
theorem t227_5 : am_T 227 5 = some (0, .aload_n 0, 6, [], .null) := by decide +kernel
theorem t227_6 : am_T 227 6 = some (2, .getfield 310, 9, [35, 12], .null) := by decide +kernel
theorem t227_9 : am_T 227 9 = some (1, .ifCond .eq 43, 12, [52], .null) := by decide +kernel
theorem t227_12 : am_T 227 12 = some (0, .aload_n 0, 13, [], .null) := by decide +kernel
theorem t227_13 : am_T 227 13 = some (0, .iload_n 1, 14, [], .null) := by decide +kernel
theorem t227_14 : am_T 227 14 = some (3, .invokevirtual 338, 17, [2, 12, 217], .null) := by decide +kernel
theorem t227_17 : am_T 227 17 = some (1, .ifCond .eq 35, 20, [52], .null) := by decide +kernel
theorem t227_20 : am_T 227 20 = some (0, .aload_n 0, 21, [], .null) := by decide +kernel
theorem t227_21 : am_T 227 21 = some (0, .iload_n 2, 22, [], .null) := by decide +kernel
theorem t227_22 : am_T 227 22 = some (3, .invokevirtual 338, 25, [2, 12, 217], .null) := by decide +kernel
theorem t227_25 : am_T 227 25 = some (1, .ifCond .eq 27, 28, [52], .null) := by decide +kernel
theorem t227_28 : am_T 227 28 = some (0, .aload_n 0, 29, [], .null) := by decide +kernel
theorem t227_29 : am_T 227 29 = some (0, .aload_n 0, 30, [], .null) := by decide +kernel
theorem t227_30 : am_T 227 30 = some (2, .getfield 304, 33, [33, 12], .null) := by decide +kernel
theorem t227_33 : am_T 227 33 = some (0, .iload_n 1, 34, [], .null) := by decide +kernel
theorem t227_34 : am_T 227 34 = some (3, .invokevirtual 328, 37, [3, 12, 211], .null) := by decide +kernel
theorem t227_37 : am_T 227 37 = some (1, .ifCond .eq 15, 40, [52], .null) := by decide +kernel
theorem t227_40 : am_T 227 40 = some (0, .aload_n 0, 41, [], .null) := by decide +kernel
theorem t227_41 : am_T 227 41 = some (0, .aload_n 0, 42, [], .null) := by decide +kernel
theorem t227_42 : am_T 227 42 = some (2, .getfield 304, 45, [33, 12], .null) := by decide +kernel
theorem t227_45 : am_T 227 45 = some (0, .iload_n 2, 46, [], .null) := by decide +kernel
theorem t227_46 : am_T 227 46 = some (3, .invokevirtual 328, 49, [3, 12, 211], .null) := by decide +kernel
theorem t227_49 : am_T 227 49 = some (1, .ifCond .eq 5, 52, [54], .null) := by decide +kernel
theorem t227_52 : am_T 227 52 = some (0, .iconst (-1), 53, [], .int (-1)) := by decide +kernel
theorem t227_53 : am_T 227 53 = some (4, .ireturn, 54, [0], .null) := by decide +kernel
theorem t227_54 : am_T 227 54 = some (0, .aload_n 0, 55, [], .null) := by decide +kernel
theorem t227_55 : am_T 227 55 = some (0, .aload_n 0, 56, [], .null) := by decide +kernel
theorem t227_56 : am_T 227 56 = some (0, .aload_n 0, 57, [], .null) := by decide +kernel
theorem t227_57 : am_T 227 57 = some (0, .aload_n 0, 58, [], .null) := by decide +kernel
theorem t227_58 : am_T 227 58 = some (2, .getfield 304, 61, [33, 12], .null) := by decide +kernel
theorem t227_61 : am_T 227 61 = some (0, .iload_n 2, 62, [], .null) := by decide +kernel
theorem t227_62 : am_T 227 62 = some (0, .aload_n 0, 63, [], .null) := by decide +kernel
theorem t227_63 : am_T 227 63 = some (0, .aload_n 0, 64, [], .null) := by decide +kernel
theorem t227_64 : am_T 227 64 = some (2, .getfield 304, 67, [33, 12], .null) := by decide +kernel
theorem t227_67 : am_T 227 67 = some (0, .iload_n 1, 68, [], .null) := by decide +kernel
theorem t227_68 : am_T 227 68 = some (3, .invokevirtual 328, 71, [3, 12, 211], .null) := by decide +kernel
theorem t227_71 : am_T 227 71 = some (3, .invokevirtual 334, 74, [4, 12, 212], .null) := by decide +kernel
theorem t227_74 : am_T 227 74 = some (0, .iload_n 1, 75, [], .null) := by decide +kernel
theorem t227_75 : am_T 227 75 = some (0, .iconst 0, 76, [], .int (0)) := by decide +kernel
theorem t227_76 : am_T 227 76 = some (3, .invokevirtual 334, 79, [4, 12, 212], .null) := by decide +kernel
theorem t227_79 : am_T 227 79 = some (3, .invokevirtual 350, 82, [2, 12, 224], .null) := by decide +kernel
theorem t227_82 : am_T 227 82 = some (4, .ireturn, 83, [0], .null) := by decide +kernel
theorem t228_0 : am_T 228 0 = some (0, .aload_n 0, 1, [], .null) := by decide +kernel
theorem t228_1 : am_T 228 1 = some (2, .getfield 65, 4, [36, 12], .null) := by decide +kernel
theorem t228_4 : am_T 228 4 = some (0, .aload_n 0, 5, [], .null) := by decide +kernel
theorem t228_5 : am_T 228 5 = some (2, .getfield 307, 8, [34, 12], .null) := by decide +kernel
theorem t228_8 : am_T 228 8 = some (0, .aload_n 0, 9, [], .null) := by decide +kernel
theorem t228_9 : am_T 228 9 = some (2, .getfield 304, 12, [33, 12], .null) := by decide +kernel
theorem t228_12 : am_T 228 12 = some (2, .iastore, 13, [], .null) := by decide +kernel
theorem t228_13 : am_T 228 13 = some (0, .aload_n 0, 14, [], .null) := by decide +kernel
theorem t228_14 : am_T 228 14 = some (0, .dup, 15, [], .null) := by decide +kernel
theorem t228_15 : am_T 228 15 = some (2, .getfield 307, 18, [34, 12], .null) := by decide +kernel
theorem t228_18 : am_T 228 18 = some (0, .iconst 1, 19, [], .int (1)) := by decide +kernel
theorem t228_19 : am_T 228 19 = some (0, .iadd, 20, [], .null) := by decide +kernel
theorem t228_20 : am_T 228 20 = some (2, .putfield 307, 23, [34, 0, 12], .null) := by decide +kernel
theorem t228_23 : am_T 228 23 = some (0, .aload_n 0, 24, [], .null) := by decide +kernel
theorem t228_24 : am_T 228 24 = some (0, .aload_n 0, 25, [], .null) := by decide +kernel
theorem t228_25 : am_T 228 25 = some (2, .getfield 301, 28, [21, 12], .null) := by decide +kernel
theorem t228_28 : am_T 228 28 = some (2, .putfield 310, 31, [35, 0, 12], .null) := by decide +kernel
theorem t228_31 : am_T 228 31 = some (4, .return_, 32, [], .null) := by decide +kernel
theorem t229_0 : am_T 229 0 = some (0, .aload_n 0, 1, [], .null) := by decide +kernel
theorem t229_1 : am_T 229 1 = some (0, .iconst 0, 2, [], .int (0)) := by decide +kernel
theorem t229_2 : am_T 229 2 = some (2, .putfield 128, 5, [0, 0, 12], .null) := by decide +kernel
theorem t229_5 : am_T 229 5 = some (0, .aload_n 0, 6, [], .null) := by decide +kernel
theorem t229_6 : am_T 229 6 = some (0, .iload_n 1, 7, [], .null) := by decide +kernel
theorem t229_7 : am_T 229 7 = some (3, .invokevirtual 353, 10, [2, 12, 218], .null) := by decide +kernel
theorem t229_10 : am_T 229 10 = some (1, .ifCond .eq 12, 13, [22], .null) := by decide +kernel
theorem t229_13 : am_T 229 13 = some (0, .aload_n 0, 14, [], .null) := by decide +kernel
theorem t229_14 : am_T 229 14 = some (2, .getfield 307, 17, [34, 12], .null) := by decide +kernel
theorem t229_17 : am_T 229 17 = some (0, .bipush 60, 19, [], .int (60)) := by decide +kernel
theorem t229_19 : am_T 229 19 = some (1, .if_icmp .ne 7, 22, [26], .null) := by decide +kernel
theorem t229_22 : am_T 229 22 = some (0, .ldc_w 346, 25, [], .int (-1000000)) := by decide +kernel
theorem t229_25 : am_T 229 25 = some (4, .ireturn, 26, [0], .null) := by decide +kernel
theorem t229_26 : am_T 229 26 = some (0, .aload_n 0, 27, [], .null) := by decide +kernel
theorem t229_27 : am_T 229 27 = some (0, .iload_n 1, 28, [], .null) := by decide +kernel
theorem t229_28 : am_T 229 28 = some (0, .aload_n 0, 29, [], .null) := by decide +kernel
theorem t229_29 : am_T 229 29 = some (2, .getfield 304, 32, [33, 12], .null) := by decide +kernel
theorem t229_32 : am_T 229 32 = some (3, .invokevirtual 356, 35, [3, 12, 231], .null) := by decide +kernel
theorem t229_35 : am_T 229 35 = some (0, .istore_n 2, 36, [], .null) := by decide +kernel
theorem t229_36 : am_T 229 36 = some (0, .aload_n 0, 37, [], .null) := by decide +kernel
theorem t229_37 : am_T 229 37 = some (3, .invokevirtual 347, 40, [1, 12, 223], .null) := by decide +kernel
theorem t229_40 : am_T 229 40 = some (0, .aload_n 0, 41, [], .null) := by decide +kernel
theorem t229_41 : am_T 229 41 = some (3, .invokevirtual 359, 44, [1, 12, 228], .null) := by decide +kernel
theorem t229_44 : am_T 229 44 = some (0, .iload_n 2, 45, [], .null) := by decide +kernel
theorem t229_45 : am_T 229 45 = some (4, .ireturn, 46, [0], .null) := by decide +kernel
theorem t230_0 : am_T 230 0 = some (0, .aload_n 0, 1, [], .null) := by decide +kernel
theorem t230_1 : am_T 230 1 = some (0, .iconst 0, 2, [], .int (0)) := by decide +kernel
theorem t230_2 : am_T 230 2 = some (2, .putfield 128, 5, [0, 0, 12], .null) := by decide +kernel
theorem t230_5 : am_T 230 5 = some (0, .aload_n 0, 6, [], .null) := by decide +kernel
theorem t230_6 : am_T 230 6 = some (2, .getfield 313, 9, [40, 12], .null) := by decide +kernel
theorem t230_9 : am_T 230 9 = some (1, .ifCond .ne 5, 12, [14], .null) := by decide +kernel
theorem t230_12 : am_T 230 12 = some (0, .iconst (-1), 13, [], .int (-1)) := by decide +kernel
theorem t230_13 : am_T 230 13 = some (4, .ireturn, 14, [0], .null) := by decide +kernel
theorem t230_14 : am_T 230 14 = some (0, .aload_n 0, 15, [], .null) := by decide +kernel
theorem t230_15 : am_T 230 15 = some (0, .dup, 16, [], .null) := by decide +kernel
theorem t230_16 : am_T 230 16 = some (2, .getfield 313, 19, [40, 12], .null) := by decide +kernel
theorem t230_19 : am_T 230 19 = some (0, .iconst 1, 20, [], .int (1)) := by decide +kernel
theorem t230_20 : am_T 230 20 = some (0, .isub, 21, [], .null) := by decide +kernel
theorem t230_21 : am_T 230 21 = some (2, .putfield 313, 24, [40, 0, 12], .null) := by decide +kernel
theorem t230_24 : am_T 230 24 = some (0, .aload_n 0, 25, [], .null) := by decide +kernel
theorem t230_25 : am_T 230 25 = some (0, .aload_n 0, 26, [], .null) := by decide +kernel
theorem t230_26 : am_T 230 26 = some (2, .getfield 68, 29, [37, 12], .null) := by decide +kernel
theorem t230_29 : am_T 230 29 = some (0, .aload_n 0, 30, [], .null) := by decide +kernel
theorem t230_30 : am_T 230 30 = some (2, .getfield 313, 33, [40, 12], .null) := by decide +kernel
theorem t230_33 : am_T 230 33 = some (2, .iaload, 34, [], .null) := by decide +kernel
theorem t230_34 : am_T 230 34 = some (2, .putfield 304, 37, [33, 0, 12], .null) := by decide +kernel
theorem t230_37 : am_T 230 37 = some (0, .aload_n 0, 38, [], .null) := by decide +kernel
theorem t230_38 : am_T 230 38 = some (0, .aload_n 0, 39, [], .null) := by decide +kernel
theorem t230_39 : am_T 230 39 = some (2, .getfield 71, 42, [38, 12], .null) := by decide +kernel
theorem t230_42 : am_T 230 42 = some (0, .aload_n 0, 43, [], .null) := by decide +kernel
theorem t230_43 : am_T 230 43 = some (2, .getfield 313, 46, [40, 12], .null) := by decide +kernel
theorem t230_46 : am_T 230 46 = some (2, .iaload, 47, [], .null) := by decide +kernel
theorem t230_47 : am_T 230 47 = some (2, .putfield 310, 50, [35, 0, 12], .null) := by decide +kernel
theorem t230_50 : am_T 230 50 = some (0, .aload_n 0, 51, [], .null) := by decide +kernel
theorem t230_51 : am_T 230 51 = some (0, .aload_n 0, 52, [], .null) := by decide +kernel
theorem t230_52 : am_T 230 52 = some (2, .getfield 74, 55, [39, 12], .null) := by decide +kernel
theorem t230_55 : am_T 230 55 = some (0, .aload_n 0, 56, [], .null) := by decide +kernel
theorem t230_56 : am_T 230 56 = some (2, .getfield 313, 59, [40, 12], .null) := by decide +kernel
theorem t230_59 : am_T 230 59 = some (2, .iaload, 60, [], .null) := by decide +kernel
theorem t230_60 : am_T 230 60 = some (2, .putfield 307, 63, [34, 0, 12], .null) := by decide +kernel
theorem t230_63 : am_T 230 63 = some (0, .aload_n 0, 64, [], .null) := by decide +kernel
theorem t230_64 : am_T 230 64 = some (2, .getfield 313, 67, [40, 12], .null) := by decide +kernel
theorem t230_67 : am_T 230 67 = some (4, .ireturn, 68, [0], .null) := by decide +kernel
theorem t231_0 : am_T 231 0 = some (0, .iconst 0, 1, [], .int (0)) := by decide +kernel
theorem t231_1 : am_T 231 1 = some (0, .istore_n 3, 2, [], .null) := by decide +kernel
theorem t231_2 : am_T 231 2 = some (0, .iload_n 3, 3, [], .null) := by decide +kernel
theorem t231_3 : am_T 231 3 = some (0, .aload_n 0, 4, [], .null) := by decide +kernel
theorem t231_4 : am_T 231 4 = some (2, .getfield 49, 7, [26, 12], .null) := by decide +kernel
theorem t231_7 : am_T 231 7 = some (0, .iload_n 1, 8, [], .null) := by decide +kernel
theorem t231_8 : am_T 231 8 = some (2, .iaload, 9, [], .null) := by decide +kernel
theorem t231_9 : am_T 231 9 = some (1, .if_icmp .ge 110, 12, [119], .null) := by decide +kernel
theorem t231_12 : am_T 231 12 = some (0, .iconst 1, 13, [], .int (1)) := by decide +kernel
theorem t231_13 : am_T 231 13 = some (0, .istore 4, 15, [], .null) := by decide +kernel
theorem t231_15 : am_T 231 15 = some (0, .iconst 0, 16, [], .int (0)) := by decide +kernel
theorem t231_16 : am_T 231 16 = some (0, .istore 5, 18, [], .null) := by decide +kernel
theorem t231_18 : am_T 231 18 = some (0, .iload 5, 20, [], .null) := by decide +kernel
theorem t231_20 : am_T 231 20 = some (0, .aload_n 0, 21, [], .null) := by decide +kernel
theorem t231_21 : am_T 231 21 = some (2, .getfield 298, 24, [20, 12], .null) := by decide +kernel
theorem t231_24 : am_T 231 24 = some (1, .if_icmp .ge 72, 27, [96], .null) := by decide +kernel
theorem t231_27 : am_T 231 27 = some (0, .iload 5, 29, [], .null) := by decide +kernel
theorem t231_29 : am_T 231 29 = some (0, .aload_n 0, 30, [], .null) := by decide +kernel
theorem t231_30 : am_T 231 30 = some (2, .getfield 52, 33, [27, 12], .null) := by decide +kernel
theorem t231_33 : am_T 231 33 = some (0, .iload_n 1, 34, [], .null) := by decide +kernel
theorem t231_34 : am_T 231 34 = some (2, .iaload, 35, [], .null) := by decide +kernel
theorem t231_35 : am_T 231 35 = some (1, .if_icmp .ge 22, 38, [57], .null) := by decide +kernel
theorem t231_38 : am_T 231 38 = some (0, .aload_n 0, 39, [], .null) := by decide +kernel
theorem t231_39 : am_T 231 39 = some (2, .getfield 46, 42, [25, 12], .null) := by decide +kernel
theorem t231_42 : am_T 231 42 = some (0, .bipush 8, 44, [], .int (8)) := by decide +kernel
theorem t231_44 : am_T 231 44 = some (0, .iload_n 1, 45, [], .null) := by decide +kernel
theorem t231_45 : am_T 231 45 = some (0, .imul, 46, [], .null) := by decide +kernel
theorem t231_46 : am_T 231 46 = some (0, .iload_n 3, 47, [], .null) := by decide +kernel
theorem t231_47 : am_T 231 47 = some (0, .iadd, 48, [], .null) := by decide +kernel
theorem t231_48 : am_T 231 48 = some (0, .iconst 5, 49, [], .int (5)) := by decide +kernel
theorem t231_49 : am_T 231 49 = some (0, .imul, 50, [], .null) := by decide +kernel
theorem t231_50 : am_T 231 50 = some (0, .iload 5, 52, [], .null) := by decide +kernel
theorem t231_52 : am_T 231 52 = some (0, .iadd, 53, [], .null) := by decide +kernel
theorem t231_53 : am_T 231 53 = some (2, .iaload, 54, [], .null) := by decide +kernel
theorem t231_54 : am_T 231 54 = some (1, .goto 4, 57, [58], .null) := by decide +kernel
theorem t231_57 : am_T 231 57 = some (0, .iconst 0, 58, [], .int (0)) := by decide +kernel
theorem t231_58 : am_T 231 58 = some (0, .istore 6, 60, [], .null) := by decide +kernel
theorem t231_60 : am_T 231 60 = some (0, .iload 4, 62, [], .null) := by decide +kernel
theorem t231_62 : am_T 231 62 = some (1, .ifCond .eq 25, 65, [87], .null) := by decide +kernel
theorem t231_65 : am_T 231 65 = some (0, .iload 6, 67, [], .null) := by decide +kernel
theorem t231_67 : am_T 231 67 = some (0, .iconst 3, 68, [], .int (3)) := by decide +kernel
theorem t231_68 : am_T 231 68 = some (1, .if_icmp .eq 15, 71, [83], .null) := by decide +kernel
theorem t231_71 : am_T 231 71 = some (0, .iload 6, 73, [], .null) := by decide +kernel
theorem t231_73 : am_T 231 73 = some (0, .aload_n 0, 74, [], .null) := by decide +kernel
theorem t231_74 : am_T 231 74 = some (0, .iload_n 2, 75, [], .null) := by decide +kernel
theorem t231_75 : am_T 231 75 = some (0, .iload 5, 77, [], .null) := by decide +kernel
theorem t231_77 : am_T 231 77 = some (3, .invokevirtual 328, 80, [3, 12, 211], .null) := by decide +kernel
theorem t231_80 : am_T 231 80 = some (1, .if_icmp .ne 7, 83, [87], .null) := by decide +kernel
theorem t231_83 : am_T 231 83 = some (0, .iconst 1, 84, [], .int (1)) := by decide +kernel
theorem t231_84 : am_T 231 84 = some (1, .goto 4, 87, [88], .null) := by decide +kernel
theorem t231_87 : am_T 231 87 = some (0, .iconst 0, 88, [], .int (0)) := by decide +kernel
theorem t231_88 : am_T 231 88 = some (0, .istore 4, 90, [], .null) := by decide +kernel
theorem t231_90 : am_T 231 90 = some (0, .iinc 5 1, 93, [], .int (1)) := by decide +kernel
theorem t231_93 : am_T 231 93 = some (1, .goto (-75), 96, [18], .null) := by decide +kernel
theorem t231_96 : am_T 231 96 = some (0, .iload 4, 98, [], .null) := by decide +kernel
theorem t231_98 : am_T 231 98 = some (1, .ifCond .eq 15, 101, [113], .null) := by decide +kernel
theorem t231_101 : am_T 231 101 = some (0, .aload_n 0, 102, [], .null) := by decide +kernel
theorem t231_102 : am_T 231 102 = some (2, .getfield 43, 105, [24, 12], .null) := by decide +kernel
theorem t231_105 : am_T 231 105 = some (0, .bipush 8, 107, [], .int (8)) := by decide +kernel
theorem t231_107 : am_T 231 107 = some (0, .iload_n 1, 108, [], .null) := by decide +kernel
theorem t231_108 : am_T 231 108 = some (0, .imul, 109, [], .null) := by decide +kernel
theorem t231_109 : am_T 231 109 = some (0, .iload_n 3, 110, [], .null) := by decide +kernel
theorem t231_110 : am_T 231 110 = some (0, .iadd, 111, [], .null) := by decide +kernel
theorem t231_111 : am_T 231 111 = some (2, .iaload, 112, [], .null) := by decide +kernel
theorem t231_112 : am_T 231 112 = some (4, .ireturn, 113, [0], .null) := by decide +kernel
theorem t231_113 : am_T 231 113 = some (0, .iinc 3 1, 116, [], .int (1)) := by decide +kernel
theorem t231_116 : am_T 231 116 = some (1, .goto (-114), 119, [2], .null) := by decide +kernel
theorem t231_119 : am_T 231 119 = some (0, .iconst (-1), 120, [], .int (-1)) := by decide +kernel
theorem t231_120 : am_T 231 120 = some (4, .ireturn, 121, [0], .null) := by decide +kernel
theorem t232_0 : am_T 232 0 = some (0, .aload_n 0, 1, [], .null) := by decide +kernel
theorem t232_1 : am_T 232 1 = some (0, .iconst 0, 2, [], .int (0)) := by decide +kernel
theorem t232_2 : am_T 232 2 = some (2, .putfield 128, 5, [0, 0, 12], .null) := by decide +kernel
theorem t232_5 : am_T 232 5 = some (0, .aload_n 0, 6, [], .null) := by decide +kernel
theorem t232_6 : am_T 232 6 = some (0, .iload_n 2, 7, [], .null) := by decide +kernel
theorem t232_7 : am_T 232 7 = some (3, .invokevirtual 362, 10, [2, 12, 216], .null) := by decide +kernel
theorem t232_10 : am_T 232 10 = some (0, .istore_n 3, 11, [], .null) := by decide +kernel
theorem t232_11 : am_T 232 11 = some (0, .aload_n 0, 12, [], .null) := by decide +kernel
theorem t232_12 : am_T 232 12 = some (0, .iload_n 1, 13, [], .null) := by decide +kernel
theorem t232_13 : am_T 232 13 = some (3, .invokevirtual 353, 16, [2, 12, 218], .null) := by decide +kernel
theorem t232_16 : am_T 232 16 = some (1, .ifCond .eq 17, 19, [33], .null) := by decide +kernel
theorem t232_19 : am_T 232 19 = some (0, .iload_n 3, 20, [], .null) := by decide +kernel
theorem t232_20 : am_T 232 20 = some (0, .iconst (-1), 21, [], .int (-1)) := by decide +kernel
theorem t232_21 : am_T 232 21 = some (1, .if_icmp .eq 12, 24, [33], .null) := by decide +kernel
theorem t232_24 : am_T 232 24 = some (0, .aload_n 0, 25, [], .null) := by decide +kernel
theorem t232_25 : am_T 232 25 = some (0, .iload_n 1, 26, [], .null) := by decide +kernel
theorem t232_26 : am_T 232 26 = some (0, .iload_n 3, 27, [], .null) := by decide +kernel
theorem t232_27 : am_T 232 27 = some (3, .invokevirtual 356, 30, [3, 12, 231], .null) := by decide +kernel
theorem t232_30 : am_T 232 30 = some (1, .goto 6, 33, [36], .null) := by decide +kernel
theorem t232_33 : am_T 232 33 = some (0, .ldc_w 346, 36, [], .int (-1000000)) := by decide +kernel
theorem t232_36 : am_T 232 36 = some (4, .ireturn, 37, [0], .null) := by decide +kernel
theorem t233_0 : am_T 233 0 = some (0, .aload_n 0, 1, [], .null) := by decide +kernel
theorem t233_1 : am_T 233 1 = some (0, .iconst 0, 2, [], .int (0)) := by decide +kernel
theorem t233_2 : am_T 233 2 = some (2, .putfield 365, 5, [42, 0, 12], .null) := by decide +kernel
theorem t233_5 : am_T 233 5 = some (0, .iconst 0, 6, [], .int (0)) := by decide +kernel
theorem t233_6 : am_T 233 6 = some (0, .istore_n 2, 7, [], .null) := by decide +kernel
theorem t233_7 : am_T 233 7 = some (0, .iload_n 2, 8, [], .null) := by decide +kernel
theorem t233_8 : am_T 233 8 = some (0, .aload_n 0, 9, [], .null) := by decide +kernel
theorem t233_9 : am_T 233 9 = some (2, .getfield 298, 12, [20, 12], .null) := by decide +kernel
theorem t233_12 : am_T 233 12 = some (1, .if_icmp .ge 198, 15, [210], .null) := by decide +kernel
theorem t233_15 : am_T 233 15 = some (0, .aload_n 0, 16, [], .null) := by decide +kernel
theorem t233_16 : am_T 233 16 = some (0, .iload_n 1, 17, [], .null) := by decide +kernel
theorem t233_17 : am_T 233 17 = some (0, .iload_n 2, 18, [], .null) := by decide +kernel
theorem t233_18 : am_T 233 18 = some (3, .invokevirtual 328, 21, [3, 12, 211], .null) := by decide +kernel
theorem t233_21 : am_T 233 21 = some (0, .istore_n 3, 22, [], .null) := by decide +kernel
theorem t233_22 : am_T 233 22 = some (0, .iload_n 3, 23, [], .null) := by decide +kernel
theorem t233_23 : am_T 233 23 = some (1, .ifCond .ne 68, 26, [91], .null) := by decide +kernel
theorem t233_26 : am_T 233 26 = some (0, .iconst 1, 27, [], .int (1)) := by decide +kernel
theorem t233_27 : am_T 233 27 = some (0, .istore 4, 29, [], .null) := by decide +kernel
theorem t233_29 : am_T 233 29 = some (0, .iload 4, 31, [], .null) := by decide +kernel
theorem t233_31 : am_T 233 31 = some (0, .iconst 3, 32, [], .int (3)) := by decide +kernel
theorem t233_32 : am_T 233 32 = some (1, .if_icmp .ge 56, 35, [88], .null) := by decide +kernel
theorem t233_35 : am_T 233 35 = some (0, .aload_n 0, 36, [], .null) := by decide +kernel
theorem t233_36 : am_T 233 36 = some (0, .iload_n 1, 37, [], .null) := by decide +kernel
theorem t233_37 : am_T 233 37 = some (0, .iload 4, 39, [], .null) := by decide +kernel
theorem t233_39 : am_T 233 39 = some (3, .invokevirtual 331, 42, [3, 12, 213], .null) := by decide +kernel
theorem t233_42 : am_T 233 42 = some (0, .aload_n 0, 43, [], .null) := by decide +kernel
theorem t233_43 : am_T 233 43 = some (2, .getfield 37, 46, [18, 12], .null) := by decide +kernel
theorem t233_46 : am_T 233 46 = some (0, .iload 4, 48, [], .null) := by decide +kernel
theorem t233_48 : am_T 233 48 = some (2, .iaload, 49, [], .null) := by decide +kernel
theorem t233_49 : am_T 233 49 = some (1, .if_icmp .ne 6, 52, [55], .null) := by decide +kernel
theorem t233_52 : am_T 233 52 = some (1, .goto 30, 55, [82], .null) := by decide +kernel
theorem t233_55 : am_T 233 55 = some (0, .aload_n 0, 56, [], .null) := by decide +kernel
theorem t233_56 : am_T 233 56 = some (2, .getfield 77, 59, [41, 12], .null) := by decide +kernel
theorem t233_59 : am_T 233 59 = some (0, .aload_n 0, 60, [], .null) := by decide +kernel
theorem t233_60 : am_T 233 60 = some (2, .getfield 365, 63, [42, 12], .null) := by decide +kernel
theorem t233_63 : am_T 233 63 = some (0, .aload_n 0, 64, [], .null) := by decide +kernel
theorem t233_64 : am_T 233 64 = some (0, .iload_n 1, 65, [], .null) := by decide +kernel
theorem t233_65 : am_T 233 65 = some (0, .iload_n 2, 66, [], .null) := by decide +kernel
theorem t233_66 : am_T 233 66 = some (0, .iload 4, 68, [], .null) := by decide +kernel
theorem t233_68 : am_T 233 68 = some (3, .invokevirtual 334, 71, [4, 12, 212], .null) := by decide +kernel
theorem t233_71 : am_T 233 71 = some (2, .iastore, 72, [], .null) := by decide +kernel
theorem t233_72 : am_T 233 72 = some (0, .aload_n 0, 73, [], .null) := by decide +kernel
theorem t233_73 : am_T 233 73 = some (0, .dup, 74, [], .null) := by decide +kernel
theorem t233_74 : am_T 233 74 = some (2, .getfield 365, 77, [42, 12], .null) := by decide +kernel
theorem t233_77 : am_T 233 77 = some (0, .iconst 1, 78, [], .int (1)) := by decide +kernel
theorem t233_78 : am_T 233 78 = some (0, .iadd, 79, [], .null) := by decide +kernel
theorem t233_79 : am_T 233 79 = some (2, .putfield 365, 82, [42, 0, 12], .null) := by decide +kernel
theorem t233_82 : am_T 233 82 = some (0, .iinc 4 1, 85, [], .int (1)) := by decide +kernel
theorem t233_85 : am_T 233 85 = some (1, .goto (-56), 88, [29], .null) := by decide +kernel
theorem t233_88 : am_T 233 88 = some (1, .goto 116, 91, [204], .null) := by decide +kernel
theorem t233_91 : am_T 233 91 = some (0, .aload_n 0, 92, [], .null) := by decide +kernel
theorem t233_92 : am_T 233 92 = some (2, .getfield 77, 95, [41, 12], .null) := by decide +kernel
theorem t233_95 : am_T 233 95 = some (0, .aload_n 0, 96, [], .null) := by decide +kernel
theorem t233_96 : am_T 233 96 = some (2, .getfield 365, 99, [42, 12], .null) := by decide +kernel
theorem t233_99 : am_T 233 99 = some (0, .aload_n 0, 100, [], .null) := by decide +kernel
theorem t233_100 : am_T 233 100 = some (0, .iload_n 1, 101, [], .null) := by decide +kernel
theorem t233_101 : am_T 233 101 = some (0, .iload_n 2, 102, [], .null) := by decide +kernel
theorem t233_102 : am_T 233 102 = some (0, .iconst 0, 103, [], .int (0)) := by decide +kernel
theorem t233_103 : am_T 233 103 = some (3, .invokevirtual 334, 106, [4, 12, 212], .null) := by decide +kernel
theorem t233_106 : am_T 233 106 = some (2, .iastore, 107, [], .null) := by decide +kernel
theorem t233_107 : am_T 233 107 = some (0, .aload_n 0, 108, [], .null) := by decide +kernel
theorem t233_108 : am_T 233 108 = some (0, .dup, 109, [], .null) := by decide +kernel
theorem t233_109 : am_T 233 109 = some (2, .getfield 365, 112, [42, 12], .null) := by decide +kernel
theorem t233_112 : am_T 233 112 = some (0, .iconst 1, 113, [], .int (1)) := by decide +kernel
theorem t233_113 : am_T 233 113 = some (0, .iadd, 114, [], .null) := by decide +kernel
theorem t233_114 : am_T 233 114 = some (2, .putfield 365, 117, [42, 0, 12], .null) := by decide +kernel
theorem t233_117 : am_T 233 117 = some (0, .iconst 0, 118, [], .int (0)) := by decide +kernel
theorem t233_118 : am_T 233 118 = some (0, .istore 4, 120, [], .null) := by decide +kernel
theorem t233_120 : am_T 233 120 = some (0, .iload 4, 122, [], .null) := by decide +kernel
theorem t233_122 : am_T 233 122 = some (0, .aload_n 0, 123, [], .null) := by decide +kernel
theorem t233_123 : am_T 233 123 = some (2, .getfield 298, 126, [20, 12], .null) := by decide +kernel
theorem t233_126 : am_T 233 126 = some (1, .if_icmp .ge 78, 129, [204], .null) := by decide +kernel
theorem t233_129 : am_T 233 129 = some (0, .aload_n 0, 130, [], .null) := by decide +kernel
theorem t233_130 : am_T 233 130 = some (0, .iload_n 1, 131, [], .null) := by decide +kernel
theorem t233_131 : am_T 233 131 = some (0, .iload 4, 133, [], .null) := by decide +kernel
theorem t233_133 : am_T 233 133 = some (3, .invokevirtual 328, 136, [3, 12, 211], .null) := by decide +kernel
theorem t233_136 : am_T 233 136 = some (1, .ifCond .ne 62, 139, [198], .null) := by decide +kernel
theorem t233_139 : am_T 233 139 = some (0, .aload_n 0, 140, [], .null) := by decide +kernel
theorem t233_140 : am_T 233 140 = some (2, .getfield 368, 143, [43, 12], .null) := by decide +kernel
theorem t233_143 : am_T 233 143 = some (1, .ifCond .eq 22, 146, [165], .null) := by decide +kernel
theorem t233_146 : am_T 233 146 = some (0, .aload_n 0, 147, [], .null) := by decide +kernel
theorem t233_147 : am_T 233 147 = some (0, .iload 4, 149, [], .null) := by decide +kernel
theorem t233_149 : am_T 233 149 = some (0, .iload_n 3, 150, [], .null) := by decide +kernel
theorem t233_150 : am_T 233 150 = some (3, .invokevirtual 343, 153, [3, 12, 220], .null) := by decide +kernel
theorem t233_153 : am_T 233 153 = some (0, .aload_n 0, 154, [], .null) := by decide +kernel
theorem t233_154 : am_T 233 154 = some (0, .iload_n 2, 155, [], .null) := by decide +kernel
theorem t233_155 : am_T 233 155 = some (0, .iload_n 3, 156, [], .null) := by decide +kernel
theorem t233_156 : am_T 233 156 = some (3, .invokevirtual 343, 159, [3, 12, 220], .null) := by decide +kernel
theorem t233_159 : am_T 233 159 = some (1, .if_icmp .ge 6, 162, [165], .null) := by decide +kernel
theorem t233_162 : am_T 233 162 = some (1, .goto 36, 165, [198], .null) := by decide +kernel
theorem t233_165 : am_T 233 165 = some (0, .aload_n 0, 166, [], .null) := by decide +kernel
theorem t233_166 : am_T 233 166 = some (2, .getfield 77, 169, [41, 12], .null) := by decide +kernel
theorem t233_169 : am_T 233 169 = some (0, .aload_n 0, 170, [], .null) := by decide +kernel
theorem t233_170 : am_T 233 170 = some (2, .getfield 365, 173, [42, 12], .null) := by decide +kernel
theorem t233_173 : am_T 233 173 = some (0, .aload_n 0, 174, [], .null) := by decide +kernel
theorem t233_174 : am_T 233 174 = some (0, .aload_n 0, 175, [], .null) := by decide +kernel
theorem t233_175 : am_T 233 175 = some (0, .iload_n 1, 176, [], .null) := by decide +kernel
theorem t233_176 : am_T 233 176 = some (0, .iload 4, 178, [], .null) := by decide +kernel
theorem t233_178 : am_T 233 178 = some (0, .iload_n 3, 179, [], .null) := by decide +kernel
theorem t233_179 : am_T 233 179 = some (3, .invokevirtual 334, 182, [4, 12, 212], .null) := by decide +kernel
theorem t233_182 : am_T 233 182 = some (0, .iload_n 2, 183, [], .null) := by decide +kernel
theorem t233_183 : am_T 233 183 = some (0, .iconst 0, 184, [], .int (0)) := by decide +kernel
theorem t233_184 : am_T 233 184 = some (3, .invokevirtual 334, 187, [4, 12, 212], .null) := by decide +kernel
theorem t233_187 : am_T 233 187 = some (2, .iastore, 188, [], .null) := by decide +kernel
theorem t233_188 : am_T 233 188 = some (0, .aload_n 0, 189, [], .null) := by decide +kernel
theorem t233_189 : am_T 233 189 = some (0, .dup, 190, [], .null) := by decide +kernel
theorem t233_190 : am_T 233 190 = some (2, .getfield 365, 193, [42, 12], .null) := by decide +kernel
theorem t233_193 : am_T 233 193 = some (0, .iconst 1, 194, [], .int (1)) := by decide +kernel
theorem t233_194 : am_T 233 194 = some (0, .iadd, 195, [], .null) := by decide +kernel
theorem t233_195 : am_T 233 195 = some (2, .putfield 365, 198, [42, 0, 12], .null) := by decide +kernel
theorem t233_198 : am_T 233 198 = some (0, .iinc 4 1, 201, [], .int (1)) := by decide +kernel
theorem t233_201 : am_T 233 201 = some (1, .goto (-81), 204, [120], .null) := by decide +kernel
theorem t233_204 : am_T 233 204 = some (0, .iinc 2 1, 207, [], .int (1)) := by decide +kernel
theorem t233_207 : am_T 233 207 = some (1, .goto (-200), 210, [7], .null) := by decide +kernel
theorem t233_210 : am_T 233 210 = some (4, .return_, 211, [], .null) := by decide +kernel
theorem t234_0 : am_T 234 0 = some (0, .iconst 0, 1, [], .int (0)) := by decide +kernel
theorem t234_1 : am_T 234 1 = some (0, .istore_n 2, 2, [], .null) := by decide +kernel
theorem t234_2 : am_T 234 2 = some (0, .iload_n 2, 3, [], .null) := by decide +kernel
theorem t234_3 : am_T 234 3 = some (0, .sipush 243, 6, [], .int (243)) := by decide +kernel
theorem t234_6 : am_T 234 6 = some (1, .if_icmp .ge 18, 9, [24], .null) := by decide +kernel
theorem t234_9 : am_T 234 9 = some (0, .aload_n 0, 10, [], .null) := by decide +kernel
theorem t234_10 : am_T 234 10 = some (2, .getfield 80, 13, [44, 12], .null) := by decide +kernel
theorem t234_13 : am_T 234 13 = some (0, .iload_n 2, 14, [], .null) := by decide +kernel
theorem t234_14 : am_T 234 14 = some (0, .sipush 1000, 17, [], .int (1000)) := by decide +kernel
theorem t234_17 : am_T 234 17 = some (2, .iastore, 18, [], .null) := by decide +kernel
theorem t234_18 : am_T 234 18 = some (0, .iinc 2 1, 21, [], .int (1)) := by decide +kernel
theorem t234_21 : am_T 234 21 = some (1, .goto (-19), 24, [2], .null) := by decide +kernel
theorem t234_24 : am_T 234 24 = some (0, .aload_n 0, 25, [], .null) := by decide +kernel
theorem t234_25 : am_T 234 25 = some (2, .getfield 80, 28, [44, 12], .null) := by decide +kernel
theorem t234_28 : am_T 234 28 = some (0, .iload_n 1, 29, [], .null) := by decide +kernel
theorem t234_29 : am_T 234 29 = some (0, .iconst 0, 30, [], .int (0)) := by decide +kernel
theorem t234_30 : am_T 234 30 = some (2, .iastore, 31, [], .null) := by decide +kernel
theorem t234_31 : am_T 234 31 = some (0, .aload_n 0, 32, [], .null) := by decide +kernel
theorem t234_32 : am_T 234 32 = some (2, .getfield 83, 35, [45, 12], .null) := by decide +kernel
theorem t234_35 : am_T 234 35 = some (0, .iconst 0, 36, [], .int (0)) := by decide +kernel
theorem t234_36 : am_T 234 36 = some (0, .iload_n 1, 37, [], .null) := by decide +kernel
theorem t234_37 : am_T 234 37 = some (2, .iastore, 38, [], .null) := by decide +kernel
theorem t234_38 : am_T 234 38 = some (0, .iconst 1, 39, [], .int (1)) := by decide +kernel
theorem t234_39 : am_T 234 39 = some (0, .istore_n 2, 40, [], .null) := by decide +kernel
theorem t234_40 : am_T 234 40 = some (0, .iconst 0, 41, [], .int (0)) := by decide +kernel
theorem t234_41 : am_T 234 41 = some (0, .istore_n 3, 42, [], .null) := by decide +kernel
theorem t234_42 : am_T 234 42 = some (0, .iload_n 3, 43, [], .null) := by decide +kernel
theorem t234_43 : am_T 234 43 = some (0, .iload_n 2, 44, [], .null) := by decide +kernel
theorem t234_44 : am_T 234 44 = some (1, .if_icmp .ge 99, 47, [143], .null) := by decide +kernel
theorem t234_47 : am_T 234 47 = some (0, .aload_n 0, 48, [], .null) := by decide +kernel
theorem t234_48 : am_T 234 48 = some (2, .getfield 83, 51, [45, 12], .null) := by decide +kernel
theorem t234_51 : am_T 234 51 = some (0, .iload_n 3, 52, [], .null) := by decide +kernel
theorem t234_52 : am_T 234 52 = some (2, .iaload, 53, [], .null) := by decide +kernel
theorem t234_53 : am_T 234 53 = some (0, .istore 4, 55, [], .null) := by decide +kernel
theorem t234_55 : am_T 234 55 = some (0, .aload_n 0, 56, [], .null) := by decide +kernel
theorem t234_56 : am_T 234 56 = some (0, .iload 4, 58, [], .null) := by decide +kernel
theorem t234_58 : am_T 234 58 = some (3, .invokevirtual 371, 61, [2, 12, 233], .null) := by decide +kernel
theorem t234_61 : am_T 234 61 = some (0, .iconst 0, 62, [], .int (0)) := by decide +kernel
theorem t234_62 : am_T 234 62 = some (0, .istore 5, 64, [], .null) := by decide +kernel
theorem t234_64 : am_T 234 64 = some (0, .iload 5, 66, [], .null) := by decide +kernel
theorem t234_66 : am_T 234 66 = some (0, .aload_n 0, 67, [], .null) := by decide +kernel
theorem t234_67 : am_T 234 67 = some (2, .getfield 365, 70, [42, 12], .null) := by decide +kernel
theorem t234_70 : am_T 234 70 = some (1, .if_icmp .ge 67, 73, [137], .null) := by decide +kernel
theorem t234_73 : am_T 234 73 = some (0, .aload_n 0, 74, [], .null) := by decide +kernel
theorem t234_74 : am_T 234 74 = some (2, .getfield 80, 77, [44, 12], .null) := by decide +kernel
theorem t234_77 : am_T 234 77 = some (0, .aload_n 0, 78, [], .null) := by decide +kernel
theorem t234_78 : am_T 234 78 = some (2, .getfield 77, 81, [41, 12], .null) := by decide +kernel
theorem t234_81 : am_T 234 81 = some (0, .iload 5, 83, [], .null) := by decide +kernel
theorem t234_83 : am_T 234 83 = some (2, .iaload, 84, [], .null) := by decide +kernel
theorem t234_84 : am_T 234 84 = some (2, .iaload, 85, [], .null) := by decide +kernel
theorem t234_85 : am_T 234 85 = some (0, .sipush 1000, 88, [], .int (1000)) := by decide +kernel
theorem t234_88 : am_T 234 88 = some (1, .if_icmp .ge 6, 91, [94], .null) := by decide +kernel
theorem t234_91 : am_T 234 91 = some (1, .goto 40, 94, [131], .null) := by decide +kernel
theorem t234_94 : am_T 234 94 = some (0, .aload_n 0, 95, [], .null) := by decide +kernel
theorem t234_95 : am_T 234 95 = some (2, .getfield 80, 98, [44, 12], .null) := by decide +kernel
theorem t234_98 : am_T 234 98 = some (0, .aload_n 0, 99, [], .null) := by decide +kernel
theorem t234_99 : am_T 234 99 = some (2, .getfield 77, 102, [41, 12], .null) := by decide +kernel
theorem t234_102 : am_T 234 102 = some (0, .iload 5, 104, [], .null) := by decide +kernel
theorem t234_104 : am_T 234 104 = some (2, .iaload, 105, [], .null) := by decide +kernel
theorem t234_105 : am_T 234 105 = some (0, .aload_n 0, 106, [], .null) := by decide +kernel
theorem t234_106 : am_T 234 106 = some (2, .getfield 80, 109, [44, 12], .null) := by decide +kernel
theorem t234_109 : am_T 234 109 = some (0, .iload 4, 111, [], .null) := by decide +kernel
theorem t234_111 : am_T 234 111 = some (2, .iaload, 112, [], .null) := by decide +kernel
theorem t234_112 : am_T 234 112 = some (0, .iconst 1, 113, [], .int (1)) := by decide +kernel
theorem t234_113 : am_T 234 113 = some (0, .iadd, 114, [], .null) := by decide +kernel
theorem t234_114 : am_T 234 114 = some (2, .iastore, 115, [], .null) := by decide +kernel
theorem t234_115 : am_T 234 115 = some (0, .aload_n 0, 116, [], .null) := by decide +kernel
theorem t234_116 : am_T 234 116 = some (2, .getfield 83, 119, [45, 12], .null) := by decide +kernel
theorem t234_119 : am_T 234 119 = some (0, .iload_n 2, 120, [], .null) := by decide +kernel
theorem t234_120 : am_T 234 120 = some (0, .aload_n 0, 121, [], .null) := by decide +kernel
theorem t234_121 : am_T 234 121 = some (2, .getfield 77, 124, [41, 12], .null) := by decide +kernel
theorem t234_124 : am_T 234 124 = some (0, .iload 5, 126, [], .null) := by decide +kernel
theorem t234_126 : am_T 234 126 = some (2, .iaload, 127, [], .null) := by decide +kernel
theorem t234_127 : am_T 234 127 = some (2, .iastore, 128, [], .null) := by decide +kernel
theorem t234_128 : am_T 234 128 = some (0, .iinc 2 1, 131, [], .int (1)) := by decide +kernel
theorem t234_131 : am_T 234 131 = some (0, .iinc 5 1, 134, [], .int (1)) := by decide +kernel
theorem t234_134 : am_T 234 134 = some (1, .goto (-70), 137, [64], .null) := by decide +kernel
theorem t234_137 : am_T 234 137 = some (0, .iinc 3 1, 140, [], .int (1)) := by decide +kernel
theorem t234_140 : am_T 234 140 = some (1, .goto (-98), 143, [42], .null) := by decide +kernel
theorem t234_143 : am_T 234 143 = some (4, .return_, 144, [], .null) := by decide +kernel
theorem t235_0 : am_T 235 0 = some (0, .iconst 0, 1, [], .int (0)) := by decide +kernel
theorem t235_1 : am_T 235 1 = some (0, .istore_n 1, 2, [], .null) := by decide +kernel
theorem t235_2 : am_T 235 2 = some (0, .iload_n 1, 3, [], .null) := by decide +kernel
theorem t235_3 : am_T 235 3 = some (0, .aload_n 0, 4, [], .null) := by decide +kernel
theorem t235_4 : am_T 235 4 = some (3, .invokevirtual 374, 7, [1, 12, 209], .null) := by decide +kernel
theorem t235_7 : am_T 235 7 = some (1, .if_icmp .ge 59, 10, [66], .null) := by decide +kernel
theorem t235_10 : am_T 235 10 = some (0, .aload_n 0, 11, [], .null) := by decide +kernel
theorem t235_11 : am_T 235 11 = some (0, .iload_n 1, 12, [], .null) := by decide +kernel
theorem t235_12 : am_T 235 12 = some (3, .invokevirtual 377, 15, [2, 12, 214], .null) := by decide +kernel
theorem t235_15 : am_T 235 15 = some (1, .ifCond .ne 6, 18, [21], .null) := by decide +kernel
theorem t235_18 : am_T 235 18 = some (1, .goto 42, 21, [60], .null) := by decide +kernel
theorem t235_21 : am_T 235 21 = some (0, .aload_n 0, 22, [], .null) := by decide +kernel
theorem t235_22 : am_T 235 22 = some (0, .iload_n 1, 23, [], .null) := by decide +kernel
theorem t235_23 : am_T 235 23 = some (3, .invokevirtual 380, 26, [2, 12, 234], .null) := by decide +kernel
theorem t235_26 : am_T 235 26 = some (0, .iconst 0, 27, [], .int (0)) := by decide +kernel
theorem t235_27 : am_T 235 27 = some (0, .istore_n 2, 28, [], .null) := by decide +kernel
theorem t235_28 : am_T 235 28 = some (0, .iload_n 2, 29, [], .null) := by decide +kernel
theorem t235_29 : am_T 235 29 = some (0, .aload_n 0, 30, [], .null) := by decide +kernel
theorem t235_30 : am_T 235 30 = some (3, .invokevirtual 374, 33, [1, 12, 209], .null) := by decide +kernel
theorem t235_33 : am_T 235 33 = some (1, .if_icmp .ge 27, 36, [60], .null) := by decide +kernel
theorem t235_36 : am_T 235 36 = some (0, .aload_n 0, 37, [], .null) := by decide +kernel
theorem t235_37 : am_T 235 37 = some (2, .getfield 87, 40, [46, 12], .null) := by decide +kernel
theorem t235_40 : am_T 235 40 = some (0, .sipush 243, 43, [], .int (243)) := by decide +kernel
theorem t235_43 : am_T 235 43 = some (0, .iload_n 1, 44, [], .null) := by decide +kernel
theorem t235_44 : am_T 235 44 = some (0, .imul, 45, [], .null) := by decide +kernel
theorem t235_45 : am_T 235 45 = some (0, .iload_n 2, 46, [], .null) := by decide +kernel
theorem t235_46 : am_T 235 46 = some (0, .iadd, 47, [], .null) := by decide +kernel
theorem t235_47 : am_T 235 47 = some (0, .aload_n 0, 48, [], .null) := by decide +kernel
theorem t235_48 : am_T 235 48 = some (2, .getfield 80, 51, [44, 12], .null) := by decide +kernel
theorem t235_51 : am_T 235 51 = some (0, .iload_n 2, 52, [], .null) := by decide +kernel
theorem t235_52 : am_T 235 52 = some (2, .iaload, 53, [], .null) := by decide +kernel
theorem t235_53 : am_T 235 53 = some (2, .iastore, 54, [], .null) := by decide +kernel
theorem t235_54 : am_T 235 54 = some (0, .iinc 2 1, 57, [], .int (1)) := by decide +kernel
theorem t235_57 : am_T 235 57 = some (1, .goto (-29), 60, [28], .null) := by decide +kernel
theorem t235_60 : am_T 235 60 = some (0, .iinc 1 1, 63, [], .int (1)) := by decide +kernel
theorem t235_63 : am_T 235 63 = some (1, .goto (-61), 66, [2], .null) := by decide +kernel
theorem t235_66 : am_T 235 66 = some (4, .return_, 67, [], .null) := by decide +kernel
theorem t236_0 : am_T 236 0 = some (0, .aload_n 0, 1, [], .null) := by decide +kernel
theorem t236_1 : am_T 236 1 = some (0, .iconst 0, 2, [], .int (0)) := by decide +kernel
theorem t236_2 : am_T 236 2 = some (2, .putfield 128, 5, [0, 0, 12], .null) := by decide +kernel
theorem t236_5 : am_T 236 5 = some (0, .aload_n 0, 6, [], .null) := by decide +kernel
theorem t236_6 : am_T 236 6 = some (0, .iload_n 1, 7, [], .null) := by decide +kernel
theorem t236_7 : am_T 236 7 = some (3, .invokevirtual 362, 10, [2, 12, 216], .null) := by decide +kernel
theorem t236_10 : am_T 236 10 = some (0, .istore_n 3, 11, [], .null) := by decide +kernel
theorem t236_11 : am_T 236 11 = some (0, .aload_n 0, 12, [], .null) := by decide +kernel
theorem t236_12 : am_T 236 12 = some (0, .iload_n 2, 13, [], .null) := by decide +kernel
theorem t236_13 : am_T 236 13 = some (3, .invokevirtual 362, 16, [2, 12, 216], .null) := by decide +kernel
theorem t236_16 : am_T 236 16 = some (0, .istore 4, 18, [], .null) := by decide +kernel
theorem t236_18 : am_T 236 18 = some (0, .iload_n 3, 19, [], .null) := by decide +kernel
theorem t236_19 : am_T 236 19 = some (0, .iconst (-1), 20, [], .int (-1)) := by decide +kernel
theorem t236_20 : am_T 236 20 = some (1, .if_icmp .eq 26, 23, [46], .null) := by decide +kernel
theorem t236_23 : am_T 236 23 = some (0, .iload 4, 25, [], .null) := by decide +kernel
theorem t236_25 : am_T 236 25 = some (0, .iconst (-1), 26, [], .int (-1)) := by decide +kernel
theorem t236_26 : am_T 236 26 = some (1, .if_icmp .eq 20, 29, [46], .null) := by decide +kernel
theorem t236_29 : am_T 236 29 = some (0, .aload_n 0, 30, [], .null) := by decide +kernel
theorem t236_30 : am_T 236 30 = some (0, .iload_n 3, 31, [], .null) := by decide +kernel
theorem t236_31 : am_T 236 31 = some (3, .invokevirtual 377, 34, [2, 12, 214], .null) := by decide +kernel
theorem t236_34 : am_T 236 34 = some (1, .ifCond .eq 12, 37, [46], .null) := by decide +kernel
theorem t236_37 : am_T 236 37 = some (0, .aload_n 0, 38, [], .null) := by decide +kernel
theorem t236_38 : am_T 236 38 = some (0, .iload 4, 40, [], .null) := by decide +kernel
theorem t236_40 : am_T 236 40 = some (3, .invokevirtual 377, 43, [2, 12, 214], .null) := by decide +kernel
theorem t236_43 : am_T 236 43 = some (1, .ifCond .ne 5, 46, [48], .null) := by decide +kernel
theorem t236_46 : am_T 236 46 = some (0, .iconst (-1), 47, [], .int (-1)) := by decide +kernel
theorem t236_47 : am_T 236 47 = some (4, .ireturn, 48, [0], .null) := by decide +kernel
theorem t236_48 : am_T 236 48 = some (0, .aload_n 0, 49, [], .null) := by decide +kernel
theorem t236_49 : am_T 236 49 = some (0, .iload_n 3, 50, [], .null) := by decide +kernel
theorem t236_50 : am_T 236 50 = some (3, .invokevirtual 380, 53, [2, 12, 234], .null) := by decide +kernel
theorem t236_53 : am_T 236 53 = some (0, .aload_n 0, 54, [], .null) := by decide +kernel
theorem t236_54 : am_T 236 54 = some (2, .getfield 80, 57, [44, 12], .null) := by decide +kernel
theorem t236_57 : am_T 236 57 = some (0, .iload 4, 59, [], .null) := by decide +kernel
theorem t236_59 : am_T 236 59 = some (2, .iaload, 60, [], .null) := by decide +kernel
theorem t236_60 : am_T 236 60 = some (4, .ireturn, 61, [0], .null) := by decide +kernel
theorem t237_0 : am_T 237 0 = some (0, .iload_n 0, 1, [], .null) := by decide +kernel
theorem t237_1 : am_T 237 1 = some (0, .i2l, 2, [], .null) := by decide +kernel
theorem t237_2 : am_T 237 2 = some (0, .lconst 0, 3, [], .long 0) := by decide +kernel
theorem t237_3 : am_T 237 3 = some (0, .ldc2_w 383, 6, [], .long (7)) := by decide +kernel
theorem t237_6 : am_T 237 6 = some (3, .invokestatic 246, 9, [3, 176], .null) := by decide +kernel
theorem t237_9 : am_T 237 9 = some (4, .ireturn, 10, [1], .null) := by decide +kernel
theorem t238_0 : am_T 238 0 = some (0, .aload_n 0, 1, [], .null) := by decide +kernel
theorem t238_1 : am_T 238 1 = some (0, .iconst 0, 2, [], .int (0)) := by decide +kernel
theorem t238_2 : am_T 238 2 = some (2, .putfield 128, 5, [0, 0, 12], .null) := by decide +kernel
theorem t238_5 : am_T 238 5 = some (0, .aload_n 0, 6, [], .null) := by decide +kernel
theorem t238_6 : am_T 238 6 = some (0, .iload_n 1, 7, [], .null) := by decide +kernel
theorem t238_7 : am_T 238 7 = some (3, .invokevirtual 353, 10, [2, 12, 218], .null) := by decide +kernel
theorem t238_10 : am_T 238 10 = some (1, .ifCond .eq 21, 13, [31], .null) := by decide +kernel
theorem t238_13 : am_T 238 13 = some (0, .iload_n 2, 14, [], .null) := by decide +kernel
theorem t238_14 : am_T 238 14 = some (3, .invokestatic 385, 17, [1, 237], .null) := by decide +kernel
theorem t238_17 : am_T 238 17 = some (1, .ifCond .eq 14, 20, [31], .null) := by decide +kernel
theorem t238_20 : am_T 238 20 = some (0, .iload 4, 22, [], .null) := by decide +kernel
theorem t238_22 : am_T 238 22 = some (0, .i2l, 23, [], .null) := by decide +kernel
theorem t238_23 : am_T 238 23 = some (0, .lconst 0, 24, [], .long 0) := by decide +kernel
theorem t238_24 : am_T 238 24 = some (0, .lconst 1, 25, [], .long 1) := by decide +kernel
theorem t238_25 : am_T 238 25 = some (3, .invokestatic 246, 28, [3, 176], .null) := by decide +kernel
theorem t238_28 : am_T 238 28 = some (1, .ifCond .ne 5, 31, [33], .null) := by decide +kernel
theorem t238_31 : am_T 238 31 = some (0, .iconst (-1), 32, [], .int (-1)) := by decide +kernel
theorem t238_32 : am_T 238 32 = some (4, .ireturn, 33, [0], .null) := by decide +kernel
theorem t238_33 : am_T 238 33 = some (0, .aload_n 0, 34, [], .null) := by decide +kernel
theorem t238_34 : am_T 238 34 = some (0, .iload_n 3, 35, [], .null) := by decide +kernel
theorem t238_35 : am_T 238 35 = some (2, .putfield 368, 38, [43, 1, 12], .null) := by decide +kernel
theorem t238_38 : am_T 238 38 = some (0, .aload_n 0, 39, [], .null) := by decide +kernel
theorem t238_39 : am_T 238 39 = some (0, .aload_n 0, 40, [], .null) := by decide +kernel
theorem t238_40 : am_T 238 40 = some (2, .getfield 304, 43, [33, 12], .null) := by decide +kernel
theorem t238_43 : am_T 238 43 = some (3, .invokevirtual 380, 46, [2, 12, 234], .null) := by decide +kernel
theorem t238_46 : am_T 238 46 = some (0, .aload_n 0, 47, [], .null) := by decide +kernel
theorem t238_47 : am_T 238 47 = some (0, .iconst 0, 48, [], .int (0)) := by decide +kernel
theorem t238_48 : am_T 238 48 = some (2, .putfield 368, 51, [43, 1, 12], .null) := by decide +kernel
theorem t238_51 : am_T 238 51 = some (0, .iconst (-1), 52, [], .int (-1)) := by decide +kernel
theorem t238_52 : am_T 238 52 = some (0, .istore 5, 54, [], .null) := by decide +kernel
theorem t238_54 : am_T 238 54 = some (0, .iconst 0, 55, [], .int (0)) := by decide +kernel
theorem t238_55 : am_T 238 55 = some (0, .istore 6, 57, [], .null) := by decide +kernel
theorem t238_57 : am_T 238 57 = some (0, .iload 6, 59, [], .null) := by decide +kernel
theorem t238_59 : am_T 238 59 = some (0, .aload_n 0, 60, [], .null) := by decide +kernel
theorem t238_60 : am_T 238 60 = some (3, .invokevirtual 374, 63, [1, 12, 209], .null) := by decide +kernel
theorem t238_63 : am_T 238 63 = some (1, .if_icmp .ge 69, 66, [132], .null) := by decide +kernel
theorem t238_66 : am_T 238 66 = some (0, .aload_n 0, 67, [], .null) := by decide +kernel
theorem t238_67 : am_T 238 67 = some (0, .iload 6, 69, [], .null) := by decide +kernel
theorem t238_69 : am_T 238 69 = some (3, .invokevirtual 377, 72, [2, 12, 214], .null) := by decide +kernel
theorem t238_72 : am_T 238 72 = some (1, .ifCond .eq 54, 75, [126], .null) := by decide +kernel
theorem t238_75 : am_T 238 75 = some (0, .aload_n 0, 76, [], .null) := by decide +kernel
theorem t238_76 : am_T 238 76 = some (2, .getfield 80, 79, [44, 12], .null) := by decide +kernel
theorem t238_79 : am_T 238 79 = some (0, .iload 6, 81, [], .null) := by decide +kernel
theorem t238_81 : am_T 238 81 = some (2, .iaload, 82, [], .null) := by decide +kernel
theorem t238_82 : am_T 238 82 = some (0, .sipush 1000, 85, [], .int (1000)) := by decide +kernel
theorem t238_85 : am_T 238 85 = some (1, .if_icmp .ge 41, 88, [126], .null) := by decide +kernel
theorem t238_88 : am_T 238 88 = some (0, .aload_n 0, 89, [], .null) := by decide +kernel
theorem t238_89 : am_T 238 89 = some (0, .iload_n 1, 90, [], .null) := by decide +kernel
theorem t238_90 : am_T 238 90 = some (0, .iload 6, 92, [], .null) := by decide +kernel
theorem t238_92 : am_T 238 92 = some (3, .invokevirtual 356, 95, [3, 12, 231], .null) := by decide +kernel
theorem t238_95 : am_T 238 95 = some (0, .iload_n 2, 96, [], .null) := by decide +kernel
theorem t238_96 : am_T 238 96 = some (1, .if_icmp .ne 30, 99, [126], .null) := by decide +kernel
theorem t238_99 : am_T 238 99 = some (0, .iload 5, 101, [], .null) := by decide +kernel
theorem t238_101 : am_T 238 101 = some (0, .iconst (-1), 102, [], .int (-1)) := by decide +kernel
theorem t238_102 : am_T 238 102 = some (1, .if_icmp .eq 20, 105, [122], .null) := by decide +kernel
theorem t238_105 : am_T 238 105 = some (0, .aload_n 0, 106, [], .null) := by decide +kernel
theorem t238_106 : am_T 238 106 = some (2, .getfield 80, 109, [44, 12], .null) := by decide +kernel
theorem t238_109 : am_T 238 109 = some (0, .iload 6, 111, [], .null) := by decide +kernel
theorem t238_111 : am_T 238 111 = some (2, .iaload, 112, [], .null) := by decide +kernel
theorem t238_112 : am_T 238 112 = some (0, .aload_n 0, 113, [], .null) := by decide +kernel
theorem t238_113 : am_T 238 113 = some (2, .getfield 80, 116, [44, 12], .null) := by decide +kernel
theorem t238_116 : am_T 238 116 = some (0, .iload 5, 118, [], .null) := by decide +kernel
theorem t238_118 : am_T 238 118 = some (2, .iaload, 119, [], .null) := by decide +kernel
theorem t238_119 : am_T 238 119 = some (1, .if_icmp .ge 7, 122, [126], .null) := by decide +kernel
theorem t238_122 : am_T 238 122 = some (0, .iload 6, 124, [], .null) := by decide +kernel
theorem t238_124 : am_T 238 124 = some (0, .istore 5, 126, [], .null) := by decide +kernel
theorem t238_126 : am_T 238 126 = some (0, .iinc 6 1, 129, [], .int (1)) := by decide +kernel
theorem t238_129 : am_T 238 129 = some (1, .goto (-72), 132, [57], .null) := by decide +kernel
theorem t238_132 : am_T 238 132 = some (0, .iload 5, 134, [], .null) := by decide +kernel
theorem t238_134 : am_T 238 134 = some (0, .iconst (-1), 135, [], .int (-1)) := by decide +kernel
theorem t238_135 : am_T 238 135 = some (1, .if_icmp .ne 7, 138, [142], .null) := by decide +kernel
theorem t238_138 : am_T 238 138 = some (0, .iconst (-1), 139, [], .int (-1)) := by decide +kernel
theorem t238_139 : am_T 238 139 = some (1, .goto 24, 142, [163], .null) := by decide +kernel
theorem t238_142 : am_T 238 142 = some (0, .iload 4, 144, [], .null) := by decide +kernel
theorem t238_144 : am_T 238 144 = some (1, .ifCond .ne 13, 147, [157], .null) := by decide +kernel
theorem t238_147 : am_T 238 147 = some (0, .aload_n 0, 148, [], .null) := by decide +kernel
theorem t238_148 : am_T 238 148 = some (2, .getfield 80, 151, [44, 12], .null) := by decide +kernel
theorem t238_151 : am_T 238 151 = some (0, .iload 5, 153, [], .null) := by decide +kernel
theorem t238_153 : am_T 238 153 = some (2, .iaload, 154, [], .null) := by decide +kernel
theorem t238_154 : am_T 238 154 = some (1, .goto 9, 157, [163], .null) := by decide +kernel
theorem t238_157 : am_T 238 157 = some (0, .aload_n 0, 158, [], .null) := by decide +kernel
theorem t238_158 : am_T 238 158 = some (0, .iload 5, 160, [], .null) := by decide +kernel
theorem t238_160 : am_T 238 160 = some (3, .invokevirtual 388, 163, [2, 12, 215], .null) := by decide +kernel
theorem t238_163 : am_T 238 163 = some (4, .ireturn, 164, [0], .null) := by decide +kernel
theorem t239_0 : am_T 239 0 = some (0, .aload_n 0, 1, [], .null) := by decide +kernel
theorem t239_1 : am_T 239 1 = some (0, .iconst 0, 2, [], .int (0)) := by decide +kernel
theorem t239_2 : am_T 239 2 = some (2, .putfield 128, 5, [0, 0, 12], .null) := by decide +kernel
theorem t239_5 : am_T 239 5 = some (0, .aload_n 0, 6, [], .null) := by decide +kernel
theorem t239_6 : am_T 239 6 = some (0, .iload_n 1, 7, [], .null) := by decide +kernel
theorem t239_7 : am_T 239 7 = some (3, .invokevirtual 353, 10, [2, 12, 218], .null) := by decide +kernel
theorem t239_10 : am_T 239 10 = some (1, .ifCond .ne 5, 13, [15], .null) := by decide +kernel
theorem t239_13 : am_T 239 13 = some (0, .iconst (-1), 14, [], .int (-1)) := by decide +kernel
theorem t239_14 : am_T 239 14 = some (4, .ireturn, 15, [0], .null) := by decide +kernel
theorem t239_15 : am_T 239 15 = some (0, .iconst 0, 16, [], .int (0)) := by decide +kernel
theorem t239_16 : am_T 239 16 = some (0, .istore_n 2, 17, [], .null) := by decide +kernel
theorem t239_17 : am_T 239 17 = some (0, .iconst 0, 18, [], .int (0)) := by decide +kernel
theorem t239_18 : am_T 239 18 = some (0, .istore_n 3, 19, [], .null) := by decide +kernel
theorem t239_19 : am_T 239 19 = some (0, .iload_n 3, 20, [], .null) := by decide +kernel
theorem t239_20 : am_T 239 20 = some (0, .aload_n 0, 21, [], .null) := by decide +kernel
theorem t239_21 : am_T 239 21 = some (3, .invokevirtual 374, 24, [1, 12, 209], .null) := by decide +kernel
theorem t239_24 : am_T 239 24 = some (1, .if_icmp .ge 46, 27, [70], .null) := by decide +kernel
theorem t239_27 : am_T 239 27 = some (0, .aload_n 0, 28, [], .null) := by decide +kernel
theorem t239_28 : am_T 239 28 = some (0, .iload_n 3, 29, [], .null) := by decide +kernel
theorem t239_29 : am_T 239 29 = some (3, .invokevirtual 377, 32, [2, 12, 214], .null) := by decide +kernel
theorem t239_32 : am_T 239 32 = some (1, .ifCond .eq 12, 35, [44], .null) := by decide +kernel
theorem t239_35 : am_T 239 35 = some (0, .aload_n 0, 36, [], .null) := by decide +kernel
theorem t239_36 : am_T 239 36 = some (0, .iload_n 1, 37, [], .null) := by decide +kernel
theorem t239_37 : am_T 239 37 = some (0, .iload_n 3, 38, [], .null) := by decide +kernel
theorem t239_38 : am_T 239 38 = some (3, .invokevirtual 356, 41, [3, 12, 231], .null) := by decide +kernel
theorem t239_41 : am_T 239 41 = some (1, .goto 4, 44, [45], .null) := by decide +kernel
theorem t239_44 : am_T 239 44 = some (0, .iconst (-1), 45, [], .int (-1)) := by decide +kernel
theorem t239_45 : am_T 239 45 = some (0, .istore 4, 47, [], .null) := by decide +kernel
theorem t239_47 : am_T 239 47 = some (0, .iload_n 2, 48, [], .null) := by decide +kernel
theorem t239_48 : am_T 239 48 = some (0, .iload 4, 50, [], .null) := by decide +kernel
theorem t239_50 : am_T 239 50 = some (0, .iconst (-1), 51, [], .int (-1)) := by decide +kernel
theorem t239_51 : am_T 239 51 = some (1, .if_icmp .ne 7, 54, [58], .null) := by decide +kernel
theorem t239_54 : am_T 239 54 = some (0, .iconst 0, 55, [], .int (0)) := by decide +kernel
theorem t239_55 : am_T 239 55 = some (1, .goto 7, 58, [62], .null) := by decide +kernel
theorem t239_58 : am_T 239 58 = some (0, .iconst 1, 59, [], .int (1)) := by decide +kernel
theorem t239_59 : am_T 239 59 = some (0, .iload 4, 61, [], .null) := by decide +kernel
theorem t239_61 : am_T 239 61 = some (0, .ishl, 62, [], .null) := by decide +kernel
theorem t239_62 : am_T 239 62 = some (0, .ior, 63, [], .null) := by decide +kernel
theorem t239_63 : am_T 239 63 = some (0, .istore_n 2, 64, [], .null) := by decide +kernel
theorem t239_64 : am_T 239 64 = some (0, .iinc 3 1, 67, [], .int (1)) := by decide +kernel
theorem t239_67 : am_T 239 67 = some (1, .goto (-48), 70, [19], .null) := by decide +kernel
theorem t239_70 : am_T 239 70 = some (0, .iload_n 2, 71, [], .null) := by decide +kernel
theorem t239_71 : am_T 239 71 = some (4, .ireturn, 72, [0], .null) := by decide +kernel
theorem t240_0 : am_T 240 0 = some (0, .iload_n 1, 1, [], .null) := by decide +kernel
theorem t240_1 : am_T 240 1 = some (1, .ifCond .lt 15, 4, [16], .null) := by decide +kernel
theorem t240_4 : am_T 240 4 = some (0, .iload_n 1, 5, [], .null) := by decide +kernel
theorem t240_5 : am_T 240 5 = some (0, .aload_n 0, 6, [], .null) := by decide +kernel
theorem t240_6 : am_T 240 6 = some (2, .getfield 287, 9, [31, 12], .null) := by decide +kernel
theorem t240_9 : am_T 240 9 = some (1, .if_icmp .ge 7, 12, [16], .null) := by decide +kernel
theorem t240_12 : am_T 240 12 = some (0, .iconst 1, 13, [], .int (1)) := by decide +kernel
theorem t240_13 : am_T 240 13 = some (1, .goto 4, 16, [17], .null) := by decide +kernel
theorem t240_16 : am_T 240 16 = some (0, .iconst 0, 17, [], .int (0)) := by decide +kernel
theorem t240_17 : am_T 240 17 = some (4, .ireturn, 18, [1], .null) := by decide +kernel
theorem t241_0 : am_T 241 0 = some (0, .aload_n 0, 1, [], .null) := by decide +kernel
theorem t241_1 : am_T 241 1 = some (0, .iconst 0, 2, [], .int (0)) := by decide +kernel
theorem t241_2 : am_T 241 2 = some (2, .putfield 128, 5, [0, 0, 12], .null) := by decide +kernel
theorem t241_5 : am_T 241 5 = some (0, .aload_n 0, 6, [], .null) := by decide +kernel
theorem t241_6 : am_T 241 6 = some (0, .iload_n 1, 7, [], .null) := by decide +kernel
theorem t241_7 : am_T 241 7 = some (3, .invokevirtual 353, 10, [2, 12, 218], .null) := by decide +kernel
theorem t241_10 : am_T 241 10 = some (1, .ifCond .eq 21, 13, [31], .null) := by decide +kernel
theorem t241_13 : am_T 241 13 = some (0, .aload_n 0, 14, [], .null) := by decide +kernel
theorem t241_14 : am_T 241 14 = some (0, .iload_n 2, 15, [], .null) := by decide +kernel
theorem t241_15 : am_T 241 15 = some (3, .invokevirtual 391, 18, [2, 12, 240], .null) := by decide +kernel
theorem t241_18 : am_T 241 18 = some (1, .ifCond .eq 13, 21, [31], .null) := by decide +kernel
theorem t241_21 : am_T 241 21 = some (0, .iload_n 3, 22, [], .null) := by decide +kernel
theorem t241_22 : am_T 241 22 = some (0, .i2l, 23, [], .null) := by decide +kernel
theorem t241_23 : am_T 241 23 = some (0, .lconst 0, 24, [], .long 0) := by decide +kernel
theorem t241_24 : am_T 241 24 = some (0, .lconst 1, 25, [], .long 1) := by decide +kernel
theorem t241_25 : am_T 241 25 = some (3, .invokestatic 246, 28, [3, 176], .null) := by decide +kernel
theorem t241_28 : am_T 241 28 = some (1, .ifCond .ne 5, 31, [33], .null) := by decide +kernel
theorem t241_31 : am_T 241 31 = some (0, .iconst (-1), 32, [], .int (-1)) := by decide +kernel
theorem t241_32 : am_T 241 32 = some (4, .ireturn, 33, [0], .null) := by decide +kernel
theorem t241_33 : am_T 241 33 = some (0, .aload_n 0, 34, [], .null) := by decide +kernel
theorem t241_34 : am_T 241 34 = some (3, .invokevirtual 394, 37, [1, 12, 235], .null) := by decide +kernel
theorem t241_37 : am_T 241 37 = some (0, .aload_n 0, 38, [], .null) := by decide +kernel
theorem t241_38 : am_T 241 38 = some (2, .getfield 58, 41, [30, 12], .null) := by decide +kernel
theorem t241_41 : am_T 241 41 = some (0, .iload_n 2, 42, [], .null) := by decide +kernel
theorem t241_42 : am_T 241 42 = some (2, .iaload, 43, [], .null) := by decide +kernel
theorem t241_43 : am_T 241 43 = some (0, .istore 4, 45, [], .null) := by decide +kernel
theorem t241_45 : am_T 241 45 = some (0, .iload 4, 47, [], .null) := by decide +kernel
theorem t241_47 : am_T 241 47 = some (0, .iconst 1, 48, [], .int (1)) := by decide +kernel
theorem t241_48 : am_T 241 48 = some (0, .isub, 49, [], .null) := by decide +kernel
theorem t241_49 : am_T 241 49 = some (0, .istore 5, 51, [], .null) := by decide +kernel
theorem t241_51 : am_T 241 51 = some (0, .iload 5, 53, [], .null) := by decide +kernel
theorem t241_53 : am_T 241 53 = some (1, .ifCond .lt 108, 56, [161], .null) := by decide +kernel
theorem t241_56 : am_T 241 56 = some (0, .iconst 0, 57, [], .int (0)) := by decide +kernel
theorem t241_57 : am_T 241 57 = some (0, .istore 6, 59, [], .null) := by decide +kernel
theorem t241_59 : am_T 241 59 = some (0, .iload 6, 61, [], .null) := by decide +kernel
theorem t241_61 : am_T 241 61 = some (0, .aload_n 0, 62, [], .null) := by decide +kernel
theorem t241_62 : am_T 241 62 = some (3, .invokevirtual 374, 65, [1, 12, 209], .null) := by decide +kernel
theorem t241_65 : am_T 241 65 = some (1, .if_icmp .ge 90, 68, [155], .null) := by decide +kernel
theorem t241_68 : am_T 241 68 = some (0, .sipush 1000, 71, [], .int (1000)) := by decide +kernel
theorem t241_71 : am_T 241 71 = some (0, .istore 7, 73, [], .null) := by decide +kernel
theorem t241_73 : am_T 241 73 = some (0, .aload_n 0, 74, [], .null) := by decide +kernel
theorem t241_74 : am_T 241 74 = some (0, .iload 6, 76, [], .null) := by decide +kernel
theorem t241_76 : am_T 241 76 = some (3, .invokevirtual 377, 79, [2, 12, 214], .null) := by decide +kernel
theorem t241_79 : am_T 241 79 = some (1, .ifCond .eq 54, 82, [133], .null) := by decide +kernel
theorem t241_82 : am_T 241 82 = some (0, .aload_n 0, 83, [], .null) := by decide +kernel
theorem t241_83 : am_T 241 83 = some (0, .iload_n 1, 84, [], .null) := by decide +kernel
theorem t241_84 : am_T 241 84 = some (0, .iload 6, 86, [], .null) := by decide +kernel
theorem t241_86 : am_T 241 86 = some (3, .invokevirtual 356, 89, [3, 12, 231], .null) := by decide +kernel
theorem t241_89 : am_T 241 89 = some (0, .aload_n 0, 90, [], .null) := by decide +kernel
theorem t241_90 : am_T 241 90 = some (2, .getfield 55, 93, [29, 12], .null) := by decide +kernel
theorem t241_93 : am_T 241 93 = some (0, .bipush 8, 95, [], .int (8)) := by decide +kernel
theorem t241_95 : am_T 241 95 = some (0, .iload_n 2, 96, [], .null) := by decide +kernel
theorem t241_96 : am_T 241 96 = some (0, .imul, 97, [], .null) := by decide +kernel
theorem t241_97 : am_T 241 97 = some (0, .iload 5, 99, [], .null) := by decide +kernel
theorem t241_99 : am_T 241 99 = some (0, .iadd, 100, [], .null) := by decide +kernel
theorem t241_100 : am_T 241 100 = some (2, .iaload, 101, [], .null) := by decide +kernel
theorem t241_101 : am_T 241 101 = some (1, .if_icmp .ne 32, 104, [133], .null) := by decide +kernel
theorem t241_104 : am_T 241 104 = some (0, .iload 5, 106, [], .null) := by decide +kernel
theorem t241_106 : am_T 241 106 = some (0, .iload 4, 108, [], .null) := by decide +kernel
theorem t241_108 : am_T 241 108 = some (0, .iconst 1, 109, [], .int (1)) := by decide +kernel
theorem t241_109 : am_T 241 109 = some (0, .isub, 110, [], .null) := by decide +kernel
theorem t241_110 : am_T 241 110 = some (1, .if_icmp .ne 7, 113, [117], .null) := by decide +kernel
theorem t241_113 : am_T 241 113 = some (0, .iconst 0, 114, [], .int (0)) := by decide +kernel
theorem t241_114 : am_T 241 114 = some (1, .goto 17, 117, [131], .null) := by decide +kernel
theorem t241_117 : am_T 241 117 = some (0, .aload_n 0, 118, [], .null) := by decide +kernel
theorem t241_118 : am_T 241 118 = some (0, .iload 6, 120, [], .null) := by decide +kernel
theorem t241_120 : am_T 241 120 = some (0, .iload 5, 122, [], .null) := by decide +kernel
theorem t241_122 : am_T 241 122 = some (0, .iconst 1, 123, [], .int (1)) := by decide +kernel
theorem t241_123 : am_T 241 123 = some (0, .iadd, 124, [], .null) := by decide +kernel
theorem t241_124 : am_T 241 124 = some (0, .aload_n 0, 125, [], .null) := by decide +kernel
theorem t241_125 : am_T 241 125 = some (2, .getfield 301, 128, [21, 12], .null) := by decide +kernel
theorem t241_128 : am_T 241 128 = some (3, .invokevirtual 397, 131, [4, 12, 242], .null) := by decide +kernel
theorem t241_131 : am_T 241 131 = some (0, .istore 7, 133, [], .null) := by decide +kernel
theorem t241_133 : am_T 241 133 = some (0, .aload_n 0, 134, [], .null) := by decide +kernel
theorem t241_134 : am_T 241 134 = some (2, .getfield 90, 137, [47, 12], .null) := by decide +kernel
theorem t241_137 : am_T 241 137 = some (0, .sipush 243, 140, [], .int (243)) := by decide +kernel
theorem t241_140 : am_T 241 140 = some (0, .iload 5, 142, [], .null) := by decide +kernel
theorem t241_142 : am_T 241 142 = some (0, .imul, 143, [], .null) := by decide +kernel
theorem t241_143 : am_T 241 143 = some (0, .iload 6, 145, [], .null) := by decide +kernel
theorem t241_145 : am_T 241 145 = some (0, .iadd, 146, [], .null) := by decide +kernel
theorem t241_146 : am_T 241 146 = some (0, .iload 7, 148, [], .null) := by decide +kernel
theorem t241_148 : am_T 241 148 = some (2, .iastore, 149, [], .null) := by decide +kernel
theorem t241_149 : am_T 241 149 = some (0, .iinc 6 1, 152, [], .int (1)) := by decide +kernel
theorem t241_152 : am_T 241 152 = some (1, .goto (-93), 155, [59], .null) := by decide +kernel
theorem t241_155 : am_T 241 155 = some (0, .iinc 5 (-1), 158, [], .int (-1)) := by decide +kernel
theorem t241_158 : am_T 241 158 = some (1, .goto (-107), 161, [51], .null) := by decide +kernel
theorem t241_161 : am_T 241 161 = some (0, .iconst (-1), 162, [], .int (-1)) := by decide +kernel
theorem t241_162 : am_T 241 162 = some (0, .istore 5, 164, [], .null) := by decide +kernel
theorem t241_164 : am_T 241 164 = some (0, .sipush 1000, 167, [], .int (1000)) := by decide +kernel
theorem t241_167 : am_T 241 167 = some (0, .istore 6, 169, [], .null) := by decide +kernel
theorem t241_169 : am_T 241 169 = some (0, .iconst 0, 170, [], .int (0)) := by decide +kernel
theorem t241_170 : am_T 241 170 = some (0, .istore 7, 172, [], .null) := by decide +kernel
theorem t241_172 : am_T 241 172 = some (0, .iload 7, 174, [], .null) := by decide +kernel
theorem t241_174 : am_T 241 174 = some (0, .aload_n 0, 175, [], .null) := by decide +kernel
theorem t241_175 : am_T 241 175 = some (3, .invokevirtual 374, 178, [1, 12, 209], .null) := by decide +kernel
theorem t241_178 : am_T 241 178 = some (1, .if_icmp .ge 88, 181, [266], .null) := by decide +kernel
theorem t241_181 : am_T 241 181 = some (0, .aload_n 0, 182, [], .null) := by decide +kernel
theorem t241_182 : am_T 241 182 = some (0, .iload 7, 184, [], .null) := by decide +kernel
theorem t241_184 : am_T 241 184 = some (3, .invokevirtual 377, 187, [2, 12, 214], .null) := by decide +kernel
theorem t241_187 : am_T 241 187 = some (1, .ifCond .eq 73, 190, [260], .null) := by decide +kernel
theorem t241_190 : am_T 241 190 = some (0, .aload_n 0, 191, [], .null) := by decide +kernel
theorem t241_191 : am_T 241 191 = some (2, .getfield 87, 194, [46, 12], .null) := by decide +kernel
theorem t241_194 : am_T 241 194 = some (0, .sipush 243, 197, [], .int (243)) := by decide +kernel
theorem t241_197 : am_T 241 197 = some (0, .aload_n 0, 198, [], .null) := by decide +kernel
theorem t241_198 : am_T 241 198 = some (2, .getfield 304, 201, [33, 12], .null) := by decide +kernel
theorem t241_201 : am_T 241 201 = some (0, .imul, 202, [], .null) := by decide +kernel
theorem t241_202 : am_T 241 202 = some (0, .iload 7, 204, [], .null) := by decide +kernel
theorem t241_204 : am_T 241 204 = some (0, .iadd, 205, [], .null) := by decide +kernel
theorem t241_205 : am_T 241 205 = some (2, .iaload, 206, [], .null) := by decide +kernel
theorem t241_206 : am_T 241 206 = some (0, .aload_n 0, 207, [], .null) := by decide +kernel
theorem t241_207 : am_T 241 207 = some (2, .getfield 310, 210, [35, 12], .null) := by decide +kernel
theorem t241_210 : am_T 241 210 = some (1, .if_icmp .le 6, 213, [216], .null) := by decide +kernel
theorem t241_213 : am_T 241 213 = some (1, .goto 47, 216, [260], .null) := by decide +kernel
theorem t241_216 : am_T 241 216 = some (0, .aload_n 0, 217, [], .null) := by decide +kernel
theorem t241_217 : am_T 241 217 = some (2, .getfield 87, 220, [46, 12], .null) := by decide +kernel
theorem t241_220 : am_T 241 220 = some (0, .sipush 243, 223, [], .int (243)) := by decide +kernel
theorem t241_223 : am_T 241 223 = some (0, .aload_n 0, 224, [], .null) := by decide +kernel
theorem t241_224 : am_T 241 224 = some (2, .getfield 304, 227, [33, 12], .null) := by decide +kernel
theorem t241_227 : am_T 241 227 = some (0, .imul, 228, [], .null) := by decide +kernel
theorem t241_228 : am_T 241 228 = some (0, .iload 7, 230, [], .null) := by decide +kernel
theorem t241_230 : am_T 241 230 = some (0, .iadd, 231, [], .null) := by decide +kernel
theorem t241_231 : am_T 241 231 = some (2, .iaload, 232, [], .null) := by decide +kernel
theorem t241_232 : am_T 241 232 = some (0, .aload_n 0, 233, [], .null) := by decide +kernel
theorem t241_233 : am_T 241 233 = some (2, .getfield 90, 236, [47, 12], .null) := by decide +kernel
theorem t241_236 : am_T 241 236 = some (0, .iload 7, 238, [], .null) := by decide +kernel
theorem t241_238 : am_T 241 238 = some (2, .iaload, 239, [], .null) := by decide +kernel
theorem t241_239 : am_T 241 239 = some (0, .iadd, 240, [], .null) := by decide +kernel
theorem t241_240 : am_T 241 240 = some (0, .istore 8, 242, [], .null) := by decide +kernel
theorem t241_242 : am_T 241 242 = some (0, .iload 8, 244, [], .null) := by decide +kernel
theorem t241_244 : am_T 241 244 = some (0, .iload 6, 246, [], .null) := by decide +kernel
theorem t241_246 : am_T 241 246 = some (1, .if_icmp .lt 6, 249, [252], .null) := by decide +kernel
theorem t241_249 : am_T 241 249 = some (1, .goto 11, 252, [260], .null) := by decide +kernel
theorem t241_252 : am_T 241 252 = some (0, .iload 7, 254, [], .null) := by decide +kernel
theorem t241_254 : am_T 241 254 = some (0, .istore 5, 256, [], .null) := by decide +kernel
theorem t241_256 : am_T 241 256 = some (0, .iload 8, 258, [], .null) := by decide +kernel
theorem t241_258 : am_T 241 258 = some (0, .istore 6, 260, [], .null) := by decide +kernel
theorem t241_260 : am_T 241 260 = some (0, .iinc 7 1, 263, [], .int (1)) := by decide +kernel
theorem t241_263 : am_T 241 263 = some (1, .goto (-91), 266, [172], .null) := by decide +kernel
theorem t241_266 : am_T 241 266 = some (0, .iload 5, 268, [], .null) := by decide +kernel
theorem t241_268 : am_T 241 268 = some (0, .iconst (-1), 269, [], .int (-1)) := by decide +kernel
theorem t241_269 : am_T 241 269 = some (1, .if_icmp .ne 7, 272, [276], .null) := by decide +kernel
theorem t241_272 : am_T 241 272 = some (0, .iconst (-1), 273, [], .int (-1)) := by decide +kernel
theorem t241_273 : am_T 241 273 = some (1, .goto 18, 276, [291], .null) := by decide +kernel
theorem t241_276 : am_T 241 276 = some (0, .iload_n 3, 277, [], .null) := by decide +kernel
theorem t241_277 : am_T 241 277 = some (1, .ifCond .ne 8, 280, [285], .null) := by decide +kernel
theorem t241_280 : am_T 241 280 = some (0, .iload 6, 282, [], .null) := by decide +kernel
theorem t241_282 : am_T 241 282 = some (1, .goto 9, 285, [291], .null) := by decide +kernel
theorem t241_285 : am_T 241 285 = some (0, .aload_n 0, 286, [], .null) := by decide +kernel
theorem t241_286 : am_T 241 286 = some (0, .iload 5, 288, [], .null) := by decide +kernel
theorem t241_288 : am_T 241 288 = some (3, .invokevirtual 388, 291, [2, 12, 215], .null) := by decide +kernel
theorem t241_291 : am_T 241 291 = some (4, .ireturn, 292, [0], .null) := by decide +kernel
theorem t242_0 : am_T 242 0 = some (0, .sipush 1000, 3, [], .int (1000)) := by decide +kernel
theorem t242_3 : am_T 242 3 = some (0, .istore 4, 5, [], .null) := by decide +kernel
theorem t242_5 : am_T 242 5 = some (0, .iconst 0, 6, [], .int (0)) := by decide +kernel
theorem t242_6 : am_T 242 6 = some (0, .istore 5, 8, [], .null) := by decide +kernel
theorem t242_8 : am_T 242 8 = some (0, .iload 5, 10, [], .null) := by decide +kernel
theorem t242_10 : am_T 242 10 = some (0, .aload_n 0, 11, [], .null) := by decide +kernel
theorem t242_11 : am_T 242 11 = some (3, .invokevirtual 374, 14, [1, 12, 209], .null) := by decide +kernel
theorem t242_14 : am_T 242 14 = some (1, .if_icmp .ge 69, 17, [83], .null) := by decide +kernel
theorem t242_17 : am_T 242 17 = some (0, .aload_n 0, 18, [], .null) := by decide +kernel
theorem t242_18 : am_T 242 18 = some (0, .iload 5, 20, [], .null) := by decide +kernel
theorem t242_20 : am_T 242 20 = some (3, .invokevirtual 377, 23, [2, 12, 214], .null) := by decide +kernel
theorem t242_23 : am_T 242 23 = some (1, .ifCond .eq 54, 26, [77], .null) := by decide +kernel
theorem t242_26 : am_T 242 26 = some (0, .aload_n 0, 27, [], .null) := by decide +kernel
theorem t242_27 : am_T 242 27 = some (2, .getfield 87, 30, [46, 12], .null) := by decide +kernel
theorem t242_30 : am_T 242 30 = some (0, .sipush 243, 33, [], .int (243)) := by decide +kernel
theorem t242_33 : am_T 242 33 = some (0, .iload_n 1, 34, [], .null) := by decide +kernel
theorem t242_34 : am_T 242 34 = some (0, .imul, 35, [], .null) := by decide +kernel
theorem t242_35 : am_T 242 35 = some (0, .iload 5, 37, [], .null) := by decide +kernel
theorem t242_37 : am_T 242 37 = some (0, .iadd, 38, [], .null) := by decide +kernel
theorem t242_38 : am_T 242 38 = some (2, .iaload, 39, [], .null) := by decide +kernel
theorem t242_39 : am_T 242 39 = some (0, .iload_n 3, 40, [], .null) := by decide +kernel
theorem t242_40 : am_T 242 40 = some (1, .if_icmp .gt 37, 43, [77], .null) := by decide +kernel
theorem t242_43 : am_T 242 43 = some (0, .iload 4, 45, [], .null) := by decide +kernel
theorem t242_45 : am_T 242 45 = some (0, .aload_n 0, 46, [], .null) := by decide +kernel
theorem t242_46 : am_T 242 46 = some (2, .getfield 87, 49, [46, 12], .null) := by decide +kernel
theorem t242_49 : am_T 242 49 = some (0, .sipush 243, 52, [], .int (243)) := by decide +kernel
theorem t242_52 : am_T 242 52 = some (0, .iload_n 1, 53, [], .null) := by decide +kernel
theorem t242_53 : am_T 242 53 = some (0, .imul, 54, [], .null) := by decide +kernel
theorem t242_54 : am_T 242 54 = some (0, .iload 5, 56, [], .null) := by decide +kernel
theorem t242_56 : am_T 242 56 = some (0, .iadd, 57, [], .null) := by decide +kernel
theorem t242_57 : am_T 242 57 = some (2, .iaload, 58, [], .null) := by decide +kernel
theorem t242_58 : am_T 242 58 = some (0, .aload_n 0, 59, [], .null) := by decide +kernel
theorem t242_59 : am_T 242 59 = some (2, .getfield 90, 62, [47, 12], .null) := by decide +kernel
theorem t242_62 : am_T 242 62 = some (0, .sipush 243, 65, [], .int (243)) := by decide +kernel
theorem t242_65 : am_T 242 65 = some (0, .iload_n 2, 66, [], .null) := by decide +kernel
theorem t242_66 : am_T 242 66 = some (0, .imul, 67, [], .null) := by decide +kernel
theorem t242_67 : am_T 242 67 = some (0, .iload 5, 69, [], .null) := by decide +kernel
theorem t242_69 : am_T 242 69 = some (0, .iadd, 70, [], .null) := by decide +kernel
theorem t242_70 : am_T 242 70 = some (2, .iaload, 71, [], .null) := by decide +kernel
theorem t242_71 : am_T 242 71 = some (0, .iadd, 72, [], .null) := by decide +kernel
theorem t242_72 : am_T 242 72 = some (2, .invokestatic 400, 75, [0], .null) := by decide +kernel
theorem t242_75 : am_T 242 75 = some (0, .istore 4, 77, [], .null) := by decide +kernel
theorem t242_77 : am_T 242 77 = some (0, .iinc 5 1, 80, [], .int (1)) := by decide +kernel
theorem t242_80 : am_T 242 80 = some (1, .goto (-72), 83, [8], .null) := by decide +kernel
theorem t242_83 : am_T 242 83 = some (0, .iload 4, 85, [], .null) := by decide +kernel
theorem t242_85 : am_T 242 85 = some (4, .ireturn, 86, [0], .null) := by decide +kernel
theorem t243_0 : am_T 243 0 = some (0, .aload_n 0, 1, [], .null) := by decide +kernel
theorem t243_1 : am_T 243 1 = some (0, .iconst 0, 2, [], .int (0)) := by decide +kernel
theorem t243_2 : am_T 243 2 = some (2, .putfield 128, 5, [0, 0, 12], .null) := by decide +kernel
theorem t243_5 : am_T 243 5 = some (0, .aload_n 0, 6, [], .null) := by decide +kernel
theorem t243_6 : am_T 243 6 = some (0, .iload_n 1, 7, [], .null) := by decide +kernel
theorem t243_7 : am_T 243 7 = some (3, .invokevirtual 353, 10, [2, 12, 218], .null) := by decide +kernel
theorem t243_10 : am_T 243 10 = some (1, .ifCond .eq 11, 13, [21], .null) := by decide +kernel
theorem t243_13 : am_T 243 13 = some (0, .aload_n 0, 14, [], .null) := by decide +kernel
theorem t243_14 : am_T 243 14 = some (0, .iload_n 2, 15, [], .null) := by decide +kernel
theorem t243_15 : am_T 243 15 = some (3, .invokevirtual 391, 18, [2, 12, 240], .null) := by decide +kernel
theorem t243_18 : am_T 243 18 = some (1, .ifCond .ne 5, 21, [23], .null) := by decide +kernel
theorem t243_21 : am_T 243 21 = some (0, .iconst (-1), 22, [], .int (-1)) := by decide +kernel
theorem t243_22 : am_T 243 22 = some (4, .ireturn, 23, [0], .null) := by decide +kernel
theorem t243_23 : am_T 243 23 = some (0, .aload_n 0, 24, [], .null) := by decide +kernel
theorem t243_24 : am_T 243 24 = some (3, .invokevirtual 394, 27, [1, 12, 235], .null) := by decide +kernel
theorem t243_27 : am_T 243 27 = some (0, .aload_n 0, 28, [], .null) := by decide +kernel
theorem t243_28 : am_T 243 28 = some (2, .getfield 58, 31, [30, 12], .null) := by decide +kernel
theorem t243_31 : am_T 243 31 = some (0, .iload_n 2, 32, [], .null) := by decide +kernel
theorem t243_32 : am_T 243 32 = some (2, .iaload, 33, [], .null) := by decide +kernel
theorem t243_33 : am_T 243 33 = some (0, .istore_n 3, 34, [], .null) := by decide +kernel
theorem t243_34 : am_T 243 34 = some (0, .iconst 0, 35, [], .int (0)) := by decide +kernel
theorem t243_35 : am_T 243 35 = some (0, .istore 4, 37, [], .null) := by decide +kernel
theorem t243_37 : am_T 243 37 = some (0, .iload 4, 39, [], .null) := by decide +kernel
theorem t243_39 : am_T 243 39 = some (0, .sipush 2187, 42, [], .int (2187)) := by decide +kernel
theorem t243_42 : am_T 243 42 = some (1, .if_icmp .ge 17, 45, [59], .null) := by decide +kernel
theorem t243_45 : am_T 243 45 = some (0, .aload_n 0, 46, [], .null) := by decide +kernel
theorem t243_46 : am_T 243 46 = some (2, .getfield 93, 49, [48, 12], .null) := by decide +kernel
theorem t243_49 : am_T 243 49 = some (0, .iload 4, 51, [], .null) := by decide +kernel
theorem t243_51 : am_T 243 51 = some (0, .iconst 0, 52, [], .int (0)) := by decide +kernel
theorem t243_52 : am_T 243 52 = some (2, .bastore, 53, [], .null) := by decide +kernel
theorem t243_53 : am_T 243 53 = some (0, .iinc 4 1, 56, [], .int (1)) := by decide +kernel
theorem t243_56 : am_T 243 56 = some (1, .goto (-19), 59, [37], .null) := by decide +kernel
theorem t243_59 : am_T 243 59 = some (0, .aload_n 0, 60, [], .null) := by decide +kernel
theorem t243_60 : am_T 243 60 = some (2, .getfield 93, 63, [48, 12], .null) := by decide +kernel
theorem t243_63 : am_T 243 63 = some (0, .aload_n 0, 64, [], .null) := by decide +kernel
theorem t243_64 : am_T 243 64 = some (2, .getfield 304, 67, [33, 12], .null) := by decide +kernel
theorem t243_67 : am_T 243 67 = some (0, .iconst 1, 68, [], .int (1)) := by decide +kernel
theorem t243_68 : am_T 243 68 = some (2, .bastore, 69, [], .null) := by decide +kernel
theorem t243_69 : am_T 243 69 = some (0, .iconst 1, 70, [], .int (1)) := by decide +kernel
theorem t243_70 : am_T 243 70 = some (0, .istore 4, 72, [], .null) := by decide +kernel
theorem t243_72 : am_T 243 72 = some (0, .iload 4, 74, [], .null) := by decide +kernel
theorem t243_74 : am_T 243 74 = some (0, .bipush 60, 76, [], .int (60)) := by decide +kernel
theorem t243_76 : am_T 243 76 = some (1, .if_icmp .gt 179, 79, [255], .null) := by decide +kernel
theorem t243_79 : am_T 243 79 = some (0, .iconst 0, 80, [], .int (0)) := by decide +kernel
theorem t243_80 : am_T 243 80 = some (0, .istore 5, 82, [], .null) := by decide +kernel
theorem t243_82 : am_T 243 82 = some (0, .iload 5, 84, [], .null) := by decide +kernel
theorem t243_84 : am_T 243 84 = some (0, .sipush 2187, 87, [], .int (2187)) := by decide +kernel
theorem t243_87 : am_T 243 87 = some (1, .if_icmp .ge 17, 90, [104], .null) := by decide +kernel
theorem t243_90 : am_T 243 90 = some (0, .aload_n 0, 91, [], .null) := by decide +kernel
theorem t243_91 : am_T 243 91 = some (2, .getfield 97, 94, [49, 12], .null) := by decide +kernel
theorem t243_94 : am_T 243 94 = some (0, .iload 5, 96, [], .null) := by decide +kernel
theorem t243_96 : am_T 243 96 = some (0, .iconst 0, 97, [], .int (0)) := by decide +kernel
theorem t243_97 : am_T 243 97 = some (2, .bastore, 98, [], .null) := by decide +kernel
theorem t243_98 : am_T 243 98 = some (0, .iinc 5 1, 101, [], .int (1)) := by decide +kernel
theorem t243_101 : am_T 243 101 = some (1, .goto (-19), 104, [82], .null) := by decide +kernel
theorem t243_104 : am_T 243 104 = some (0, .iconst 0, 105, [], .int (0)) := by decide +kernel
theorem t243_105 : am_T 243 105 = some (0, .istore 5, 107, [], .null) := by decide +kernel
theorem t243_107 : am_T 243 107 = some (0, .iload 5, 109, [], .null) := by decide +kernel
theorem t243_109 : am_T 243 109 = some (0, .iload_n 3, 110, [], .null) := by decide +kernel
theorem t243_110 : am_T 243 110 = some (1, .if_icmp .ge 71, 113, [181], .null) := by decide +kernel
theorem t243_113 : am_T 243 113 = some (0, .iconst 0, 114, [], .int (0)) := by decide +kernel
theorem t243_114 : am_T 243 114 = some (0, .istore 6, 116, [], .null) := by decide +kernel
theorem t243_116 : am_T 243 116 = some (0, .iload 6, 118, [], .null) := by decide +kernel
theorem t243_118 : am_T 243 118 = some (0, .aload_n 0, 119, [], .null) := by decide +kernel
theorem t243_119 : am_T 243 119 = some (3, .invokevirtual 374, 122, [1, 12, 209], .null) := by decide +kernel
theorem t243_122 : am_T 243 122 = some (1, .if_icmp .ge 53, 125, [175], .null) := by decide +kernel
theorem t243_125 : am_T 243 125 = some (0, .aload_n 0, 126, [], .null) := by decide +kernel
theorem t243_126 : am_T 243 126 = some (2, .getfield 93, 129, [48, 12], .null) := by decide +kernel
theorem t243_129 : am_T 243 129 = some (0, .sipush 243, 132, [], .int (243)) := by decide +kernel
theorem t243_132 : am_T 243 132 = some (0, .iload 5, 134, [], .null) := by decide +kernel
theorem t243_134 : am_T 243 134 = some (0, .imul, 135, [], .null) := by decide +kernel
theorem t243_135 : am_T 243 135 = some (0, .iload 6, 137, [], .null) := by decide +kernel
theorem t243_137 : am_T 243 137 = some (0, .iadd, 138, [], .null) := by decide +kernel
theorem t243_138 : am_T 243 138 = some (2, .baload, 139, [], .null) := by decide +kernel
theorem t243_139 : am_T 243 139 = some (1, .ifCond .eq 30, 142, [169], .null) := by decide +kernel
theorem t243_142 : am_T 243 142 = some (0, .aload_n 0, 143, [], .null) := by decide +kernel
theorem t243_143 : am_T 243 143 = some (0, .iload_n 1, 144, [], .null) := by decide +kernel
theorem t243_144 : am_T 243 144 = some (0, .iload_n 2, 145, [], .null) := by decide +kernel
theorem t243_145 : am_T 243 145 = some (0, .iload 5, 147, [], .null) := by decide +kernel
theorem t243_147 : am_T 243 147 = some (0, .iload 6, 149, [], .null) := by decide +kernel
theorem t243_149 : am_T 243 149 = some (0, .iload 4, 151, [], .null) := by decide +kernel
theorem t243_151 : am_T 243 151 = some (0, .iconst 1, 152, [], .int (1)) := by decide +kernel
theorem t243_152 : am_T 243 152 = some (1, .if_icmp .ne 10, 155, [162], .null) := by decide +kernel
theorem t243_155 : am_T 243 155 = some (0, .aload_n 0, 156, [], .null) := by decide +kernel
theorem t243_156 : am_T 243 156 = some (2, .getfield 310, 159, [35, 12], .null) := by decide +kernel
theorem t243_159 : am_T 243 159 = some (1, .goto 7, 162, [166], .null) := by decide +kernel
theorem t243_162 : am_T 243 162 = some (0, .aload_n 0, 163, [], .null) := by decide +kernel
theorem t243_163 : am_T 243 163 = some (2, .getfield 301, 166, [21, 12], .null) := by decide +kernel
theorem t243_166 : am_T 243 166 = some (3, .invokevirtual 402, 169, [6, 12, 244], .null) := by decide +kernel
theorem t243_169 : am_T 243 169 = some (0, .iinc 6 1, 172, [], .int (1)) := by decide +kernel
theorem t243_172 : am_T 243 172 = some (1, .goto (-56), 175, [116], .null) := by decide +kernel
theorem t243_175 : am_T 243 175 = some (0, .iinc 5 1, 178, [], .int (1)) := by decide +kernel
theorem t243_178 : am_T 243 178 = some (1, .goto (-71), 181, [107], .null) := by decide +kernel
theorem t243_181 : am_T 243 181 = some (0, .iconst 0, 182, [], .int (0)) := by decide +kernel
theorem t243_182 : am_T 243 182 = some (0, .istore 5, 184, [], .null) := by decide +kernel
theorem t243_184 : am_T 243 184 = some (0, .iload 5, 186, [], .null) := by decide +kernel
theorem t243_186 : am_T 243 186 = some (0, .sipush 2187, 189, [], .int (2187)) := by decide +kernel
theorem t243_189 : am_T 243 189 = some (1, .if_icmp .ge 23, 192, [212], .null) := by decide +kernel
theorem t243_192 : am_T 243 192 = some (0, .aload_n 0, 193, [], .null) := by decide +kernel
theorem t243_193 : am_T 243 193 = some (2, .getfield 93, 196, [48, 12], .null) := by decide +kernel
theorem t243_196 : am_T 243 196 = some (0, .iload 5, 198, [], .null) := by decide +kernel
theorem t243_198 : am_T 243 198 = some (0, .aload_n 0, 199, [], .null) := by decide +kernel
theorem t243_199 : am_T 243 199 = some (2, .getfield 97, 202, [49, 12], .null) := by decide +kernel
theorem t243_202 : am_T 243 202 = some (0, .iload 5, 204, [], .null) := by decide +kernel
theorem t243_204 : am_T 243 204 = some (2, .baload, 205, [], .null) := by decide +kernel
theorem t243_205 : am_T 243 205 = some (2, .bastore, 206, [], .null) := by decide +kernel
theorem t243_206 : am_T 243 206 = some (0, .iinc 5 1, 209, [], .int (1)) := by decide +kernel
theorem t243_209 : am_T 243 209 = some (1, .goto (-25), 212, [184], .null) := by decide +kernel
theorem t243_212 : am_T 243 212 = some (0, .iconst 0, 213, [], .int (0)) := by decide +kernel
theorem t243_213 : am_T 243 213 = some (0, .istore 5, 215, [], .null) := by decide +kernel
theorem t243_215 : am_T 243 215 = some (0, .iload 5, 217, [], .null) := by decide +kernel
theorem t243_217 : am_T 243 217 = some (0, .aload_n 0, 218, [], .null) := by decide +kernel
theorem t243_218 : am_T 243 218 = some (3, .invokevirtual 374, 221, [1, 12, 209], .null) := by decide +kernel
theorem t243_221 : am_T 243 221 = some (1, .if_icmp .ge 28, 224, [249], .null) := by decide +kernel
theorem t243_224 : am_T 243 224 = some (0, .aload_n 0, 225, [], .null) := by decide +kernel
theorem t243_225 : am_T 243 225 = some (2, .getfield 93, 228, [48, 12], .null) := by decide +kernel
theorem t243_228 : am_T 243 228 = some (0, .sipush 243, 231, [], .int (243)) := by decide +kernel
theorem t243_231 : am_T 243 231 = some (0, .iload_n 3, 232, [], .null) := by decide +kernel
theorem t243_232 : am_T 243 232 = some (0, .imul, 233, [], .null) := by decide +kernel
theorem t243_233 : am_T 243 233 = some (0, .iload 5, 235, [], .null) := by decide +kernel
theorem t243_235 : am_T 243 235 = some (0, .iadd, 236, [], .null) := by decide +kernel
theorem t243_236 : am_T 243 236 = some (2, .baload, 237, [], .null) := by decide +kernel
theorem t243_237 : am_T 243 237 = some (1, .ifCond .eq 6, 240, [243], .null) := by decide +kernel
theorem t243_240 : am_T 243 240 = some (0, .iload 4, 242, [], .null) := by decide +kernel
theorem t243_242 : am_T 243 242 = some (4, .ireturn, 243, [0], .null) := by decide +kernel
theorem t243_243 : am_T 243 243 = some (0, .iinc 5 1, 246, [], .int (1)) := by decide +kernel
theorem t243_246 : am_T 243 246 = some (1, .goto (-31), 249, [215], .null) := by decide +kernel
theorem t243_249 : am_T 243 249 = some (0, .iinc 4 1, 252, [], .int (1)) := by decide +kernel
theorem t243_252 : am_T 243 252 = some (1, .goto (-180), 255, [72], .null) := by decide +kernel
theorem t243_255 : am_T 243 255 = some (0, .iconst (-1), 256, [], .int (-1)) := by decide +kernel
theorem t243_256 : am_T 243 256 = some (4, .ireturn, 257, [0], .null) := by decide +kernel
theorem t244_0 : am_T 244 0 = some (0, .iconst 0, 1, [], .int (0)) := by decide +kernel
theorem t244_1 : am_T 244 1 = some (0, .istore 6, 3, [], .null) := by decide +kernel
theorem t244_3 : am_T 244 3 = some (0, .iload 6, 5, [], .null) := by decide +kernel
theorem t244_5 : am_T 244 5 = some (0, .aload_n 0, 6, [], .null) := by decide +kernel
theorem t244_6 : am_T 244 6 = some (3, .invokevirtual 374, 9, [1, 12, 209], .null) := by decide +kernel
theorem t244_9 : am_T 244 9 = some (1, .if_icmp .ge 101, 12, [110], .null) := by decide +kernel
theorem t244_12 : am_T 244 12 = some (0, .aload_n 0, 13, [], .null) := by decide +kernel
theorem t244_13 : am_T 244 13 = some (0, .iload 6, 15, [], .null) := by decide +kernel
theorem t244_15 : am_T 244 15 = some (3, .invokevirtual 377, 18, [2, 12, 214], .null) := by decide +kernel
theorem t244_18 : am_T 244 18 = some (1, .ifCond .eq 86, 21, [104], .null) := by decide +kernel
theorem t244_21 : am_T 244 21 = some (0, .aload_n 0, 22, [], .null) := by decide +kernel
theorem t244_22 : am_T 244 22 = some (2, .getfield 87, 25, [46, 12], .null) := by decide +kernel
theorem t244_25 : am_T 244 25 = some (0, .sipush 243, 28, [], .int (243)) := by decide +kernel
theorem t244_28 : am_T 244 28 = some (0, .iload 4, 30, [], .null) := by decide +kernel
theorem t244_30 : am_T 244 30 = some (0, .imul, 31, [], .null) := by decide +kernel
theorem t244_31 : am_T 244 31 = some (0, .iload 6, 33, [], .null) := by decide +kernel
theorem t244_33 : am_T 244 33 = some (0, .iadd, 34, [], .null) := by decide +kernel
theorem t244_34 : am_T 244 34 = some (2, .iaload, 35, [], .null) := by decide +kernel
theorem t244_35 : am_T 244 35 = some (0, .iload 5, 37, [], .null) := by decide +kernel
theorem t244_37 : am_T 244 37 = some (1, .if_icmp .le 6, 40, [43], .null) := by decide +kernel
theorem t244_40 : am_T 244 40 = some (1, .goto 64, 43, [104], .null) := by decide +kernel
theorem t244_43 : am_T 244 43 = some (0, .aload_n 0, 44, [], .null) := by decide +kernel
theorem t244_44 : am_T 244 44 = some (0, .iload_n 1, 45, [], .null) := by decide +kernel
theorem t244_45 : am_T 244 45 = some (0, .iload 6, 47, [], .null) := by decide +kernel
theorem t244_47 : am_T 244 47 = some (3, .invokevirtual 356, 50, [3, 12, 231], .null) := by decide +kernel
theorem t244_50 : am_T 244 50 = some (0, .istore 7, 52, [], .null) := by decide +kernel
theorem t244_52 : am_T 244 52 = some (0, .iload 7, 54, [], .null) := by decide +kernel
theorem t244_54 : am_T 244 54 = some (0, .iconst (-1), 55, [], .int (-1)) := by decide +kernel
theorem t244_55 : am_T 244 55 = some (1, .if_icmp .ne 17, 58, [72], .null) := by decide +kernel
theorem t244_58 : am_T 244 58 = some (0, .aload_n 0, 59, [], .null) := by decide +kernel
theorem t244_59 : am_T 244 59 = some (2, .getfield 97, 62, [49, 12], .null) := by decide +kernel
theorem t244_62 : am_T 244 62 = some (0, .sipush 243, 65, [], .int (243)) := by decide +kernel
theorem t244_65 : am_T 244 65 = some (0, .iload_n 3, 66, [], .null) := by decide +kernel
theorem t244_66 : am_T 244 66 = some (0, .imul, 67, [], .null) := by decide +kernel
theorem t244_67 : am_T 244 67 = some (0, .iload 6, 69, [], .null) := by decide +kernel
theorem t244_69 : am_T 244 69 = some (0, .iadd, 70, [], .null) := by decide +kernel
theorem t244_70 : am_T 244 70 = some (0, .iconst 1, 71, [], .int (1)) := by decide +kernel
theorem t244_71 : am_T 244 71 = some (2, .bastore, 72, [], .null) := by decide +kernel
theorem t244_72 : am_T 244 72 = some (0, .iload 7, 74, [], .null) := by decide +kernel
theorem t244_74 : am_T 244 74 = some (0, .aload_n 0, 75, [], .null) := by decide +kernel
theorem t244_75 : am_T 244 75 = some (2, .getfield 55, 78, [29, 12], .null) := by decide +kernel
theorem t244_78 : am_T 244 78 = some (0, .bipush 8, 80, [], .int (8)) := by decide +kernel
theorem t244_80 : am_T 244 80 = some (0, .iload_n 2, 81, [], .null) := by decide +kernel
theorem t244_81 : am_T 244 81 = some (0, .imul, 82, [], .null) := by decide +kernel
theorem t244_82 : am_T 244 82 = some (0, .iload_n 3, 83, [], .null) := by decide +kernel
theorem t244_83 : am_T 244 83 = some (0, .iadd, 84, [], .null) := by decide +kernel
theorem t244_84 : am_T 244 84 = some (2, .iaload, 85, [], .null) := by decide +kernel
theorem t244_85 : am_T 244 85 = some (1, .if_icmp .ne 19, 88, [104], .null) := by decide +kernel
theorem t244_88 : am_T 244 88 = some (0, .aload_n 0, 89, [], .null) := by decide +kernel
theorem t244_89 : am_T 244 89 = some (2, .getfield 97, 92, [49, 12], .null) := by decide +kernel
theorem t244_92 : am_T 244 92 = some (0, .sipush 243, 95, [], .int (243)) := by decide +kernel
theorem t244_95 : am_T 244 95 = some (0, .iload_n 3, 96, [], .null) := by decide +kernel
theorem t244_96 : am_T 244 96 = some (0, .iconst 1, 97, [], .int (1)) := by decide +kernel
theorem t244_97 : am_T 244 97 = some (0, .iadd, 98, [], .null) := by decide +kernel
theorem t244_98 : am_T 244 98 = some (0, .imul, 99, [], .null) := by decide +kernel
theorem t244_99 : am_T 244 99 = some (0, .iload 6, 101, [], .null) := by decide +kernel
theorem t244_101 : am_T 244 101 = some (0, .iadd, 102, [], .null) := by decide +kernel
theorem t244_102 : am_T 244 102 = some (0, .iconst 1, 103, [], .int (1)) := by decide +kernel
theorem t244_103 : am_T 244 103 = some (2, .bastore, 104, [], .null) := by decide +kernel
theorem t244_104 : am_T 244 104 = some (0, .iinc 6 1, 107, [], .int (1)) := by decide +kernel
theorem t244_107 : am_T 244 107 = some (1, .goto (-104), 110, [3], .null) := by decide +kernel
theorem t244_110 : am_T 244 110 = some (4, .return_, 111, [], .null) := by decide +kernel
theorem t245_0 : am_T 245 0 = some (0, .aload_n 0, 1, [], .null) := by decide +kernel
theorem t245_1 : am_T 245 1 = some (0, .iconst 0, 2, [], .int (0)) := by decide +kernel
theorem t245_2 : am_T 245 2 = some (2, .putfield 128, 5, [0, 0, 12], .null) := by decide +kernel
theorem t245_5 : am_T 245 5 = some (0, .aload_n 0, 6, [], .null) := by decide +kernel
theorem t245_6 : am_T 245 6 = some (0, .iload_n 1, 7, [], .null) := by decide +kernel
theorem t245_7 : am_T 245 7 = some (3, .invokevirtual 353, 10, [2, 12, 218], .null) := by decide +kernel
theorem t245_10 : am_T 245 10 = some (1, .ifCond .eq 27, 13, [37], .null) := by decide +kernel
theorem t245_13 : am_T 245 13 = some (0, .iload_n 2, 14, [], .null) := by decide +kernel
theorem t245_14 : am_T 245 14 = some (0, .i2l, 15, [], .null) := by decide +kernel
theorem t245_15 : am_T 245 15 = some (0, .ldc2_w 406, 18, [], .long (-1)) := by decide +kernel
theorem t245_18 : am_T 245 18 = some (0, .ldc2_w 383, 21, [], .long (7)) := by decide +kernel
theorem t245_21 : am_T 245 21 = some (3, .invokestatic 246, 24, [3, 176], .null) := by decide +kernel
theorem t245_24 : am_T 245 24 = some (1, .ifCond .eq 13, 27, [37], .null) := by decide +kernel
theorem t245_27 : am_T 245 27 = some (0, .iload_n 3, 28, [], .null) := by decide +kernel
theorem t245_28 : am_T 245 28 = some (0, .i2l, 29, [], .null) := by decide +kernel
theorem t245_29 : am_T 245 29 = some (0, .lconst 0, 30, [], .long 0) := by decide +kernel
theorem t245_30 : am_T 245 30 = some (0, .lconst 1, 31, [], .long 1) := by decide +kernel
theorem t245_31 : am_T 245 31 = some (3, .invokestatic 246, 34, [3, 176], .null) := by decide +kernel
theorem t245_34 : am_T 245 34 = some (1, .ifCond .ne 7, 37, [41], .null) := by decide +kernel
theorem t245_37 : am_T 245 37 = some (0, .ldc_w 346, 40, [], .int (-1000000)) := by decide +kernel
theorem t245_40 : am_T 245 40 = some (4, .ireturn, 41, [0], .null) := by decide +kernel
theorem t245_41 : am_T 245 41 = some (0, .aload_n 0, 42, [], .null) := by decide +kernel
theorem t245_42 : am_T 245 42 = some (0, .aload_n 0, 43, [], .null) := by decide +kernel
theorem t245_43 : am_T 245 43 = some (2, .getfield 304, 46, [33, 12], .null) := by decide +kernel
theorem t245_46 : am_T 245 46 = some (3, .invokevirtual 371, 49, [2, 12, 233], .null) := by decide +kernel
theorem t245_49 : am_T 245 49 = some (0, .aload_n 0, 50, [], .null) := by decide +kernel
theorem t245_50 : am_T 245 50 = some (0, .iload_n 1, 51, [], .null) := by decide +kernel
theorem t245_51 : am_T 245 51 = some (0, .aload_n 0, 52, [], .null) := by decide +kernel
theorem t245_52 : am_T 245 52 = some (2, .getfield 304, 55, [33, 12], .null) := by decide +kernel
theorem t245_55 : am_T 245 55 = some (3, .invokevirtual 356, 58, [3, 12, 231], .null) := by decide +kernel
theorem t245_58 : am_T 245 58 = some (0, .iload_n 2, 59, [], .null) := by decide +kernel
theorem t245_59 : am_T 245 59 = some (1, .if_icmp .ne 7, 62, [66], .null) := by decide +kernel
theorem t245_62 : am_T 245 62 = some (0, .iconst 1, 63, [], .int (1)) := by decide +kernel
theorem t245_63 : am_T 245 63 = some (1, .goto 4, 66, [67], .null) := by decide +kernel
theorem t245_66 : am_T 245 66 = some (0, .iconst 0, 67, [], .int (0)) := by decide +kernel
theorem t245_67 : am_T 245 67 = some (0, .istore 4, 69, [], .null) := by decide +kernel
theorem t245_69 : am_T 245 69 = some (0, .iconst 0, 70, [], .int (0)) := by decide +kernel
theorem t245_70 : am_T 245 70 = some (0, .istore 5, 72, [], .null) := by decide +kernel
theorem t245_72 : am_T 245 72 = some (0, .iload 5, 74, [], .null) := by decide +kernel
theorem t245_74 : am_T 245 74 = some (0, .aload_n 0, 75, [], .null) := by decide +kernel
theorem t245_75 : am_T 245 75 = some (2, .getfield 365, 78, [42, 12], .null) := by decide +kernel
theorem t245_78 : am_T 245 78 = some (1, .if_icmp .ge 35, 81, [113], .null) := by decide +kernel
theorem t245_81 : am_T 245 81 = some (0, .iload 4, 83, [], .null) := by decide +kernel
theorem t245_83 : am_T 245 83 = some (0, .aload_n 0, 84, [], .null) := by decide +kernel
theorem t245_84 : am_T 245 84 = some (0, .iload_n 1, 85, [], .null) := by decide +kernel
theorem t245_85 : am_T 245 85 = some (0, .aload_n 0, 86, [], .null) := by decide +kernel
theorem t245_86 : am_T 245 86 = some (2, .getfield 77, 89, [41, 12], .null) := by decide +kernel
theorem t245_89 : am_T 245 89 = some (0, .iload 5, 91, [], .null) := by decide +kernel
theorem t245_91 : am_T 245 91 = some (2, .iaload, 92, [], .null) := by decide +kernel
theorem t245_92 : am_T 245 92 = some (3, .invokevirtual 356, 95, [3, 12, 231], .null) := by decide +kernel
theorem t245_95 : am_T 245 95 = some (0, .iload_n 2, 96, [], .null) := by decide +kernel
theorem t245_96 : am_T 245 96 = some (1, .if_icmp .ne 7, 99, [103], .null) := by decide +kernel
theorem t245_99 : am_T 245 99 = some (0, .iconst 1, 100, [], .int (1)) := by decide +kernel
theorem t245_100 : am_T 245 100 = some (1, .goto 4, 103, [104], .null) := by decide +kernel
theorem t245_103 : am_T 245 103 = some (0, .iconst 0, 104, [], .int (0)) := by decide +kernel
theorem t245_104 : am_T 245 104 = some (0, .iadd, 105, [], .null) := by decide +kernel
theorem t245_105 : am_T 245 105 = some (0, .istore 4, 107, [], .null) := by decide +kernel
theorem t245_107 : am_T 245 107 = some (0, .iinc 5 1, 110, [], .int (1)) := by decide +kernel
theorem t245_110 : am_T 245 110 = some (1, .goto (-38), 113, [72], .null) := by decide +kernel
theorem t245_113 : am_T 245 113 = some (0, .iload_n 3, 114, [], .null) := by decide +kernel
theorem t245_114 : am_T 245 114 = some (1, .ifCond .ne 8, 117, [122], .null) := by decide +kernel
theorem t245_117 : am_T 245 117 = some (0, .iload 4, 119, [], .null) := by decide +kernel
theorem t245_119 : am_T 245 119 = some (1, .goto 9, 122, [128], .null) := by decide +kernel
theorem t245_122 : am_T 245 122 = some (0, .aload_n 0, 123, [], .null) := by decide +kernel
theorem t245_123 : am_T 245 123 = some (2, .getfield 365, 126, [42, 12], .null) := by decide +kernel
theorem t245_126 : am_T 245 126 = some (0, .iconst 1, 127, [], .int (1)) := by decide +kernel
theorem t245_127 : am_T 245 127 = some (0, .iadd, 128, [], .null) := by decide +kernel
theorem t245_128 : am_T 245 128 = some (4, .ireturn, 129, [0], .null) := by decide +kernel
theorem t246_0 : am_T 246 0 = some (0, .aload_n 0, 1, [], .null) := by decide +kernel
theorem t246_1 : am_T 246 1 = some (0, .iload_n 1, 2, [], .null) := by decide +kernel
theorem t246_2 : am_T 246 2 = some (0, .iload_n 2, 3, [], .null) := by decide +kernel
theorem t246_3 : am_T 246 3 = some (3, .invokevirtual 356, 6, [3, 12, 231], .null) := by decide +kernel
theorem t246_6 : am_T 246 6 = some (0, .istore_n 3, 7, [], .null) := by decide +kernel
theorem t246_7 : am_T 246 7 = some (0, .aload_n 0, 8, [], .null) := by decide +kernel
theorem t246_8 : am_T 246 8 = some (0, .iload_n 2, 9, [], .null) := by decide +kernel
theorem t246_9 : am_T 246 9 = some (3, .invokevirtual 371, 12, [2, 12, 233], .null) := by decide +kernel
theorem t246_12 : am_T 246 12 = some (0, .iconst 0, 13, [], .int (0)) := by decide +kernel
theorem t246_13 : am_T 246 13 = some (0, .istore 4, 15, [], .null) := by decide +kernel
theorem t246_15 : am_T 246 15 = some (0, .iload 4, 17, [], .null) := by decide +kernel
theorem t246_17 : am_T 246 17 = some (0, .aload_n 0, 18, [], .null) := by decide +kernel
theorem t246_18 : am_T 246 18 = some (2, .getfield 365, 21, [42, 12], .null) := by decide +kernel
theorem t246_21 : am_T 246 21 = some (1, .if_icmp .ge 37, 24, [58], .null) := by decide +kernel
theorem t246_24 : am_T 246 24 = some (0, .aload_n 0, 25, [], .null) := by decide +kernel
theorem t246_25 : am_T 246 25 = some (0, .iload_n 1, 26, [], .null) := by decide +kernel
theorem t246_26 : am_T 246 26 = some (0, .aload_n 0, 27, [], .null) := by decide +kernel
theorem t246_27 : am_T 246 27 = some (2, .getfield 77, 30, [41, 12], .null) := by decide +kernel
theorem t246_30 : am_T 246 30 = some (0, .iload 4, 32, [], .null) := by decide +kernel
theorem t246_32 : am_T 246 32 = some (2, .iaload, 33, [], .null) := by decide +kernel
theorem t246_33 : am_T 246 33 = some (3, .invokevirtual 356, 36, [3, 12, 231], .null) := by decide +kernel
theorem t246_36 : am_T 246 36 = some (0, .istore 5, 38, [], .null) := by decide +kernel
theorem t246_38 : am_T 246 38 = some (0, .iload 5, 40, [], .null) := by decide +kernel
theorem t246_40 : am_T 246 40 = some (0, .iconst (-1), 41, [], .int (-1)) := by decide +kernel
theorem t246_41 : am_T 246 41 = some (1, .if_icmp .eq 11, 44, [52], .null) := by decide +kernel
theorem t246_44 : am_T 246 44 = some (0, .iload 5, 46, [], .null) := by decide +kernel
theorem t246_46 : am_T 246 46 = some (0, .iload_n 3, 47, [], .null) := by decide +kernel
theorem t246_47 : am_T 246 47 = some (1, .if_icmp .eq 5, 50, [52], .null) := by decide +kernel
theorem t246_50 : am_T 246 50 = some (0, .iconst 0, 51, [], .int (0)) := by decide +kernel
theorem t246_51 : am_T 246 51 = some (4, .ireturn, 52, [1], .null) := by decide +kernel
theorem t246_52 : am_T 246 52 = some (0, .iinc 4 1, 55, [], .int (1)) := by decide +kernel
theorem t246_55 : am_T 246 55 = some (1, .goto (-40), 58, [15], .null) := by decide +kernel
theorem t246_58 : am_T 246 58 = some (0, .iconst 1, 59, [], .int (1)) := by decide +kernel
theorem t246_59 : am_T 246 59 = some (4, .ireturn, 60, [1], .null) := by decide +kernel
theorem t247_0 : am_T 247 0 = some (0, .aload_n 0, 1, [], .null) := by decide +kernel
theorem t247_1 : am_T 247 1 = some (0, .iconst 0, 2, [], .int (0)) := by decide +kernel
theorem t247_2 : am_T 247 2 = some (2, .putfield 128, 5, [0, 0, 12], .null) := by decide +kernel
theorem t247_5 : am_T 247 5 = some (0, .aload_n 0, 6, [], .null) := by decide +kernel
theorem t247_6 : am_T 247 6 = some (0, .iload_n 1, 7, [], .null) := by decide +kernel
theorem t247_7 : am_T 247 7 = some (3, .invokevirtual 353, 10, [2, 12, 218], .null) := by decide +kernel
theorem t247_10 : am_T 247 10 = some (1, .ifCond .eq 15, 13, [25], .null) := by decide +kernel
theorem t247_13 : am_T 247 13 = some (0, .iload_n 2, 14, [], .null) := by decide +kernel
theorem t247_14 : am_T 247 14 = some (3, .invokestatic 385, 17, [1, 237], .null) := by decide +kernel
theorem t247_17 : am_T 247 17 = some (1, .ifCond .eq 8, 20, [25], .null) := by decide +kernel
theorem t247_20 : am_T 247 20 = some (0, .iload_n 3, 21, [], .null) := by decide +kernel
theorem t247_21 : am_T 247 21 = some (0, .iconst (-1), 22, [], .int (-1)) := by decide +kernel
theorem t247_22 : am_T 247 22 = some (1, .if_icmp .ge 5, 25, [27], .null) := by decide +kernel
theorem t247_25 : am_T 247 25 = some (0, .iconst (-1), 26, [], .int (-1)) := by decide +kernel
theorem t247_26 : am_T 247 26 = some (4, .ireturn, 27, [0], .null) := by decide +kernel
theorem t247_27 : am_T 247 27 = some (0, .iconst 0, 28, [], .int (0)) := by decide +kernel
theorem t247_28 : am_T 247 28 = some (0, .istore 4, 30, [], .null) := by decide +kernel
theorem t247_30 : am_T 247 30 = some (0, .iconst 0, 31, [], .int (0)) := by decide +kernel
