theorem t247_31 : am_T 247 31 = some (0, .istore 5, 33, [], .null) := by decide +kernel
theorem t247_33 : am_T 247 33 = some (0, .iload 5, 35, [], .null) := by decide +kernel
theorem t247_35 : am_T 247 35 = some (0, .aload_n 0, 36, [], .null) := by decide +kernel
theorem t247_36 : am_T 247 36 = some (3, .invokevirtual 374, 39, [1, 12, 209], .null) := by decide +kernel
theorem t247_39 : am_T 247 39 = some (1, .if_icmp .ge 58, 42, [97], .null) := by decide +kernel
theorem t247_42 : am_T 247 42 = some (0, .aload_n 0, 43, [], .null) := by decide +kernel
theorem t247_43 : am_T 247 43 = some (0, .iload 5, 45, [], .null) := by decide +kernel
theorem t247_45 : am_T 247 45 = some (3, .invokevirtual 377, 48, [2, 12, 214], .null) := by decide +kernel
theorem t247_48 : am_T 247 48 = some (1, .ifCond .eq 43, 51, [91], .null) := by decide +kernel
theorem t247_51 : am_T 247 51 = some (0, .aload_n 0, 52, [], .null) := by decide +kernel
theorem t247_52 : am_T 247 52 = some (0, .iload_n 1, 53, [], .null) := by decide +kernel
theorem t247_53 : am_T 247 53 = some (0, .iload 5, 55, [], .null) := by decide +kernel
theorem t247_55 : am_T 247 55 = some (3, .invokevirtual 356, 58, [3, 12, 231], .null) := by decide +kernel
theorem t247_58 : am_T 247 58 = some (0, .iload_n 2, 59, [], .null) := by decide +kernel
theorem t247_59 : am_T 247 59 = some (1, .if_icmp .ne 32, 62, [91], .null) := by decide +kernel
theorem t247_62 : am_T 247 62 = some (0, .aload_n 0, 63, [], .null) := by decide +kernel
theorem t247_63 : am_T 247 63 = some (0, .iload_n 1, 64, [], .null) := by decide +kernel
theorem t247_64 : am_T 247 64 = some (0, .iload 5, 66, [], .null) := by decide +kernel
theorem t247_66 : am_T 247 66 = some (3, .invokevirtual 408, 69, [3, 12, 246], .null) := by decide +kernel
theorem t247_69 : am_T 247 69 = some (1, .ifCond .ne 6, 72, [75], .null) := by decide +kernel
theorem t247_72 : am_T 247 72 = some (1, .goto 19, 75, [91], .null) := by decide +kernel
theorem t247_75 : am_T 247 75 = some (0, .iload 4, 77, [], .null) := by decide +kernel
theorem t247_77 : am_T 247 77 = some (0, .iload_n 3, 78, [], .null) := by decide +kernel
theorem t247_78 : am_T 247 78 = some (1, .if_icmp .ne 10, 81, [88], .null) := by decide +kernel
theorem t247_81 : am_T 247 81 = some (0, .aload_n 0, 82, [], .null) := by decide +kernel
theorem t247_82 : am_T 247 82 = some (0, .iload 5, 84, [], .null) := by decide +kernel
theorem t247_84 : am_T 247 84 = some (3, .invokevirtual 388, 87, [2, 12, 215], .null) := by decide +kernel
theorem t247_87 : am_T 247 87 = some (4, .ireturn, 88, [0], .null) := by decide +kernel
theorem t247_88 : am_T 247 88 = some (0, .iinc 4 1, 91, [], .int (1)) := by decide +kernel
theorem t247_91 : am_T 247 91 = some (0, .iinc 5 1, 94, [], .int (1)) := by decide +kernel
theorem t247_94 : am_T 247 94 = some (1, .goto (-61), 97, [33], .null) := by decide +kernel
theorem t247_97 : am_T 247 97 = some (0, .iload_n 3, 98, [], .null) := by decide +kernel
theorem t247_98 : am_T 247 98 = some (0, .iconst (-1), 99, [], .int (-1)) := by decide +kernel
theorem t247_99 : am_T 247 99 = some (1, .if_icmp .ne 8, 102, [107], .null) := by decide +kernel
theorem t247_102 : am_T 247 102 = some (0, .iload 4, 104, [], .null) := by decide +kernel
theorem t247_104 : am_T 247 104 = some (1, .goto 4, 107, [108], .null) := by decide +kernel
theorem t247_107 : am_T 247 107 = some (0, .iconst (-1), 108, [], .int (-1)) := by decide +kernel
theorem t247_108 : am_T 247 108 = some (4, .ireturn, 109, [0], .null) := by decide +kernel
theorem t248_0 : am_T 248 0 = some (0, .aload_n 0, 1, [], .null) := by decide +kernel
theorem t248_1 : am_T 248 1 = some (0, .iconst 0, 2, [], .int (0)) := by decide +kernel
theorem t248_2 : am_T 248 2 = some (2, .putfield 128, 5, [0, 0, 12], .null) := by decide +kernel
theorem t248_5 : am_T 248 5 = some (0, .aload_n 0, 6, [], .null) := by decide +kernel
theorem t248_6 : am_T 248 6 = some (0, .iload_n 1, 7, [], .null) := by decide +kernel
theorem t248_7 : am_T 248 7 = some (3, .invokevirtual 353, 10, [2, 12, 218], .null) := by decide +kernel
theorem t248_10 : am_T 248 10 = some (1, .ifCond .ne 5, 13, [15], .null) := by decide +kernel
theorem t248_13 : am_T 248 13 = some (0, .iconst (-1), 14, [], .int (-1)) := by decide +kernel
theorem t248_14 : am_T 248 14 = some (4, .ireturn, 15, [0], .null) := by decide +kernel
theorem t248_15 : am_T 248 15 = some (0, .aload_n 0, 16, [], .null) := by decide +kernel
theorem t248_16 : am_T 248 16 = some (3, .invokevirtual 394, 19, [1, 12, 235], .null) := by decide +kernel
theorem t248_19 : am_T 248 19 = some (0, .sipush 1000, 22, [], .int (1000)) := by decide +kernel
theorem t248_22 : am_T 248 22 = some (0, .istore_n 2, 23, [], .null) := by decide +kernel
theorem t248_23 : am_T 248 23 = some (0, .iconst 0, 24, [], .int (0)) := by decide +kernel
theorem t248_24 : am_T 248 24 = some (0, .istore_n 3, 25, [], .null) := by decide +kernel
theorem t248_25 : am_T 248 25 = some (0, .iload_n 3, 26, [], .null) := by decide +kernel
theorem t248_26 : am_T 248 26 = some (0, .aload_n 0, 27, [], .null) := by decide +kernel
theorem t248_27 : am_T 248 27 = some (3, .invokevirtual 374, 30, [1, 12, 209], .null) := by decide +kernel
theorem t248_30 : am_T 248 30 = some (1, .if_icmp .ge 102, 33, [132], .null) := by decide +kernel
theorem t248_33 : am_T 248 33 = some (0, .iconst 0, 34, [], .int (0)) := by decide +kernel
theorem t248_34 : am_T 248 34 = some (0, .istore 4, 36, [], .null) := by decide +kernel
theorem t248_36 : am_T 248 36 = some (0, .iload 4, 38, [], .null) := by decide +kernel
theorem t248_38 : am_T 248 38 = some (0, .aload_n 0, 39, [], .null) := by decide +kernel
theorem t248_39 : am_T 248 39 = some (3, .invokevirtual 374, 42, [1, 12, 209], .null) := by decide +kernel
theorem t248_42 : am_T 248 42 = some (1, .if_icmp .ge 84, 45, [126], .null) := by decide +kernel
theorem t248_45 : am_T 248 45 = some (0, .aload_n 0, 46, [], .null) := by decide +kernel
theorem t248_46 : am_T 248 46 = some (0, .iload_n 3, 47, [], .null) := by decide +kernel
theorem t248_47 : am_T 248 47 = some (3, .invokevirtual 377, 50, [2, 12, 214], .null) := by decide +kernel
theorem t248_50 : am_T 248 50 = some (1, .ifCond .eq 70, 53, [120], .null) := by decide +kernel
theorem t248_53 : am_T 248 53 = some (0, .aload_n 0, 54, [], .null) := by decide +kernel
theorem t248_54 : am_T 248 54 = some (0, .iload 4, 56, [], .null) := by decide +kernel
theorem t248_56 : am_T 248 56 = some (3, .invokevirtual 377, 59, [2, 12, 214], .null) := by decide +kernel
theorem t248_59 : am_T 248 59 = some (1, .ifCond .eq 61, 62, [120], .null) := by decide +kernel
theorem t248_62 : am_T 248 62 = some (0, .aload_n 0, 63, [], .null) := by decide +kernel
theorem t248_63 : am_T 248 63 = some (0, .iload_n 1, 64, [], .null) := by decide +kernel
theorem t248_64 : am_T 248 64 = some (0, .iload_n 3, 65, [], .null) := by decide +kernel
theorem t248_65 : am_T 248 65 = some (3, .invokevirtual 356, 68, [3, 12, 231], .null) := by decide +kernel
theorem t248_68 : am_T 248 68 = some (0, .iconst (-1), 69, [], .int (-1)) := by decide +kernel
theorem t248_69 : am_T 248 69 = some (1, .if_icmp .eq 51, 72, [120], .null) := by decide +kernel
theorem t248_72 : am_T 248 72 = some (0, .aload_n 0, 73, [], .null) := by decide +kernel
theorem t248_73 : am_T 248 73 = some (0, .iload_n 1, 74, [], .null) := by decide +kernel
theorem t248_74 : am_T 248 74 = some (0, .iload 4, 76, [], .null) := by decide +kernel
theorem t248_76 : am_T 248 76 = some (3, .invokevirtual 356, 79, [3, 12, 231], .null) := by decide +kernel
theorem t248_79 : am_T 248 79 = some (0, .iconst (-1), 80, [], .int (-1)) := by decide +kernel
theorem t248_80 : am_T 248 80 = some (1, .if_icmp .eq 40, 83, [120], .null) := by decide +kernel
theorem t248_83 : am_T 248 83 = some (0, .aload_n 0, 84, [], .null) := by decide +kernel
theorem t248_84 : am_T 248 84 = some (0, .iload_n 1, 85, [], .null) := by decide +kernel
theorem t248_85 : am_T 248 85 = some (0, .iload_n 3, 86, [], .null) := by decide +kernel
theorem t248_86 : am_T 248 86 = some (3, .invokevirtual 356, 89, [3, 12, 231], .null) := by decide +kernel
theorem t248_89 : am_T 248 89 = some (0, .aload_n 0, 90, [], .null) := by decide +kernel
theorem t248_90 : am_T 248 90 = some (0, .iload_n 1, 91, [], .null) := by decide +kernel
theorem t248_91 : am_T 248 91 = some (0, .iload 4, 93, [], .null) := by decide +kernel
theorem t248_93 : am_T 248 93 = some (3, .invokevirtual 356, 96, [3, 12, 231], .null) := by decide +kernel
theorem t248_96 : am_T 248 96 = some (1, .if_icmp .ne 6, 99, [102], .null) := by decide +kernel
theorem t248_99 : am_T 248 99 = some (1, .goto 21, 102, [120], .null) := by decide +kernel
theorem t248_102 : am_T 248 102 = some (0, .iload_n 2, 103, [], .null) := by decide +kernel
theorem t248_103 : am_T 248 103 = some (0, .aload_n 0, 104, [], .null) := by decide +kernel
theorem t248_104 : am_T 248 104 = some (2, .getfield 87, 107, [46, 12], .null) := by decide +kernel
theorem t248_107 : am_T 248 107 = some (0, .sipush 243, 110, [], .int (243)) := by decide +kernel
theorem t248_110 : am_T 248 110 = some (0, .iload_n 3, 111, [], .null) := by decide +kernel
theorem t248_111 : am_T 248 111 = some (0, .imul, 112, [], .null) := by decide +kernel
theorem t248_112 : am_T 248 112 = some (0, .iload 4, 114, [], .null) := by decide +kernel
theorem t248_114 : am_T 248 114 = some (0, .iadd, 115, [], .null) := by decide +kernel
theorem t248_115 : am_T 248 115 = some (2, .iaload, 116, [], .null) := by decide +kernel
theorem t248_116 : am_T 248 116 = some (2, .invokestatic 400, 119, [0], .null) := by decide +kernel
theorem t248_119 : am_T 248 119 = some (0, .istore_n 2, 120, [], .null) := by decide +kernel
theorem t248_120 : am_T 248 120 = some (0, .iinc 4 1, 123, [], .int (1)) := by decide +kernel
theorem t248_123 : am_T 248 123 = some (1, .goto (-87), 126, [36], .null) := by decide +kernel
theorem t248_126 : am_T 248 126 = some (0, .iinc 3 1, 129, [], .int (1)) := by decide +kernel
theorem t248_129 : am_T 248 129 = some (1, .goto (-104), 132, [25], .null) := by decide +kernel
theorem t248_132 : am_T 248 132 = some (0, .iload_n 2, 133, [], .null) := by decide +kernel
theorem t248_133 : am_T 248 133 = some (0, .sipush 1000, 136, [], .int (1000)) := by decide +kernel
theorem t248_136 : am_T 248 136 = some (1, .if_icmp .ne 7, 139, [143], .null) := by decide +kernel
theorem t248_139 : am_T 248 139 = some (0, .iconst (-1), 140, [], .int (-1)) := by decide +kernel
theorem t248_140 : am_T 248 140 = some (1, .goto 4, 143, [144], .null) := by decide +kernel
theorem t248_143 : am_T 248 143 = some (0, .iload_n 2, 144, [], .null) := by decide +kernel
theorem t248_144 : am_T 248 144 = some (4, .ireturn, 145, [0], .null) := by decide +kernel
theorem t249_0 : am_T 249 0 = some (0, .aload_n 0, 1, [], .null) := by decide +kernel
theorem t249_1 : am_T 249 1 = some (0, .iconst 0, 2, [], .int (0)) := by decide +kernel
theorem t249_2 : am_T 249 2 = some (2, .putfield 128, 5, [0, 0, 12], .null) := by decide +kernel
theorem t249_5 : am_T 249 5 = some (0, .aload_n 0, 6, [], .null) := by decide +kernel
theorem t249_6 : am_T 249 6 = some (0, .iload_n 2, 7, [], .null) := by decide +kernel
theorem t249_7 : am_T 249 7 = some (3, .invokevirtual 362, 10, [2, 12, 216], .null) := by decide +kernel
theorem t249_10 : am_T 249 10 = some (0, .istore_n 3, 11, [], .null) := by decide +kernel
theorem t249_11 : am_T 249 11 = some (0, .aload_n 0, 12, [], .null) := by decide +kernel
theorem t249_12 : am_T 249 12 = some (0, .iload_n 1, 13, [], .null) := by decide +kernel
theorem t249_13 : am_T 249 13 = some (3, .invokevirtual 353, 16, [2, 12, 218], .null) := by decide +kernel
theorem t249_16 : am_T 249 16 = some (1, .ifCond .eq 16, 19, [32], .null) := by decide +kernel
theorem t249_19 : am_T 249 19 = some (0, .iload_n 3, 20, [], .null) := by decide +kernel
theorem t249_20 : am_T 249 20 = some (0, .iconst (-1), 21, [], .int (-1)) := by decide +kernel
theorem t249_21 : am_T 249 21 = some (1, .if_icmp .eq 11, 24, [32], .null) := by decide +kernel
theorem t249_24 : am_T 249 24 = some (0, .aload_n 0, 25, [], .null) := by decide +kernel
theorem t249_25 : am_T 249 25 = some (0, .iload_n 3, 26, [], .null) := by decide +kernel
theorem t249_26 : am_T 249 26 = some (3, .invokevirtual 377, 29, [2, 12, 214], .null) := by decide +kernel
theorem t249_29 : am_T 249 29 = some (1, .ifCond .ne 7, 32, [36], .null) := by decide +kernel
theorem t249_32 : am_T 249 32 = some (0, .ldc_w 346, 35, [], .int (-1000000)) := by decide +kernel
theorem t249_35 : am_T 249 35 = some (4, .ireturn, 36, [0], .null) := by decide +kernel
theorem t249_36 : am_T 249 36 = some (0, .aload_n 0, 37, [], .null) := by decide +kernel
theorem t249_37 : am_T 249 37 = some (0, .iload_n 3, 38, [], .null) := by decide +kernel
theorem t249_38 : am_T 249 38 = some (3, .invokevirtual 380, 41, [2, 12, 234], .null) := by decide +kernel
theorem t249_41 : am_T 249 41 = some (0, .sipush 1000, 44, [], .int (1000)) := by decide +kernel
theorem t249_44 : am_T 249 44 = some (0, .istore 4, 46, [], .null) := by decide +kernel
theorem t249_46 : am_T 249 46 = some (0, .iconst (-1), 47, [], .int (-1)) := by decide +kernel
theorem t249_47 : am_T 249 47 = some (0, .istore 5, 49, [], .null) := by decide +kernel
theorem t249_49 : am_T 249 49 = some (0, .iconst 0, 50, [], .int (0)) := by decide +kernel
theorem t249_50 : am_T 249 50 = some (0, .istore 6, 52, [], .null) := by decide +kernel
theorem t249_52 : am_T 249 52 = some (0, .iload 6, 54, [], .null) := by decide +kernel
theorem t249_54 : am_T 249 54 = some (0, .aload_n 0, 55, [], .null) := by decide +kernel
theorem t249_55 : am_T 249 55 = some (3, .invokevirtual 374, 58, [1, 12, 209], .null) := by decide +kernel
theorem t249_58 : am_T 249 58 = some (1, .if_icmp .ge 110, 61, [168], .null) := by decide +kernel
theorem t249_61 : am_T 249 61 = some (0, .aload_n 0, 62, [], .null) := by decide +kernel
theorem t249_62 : am_T 249 62 = some (0, .iload 6, 64, [], .null) := by decide +kernel
theorem t249_64 : am_T 249 64 = some (3, .invokevirtual 377, 67, [2, 12, 214], .null) := by decide +kernel
theorem t249_67 : am_T 249 67 = some (1, .ifCond .eq 13, 70, [80], .null) := by decide +kernel
theorem t249_70 : am_T 249 70 = some (0, .aload_n 0, 71, [], .null) := by decide +kernel
theorem t249_71 : am_T 249 71 = some (0, .iload_n 1, 72, [], .null) := by decide +kernel
theorem t249_72 : am_T 249 72 = some (0, .iload 6, 74, [], .null) := by decide +kernel
theorem t249_74 : am_T 249 74 = some (3, .invokevirtual 356, 77, [3, 12, 231], .null) := by decide +kernel
theorem t249_77 : am_T 249 77 = some (1, .goto 4, 80, [81], .null) := by decide +kernel
theorem t249_80 : am_T 249 80 = some (0, .iconst (-1), 81, [], .int (-1)) := by decide +kernel
theorem t249_81 : am_T 249 81 = some (0, .istore 7, 83, [], .null) := by decide +kernel
theorem t249_83 : am_T 249 83 = some (0, .iload 7, 85, [], .null) := by decide +kernel
theorem t249_85 : am_T 249 85 = some (0, .iconst (-1), 86, [], .int (-1)) := by decide +kernel
theorem t249_86 : am_T 249 86 = some (1, .if_icmp .eq 76, 89, [162], .null) := by decide +kernel
theorem t249_89 : am_T 249 89 = some (0, .aload_n 0, 90, [], .null) := by decide +kernel
theorem t249_90 : am_T 249 90 = some (2, .getfield 80, 93, [44, 12], .null) := by decide +kernel
theorem t249_93 : am_T 249 93 = some (0, .iload 6, 95, [], .null) := by decide +kernel
theorem t249_95 : am_T 249 95 = some (2, .iaload, 96, [], .null) := by decide +kernel
theorem t249_96 : am_T 249 96 = some (0, .iload 4, 98, [], .null) := by decide +kernel
theorem t249_98 : am_T 249 98 = some (1, .if_icmp .le 6, 101, [104], .null) := by decide +kernel
theorem t249_101 : am_T 249 101 = some (1, .goto 61, 104, [162], .null) := by decide +kernel
theorem t249_104 : am_T 249 104 = some (0, .aload_n 0, 105, [], .null) := by decide +kernel
theorem t249_105 : am_T 249 105 = some (2, .getfield 80, 108, [44, 12], .null) := by decide +kernel
theorem t249_108 : am_T 249 108 = some (0, .iload 6, 110, [], .null) := by decide +kernel
theorem t249_110 : am_T 249 110 = some (2, .iaload, 111, [], .null) := by decide +kernel
theorem t249_111 : am_T 249 111 = some (0, .iload 4, 113, [], .null) := by decide +kernel
theorem t249_113 : am_T 249 113 = some (1, .if_icmp .lt 10, 116, [123], .null) := by decide +kernel
theorem t249_116 : am_T 249 116 = some (0, .iload 5, 118, [], .null) := by decide +kernel
theorem t249_118 : am_T 249 118 = some (0, .iload 7, 120, [], .null) := by decide +kernel
theorem t249_120 : am_T 249 120 = some (1, .if_icmp .ne 8, 123, [128], .null) := by decide +kernel
theorem t249_123 : am_T 249 123 = some (0, .iload 7, 125, [], .null) := by decide +kernel
theorem t249_125 : am_T 249 125 = some (1, .goto 4, 128, [129], .null) := by decide +kernel
theorem t249_128 : am_T 249 128 = some (0, .iconst (-1), 129, [], .int (-1)) := by decide +kernel
theorem t249_129 : am_T 249 129 = some (0, .istore 5, 131, [], .null) := by decide +kernel
theorem t249_131 : am_T 249 131 = some (0, .aload_n 0, 132, [], .null) := by decide +kernel
theorem t249_132 : am_T 249 132 = some (2, .getfield 80, 135, [44, 12], .null) := by decide +kernel
theorem t249_135 : am_T 249 135 = some (0, .iload 6, 137, [], .null) := by decide +kernel
theorem t249_137 : am_T 249 137 = some (2, .iaload, 138, [], .null) := by decide +kernel
theorem t249_138 : am_T 249 138 = some (0, .iload 4, 140, [], .null) := by decide +kernel
theorem t249_140 : am_T 249 140 = some (1, .if_icmp .ne 13, 143, [153], .null) := by decide +kernel
theorem t249_143 : am_T 249 143 = some (0, .iload 5, 145, [], .null) := by decide +kernel
theorem t249_145 : am_T 249 145 = some (0, .iconst (-1), 146, [], .int (-1)) := by decide +kernel
theorem t249_146 : am_T 249 146 = some (1, .if_icmp .ne 7, 149, [153], .null) := by decide +kernel
theorem t249_149 : am_T 249 149 = some (0, .bipush (-2), 151, [], .int (-2)) := by decide +kernel
theorem t249_151 : am_T 249 151 = some (0, .istore 5, 153, [], .null) := by decide +kernel
theorem t249_153 : am_T 249 153 = some (0, .aload_n 0, 154, [], .null) := by decide +kernel
theorem t249_154 : am_T 249 154 = some (2, .getfield 80, 157, [44, 12], .null) := by decide +kernel
theorem t249_157 : am_T 249 157 = some (0, .iload 6, 159, [], .null) := by decide +kernel
theorem t249_159 : am_T 249 159 = some (2, .iaload, 160, [], .null) := by decide +kernel
theorem t249_160 : am_T 249 160 = some (0, .istore 4, 162, [], .null) := by decide +kernel
theorem t249_162 : am_T 249 162 = some (0, .iinc 6 1, 165, [], .int (1)) := by decide +kernel
theorem t249_165 : am_T 249 165 = some (1, .goto (-113), 168, [52], .null) := by decide +kernel
theorem t249_168 : am_T 249 168 = some (0, .iload 5, 170, [], .null) := by decide +kernel
theorem t249_170 : am_T 249 170 = some (1, .ifCond .ge 7, 173, [177], .null) := by decide +kernel
theorem t249_173 : am_T 249 173 = some (0, .iconst (-1), 174, [], .int (-1)) := by decide +kernel
theorem t249_174 : am_T 249 174 = some (1, .goto 5, 177, [179], .null) := by decide +kernel
theorem t249_177 : am_T 249 177 = some (0, .iload 5, 179, [], .null) := by decide +kernel
theorem t249_179 : am_T 249 179 = some (4, .ireturn, 180, [0], .null) := by decide +kernel
theorem t250_0 : am_T 250 0 = some (0, .aload_n 0, 1, [], .null) := by decide +kernel
theorem t250_1 : am_T 250 1 = some (0, .iconst 0, 2, [], .int (0)) := by decide +kernel
theorem t250_2 : am_T 250 2 = some (2, .putfield 128, 5, [0, 0, 12], .null) := by decide +kernel
theorem t250_5 : am_T 250 5 = some (0, .aload_n 0, 6, [], .null) := by decide +kernel
theorem t250_6 : am_T 250 6 = some (0, .iload_n 1, 7, [], .null) := by decide +kernel
theorem t250_7 : am_T 250 7 = some (3, .invokevirtual 353, 10, [2, 12, 218], .null) := by decide +kernel
theorem t250_10 : am_T 250 10 = some (1, .ifCond .eq 44, 13, [54], .null) := by decide +kernel
theorem t250_13 : am_T 250 13 = some (0, .aload_n 0, 14, [], .null) := by decide +kernel
theorem t250_14 : am_T 250 14 = some (0, .iload_n 3, 15, [], .null) := by decide +kernel
theorem t250_15 : am_T 250 15 = some (3, .invokevirtual 353, 18, [2, 12, 218], .null) := by decide +kernel
theorem t250_18 : am_T 250 18 = some (1, .ifCond .eq 36, 21, [54], .null) := by decide +kernel
theorem t250_21 : am_T 250 21 = some (0, .iload_n 2, 22, [], .null) := by decide +kernel
theorem t250_22 : am_T 250 22 = some (3, .invokestatic 385, 25, [1, 237], .null) := by decide +kernel
theorem t250_25 : am_T 250 25 = some (1, .ifCond .eq 29, 28, [54], .null) := by decide +kernel
theorem t250_28 : am_T 250 28 = some (0, .iload 4, 30, [], .null) := by decide +kernel
theorem t250_30 : am_T 250 30 = some (0, .i2l, 31, [], .null) := by decide +kernel
theorem t250_31 : am_T 250 31 = some (0, .ldc2_w 406, 34, [], .long (-1)) := by decide +kernel
theorem t250_34 : am_T 250 34 = some (0, .ldc2_w 383, 37, [], .long (7)) := by decide +kernel
theorem t250_37 : am_T 250 37 = some (3, .invokestatic 246, 40, [3, 176], .null) := by decide +kernel
theorem t250_40 : am_T 250 40 = some (1, .ifCond .eq 14, 43, [54], .null) := by decide +kernel
theorem t250_43 : am_T 250 43 = some (0, .iload 5, 45, [], .null) := by decide +kernel
theorem t250_45 : am_T 250 45 = some (0, .i2l, 46, [], .null) := by decide +kernel
theorem t250_46 : am_T 250 46 = some (0, .lconst 0, 47, [], .long 0) := by decide +kernel
theorem t250_47 : am_T 250 47 = some (0, .lconst 1, 48, [], .long 1) := by decide +kernel
theorem t250_48 : am_T 250 48 = some (3, .invokestatic 246, 51, [3, 176], .null) := by decide +kernel
theorem t250_51 : am_T 250 51 = some (1, .ifCond .ne 5, 54, [56], .null) := by decide +kernel
theorem t250_54 : am_T 250 54 = some (0, .iconst (-1), 55, [], .int (-1)) := by decide +kernel
theorem t250_55 : am_T 250 55 = some (4, .ireturn, 56, [0], .null) := by decide +kernel
theorem t250_56 : am_T 250 56 = some (0, .aload_n 0, 57, [], .null) := by decide +kernel
theorem t250_57 : am_T 250 57 = some (0, .aload_n 0, 58, [], .null) := by decide +kernel
theorem t250_58 : am_T 250 58 = some (2, .getfield 304, 61, [33, 12], .null) := by decide +kernel
theorem t250_61 : am_T 250 61 = some (3, .invokevirtual 380, 64, [2, 12, 234], .null) := by decide +kernel
theorem t250_64 : am_T 250 64 = some (0, .iconst (-1), 65, [], .int (-1)) := by decide +kernel
theorem t250_65 : am_T 250 65 = some (0, .istore 6, 67, [], .null) := by decide +kernel
theorem t250_67 : am_T 250 67 = some (0, .iconst 0, 68, [], .int (0)) := by decide +kernel
theorem t250_68 : am_T 250 68 = some (0, .istore 7, 70, [], .null) := by decide +kernel
theorem t250_70 : am_T 250 70 = some (0, .iload 7, 72, [], .null) := by decide +kernel
theorem t250_72 : am_T 250 72 = some (0, .aload_n 0, 73, [], .null) := by decide +kernel
theorem t250_73 : am_T 250 73 = some (3, .invokevirtual 374, 76, [1, 12, 209], .null) := by decide +kernel
theorem t250_76 : am_T 250 76 = some (1, .if_icmp .ge 68, 79, [144], .null) := by decide +kernel
theorem t250_79 : am_T 250 79 = some (0, .aload_n 0, 80, [], .null) := by decide +kernel
theorem t250_80 : am_T 250 80 = some (0, .iload 7, 82, [], .null) := by decide +kernel
theorem t250_82 : am_T 250 82 = some (3, .invokevirtual 377, 85, [2, 12, 214], .null) := by decide +kernel
theorem t250_85 : am_T 250 85 = some (1, .ifCond .eq 53, 88, [138], .null) := by decide +kernel
theorem t250_88 : am_T 250 88 = some (0, .aload_n 0, 89, [], .null) := by decide +kernel
theorem t250_89 : am_T 250 89 = some (0, .iload_n 1, 90, [], .null) := by decide +kernel
theorem t250_90 : am_T 250 90 = some (0, .iload 7, 92, [], .null) := by decide +kernel
theorem t250_92 : am_T 250 92 = some (3, .invokevirtual 356, 95, [3, 12, 231], .null) := by decide +kernel
theorem t250_95 : am_T 250 95 = some (0, .iload_n 2, 96, [], .null) := by decide +kernel
theorem t250_96 : am_T 250 96 = some (1, .if_icmp .ne 42, 99, [138], .null) := by decide +kernel
theorem t250_99 : am_T 250 99 = some (0, .aload_n 0, 100, [], .null) := by decide +kernel
theorem t250_100 : am_T 250 100 = some (0, .iload_n 3, 101, [], .null) := by decide +kernel
theorem t250_101 : am_T 250 101 = some (0, .iload 7, 103, [], .null) := by decide +kernel
theorem t250_103 : am_T 250 103 = some (3, .invokevirtual 356, 106, [3, 12, 231], .null) := by decide +kernel
theorem t250_106 : am_T 250 106 = some (0, .iload 4, 108, [], .null) := by decide +kernel
theorem t250_108 : am_T 250 108 = some (1, .if_icmp .ne 30, 111, [138], .null) := by decide +kernel
theorem t250_111 : am_T 250 111 = some (0, .iload 6, 113, [], .null) := by decide +kernel
theorem t250_113 : am_T 250 113 = some (0, .iconst (-1), 114, [], .int (-1)) := by decide +kernel
theorem t250_114 : am_T 250 114 = some (1, .if_icmp .eq 20, 117, [134], .null) := by decide +kernel
theorem t250_117 : am_T 250 117 = some (0, .aload_n 0, 118, [], .null) := by decide +kernel
theorem t250_118 : am_T 250 118 = some (2, .getfield 80, 121, [44, 12], .null) := by decide +kernel
theorem t250_121 : am_T 250 121 = some (0, .iload 7, 123, [], .null) := by decide +kernel
theorem t250_123 : am_T 250 123 = some (2, .iaload, 124, [], .null) := by decide +kernel
theorem t250_124 : am_T 250 124 = some (0, .aload_n 0, 125, [], .null) := by decide +kernel
theorem t250_125 : am_T 250 125 = some (2, .getfield 80, 128, [44, 12], .null) := by decide +kernel
theorem t250_128 : am_T 250 128 = some (0, .iload 6, 130, [], .null) := by decide +kernel
theorem t250_130 : am_T 250 130 = some (2, .iaload, 131, [], .null) := by decide +kernel
theorem t250_131 : am_T 250 131 = some (1, .if_icmp .ge 7, 134, [138], .null) := by decide +kernel
theorem t250_134 : am_T 250 134 = some (0, .iload 7, 136, [], .null) := by decide +kernel
theorem t250_136 : am_T 250 136 = some (0, .istore 6, 138, [], .null) := by decide +kernel
theorem t250_138 : am_T 250 138 = some (0, .iinc 7 1, 141, [], .int (1)) := by decide +kernel
theorem t250_141 : am_T 250 141 = some (1, .goto (-71), 144, [70], .null) := by decide +kernel
theorem t250_144 : am_T 250 144 = some (0, .iload 6, 146, [], .null) := by decide +kernel
theorem t250_146 : am_T 250 146 = some (0, .iconst (-1), 147, [], .int (-1)) := by decide +kernel
theorem t250_147 : am_T 250 147 = some (1, .if_icmp .ne 7, 150, [154], .null) := by decide +kernel
theorem t250_150 : am_T 250 150 = some (0, .iconst (-1), 151, [], .int (-1)) := by decide +kernel
theorem t250_151 : am_T 250 151 = some (1, .goto 24, 154, [175], .null) := by decide +kernel
theorem t250_154 : am_T 250 154 = some (0, .iload 5, 156, [], .null) := by decide +kernel
theorem t250_156 : am_T 250 156 = some (1, .ifCond .ne 13, 159, [169], .null) := by decide +kernel
theorem t250_159 : am_T 250 159 = some (0, .aload_n 0, 160, [], .null) := by decide +kernel
theorem t250_160 : am_T 250 160 = some (2, .getfield 80, 163, [44, 12], .null) := by decide +kernel
theorem t250_163 : am_T 250 163 = some (0, .iload 6, 165, [], .null) := by decide +kernel
theorem t250_165 : am_T 250 165 = some (2, .iaload, 166, [], .null) := by decide +kernel
theorem t250_166 : am_T 250 166 = some (1, .goto 9, 169, [175], .null) := by decide +kernel
theorem t250_169 : am_T 250 169 = some (0, .aload_n 0, 170, [], .null) := by decide +kernel
theorem t250_170 : am_T 250 170 = some (0, .iload 6, 172, [], .null) := by decide +kernel
theorem t250_172 : am_T 250 172 = some (3, .invokevirtual 388, 175, [2, 12, 215], .null) := by decide +kernel
theorem t250_175 : am_T 250 175 = some (4, .ireturn, 176, [0], .null) := by decide +kernel
theorem t251_0 : am_T 251 0 = some (0, .aload_n 0, 1, [], .null) := by decide +kernel
theorem t251_1 : am_T 251 1 = some (0, .iconst 0, 2, [], .int (0)) := by decide +kernel
theorem t251_2 : am_T 251 2 = some (2, .putfield 128, 5, [0, 0, 12], .null) := by decide +kernel
theorem t251_5 : am_T 251 5 = some (0, .iload_n 1, 6, [], .null) := by decide +kernel
theorem t251_6 : am_T 251 6 = some (0, .i2l, 7, [], .null) := by decide +kernel
theorem t251_7 : am_T 251 7 = some (0, .lconst 1, 8, [], .long 1) := by decide +kernel
theorem t251_8 : am_T 251 8 = some (0, .ldc2_w 411, 11, [], .long (6)) := by decide +kernel
theorem t251_11 : am_T 251 11 = some (3, .invokestatic 246, 14, [3, 176], .null) := by decide +kernel
theorem t251_14 : am_T 251 14 = some (1, .ifCond .eq 32, 17, [46], .null) := by decide +kernel
theorem t251_17 : am_T 251 17 = some (0, .aload_n 0, 18, [], .null) := by decide +kernel
theorem t251_18 : am_T 251 18 = some (0, .iload_n 2, 19, [], .null) := by decide +kernel
theorem t251_19 : am_T 251 19 = some (3, .invokevirtual 338, 22, [2, 12, 217], .null) := by decide +kernel
theorem t251_22 : am_T 251 22 = some (1, .ifCond .eq 24, 25, [46], .null) := by decide +kernel
theorem t251_25 : am_T 251 25 = some (0, .iload_n 3, 26, [], .null) := by decide +kernel
theorem t251_26 : am_T 251 26 = some (0, .i2l, 27, [], .null) := by decide +kernel
theorem t251_27 : am_T 251 27 = some (0, .lconst 0, 28, [], .long 0) := by decide +kernel
theorem t251_28 : am_T 251 28 = some (0, .ldc2_w 341, 31, [], .long (2)) := by decide +kernel
theorem t251_31 : am_T 251 31 = some (3, .invokestatic 246, 34, [3, 176], .null) := by decide +kernel
theorem t251_34 : am_T 251 34 = some (1, .ifCond .eq 12, 37, [46], .null) := by decide +kernel
theorem t251_37 : am_T 251 37 = some (0, .aload_n 0, 38, [], .null) := by decide +kernel
theorem t251_38 : am_T 251 38 = some (2, .getfield 316, 41, [53, 12], .null) := by decide +kernel
theorem t251_41 : am_T 251 41 = some (0, .bipush 12, 43, [], .int (12)) := by decide +kernel
theorem t251_43 : am_T 251 43 = some (1, .if_icmp .ne 5, 46, [48], .null) := by decide +kernel
theorem t251_46 : am_T 251 46 = some (0, .iconst (-1), 47, [], .int (-1)) := by decide +kernel
theorem t251_47 : am_T 251 47 = some (4, .ireturn, 48, [0], .null) := by decide +kernel
theorem t251_48 : am_T 251 48 = some (0, .aload_n 0, 49, [], .null) := by decide +kernel
theorem t251_49 : am_T 251 49 = some (2, .getfield 100, 52, [50, 12], .null) := by decide +kernel
theorem t251_52 : am_T 251 52 = some (0, .aload_n 0, 53, [], .null) := by decide +kernel
theorem t251_53 : am_T 251 53 = some (2, .getfield 316, 56, [53, 12], .null) := by decide +kernel
theorem t251_56 : am_T 251 56 = some (0, .iload_n 1, 57, [], .null) := by decide +kernel
theorem t251_57 : am_T 251 57 = some (2, .iastore, 58, [], .null) := by decide +kernel
theorem t251_58 : am_T 251 58 = some (0, .aload_n 0, 59, [], .null) := by decide +kernel
theorem t251_59 : am_T 251 59 = some (2, .getfield 103, 62, [51, 12], .null) := by decide +kernel
theorem t251_62 : am_T 251 62 = some (0, .aload_n 0, 63, [], .null) := by decide +kernel
theorem t251_63 : am_T 251 63 = some (2, .getfield 316, 66, [53, 12], .null) := by decide +kernel
theorem t251_66 : am_T 251 66 = some (0, .iload_n 2, 67, [], .null) := by decide +kernel
theorem t251_67 : am_T 251 67 = some (2, .iastore, 68, [], .null) := by decide +kernel
theorem t251_68 : am_T 251 68 = some (0, .aload_n 0, 69, [], .null) := by decide +kernel
theorem t251_69 : am_T 251 69 = some (2, .getfield 106, 72, [52, 12], .null) := by decide +kernel
theorem t251_72 : am_T 251 72 = some (0, .aload_n 0, 73, [], .null) := by decide +kernel
theorem t251_73 : am_T 251 73 = some (2, .getfield 316, 76, [53, 12], .null) := by decide +kernel
theorem t251_76 : am_T 251 76 = some (0, .iload_n 3, 77, [], .null) := by decide +kernel
theorem t251_77 : am_T 251 77 = some (2, .iastore, 78, [], .null) := by decide +kernel
theorem t251_78 : am_T 251 78 = some (0, .aload_n 0, 79, [], .null) := by decide +kernel
theorem t251_79 : am_T 251 79 = some (0, .dup, 80, [], .null) := by decide +kernel
theorem t251_80 : am_T 251 80 = some (2, .getfield 316, 83, [53, 12], .null) := by decide +kernel
theorem t251_83 : am_T 251 83 = some (0, .iconst 1, 84, [], .int (1)) := by decide +kernel
theorem t251_84 : am_T 251 84 = some (0, .iadd, 85, [], .null) := by decide +kernel
theorem t251_85 : am_T 251 85 = some (2, .putfield 316, 88, [53, 0, 12], .null) := by decide +kernel
theorem t251_88 : am_T 251 88 = some (0, .aload_n 0, 89, [], .null) := by decide +kernel
theorem t251_89 : am_T 251 89 = some (2, .getfield 316, 92, [53, 12], .null) := by decide +kernel
theorem t251_92 : am_T 251 92 = some (4, .ireturn, 93, [0], .null) := by decide +kernel
theorem t252_0 : am_T 252 0 = some (0, .iconst 0, 1, [], .int (0)) := by decide +kernel
theorem t252_1 : am_T 252 1 = some (0, .istore_n 3, 2, [], .null) := by decide +kernel
theorem t252_2 : am_T 252 2 = some (0, .iload_n 3, 3, [], .null) := by decide +kernel
theorem t252_3 : am_T 252 3 = some (0, .aload_n 0, 4, [], .null) := by decide +kernel
theorem t252_4 : am_T 252 4 = some (2, .getfield 316, 7, [53, 12], .null) := by decide +kernel
theorem t252_7 : am_T 252 7 = some (1, .if_icmp .ge 41, 10, [48], .null) := by decide +kernel
theorem t252_10 : am_T 252 10 = some (0, .aload_n 0, 11, [], .null) := by decide +kernel
theorem t252_11 : am_T 252 11 = some (2, .getfield 100, 14, [50, 12], .null) := by decide +kernel
theorem t252_14 : am_T 252 14 = some (0, .iload_n 3, 15, [], .null) := by decide +kernel
theorem t252_15 : am_T 252 15 = some (2, .iaload, 16, [], .null) := by decide +kernel
theorem t252_16 : am_T 252 16 = some (0, .iload_n 1, 17, [], .null) := by decide +kernel
theorem t252_17 : am_T 252 17 = some (1, .if_icmp .ne 25, 20, [42], .null) := by decide +kernel
theorem t252_20 : am_T 252 20 = some (0, .aload_n 0, 21, [], .null) := by decide +kernel
theorem t252_21 : am_T 252 21 = some (0, .iload_n 2, 22, [], .null) := by decide +kernel
theorem t252_22 : am_T 252 22 = some (0, .aload_n 0, 23, [], .null) := by decide +kernel
theorem t252_23 : am_T 252 23 = some (2, .getfield 103, 26, [51, 12], .null) := by decide +kernel
theorem t252_26 : am_T 252 26 = some (0, .iload_n 3, 27, [], .null) := by decide +kernel
theorem t252_27 : am_T 252 27 = some (2, .iaload, 28, [], .null) := by decide +kernel
theorem t252_28 : am_T 252 28 = some (3, .invokevirtual 328, 31, [3, 12, 211], .null) := by decide +kernel
theorem t252_31 : am_T 252 31 = some (0, .aload_n 0, 32, [], .null) := by decide +kernel
theorem t252_32 : am_T 252 32 = some (2, .getfield 106, 35, [52, 12], .null) := by decide +kernel
theorem t252_35 : am_T 252 35 = some (0, .iload_n 3, 36, [], .null) := by decide +kernel
theorem t252_36 : am_T 252 36 = some (2, .iaload, 37, [], .null) := by decide +kernel
theorem t252_37 : am_T 252 37 = some (1, .if_icmp .eq 5, 40, [42], .null) := by decide +kernel
theorem t252_40 : am_T 252 40 = some (0, .iconst 0, 41, [], .int (0)) := by decide +kernel
theorem t252_41 : am_T 252 41 = some (4, .ireturn, 42, [1], .null) := by decide +kernel
theorem t252_42 : am_T 252 42 = some (0, .iinc 3 1, 45, [], .int (1)) := by decide +kernel
theorem t252_45 : am_T 252 45 = some (1, .goto (-43), 48, [2], .null) := by decide +kernel
theorem t252_48 : am_T 252 48 = some (0, .iconst 1, 49, [], .int (1)) := by decide +kernel
theorem t252_49 : am_T 252 49 = some (4, .ireturn, 50, [1], .null) := by decide +kernel
theorem t253_0 : am_T 253 0 = some (0, .aload_n 0, 1, [], .null) := by decide +kernel
theorem t253_1 : am_T 253 1 = some (3, .invokevirtual 394, 4, [1, 12, 235], .null) := by decide +kernel
theorem t253_4 : am_T 253 4 = some (0, .iconst 0, 5, [], .int (0)) := by decide +kernel
theorem t253_5 : am_T 253 5 = some (0, .istore 5, 7, [], .null) := by decide +kernel
theorem t253_7 : am_T 253 7 = some (0, .iload 5, 9, [], .null) := by decide +kernel
theorem t253_9 : am_T 253 9 = some (0, .sipush 243, 12, [], .int (243)) := by decide +kernel
theorem t253_12 : am_T 253 12 = some (1, .if_icmp .ge 30, 15, [42], .null) := by decide +kernel
theorem t253_15 : am_T 253 15 = some (0, .aload_n 0, 16, [], .null) := by decide +kernel
theorem t253_16 : am_T 253 16 = some (2, .getfield 109, 19, [54, 12], .null) := by decide +kernel
theorem t253_19 : am_T 253 19 = some (0, .iload 5, 21, [], .null) := by decide +kernel
theorem t253_21 : am_T 253 21 = some (0, .iload 5, 23, [], .null) := by decide +kernel
theorem t253_23 : am_T 253 23 = some (0, .aload_n 0, 24, [], .null) := by decide +kernel
theorem t253_24 : am_T 253 24 = some (2, .getfield 304, 27, [33, 12], .null) := by decide +kernel
theorem t253_27 : am_T 253 27 = some (1, .if_icmp .ne 7, 30, [34], .null) := by decide +kernel
theorem t253_30 : am_T 253 30 = some (0, .lconst 1, 31, [], .long 1) := by decide +kernel
theorem t253_31 : am_T 253 31 = some (1, .goto 4, 34, [35], .null) := by decide +kernel
theorem t253_34 : am_T 253 34 = some (0, .lconst 0, 35, [], .long 0) := by decide +kernel
theorem t253_35 : am_T 253 35 = some (2, .lastore, 36, [], .null) := by decide +kernel
theorem t253_36 : am_T 253 36 = some (0, .iinc 5 1, 39, [], .int (1)) := by decide +kernel
theorem t253_39 : am_T 253 39 = some (1, .goto (-32), 42, [7], .null) := by decide +kernel
theorem t253_42 : am_T 253 42 = some (0, .iconst 1, 43, [], .int (1)) := by decide +kernel
theorem t253_43 : am_T 253 43 = some (0, .istore 5, 45, [], .null) := by decide +kernel
theorem t253_45 : am_T 253 45 = some (0, .iload 5, 47, [], .null) := by decide +kernel
theorem t253_47 : am_T 253 47 = some (0, .iload_n 1, 48, [], .null) := by decide +kernel
theorem t253_48 : am_T 253 48 = some (1, .if_icmp .gt 210, 51, [258], .null) := by decide +kernel
theorem t253_51 : am_T 253 51 = some (0, .iconst 0, 52, [], .int (0)) := by decide +kernel
theorem t253_52 : am_T 253 52 = some (0, .istore 6, 54, [], .null) := by decide +kernel
theorem t253_54 : am_T 253 54 = some (0, .iload 6, 56, [], .null) := by decide +kernel
theorem t253_56 : am_T 253 56 = some (0, .sipush 243, 59, [], .int (243)) := by decide +kernel
theorem t253_59 : am_T 253 59 = some (1, .if_icmp .ge 17, 62, [76], .null) := by decide +kernel
theorem t253_62 : am_T 253 62 = some (0, .aload_n 0, 63, [], .null) := by decide +kernel
theorem t253_63 : am_T 253 63 = some (2, .getfield 113, 66, [55, 12], .null) := by decide +kernel
theorem t253_66 : am_T 253 66 = some (0, .iload 6, 68, [], .null) := by decide +kernel
theorem t253_68 : am_T 253 68 = some (0, .lconst 0, 69, [], .long 0) := by decide +kernel
theorem t253_69 : am_T 253 69 = some (2, .lastore, 70, [], .null) := by decide +kernel
theorem t253_70 : am_T 253 70 = some (0, .iinc 6 1, 73, [], .int (1)) := by decide +kernel
theorem t253_73 : am_T 253 73 = some (1, .goto (-19), 76, [54], .null) := by decide +kernel
theorem t253_76 : am_T 253 76 = some (0, .iconst 0, 77, [], .int (0)) := by decide +kernel
theorem t253_77 : am_T 253 77 = some (0, .istore 6, 79, [], .null) := by decide +kernel
theorem t253_79 : am_T 253 79 = some (0, .iload 6, 81, [], .null) := by decide +kernel
theorem t253_81 : am_T 253 81 = some (0, .aload_n 0, 82, [], .null) := by decide +kernel
theorem t253_82 : am_T 253 82 = some (3, .invokevirtual 374, 85, [1, 12, 209], .null) := by decide +kernel
theorem t253_85 : am_T 253 85 = some (1, .if_icmp .ge 136, 88, [221], .null) := by decide +kernel
theorem t253_88 : am_T 253 88 = some (0, .aload_n 0, 89, [], .null) := by decide +kernel
theorem t253_89 : am_T 253 89 = some (0, .iload 6, 91, [], .null) := by decide +kernel
theorem t253_91 : am_T 253 91 = some (3, .invokevirtual 377, 94, [2, 12, 214], .null) := by decide +kernel
theorem t253_94 : am_T 253 94 = some (1, .ifCond .eq 121, 97, [215], .null) := by decide +kernel
theorem t253_97 : am_T 253 97 = some (0, .aload_n 0, 98, [], .null) := by decide +kernel
theorem t253_98 : am_T 253 98 = some (0, .iload 5, 100, [], .null) := by decide +kernel
theorem t253_100 : am_T 253 100 = some (0, .iload 6, 102, [], .null) := by decide +kernel
theorem t253_102 : am_T 253 102 = some (3, .invokevirtual 413, 105, [3, 12, 252], .null) := by decide +kernel
theorem t253_105 : am_T 253 105 = some (1, .ifCond .eq 110, 108, [215], .null) := by decide +kernel
theorem t253_108 : am_T 253 108 = some (0, .iload_n 2, 109, [], .null) := by decide +kernel
theorem t253_109 : am_T 253 109 = some (0, .iconst (-1), 110, [], .int (-1)) := by decide +kernel
theorem t253_110 : am_T 253 110 = some (1, .if_icmp .eq 24, 113, [134], .null) := by decide +kernel
theorem t253_113 : am_T 253 113 = some (0, .iload 5, 115, [], .null) := by decide +kernel
theorem t253_115 : am_T 253 115 = some (0, .iload_n 3, 116, [], .null) := by decide +kernel
theorem t253_116 : am_T 253 116 = some (1, .if_icmp .ne 18, 119, [134], .null) := by decide +kernel
theorem t253_119 : am_T 253 119 = some (0, .aload_n 0, 120, [], .null) := by decide +kernel
theorem t253_120 : am_T 253 120 = some (0, .iload_n 2, 121, [], .null) := by decide +kernel
theorem t253_121 : am_T 253 121 = some (0, .iload 6, 123, [], .null) := by decide +kernel
theorem t253_123 : am_T 253 123 = some (3, .invokevirtual 356, 126, [3, 12, 231], .null) := by decide +kernel
theorem t253_126 : am_T 253 126 = some (0, .iload 4, 128, [], .null) := by decide +kernel
theorem t253_128 : am_T 253 128 = some (1, .if_icmp .eq 6, 131, [134], .null) := by decide +kernel
theorem t253_131 : am_T 253 131 = some (1, .goto 84, 134, [215], .null) := by decide +kernel
theorem t253_134 : am_T 253 134 = some (0, .iconst 0, 135, [], .int (0)) := by decide +kernel
theorem t253_135 : am_T 253 135 = some (0, .istore 7, 137, [], .null) := by decide +kernel
theorem t253_137 : am_T 253 137 = some (0, .iload 7, 139, [], .null) := by decide +kernel
theorem t253_139 : am_T 253 139 = some (0, .aload_n 0, 140, [], .null) := by decide +kernel
theorem t253_140 : am_T 253 140 = some (3, .invokevirtual 374, 143, [1, 12, 209], .null) := by decide +kernel
theorem t253_143 : am_T 253 143 = some (1, .if_icmp .ge 72, 146, [215], .null) := by decide +kernel
theorem t253_146 : am_T 253 146 = some (0, .aload_n 0, 147, [], .null) := by decide +kernel
theorem t253_147 : am_T 253 147 = some (2, .getfield 109, 150, [54, 12], .null) := by decide +kernel
theorem t253_150 : am_T 253 150 = some (0, .iload 7, 152, [], .null) := by decide +kernel
theorem t253_152 : am_T 253 152 = some (2, .laload, 153, [], .null) := by decide +kernel
theorem t253_153 : am_T 253 153 = some (0, .lconst 0, 154, [], .long 0) := by decide +kernel
theorem t253_154 : am_T 253 154 = some (0, .lcmp, 155, [], .null) := by decide +kernel
theorem t253_155 : am_T 253 155 = some (1, .ifCond .le 54, 158, [209], .null) := by decide +kernel
theorem t253_158 : am_T 253 158 = some (0, .aload_n 0, 159, [], .null) := by decide +kernel
theorem t253_159 : am_T 253 159 = some (2, .getfield 87, 162, [46, 12], .null) := by decide +kernel
theorem t253_162 : am_T 253 162 = some (0, .sipush 243, 165, [], .int (243)) := by decide +kernel
theorem t253_165 : am_T 253 165 = some (0, .iload 7, 167, [], .null) := by decide +kernel
theorem t253_167 : am_T 253 167 = some (0, .imul, 168, [], .null) := by decide +kernel
theorem t253_168 : am_T 253 168 = some (0, .iload 6, 170, [], .null) := by decide +kernel
theorem t253_170 : am_T 253 170 = some (0, .iadd, 171, [], .null) := by decide +kernel
theorem t253_171 : am_T 253 171 = some (2, .iaload, 172, [], .null) := by decide +kernel
theorem t253_172 : am_T 253 172 = some (0, .iload 5, 174, [], .null) := by decide +kernel
theorem t253_174 : am_T 253 174 = some (0, .iconst 1, 175, [], .int (1)) := by decide +kernel
theorem t253_175 : am_T 253 175 = some (1, .if_icmp .ne 10, 178, [185], .null) := by decide +kernel
theorem t253_178 : am_T 253 178 = some (0, .aload_n 0, 179, [], .null) := by decide +kernel
theorem t253_179 : am_T 253 179 = some (2, .getfield 310, 182, [35, 12], .null) := by decide +kernel
theorem t253_182 : am_T 253 182 = some (1, .goto 7, 185, [189], .null) := by decide +kernel
theorem t253_185 : am_T 253 185 = some (0, .aload_n 0, 186, [], .null) := by decide +kernel
theorem t253_186 : am_T 253 186 = some (2, .getfield 301, 189, [21, 12], .null) := by decide +kernel
theorem t253_189 : am_T 253 189 = some (1, .if_icmp .gt 20, 192, [209], .null) := by decide +kernel
theorem t253_192 : am_T 253 192 = some (0, .aload_n 0, 193, [], .null) := by decide +kernel
theorem t253_193 : am_T 253 193 = some (2, .getfield 113, 196, [55, 12], .null) := by decide +kernel
theorem t253_196 : am_T 253 196 = some (0, .iload 6, 198, [], .null) := by decide +kernel
theorem t253_198 : am_T 253 198 = some (0, .dup2, 199, [], .null) := by decide +kernel
theorem t253_199 : am_T 253 199 = some (2, .laload, 200, [], .null) := by decide +kernel
theorem t253_200 : am_T 253 200 = some (0, .aload_n 0, 201, [], .null) := by decide +kernel
theorem t253_201 : am_T 253 201 = some (2, .getfield 109, 204, [54, 12], .null) := by decide +kernel
theorem t253_204 : am_T 253 204 = some (0, .iload 7, 206, [], .null) := by decide +kernel
theorem t253_206 : am_T 253 206 = some (2, .laload, 207, [], .null) := by decide +kernel
theorem t253_207 : am_T 253 207 = some (0, .ladd, 208, [], .null) := by decide +kernel
theorem t253_208 : am_T 253 208 = some (2, .lastore, 209, [], .null) := by decide +kernel
theorem t253_209 : am_T 253 209 = some (0, .iinc 7 1, 212, [], .int (1)) := by decide +kernel
theorem t253_212 : am_T 253 212 = some (1, .goto (-75), 215, [137], .null) := by decide +kernel
theorem t253_215 : am_T 253 215 = some (0, .iinc 6 1, 218, [], .int (1)) := by decide +kernel
theorem t253_218 : am_T 253 218 = some (1, .goto (-139), 221, [79], .null) := by decide +kernel
theorem t253_221 : am_T 253 221 = some (0, .iconst 0, 222, [], .int (0)) := by decide +kernel
theorem t253_222 : am_T 253 222 = some (0, .istore 6, 224, [], .null) := by decide +kernel
theorem t253_224 : am_T 253 224 = some (0, .iload 6, 226, [], .null) := by decide +kernel
theorem t253_226 : am_T 253 226 = some (0, .sipush 243, 229, [], .int (243)) := by decide +kernel
theorem t253_229 : am_T 253 229 = some (1, .if_icmp .ge 23, 232, [252], .null) := by decide +kernel
theorem t253_232 : am_T 253 232 = some (0, .aload_n 0, 233, [], .null) := by decide +kernel
theorem t253_233 : am_T 253 233 = some (2, .getfield 109, 236, [54, 12], .null) := by decide +kernel
theorem t253_236 : am_T 253 236 = some (0, .iload 6, 238, [], .null) := by decide +kernel
theorem t253_238 : am_T 253 238 = some (0, .aload_n 0, 239, [], .null) := by decide +kernel
theorem t253_239 : am_T 253 239 = some (2, .getfield 113, 242, [55, 12], .null) := by decide +kernel
theorem t253_242 : am_T 253 242 = some (0, .iload 6, 244, [], .null) := by decide +kernel
theorem t253_244 : am_T 253 244 = some (2, .laload, 245, [], .null) := by decide +kernel
theorem t253_245 : am_T 253 245 = some (2, .lastore, 246, [], .null) := by decide +kernel
theorem t253_246 : am_T 253 246 = some (0, .iinc 6 1, 249, [], .int (1)) := by decide +kernel
theorem t253_249 : am_T 253 249 = some (1, .goto (-25), 252, [224], .null) := by decide +kernel
theorem t253_252 : am_T 253 252 = some (0, .iinc 5 1, 255, [], .int (1)) := by decide +kernel
theorem t253_255 : am_T 253 255 = some (1, .goto (-210), 258, [45], .null) := by decide +kernel
theorem t253_258 : am_T 253 258 = some (0, .lconst 0, 259, [], .long 0) := by decide +kernel
theorem t253_259 : am_T 253 259 = some (0, .lstore 5, 261, [], .null) := by decide +kernel
theorem t253_261 : am_T 253 261 = some (0, .iconst 0, 262, [], .int (0)) := by decide +kernel
theorem t253_262 : am_T 253 262 = some (0, .istore 7, 264, [], .null) := by decide +kernel
theorem t253_264 : am_T 253 264 = some (0, .iload 7, 266, [], .null) := by decide +kernel
theorem t253_266 : am_T 253 266 = some (0, .sipush 243, 269, [], .int (243)) := by decide +kernel
theorem t253_269 : am_T 253 269 = some (1, .if_icmp .ge 21, 272, [290], .null) := by decide +kernel
theorem t253_272 : am_T 253 272 = some (0, .lload 5, 274, [], .null) := by decide +kernel
theorem t253_274 : am_T 253 274 = some (0, .aload_n 0, 275, [], .null) := by decide +kernel
theorem t253_275 : am_T 253 275 = some (2, .getfield 109, 278, [54, 12], .null) := by decide +kernel
theorem t253_278 : am_T 253 278 = some (0, .iload 7, 280, [], .null) := by decide +kernel
theorem t253_280 : am_T 253 280 = some (2, .laload, 281, [], .null) := by decide +kernel
theorem t253_281 : am_T 253 281 = some (0, .ladd, 282, [], .null) := by decide +kernel
theorem t253_282 : am_T 253 282 = some (0, .lstore 5, 284, [], .null) := by decide +kernel
theorem t253_284 : am_T 253 284 = some (0, .iinc 7 1, 287, [], .int (1)) := by decide +kernel
theorem t253_287 : am_T 253 287 = some (1, .goto (-23), 290, [264], .null) := by decide +kernel
theorem t253_290 : am_T 253 290 = some (0, .lload 5, 292, [], .null) := by decide +kernel
theorem t253_292 : am_T 253 292 = some (4, .lreturn, 293, [], .null) := by decide +kernel
theorem t254_0 : am_T 254 0 = some (0, .aload_n 0, 1, [], .null) := by decide +kernel
theorem t254_1 : am_T 254 1 = some (0, .iconst 0, 2, [], .int (0)) := by decide +kernel
theorem t254_2 : am_T 254 2 = some (2, .putfield 128, 5, [0, 0, 12], .null) := by decide +kernel
theorem t254_5 : am_T 254 5 = some (0, .aload_n 0, 6, [], .null) := by decide +kernel
theorem t254_6 : am_T 254 6 = some (2, .getfield 298, 9, [20, 12], .null) := by decide +kernel
theorem t254_9 : am_T 254 9 = some (1, .ifCond .le 26, 12, [35], .null) := by decide +kernel
theorem t254_12 : am_T 254 12 = some (0, .iload_n 1, 13, [], .null) := by decide +kernel
theorem t254_13 : am_T 254 13 = some (0, .i2l, 14, [], .null) := by decide +kernel
theorem t254_14 : am_T 254 14 = some (0, .lconst 1, 15, [], .long 1) := by decide +kernel
theorem t254_15 : am_T 254 15 = some (0, .ldc2_w 411, 18, [], .long (6)) := by decide +kernel
theorem t254_18 : am_T 254 18 = some (3, .invokestatic 246, 21, [3, 176], .null) := by decide +kernel
theorem t254_21 : am_T 254 21 = some (1, .ifCond .eq 14, 24, [35], .null) := by decide +kernel
theorem t254_24 : am_T 254 24 = some (0, .aload_n 0, 25, [], .null) := by decide +kernel
theorem t254_25 : am_T 254 25 = some (0, .iload_n 1, 26, [], .null) := by decide +kernel
theorem t254_26 : am_T 254 26 = some (0, .iconst (-1), 27, [], .int (-1)) := by decide +kernel
theorem t254_27 : am_T 254 27 = some (0, .iconst 0, 28, [], .int (0)) := by decide +kernel
theorem t254_28 : am_T 254 28 = some (0, .iconst 0, 29, [], .int (0)) := by decide +kernel
theorem t254_29 : am_T 254 29 = some (3, .invokevirtual 416, 32, [5, 12, 253], .null) := by decide +kernel
theorem t254_32 : am_T 254 32 = some (1, .goto 6, 35, [38], .null) := by decide +kernel
theorem t254_35 : am_T 254 35 = some (0, .ldc2_w 406, 38, [], .long (-1)) := by decide +kernel
theorem t254_38 : am_T 254 38 = some (4, .lreturn, 39, [], .null) := by decide +kernel
theorem t255_0 : am_T 255 0 = some (0, .aload_n 0, 1, [], .null) := by decide +kernel
theorem t255_1 : am_T 255 1 = some (0, .iconst 0, 2, [], .int (0)) := by decide +kernel
theorem t255_2 : am_T 255 2 = some (2, .putfield 128, 5, [0, 0, 12], .null) := by decide +kernel
theorem t255_5 : am_T 255 5 = some (0, .aload_n 0, 6, [], .null) := by decide +kernel
theorem t255_6 : am_T 255 6 = some (0, .iload_n 1, 7, [], .null) := by decide +kernel
theorem t255_7 : am_T 255 7 = some (3, .invokevirtual 353, 10, [2, 12, 218], .null) := by decide +kernel
theorem t255_10 : am_T 255 10 = some (1, .ifCond .eq 53, 13, [63], .null) := by decide +kernel
theorem t255_13 : am_T 255 13 = some (0, .iload_n 2, 14, [], .null) := by decide +kernel
theorem t255_14 : am_T 255 14 = some (0, .i2l, 15, [], .null) := by decide +kernel
theorem t255_15 : am_T 255 15 = some (0, .lconst 1, 16, [], .long 1) := by decide +kernel
theorem t255_16 : am_T 255 16 = some (0, .ldc2_w 411, 19, [], .long (6)) := by decide +kernel
theorem t255_19 : am_T 255 19 = some (3, .invokestatic 246, 22, [3, 176], .null) := by decide +kernel
theorem t255_22 : am_T 255 22 = some (1, .ifCond .eq 41, 25, [63], .null) := by decide +kernel
theorem t255_25 : am_T 255 25 = some (0, .iload_n 3, 26, [], .null) := by decide +kernel
theorem t255_26 : am_T 255 26 = some (0, .i2l, 27, [], .null) := by decide +kernel
theorem t255_27 : am_T 255 27 = some (0, .lconst 1, 28, [], .long 1) := by decide +kernel
theorem t255_28 : am_T 255 28 = some (0, .iload_n 2, 29, [], .null) := by decide +kernel
theorem t255_29 : am_T 255 29 = some (0, .i2l, 30, [], .null) := by decide +kernel
theorem t255_30 : am_T 255 30 = some (3, .invokestatic 246, 33, [3, 176], .null) := by decide +kernel
theorem t255_33 : am_T 255 33 = some (1, .ifCond .eq 30, 36, [63], .null) := by decide +kernel
theorem t255_36 : am_T 255 36 = some (0, .iload 4, 38, [], .null) := by decide +kernel
theorem t255_38 : am_T 255 38 = some (0, .i2l, 39, [], .null) := by decide +kernel
theorem t255_39 : am_T 255 39 = some (0, .ldc2_w 406, 42, [], .long (-1)) := by decide +kernel
theorem t255_42 : am_T 255 42 = some (0, .ldc2_w 383, 45, [], .long (7)) := by decide +kernel
theorem t255_45 : am_T 255 45 = some (3, .invokestatic 246, 48, [3, 176], .null) := by decide +kernel
theorem t255_48 : am_T 255 48 = some (1, .ifCond .eq 15, 51, [63], .null) := by decide +kernel
theorem t255_51 : am_T 255 51 = some (0, .aload_n 0, 52, [], .null) := by decide +kernel
theorem t255_52 : am_T 255 52 = some (0, .iload_n 2, 53, [], .null) := by decide +kernel
theorem t255_53 : am_T 255 53 = some (0, .iload_n 1, 54, [], .null) := by decide +kernel
theorem t255_54 : am_T 255 54 = some (0, .iload_n 3, 55, [], .null) := by decide +kernel
theorem t255_55 : am_T 255 55 = some (0, .iload 4, 57, [], .null) := by decide +kernel
theorem t255_57 : am_T 255 57 = some (3, .invokevirtual 416, 60, [5, 12, 253], .null) := by decide +kernel
theorem t255_60 : am_T 255 60 = some (1, .goto 6, 63, [66], .null) := by decide +kernel
theorem t255_63 : am_T 255 63 = some (0, .ldc2_w 406, 66, [], .long (-1)) := by decide +kernel
theorem t255_66 : am_T 255 66 = some (4, .lreturn, 67, [], .null) := by decide +kernel
theorem t256_0 : am_T 256 0 = some (0, .aload_n 0, 1, [], .null) := by decide +kernel
theorem t256_1 : am_T 256 1 = some (0, .iconst 0, 2, [], .int (0)) := by decide +kernel
theorem t256_2 : am_T 256 2 = some (2, .putfield 128, 5, [0, 0, 12], .null) := by decide +kernel
theorem t256_5 : am_T 256 5 = some (0, .aload_n 0, 6, [], .null) := by decide +kernel
theorem t256_6 : am_T 256 6 = some (0, .iload_n 1, 7, [], .null) := by decide +kernel
theorem t256_7 : am_T 256 7 = some (3, .invokevirtual 362, 10, [2, 12, 216], .null) := by decide +kernel
theorem t256_10 : am_T 256 10 = some (0, .istore_n 3, 11, [], .null) := by decide +kernel
theorem t256_11 : am_T 256 11 = some (0, .iload_n 3, 12, [], .null) := by decide +kernel
theorem t256_12 : am_T 256 12 = some (0, .iconst (-1), 13, [], .int (-1)) := by decide +kernel
theorem t256_13 : am_T 256 13 = some (1, .if_icmp .eq 19, 16, [32], .null) := by decide +kernel
theorem t256_16 : am_T 256 16 = some (0, .iload_n 2, 17, [], .null) := by decide +kernel
theorem t256_17 : am_T 256 17 = some (3, .invokestatic 385, 20, [1, 237], .null) := by decide +kernel
theorem t256_20 : am_T 256 20 = some (1, .ifCond .eq 12, 23, [32], .null) := by decide +kernel
theorem t256_23 : am_T 256 23 = some (0, .aload_n 0, 24, [], .null) := by decide +kernel
theorem t256_24 : am_T 256 24 = some (2, .getfield 319, 27, [58, 12], .null) := by decide +kernel
theorem t256_27 : am_T 256 27 = some (0, .bipush 12, 29, [], .int (12)) := by decide +kernel
theorem t256_29 : am_T 256 29 = some (1, .if_icmp .ne 5, 32, [34], .null) := by decide +kernel
theorem t256_32 : am_T 256 32 = some (0, .iconst (-1), 33, [], .int (-1)) := by decide +kernel
theorem t256_33 : am_T 256 33 = some (4, .ireturn, 34, [0], .null) := by decide +kernel
theorem t256_34 : am_T 256 34 = some (0, .aload_n 0, 35, [], .null) := by decide +kernel
theorem t256_35 : am_T 256 35 = some (2, .getfield 116, 38, [56, 12], .null) := by decide +kernel
theorem t256_38 : am_T 256 38 = some (0, .aload_n 0, 39, [], .null) := by decide +kernel
theorem t256_39 : am_T 256 39 = some (2, .getfield 319, 42, [58, 12], .null) := by decide +kernel
theorem t256_42 : am_T 256 42 = some (0, .iload_n 3, 43, [], .null) := by decide +kernel
theorem t256_43 : am_T 256 43 = some (2, .iastore, 44, [], .null) := by decide +kernel
theorem t256_44 : am_T 256 44 = some (0, .aload_n 0, 45, [], .null) := by decide +kernel
theorem t256_45 : am_T 256 45 = some (2, .getfield 119, 48, [57, 12], .null) := by decide +kernel
theorem t256_48 : am_T 256 48 = some (0, .aload_n 0, 49, [], .null) := by decide +kernel
theorem t256_49 : am_T 256 49 = some (2, .getfield 319, 52, [58, 12], .null) := by decide +kernel
theorem t256_52 : am_T 256 52 = some (0, .iload_n 2, 53, [], .null) := by decide +kernel
theorem t256_53 : am_T 256 53 = some (2, .iastore, 54, [], .null) := by decide +kernel
theorem t256_54 : am_T 256 54 = some (0, .aload_n 0, 55, [], .null) := by decide +kernel
theorem t256_55 : am_T 256 55 = some (0, .dup, 56, [], .null) := by decide +kernel
theorem t256_56 : am_T 256 56 = some (2, .getfield 319, 59, [58, 12], .null) := by decide +kernel
theorem t256_59 : am_T 256 59 = some (0, .iconst 1, 60, [], .int (1)) := by decide +kernel
theorem t256_60 : am_T 256 60 = some (0, .iadd, 61, [], .null) := by decide +kernel
theorem t256_61 : am_T 256 61 = some (2, .putfield 319, 64, [58, 0, 12], .null) := by decide +kernel
theorem t256_64 : am_T 256 64 = some (0, .aload_n 0, 65, [], .null) := by decide +kernel
theorem t256_65 : am_T 256 65 = some (2, .getfield 319, 68, [58, 12], .null) := by decide +kernel
theorem t256_68 : am_T 256 68 = some (4, .ireturn, 69, [0], .null) := by decide +kernel
theorem t257_0 : am_T 257 0 = some (0, .aload_n 0, 1, [], .null) := by decide +kernel
theorem t257_1 : am_T 257 1 = some (0, .iconst 0, 2, [], .int (0)) := by decide +kernel
theorem t257_2 : am_T 257 2 = some (2, .putfield 128, 5, [0, 0, 12], .null) := by decide +kernel
theorem t257_5 : am_T 257 5 = some (0, .aload_n 0, 6, [], .null) := by decide +kernel
theorem t257_6 : am_T 257 6 = some (2, .getfield 298, 9, [20, 12], .null) := by decide +kernel
theorem t257_9 : am_T 257 9 = some (1, .ifCond .ne 5, 12, [14], .null) := by decide +kernel
theorem t257_12 : am_T 257 12 = some (0, .iconst (-1), 13, [], .int (-1)) := by decide +kernel
theorem t257_13 : am_T 257 13 = some (4, .ireturn, 14, [0], .null) := by decide +kernel
theorem t257_14 : am_T 257 14 = some (0, .iconst 0, 15, [], .int (0)) := by decide +kernel
theorem t257_15 : am_T 257 15 = some (0, .istore_n 1, 16, [], .null) := by decide +kernel
theorem t257_16 : am_T 257 16 = some (0, .iconst 0, 17, [], .int (0)) := by decide +kernel
theorem t257_17 : am_T 257 17 = some (0, .istore_n 2, 18, [], .null) := by decide +kernel
theorem t257_18 : am_T 257 18 = some (0, .iload_n 2, 19, [], .null) := by decide +kernel
theorem t257_19 : am_T 257 19 = some (0, .aload_n 0, 20, [], .null) := by decide +kernel
theorem t257_20 : am_T 257 20 = some (2, .getfield 284, 23, [28, 12], .null) := by decide +kernel
theorem t257_23 : am_T 257 23 = some (1, .if_icmp .ge 75, 26, [98], .null) := by decide +kernel
theorem t257_26 : am_T 257 26 = some (0, .iconst 1, 27, [], .int (1)) := by decide +kernel
theorem t257_27 : am_T 257 27 = some (0, .istore_n 3, 28, [], .null) := by decide +kernel
theorem t257_28 : am_T 257 28 = some (0, .iconst 0, 29, [], .int (0)) := by decide +kernel
theorem t257_29 : am_T 257 29 = some (0, .istore 4, 31, [], .null) := by decide +kernel
theorem t257_31 : am_T 257 31 = some (0, .iload 4, 33, [], .null) := by decide +kernel
theorem t257_33 : am_T 257 33 = some (0, .aload_n 0, 34, [], .null) := by decide +kernel
theorem t257_34 : am_T 257 34 = some (2, .getfield 319, 37, [58, 12], .null) := by decide +kernel
theorem t257_37 : am_T 257 37 = some (1, .if_icmp .ge 41, 40, [78], .null) := by decide +kernel
theorem t257_40 : am_T 257 40 = some (0, .iload_n 3, 41, [], .null) := by decide +kernel
theorem t257_41 : am_T 257 41 = some (1, .ifCond .eq 29, 44, [70], .null) := by decide +kernel
theorem t257_44 : am_T 257 44 = some (0, .aload_n 0, 45, [], .null) := by decide +kernel
theorem t257_45 : am_T 257 45 = some (0, .iload_n 2, 46, [], .null) := by decide +kernel
theorem t257_46 : am_T 257 46 = some (0, .aload_n 0, 47, [], .null) := by decide +kernel
theorem t257_47 : am_T 257 47 = some (2, .getfield 116, 50, [56, 12], .null) := by decide +kernel
theorem t257_50 : am_T 257 50 = some (0, .iload 4, 52, [], .null) := by decide +kernel
theorem t257_52 : am_T 257 52 = some (2, .iaload, 53, [], .null) := by decide +kernel
theorem t257_53 : am_T 257 53 = some (3, .invokevirtual 356, 56, [3, 12, 231], .null) := by decide +kernel
theorem t257_56 : am_T 257 56 = some (0, .aload_n 0, 57, [], .null) := by decide +kernel
theorem t257_57 : am_T 257 57 = some (2, .getfield 119, 60, [57, 12], .null) := by decide +kernel
theorem t257_60 : am_T 257 60 = some (0, .iload 4, 62, [], .null) := by decide +kernel
theorem t257_62 : am_T 257 62 = some (2, .iaload, 63, [], .null) := by decide +kernel
theorem t257_63 : am_T 257 63 = some (1, .if_icmp .ne 7, 66, [70], .null) := by decide +kernel
theorem t257_66 : am_T 257 66 = some (0, .iconst 1, 67, [], .int (1)) := by decide +kernel
theorem t257_67 : am_T 257 67 = some (1, .goto 4, 70, [71], .null) := by decide +kernel
theorem t257_70 : am_T 257 70 = some (0, .iconst 0, 71, [], .int (0)) := by decide +kernel
theorem t257_71 : am_T 257 71 = some (0, .istore_n 3, 72, [], .null) := by decide +kernel
theorem t257_72 : am_T 257 72 = some (0, .iinc 4 1, 75, [], .int (1)) := by decide +kernel
theorem t257_75 : am_T 257 75 = some (1, .goto (-44), 78, [31], .null) := by decide +kernel
theorem t257_78 : am_T 257 78 = some (0, .iload_n 1, 79, [], .null) := by decide +kernel
theorem t257_79 : am_T 257 79 = some (0, .iload_n 3, 80, [], .null) := by decide +kernel
theorem t257_80 : am_T 257 80 = some (1, .ifCond .eq 9, 83, [89], .null) := by decide +kernel
theorem t257_83 : am_T 257 83 = some (0, .iconst 1, 84, [], .int (1)) := by decide +kernel
theorem t257_84 : am_T 257 84 = some (0, .iload_n 2, 85, [], .null) := by decide +kernel
theorem t257_85 : am_T 257 85 = some (0, .ishl, 86, [], .null) := by decide +kernel
theorem t257_86 : am_T 257 86 = some (1, .goto 4, 89, [90], .null) := by decide +kernel
theorem t257_89 : am_T 257 89 = some (0, .iconst 0, 90, [], .int (0)) := by decide +kernel
theorem t257_90 : am_T 257 90 = some (0, .ior, 91, [], .null) := by decide +kernel
theorem t257_91 : am_T 257 91 = some (0, .istore_n 1, 92, [], .null) := by decide +kernel
theorem t257_92 : am_T 257 92 = some (0, .iinc 2 1, 95, [], .int (1)) := by decide +kernel
theorem t257_95 : am_T 257 95 = some (1, .goto (-77), 98, [18], .null) := by decide +kernel
theorem t257_98 : am_T 257 98 = some (0, .iload_n 1, 99, [], .null) := by decide +kernel
theorem t257_99 : am_T 257 99 = some (4, .ireturn, 100, [0], .null) := by decide +kernel
theorem t258_0 : am_T 258 0 = some (0, .iconst 0, 1, [], .int (0)) := by decide +kernel
theorem t258_1 : am_T 258 1 = some (0, .istore 4, 3, [], .null) := by decide +kernel
theorem t258_3 : am_T 258 3 = some (0, .iload 4, 5, [], .null) := by decide +kernel
theorem t258_5 : am_T 258 5 = some (0, .aload_n 0, 6, [], .null) := by decide +kernel
theorem t258_6 : am_T 258 6 = some (2, .getfield 298, 9, [20, 12], .null) := by decide +kernel
theorem t258_9 : am_T 258 9 = some (1, .if_icmp .ge 47, 12, [56], .null) := by decide +kernel
theorem t258_12 : am_T 258 12 = some (0, .iload_n 1, 13, [], .null) := by decide +kernel
theorem t258_13 : am_T 258 13 = some (0, .iload 4, 15, [], .null) := by decide +kernel
theorem t258_15 : am_T 258 15 = some (3, .invokestatic 260, 18, [2, 177], .null) := by decide +kernel
theorem t258_18 : am_T 258 18 = some (1, .ifCond .eq 32, 21, [50], .null) := by decide +kernel
theorem t258_21 : am_T 258 21 = some (0, .aload_n 0, 22, [], .null) := by decide +kernel
theorem t258_22 : am_T 258 22 = some (0, .aload_n 0, 23, [], .null) := by decide +kernel
theorem t258_23 : am_T 258 23 = some (2, .getfield 116, 26, [56, 12], .null) := by decide +kernel
theorem t258_26 : am_T 258 26 = some (0, .iload_n 2, 27, [], .null) := by decide +kernel
theorem t258_27 : am_T 258 27 = some (2, .iaload, 28, [], .null) := by decide +kernel
theorem t258_28 : am_T 258 28 = some (0, .iload 4, 30, [], .null) := by decide +kernel
theorem t258_30 : am_T 258 30 = some (3, .invokevirtual 328, 33, [3, 12, 211], .null) := by decide +kernel
theorem t258_33 : am_T 258 33 = some (0, .aload_n 0, 34, [], .null) := by decide +kernel
theorem t258_34 : am_T 258 34 = some (0, .aload_n 0, 35, [], .null) := by decide +kernel
theorem t258_35 : am_T 258 35 = some (2, .getfield 116, 38, [56, 12], .null) := by decide +kernel
theorem t258_38 : am_T 258 38 = some (0, .iload_n 3, 39, [], .null) := by decide +kernel
theorem t258_39 : am_T 258 39 = some (2, .iaload, 40, [], .null) := by decide +kernel
theorem t258_40 : am_T 258 40 = some (0, .iload 4, 42, [], .null) := by decide +kernel
theorem t258_42 : am_T 258 42 = some (3, .invokevirtual 328, 45, [3, 12, 211], .null) := by decide +kernel
theorem t258_45 : am_T 258 45 = some (1, .if_icmp .eq 5, 48, [50], .null) := by decide +kernel
theorem t258_48 : am_T 258 48 = some (0, .iconst 1, 49, [], .int (1)) := by decide +kernel
theorem t258_49 : am_T 258 49 = some (4, .ireturn, 50, [1], .null) := by decide +kernel
theorem t258_50 : am_T 258 50 = some (0, .iinc 4 1, 53, [], .int (1)) := by decide +kernel
theorem t258_53 : am_T 258 53 = some (1, .goto (-50), 56, [3], .null) := by decide +kernel
theorem t258_56 : am_T 258 56 = some (0, .iconst 0, 57, [], .int (0)) := by decide +kernel
theorem t258_57 : am_T 258 57 = some (4, .ireturn, 58, [1], .null) := by decide +kernel
theorem t259_0 : am_T 259 0 = some (0, .aload_n 0, 1, [], .null) := by decide +kernel
theorem t259_1 : am_T 259 1 = some (0, .iconst 0, 2, [], .int (0)) := by decide +kernel
theorem t259_2 : am_T 259 2 = some (2, .putfield 128, 5, [0, 0, 12], .null) := by decide +kernel
theorem t259_5 : am_T 259 5 = some (0, .aload_n 0, 6, [], .null) := by decide +kernel
theorem t259_6 : am_T 259 6 = some (2, .getfield 298, 9, [20, 12], .null) := by decide +kernel
theorem t259_9 : am_T 259 9 = some (1, .ifCond .ne 5, 12, [14], .null) := by decide +kernel
theorem t259_12 : am_T 259 12 = some (0, .iconst (-1), 13, [], .int (-1)) := by decide +kernel
theorem t259_13 : am_T 259 13 = some (4, .ireturn, 14, [0], .null) := by decide +kernel
theorem t259_14 : am_T 259 14 = some (0, .iconst (-1), 15, [], .int (-1)) := by decide +kernel
theorem t259_15 : am_T 259 15 = some (0, .istore_n 1, 16, [], .null) := by decide +kernel
theorem t259_16 : am_T 259 16 = some (0, .iconst 0, 17, [], .int (0)) := by decide +kernel
theorem t259_17 : am_T 259 17 = some (0, .istore_n 2, 18, [], .null) := by decide +kernel
theorem t259_18 : am_T 259 18 = some (0, .iload_n 2, 19, [], .null) := by decide +kernel
theorem t259_19 : am_T 259 19 = some (0, .iconst 1, 20, [], .int (1)) := by decide +kernel
theorem t259_20 : am_T 259 20 = some (0, .aload_n 0, 21, [], .null) := by decide +kernel
theorem t259_21 : am_T 259 21 = some (2, .getfield 298, 24, [20, 12], .null) := by decide +kernel
theorem t259_24 : am_T 259 24 = some (0, .ishl, 25, [], .null) := by decide +kernel
theorem t259_25 : am_T 259 25 = some (1, .if_icmp .ge 109, 28, [134], .null) := by decide +kernel
theorem t259_28 : am_T 259 28 = some (0, .iload_n 1, 29, [], .null) := by decide +kernel
theorem t259_29 : am_T 259 29 = some (0, .iconst (-1), 30, [], .int (-1)) := by decide +kernel
theorem t259_30 : am_T 259 30 = some (1, .if_icmp .eq 17, 33, [47], .null) := by decide +kernel
theorem t259_33 : am_T 259 33 = some (0, .iload_n 2, 34, [], .null) := by decide +kernel
theorem t259_34 : am_T 259 34 = some (3, .invokestatic 420, 37, [1, 266], .null) := by decide +kernel
theorem t259_37 : am_T 259 37 = some (0, .iload_n 1, 38, [], .null) := by decide +kernel
theorem t259_38 : am_T 259 38 = some (3, .invokestatic 420, 41, [1, 266], .null) := by decide +kernel
theorem t259_41 : am_T 259 41 = some (1, .if_icmp .lt 6, 44, [47], .null) := by decide +kernel
theorem t259_44 : am_T 259 44 = some (1, .goto 84, 47, [128], .null) := by decide +kernel
theorem t259_47 : am_T 259 47 = some (0, .iconst 1, 48, [], .int (1)) := by decide +kernel
theorem t259_48 : am_T 259 48 = some (0, .istore_n 3, 49, [], .null) := by decide +kernel
theorem t259_49 : am_T 259 49 = some (0, .iconst 0, 50, [], .int (0)) := by decide +kernel
theorem t259_50 : am_T 259 50 = some (0, .istore 4, 52, [], .null) := by decide +kernel
theorem t259_52 : am_T 259 52 = some (0, .iload 4, 54, [], .null) := by decide +kernel
theorem t259_54 : am_T 259 54 = some (0, .aload_n 0, 55, [], .null) := by decide +kernel
theorem t259_55 : am_T 259 55 = some (2, .getfield 319, 58, [58, 12], .null) := by decide +kernel
theorem t259_58 : am_T 259 58 = some (1, .if_icmp .ge 64, 61, [122], .null) := by decide +kernel
theorem t259_61 : am_T 259 61 = some (0, .iconst 0, 62, [], .int (0)) := by decide +kernel
theorem t259_62 : am_T 259 62 = some (0, .istore 5, 64, [], .null) := by decide +kernel
theorem t259_64 : am_T 259 64 = some (0, .iload 5, 66, [], .null) := by decide +kernel
theorem t259_66 : am_T 259 66 = some (0, .iload 4, 68, [], .null) := by decide +kernel
theorem t259_68 : am_T 259 68 = some (1, .if_icmp .ge 48, 71, [116], .null) := by decide +kernel
theorem t259_71 : am_T 259 71 = some (0, .iload_n 3, 72, [], .null) := by decide +kernel
theorem t259_72 : am_T 259 72 = some (1, .ifCond .eq 36, 75, [108], .null) := by decide +kernel
theorem t259_75 : am_T 259 75 = some (0, .aload_n 0, 76, [], .null) := by decide +kernel
theorem t259_76 : am_T 259 76 = some (2, .getfield 119, 79, [57, 12], .null) := by decide +kernel
theorem t259_79 : am_T 259 79 = some (0, .iload 4, 81, [], .null) := by decide +kernel
theorem t259_81 : am_T 259 81 = some (2, .iaload, 82, [], .null) := by decide +kernel
theorem t259_82 : am_T 259 82 = some (0, .aload_n 0, 83, [], .null) := by decide +kernel
theorem t259_83 : am_T 259 83 = some (2, .getfield 119, 86, [57, 12], .null) := by decide +kernel
theorem t259_86 : am_T 259 86 = some (0, .iload 5, 88, [], .null) := by decide +kernel
theorem t259_88 : am_T 259 88 = some (2, .iaload, 89, [], .null) := by decide +kernel
theorem t259_89 : am_T 259 89 = some (1, .if_icmp .eq 15, 92, [104], .null) := by decide +kernel
theorem t259_92 : am_T 259 92 = some (0, .aload_n 0, 93, [], .null) := by decide +kernel
theorem t259_93 : am_T 259 93 = some (0, .iload_n 2, 94, [], .null) := by decide +kernel
theorem t259_94 : am_T 259 94 = some (0, .iload 4, 96, [], .null) := by decide +kernel
theorem t259_96 : am_T 259 96 = some (0, .iload 5, 98, [], .null) := by decide +kernel
theorem t259_98 : am_T 259 98 = some (3, .invokevirtual 425, 101, [4, 12, 258], .null) := by decide +kernel
theorem t259_101 : am_T 259 101 = some (1, .ifCond .eq 7, 104, [108], .null) := by decide +kernel
theorem t259_104 : am_T 259 104 = some (0, .iconst 1, 105, [], .int (1)) := by decide +kernel
theorem t259_105 : am_T 259 105 = some (1, .goto 4, 108, [109], .null) := by decide +kernel
theorem t259_108 : am_T 259 108 = some (0, .iconst 0, 109, [], .int (0)) := by decide +kernel
theorem t259_109 : am_T 259 109 = some (0, .istore_n 3, 110, [], .null) := by decide +kernel
theorem t259_110 : am_T 259 110 = some (0, .iinc 5 1, 113, [], .int (1)) := by decide +kernel
theorem t259_113 : am_T 259 113 = some (1, .goto (-49), 116, [64], .null) := by decide +kernel
theorem t259_116 : am_T 259 116 = some (0, .iinc 4 1, 119, [], .int (1)) := by decide +kernel
theorem t259_119 : am_T 259 119 = some (1, .goto (-67), 122, [52], .null) := by decide +kernel
theorem t259_122 : am_T 259 122 = some (0, .iload_n 3, 123, [], .null) := by decide +kernel
theorem t259_123 : am_T 259 123 = some (1, .ifCond .eq 5, 126, [128], .null) := by decide +kernel
theorem t259_126 : am_T 259 126 = some (0, .iload_n 2, 127, [], .null) := by decide +kernel
theorem t259_127 : am_T 259 127 = some (0, .istore_n 1, 128, [], .null) := by decide +kernel
theorem t259_128 : am_T 259 128 = some (0, .iinc 2 1, 131, [], .int (1)) := by decide +kernel
theorem t259_131 : am_T 259 131 = some (1, .goto (-113), 134, [18], .null) := by decide +kernel
theorem t259_134 : am_T 259 134 = some (0, .iload_n 1, 135, [], .null) := by decide +kernel
theorem t259_135 : am_T 259 135 = some (4, .ireturn, 136, [0], .null) := by decide +kernel
theorem t260_0 : am_T 260 0 = some (0, .aload_n 0, 1, [], .null) := by decide +kernel
theorem t260_1 : am_T 260 1 = some (0, .iconst 0, 2, [], .int (0)) := by decide +kernel
theorem t260_2 : am_T 260 2 = some (2, .putfield 128, 5, [0, 0, 12], .null) := by decide +kernel
theorem t260_5 : am_T 260 5 = some (0, .aload_n 0, 6, [], .null) := by decide +kernel
theorem t260_6 : am_T 260 6 = some (2, .getfield 298, 9, [20, 12], .null) := by decide +kernel
theorem t260_9 : am_T 260 9 = some (1, .ifCond .eq 33, 12, [42], .null) := by decide +kernel
theorem t260_12 : am_T 260 12 = some (0, .iload_n 1, 13, [], .null) := by decide +kernel
theorem t260_13 : am_T 260 13 = some (0, .i2l, 14, [], .null) := by decide +kernel
theorem t260_14 : am_T 260 14 = some (0, .lconst 1, 15, [], .long 1) := by decide +kernel
theorem t260_15 : am_T 260 15 = some (0, .ldc2_w 341, 18, [], .long (2)) := by decide +kernel
theorem t260_18 : am_T 260 18 = some (3, .invokestatic 246, 21, [3, 176], .null) := by decide +kernel
theorem t260_21 : am_T 260 21 = some (1, .ifCond .eq 21, 24, [42], .null) := by decide +kernel
theorem t260_24 : am_T 260 24 = some (0, .aload_n 0, 25, [], .null) := by decide +kernel
theorem t260_25 : am_T 260 25 = some (0, .aload_n 0, 26, [], .null) := by decide +kernel
theorem t260_26 : am_T 260 26 = some (2, .getfield 304, 29, [33, 12], .null) := by decide +kernel
theorem t260_29 : am_T 260 29 = some (0, .iload_n 1, 30, [], .null) := by decide +kernel
theorem t260_30 : am_T 260 30 = some (3, .invokevirtual 331, 33, [3, 12, 213], .null) := by decide +kernel
theorem t260_33 : am_T 260 33 = some (0, .aload_n 0, 34, [], .null) := by decide +kernel
theorem t260_34 : am_T 260 34 = some (2, .getfield 37, 37, [18, 12], .null) := by decide +kernel
theorem t260_37 : am_T 260 37 = some (0, .iload_n 1, 38, [], .null) := by decide +kernel
theorem t260_38 : am_T 260 38 = some (2, .iaload, 39, [], .null) := by decide +kernel
theorem t260_39 : am_T 260 39 = some (1, .if_icmp .ne 5, 42, [44], .null) := by decide +kernel
theorem t260_42 : am_T 260 42 = some (0, .iconst (-1), 43, [], .int (-1)) := by decide +kernel
theorem t260_43 : am_T 260 43 = some (4, .ireturn, 44, [0], .null) := by decide +kernel
theorem t260_44 : am_T 260 44 = some (0, .aload_n 0, 45, [], .null) := by decide +kernel
theorem t260_45 : am_T 260 45 = some (2, .getfield 37, 48, [18, 12], .null) := by decide +kernel
theorem t260_48 : am_T 260 48 = some (0, .iload_n 1, 49, [], .null) := by decide +kernel
theorem t260_49 : am_T 260 49 = some (0, .dup2, 50, [], .null) := by decide +kernel
theorem t260_50 : am_T 260 50 = some (2, .iaload, 51, [], .null) := by decide +kernel
theorem t260_51 : am_T 260 51 = some (0, .iconst 1, 52, [], .int (1)) := by decide +kernel
theorem t260_52 : am_T 260 52 = some (0, .isub, 53, [], .null) := by decide +kernel
theorem t260_53 : am_T 260 53 = some (2, .iastore, 54, [], .null) := by decide +kernel
theorem t260_54 : am_T 260 54 = some (0, .aload_n 0, 55, [], .null) := by decide +kernel
theorem t260_55 : am_T 260 55 = some (0, .iconst 0, 56, [], .int (0)) := by decide +kernel
theorem t260_56 : am_T 260 56 = some (2, .putfield 313, 59, [40, 0, 12], .null) := by decide +kernel
theorem t260_59 : am_T 260 59 = some (0, .aload_n 0, 60, [], .null) := by decide +kernel
theorem t260_60 : am_T 260 60 = some (2, .getfield 37, 63, [18, 12], .null) := by decide +kernel
theorem t260_63 : am_T 260 63 = some (0, .iload_n 1, 64, [], .null) := by decide +kernel
theorem t260_64 : am_T 260 64 = some (2, .iaload, 65, [], .null) := by decide +kernel
theorem t260_65 : am_T 260 65 = some (4, .ireturn, 66, [0], .null) := by decide +kernel
theorem t261_0 : am_T 261 0 = some (0, .aload_n 0, 1, [], .null) := by decide +kernel
theorem t261_1 : am_T 261 1 = some (0, .iconst 0, 2, [], .int (0)) := by decide +kernel
theorem t261_2 : am_T 261 2 = some (2, .putfield 128, 5, [0, 0, 12], .null) := by decide +kernel
theorem t261_5 : am_T 261 5 = some (0, .aload_n 0, 6, [], .null) := by decide +kernel
theorem t261_6 : am_T 261 6 = some (2, .getfield 298, 9, [20, 12], .null) := by decide +kernel
theorem t261_9 : am_T 261 9 = some (1, .ifCond .eq 26, 12, [35], .null) := by decide +kernel
theorem t261_12 : am_T 261 12 = some (0, .iload_n 1, 13, [], .null) := by decide +kernel
theorem t261_13 : am_T 261 13 = some (0, .i2l, 14, [], .null) := by decide +kernel
theorem t261_14 : am_T 261 14 = some (0, .lconst 1, 15, [], .long 1) := by decide +kernel
theorem t261_15 : am_T 261 15 = some (0, .ldc2_w 429, 18, [], .long (20)) := by decide +kernel
theorem t261_18 : am_T 261 18 = some (3, .invokestatic 246, 21, [3, 176], .null) := by decide +kernel
theorem t261_21 : am_T 261 21 = some (1, .ifCond .eq 14, 24, [35], .null) := by decide +kernel
theorem t261_24 : am_T 261 24 = some (0, .aload_n 0, 25, [], .null) := by decide +kernel
theorem t261_25 : am_T 261 25 = some (2, .getfield 307, 28, [34, 12], .null) := by decide +kernel
theorem t261_28 : am_T 261 28 = some (0, .iload_n 1, 29, [], .null) := by decide +kernel
theorem t261_29 : am_T 261 29 = some (0, .iadd, 30, [], .null) := by decide +kernel
theorem t261_30 : am_T 261 30 = some (0, .bipush 60, 32, [], .int (60)) := by decide +kernel
theorem t261_32 : am_T 261 32 = some (1, .if_icmp .le 5, 35, [37], .null) := by decide +kernel
theorem t261_35 : am_T 261 35 = some (0, .iconst (-1), 36, [], .int (-1)) := by decide +kernel
theorem t261_36 : am_T 261 36 = some (4, .ireturn, 37, [0], .null) := by decide +kernel
theorem t261_37 : am_T 261 37 = some (0, .lload_n 2, 38, [], .null) := by decide +kernel
theorem t261_38 : am_T 261 38 = some (0, .lstore 4, 40, [], .null) := by decide +kernel
theorem t261_40 : am_T 261 40 = some (0, .iconst 0, 41, [], .int (0)) := by decide +kernel
theorem t261_41 : am_T 261 41 = some (0, .istore 6, 43, [], .null) := by decide +kernel
theorem t261_43 : am_T 261 43 = some (0, .iload 6, 45, [], .null) := by decide +kernel
theorem t261_45 : am_T 261 45 = some (0, .iload_n 1, 46, [], .null) := by decide +kernel
theorem t261_46 : am_T 261 46 = some (1, .if_icmp .ge 148, 49, [194], .null) := by decide +kernel
theorem t261_49 : am_T 261 49 = some (0, .aload_n 0, 50, [], .null) := by decide +kernel
theorem t261_50 : am_T 261 50 = some (0, .aload_n 0, 51, [], .null) := by decide +kernel
theorem t261_51 : am_T 261 51 = some (2, .getfield 304, 54, [33, 12], .null) := by decide +kernel
theorem t261_54 : am_T 261 54 = some (3, .invokevirtual 371, 57, [2, 12, 233], .null) := by decide +kernel
theorem t261_57 : am_T 261 57 = some (0, .iconst 1, 58, [], .int (1)) := by decide +kernel
theorem t261_58 : am_T 261 58 = some (0, .istore 7, 60, [], .null) := by decide +kernel
theorem t261_60 : am_T 261 60 = some (0, .iload 7, 62, [], .null) := by decide +kernel
theorem t261_62 : am_T 261 62 = some (0, .aload_n 0, 63, [], .null) := by decide +kernel
theorem t261_63 : am_T 261 63 = some (2, .getfield 365, 66, [42, 12], .null) := by decide +kernel
theorem t261_66 : am_T 261 66 = some (1, .if_icmp .ge 72, 69, [138], .null) := by decide +kernel
theorem t261_69 : am_T 261 69 = some (0, .aload_n 0, 70, [], .null) := by decide +kernel
theorem t261_70 : am_T 261 70 = some (2, .getfield 77, 73, [41, 12], .null) := by decide +kernel
theorem t261_73 : am_T 261 73 = some (0, .iload 7, 75, [], .null) := by decide +kernel
theorem t261_75 : am_T 261 75 = some (2, .iaload, 76, [], .null) := by decide +kernel
theorem t261_76 : am_T 261 76 = some (0, .istore 8, 78, [], .null) := by decide +kernel
theorem t261_78 : am_T 261 78 = some (0, .iload 7, 80, [], .null) := by decide +kernel
theorem t261_80 : am_T 261 80 = some (0, .istore 9, 82, [], .null) := by decide +kernel
theorem t261_82 : am_T 261 82 = some (0, .iload 9, 84, [], .null) := by decide +kernel
theorem t261_84 : am_T 261 84 = some (1, .ifCond .le 39, 87, [123], .null) := by decide +kernel
theorem t261_87 : am_T 261 87 = some (0, .aload_n 0, 88, [], .null) := by decide +kernel
theorem t261_88 : am_T 261 88 = some (2, .getfield 77, 91, [41, 12], .null) := by decide +kernel
theorem t261_91 : am_T 261 91 = some (0, .iload 9, 93, [], .null) := by decide +kernel
theorem t261_93 : am_T 261 93 = some (0, .iconst 1, 94, [], .int (1)) := by decide +kernel
theorem t261_94 : am_T 261 94 = some (0, .isub, 95, [], .null) := by decide +kernel
theorem t261_95 : am_T 261 95 = some (2, .iaload, 96, [], .null) := by decide +kernel
theorem t261_96 : am_T 261 96 = some (0, .iload 8, 98, [], .null) := by decide +kernel
theorem t261_98 : am_T 261 98 = some (1, .if_icmp .le 25, 101, [123], .null) := by decide +kernel
theorem t261_101 : am_T 261 101 = some (0, .aload_n 0, 102, [], .null) := by decide +kernel
theorem t261_102 : am_T 261 102 = some (2, .getfield 77, 105, [41, 12], .null) := by decide +kernel
theorem t261_105 : am_T 261 105 = some (0, .iload 9, 107, [], .null) := by decide +kernel
theorem t261_107 : am_T 261 107 = some (0, .aload_n 0, 108, [], .null) := by decide +kernel
theorem t261_108 : am_T 261 108 = some (2, .getfield 77, 111, [41, 12], .null) := by decide +kernel
theorem t261_111 : am_T 261 111 = some (0, .iload 9, 113, [], .null) := by decide +kernel
theorem t261_113 : am_T 261 113 = some (0, .iconst 1, 114, [], .int (1)) := by decide +kernel
theorem t261_114 : am_T 261 114 = some (0, .isub, 115, [], .null) := by decide +kernel
theorem t261_115 : am_T 261 115 = some (2, .iaload, 116, [], .null) := by decide +kernel
theorem t261_116 : am_T 261 116 = some (2, .iastore, 117, [], .null) := by decide +kernel
theorem t261_117 : am_T 261 117 = some (0, .iinc 9 (-1), 120, [], .int (-1)) := by decide +kernel
theorem t261_120 : am_T 261 120 = some (1, .goto (-38), 123, [82], .null) := by decide +kernel
theorem t261_123 : am_T 261 123 = some (0, .aload_n 0, 124, [], .null) := by decide +kernel
theorem t261_124 : am_T 261 124 = some (2, .getfield 77, 127, [41, 12], .null) := by decide +kernel
theorem t261_127 : am_T 261 127 = some (0, .iload 9, 129, [], .null) := by decide +kernel
theorem t261_129 : am_T 261 129 = some (0, .iload 8, 131, [], .null) := by decide +kernel
theorem t261_131 : am_T 261 131 = some (2, .iastore, 132, [], .null) := by decide +kernel
theorem t261_132 : am_T 261 132 = some (0, .iinc 7 1, 135, [], .int (1)) := by decide +kernel
theorem t261_135 : am_T 261 135 = some (1, .goto (-75), 138, [60], .null) := by decide +kernel
theorem t261_138 : am_T 261 138 = some (0, .lload 4, 140, [], .null) := by decide +kernel
theorem t261_140 : am_T 261 140 = some (0, .ldc2_w 431, 143, [], .long (6364136223846793005)) := by decide +kernel
theorem t261_143 : am_T 261 143 = some (0, .lmul, 144, [], .null) := by decide +kernel
theorem t261_144 : am_T 261 144 = some (0, .ldc2_w 433, 147, [], .long (1442695040888963407)) := by decide +kernel
theorem t261_147 : am_T 261 147 = some (0, .ladd, 148, [], .null) := by decide +kernel
theorem t261_148 : am_T 261 148 = some (0, .lstore 4, 150, [], .null) := by decide +kernel
theorem t261_150 : am_T 261 150 = some (0, .lload 4, 152, [], .null) := by decide +kernel
theorem t261_152 : am_T 261 152 = some (0, .bipush 33, 154, [], .int (33)) := by decide +kernel
theorem t261_154 : am_T 261 154 = some (0, .lushr, 155, [], .null) := by decide +kernel
theorem t261_155 : am_T 261 155 = some (0, .aload_n 0, 156, [], .null) := by decide +kernel
theorem t261_156 : am_T 261 156 = some (2, .getfield 365, 159, [42, 12], .null) := by decide +kernel
theorem t261_159 : am_T 261 159 = some (0, .iconst 1, 160, [], .int (1)) := by decide +kernel
theorem t261_160 : am_T 261 160 = some (0, .iadd, 161, [], .null) := by decide +kernel
theorem t261_161 : am_T 261 161 = some (0, .i2l, 162, [], .null) := by decide +kernel
theorem t261_162 : am_T 261 162 = some (0, .lrem, 163, [], .null) := by decide +kernel
theorem t261_163 : am_T 261 163 = some (0, .l2i, 164, [], .null) := by decide +kernel
theorem t261_164 : am_T 261 164 = some (0, .istore 7, 166, [], .null) := by decide +kernel
theorem t261_166 : am_T 261 166 = some (0, .iload 7, 168, [], .null) := by decide +kernel
theorem t261_168 : am_T 261 168 = some (1, .ifCond .le 16, 171, [184], .null) := by decide +kernel
theorem t261_171 : am_T 261 171 = some (0, .aload_n 0, 172, [], .null) := by decide +kernel
theorem t261_172 : am_T 261 172 = some (0, .aload_n 0, 173, [], .null) := by decide +kernel
theorem t261_173 : am_T 261 173 = some (2, .getfield 77, 176, [41, 12], .null) := by decide +kernel
theorem t261_176 : am_T 261 176 = some (0, .iload 7, 178, [], .null) := by decide +kernel
theorem t261_178 : am_T 261 178 = some (0, .iconst 1, 179, [], .int (1)) := by decide +kernel
theorem t261_179 : am_T 261 179 = some (0, .isub, 180, [], .null) := by decide +kernel
theorem t261_180 : am_T 261 180 = some (2, .iaload, 181, [], .null) := by decide +kernel
theorem t261_181 : am_T 261 181 = some (2, .putfield 304, 184, [33, 0, 12], .null) := by decide +kernel
theorem t261_184 : am_T 261 184 = some (0, .aload_n 0, 185, [], .null) := by decide +kernel
theorem t261_185 : am_T 261 185 = some (3, .invokevirtual 359, 188, [1, 12, 228], .null) := by decide +kernel
theorem t261_188 : am_T 261 188 = some (0, .iinc 6 1, 191, [], .int (1)) := by decide +kernel
theorem t261_191 : am_T 261 191 = some (1, .goto (-148), 194, [43], .null) := by decide +kernel
theorem t261_194 : am_T 261 194 = some (0, .aload_n 0, 195, [], .null) := by decide +kernel
theorem t261_195 : am_T 261 195 = some (0, .iconst 0, 196, [], .int (0)) := by decide +kernel
theorem t261_196 : am_T 261 196 = some (2, .putfield 313, 199, [40, 0, 12], .null) := by decide +kernel
theorem t261_199 : am_T 261 199 = some (0, .aload_n 0, 200, [], .null) := by decide +kernel
theorem t261_200 : am_T 261 200 = some (2, .getfield 307, 203, [34, 12], .null) := by decide +kernel
theorem t261_203 : am_T 261 203 = some (4, .ireturn, 204, [0], .null) := by decide +kernel
theorem t262_0 : am_T 262 0 = some (0, .aload_n 0, 1, [], .null) := by decide +kernel
theorem t262_1 : am_T 262 1 = some (0, .iconst 0, 2, [], .int (0)) := by decide +kernel
theorem t262_2 : am_T 262 2 = some (2, .putfield 128, 5, [0, 0, 12], .null) := by decide +kernel
theorem t262_5 : am_T 262 5 = some (0, .iload_n 1, 6, [], .null) := by decide +kernel
theorem t262_6 : am_T 262 6 = some (0, .i2l, 7, [], .null) := by decide +kernel
theorem t262_7 : am_T 262 7 = some (0, .lconst 0, 8, [], .long 0) := by decide +kernel
theorem t262_8 : am_T 262 8 = some (0, .aload_n 0, 9, [], .null) := by decide +kernel
theorem t262_9 : am_T 262 9 = some (2, .getfield 307, 12, [34, 12], .null) := by decide +kernel
theorem t262_12 : am_T 262 12 = some (0, .iconst 1, 13, [], .int (1)) := by decide +kernel
theorem t262_13 : am_T 262 13 = some (0, .isub, 14, [], .null) := by decide +kernel
theorem t262_14 : am_T 262 14 = some (0, .i2l, 15, [], .null) := by decide +kernel
theorem t262_15 : am_T 262 15 = some (3, .invokestatic 246, 18, [3, 176], .null) := by decide +kernel
theorem t262_18 : am_T 262 18 = some (1, .ifCond .eq 16, 21, [34], .null) := by decide +kernel
theorem t262_21 : am_T 262 21 = some (0, .aload_n 0, 22, [], .null) := by decide +kernel
theorem t262_22 : am_T 262 22 = some (0, .aload_n 0, 23, [], .null) := by decide +kernel
theorem t262_23 : am_T 262 23 = some (2, .getfield 65, 26, [36, 12], .null) := by decide +kernel
theorem t262_26 : am_T 262 26 = some (0, .iload_n 1, 27, [], .null) := by decide +kernel
theorem t262_27 : am_T 262 27 = some (2, .iaload, 28, [], .null) := by decide +kernel
theorem t262_28 : am_T 262 28 = some (3, .invokevirtual 388, 31, [2, 12, 215], .null) := by decide +kernel
theorem t262_31 : am_T 262 31 = some (1, .goto 4, 34, [35], .null) := by decide +kernel
theorem t262_34 : am_T 262 34 = some (0, .iconst (-1), 35, [], .int (-1)) := by decide +kernel
theorem t262_35 : am_T 262 35 = some (4, .ireturn, 36, [0], .null) := by decide +kernel
theorem t263_0 : am_T 263 0 = some (0, .aload_n 0, 1, [], .null) := by decide +kernel
theorem t263_1 : am_T 263 1 = some (0, .iconst 0, 2, [], .int (0)) := by decide +kernel
theorem t263_2 : am_T 263 2 = some (2, .putfield 128, 5, [0, 0, 12], .null) := by decide +kernel
theorem t263_5 : am_T 263 5 = some (0, .aload_n 0, 6, [], .null) := by decide +kernel
theorem t263_6 : am_T 263 6 = some (2, .getfield 298, 9, [20, 12], .null) := by decide +kernel
theorem t263_9 : am_T 263 9 = some (1, .ifCond .ne 5, 12, [14], .null) := by decide +kernel
theorem t263_12 : am_T 263 12 = some (0, .iconst (-1), 13, [], .int (-1)) := by decide +kernel
theorem t263_13 : am_T 263 13 = some (4, .ireturn, 14, [0], .null) := by decide +kernel
theorem t263_14 : am_T 263 14 = some (0, .iconst 0, 15, [], .int (0)) := by decide +kernel
theorem t263_15 : am_T 263 15 = some (0, .istore_n 1, 16, [], .null) := by decide +kernel
theorem t263_16 : am_T 263 16 = some (0, .iload_n 1, 17, [], .null) := by decide +kernel
theorem t263_17 : am_T 263 17 = some (0, .bipush 60, 19, [], .int (60)) := by decide +kernel
theorem t263_19 : am_T 263 19 = some (1, .if_icmp .ge 21, 22, [40], .null) := by decide +kernel
theorem t263_22 : am_T 263 22 = some (0, .aload_n 0, 23, [], .null) := by decide +kernel
theorem t263_23 : am_T 263 23 = some (2, .getfield 122, 26, [59, 12], .null) := by decide +kernel
theorem t263_26 : am_T 263 26 = some (0, .iload_n 1, 27, [], .null) := by decide +kernel
theorem t263_27 : am_T 263 27 = some (0, .aload_n 0, 28, [], .null) := by decide +kernel
theorem t263_28 : am_T 263 28 = some (2, .getfield 65, 31, [36, 12], .null) := by decide +kernel
theorem t263_31 : am_T 263 31 = some (0, .iload_n 1, 32, [], .null) := by decide +kernel
theorem t263_32 : am_T 263 32 = some (2, .iaload, 33, [], .null) := by decide +kernel
theorem t263_33 : am_T 263 33 = some (2, .iastore, 34, [], .null) := by decide +kernel
theorem t263_34 : am_T 263 34 = some (0, .iinc 1 1, 37, [], .int (1)) := by decide +kernel
theorem t263_37 : am_T 263 37 = some (1, .goto (-21), 40, [16], .null) := by decide +kernel
theorem t263_40 : am_T 263 40 = some (0, .iconst 0, 41, [], .int (0)) := by decide +kernel
theorem t263_41 : am_T 263 41 = some (0, .istore_n 1, 42, [], .null) := by decide +kernel
theorem t263_42 : am_T 263 42 = some (0, .iload_n 1, 43, [], .null) := by decide +kernel
theorem t263_43 : am_T 263 43 = some (0, .iconst 3, 44, [], .int (3)) := by decide +kernel
theorem t263_44 : am_T 263 44 = some (1, .if_icmp .ge 21, 47, [65], .null) := by decide +kernel
theorem t263_47 : am_T 263 47 = some (0, .aload_n 0, 48, [], .null) := by decide +kernel
theorem t263_48 : am_T 263 48 = some (2, .getfield 125, 51, [60, 12], .null) := by decide +kernel
theorem t263_51 : am_T 263 51 = some (0, .iload_n 1, 52, [], .null) := by decide +kernel
theorem t263_52 : am_T 263 52 = some (0, .aload_n 0, 53, [], .null) := by decide +kernel
theorem t263_53 : am_T 263 53 = some (2, .getfield 37, 56, [18, 12], .null) := by decide +kernel
theorem t263_56 : am_T 263 56 = some (0, .iload_n 1, 57, [], .null) := by decide +kernel
theorem t263_57 : am_T 263 57 = some (2, .iaload, 58, [], .null) := by decide +kernel
theorem t263_58 : am_T 263 58 = some (2, .iastore, 59, [], .null) := by decide +kernel
theorem t263_59 : am_T 263 59 = some (0, .iinc 1 1, 62, [], .int (1)) := by decide +kernel
theorem t263_62 : am_T 263 62 = some (1, .goto (-20), 65, [42], .null) := by decide +kernel
theorem t263_65 : am_T 263 65 = some (0, .aload_n 0, 66, [], .null) := by decide +kernel
theorem t263_66 : am_T 263 66 = some (0, .aload_n 0, 67, [], .null) := by decide +kernel
theorem t263_67 : am_T 263 67 = some (2, .getfield 304, 70, [33, 12], .null) := by decide +kernel
theorem t263_70 : am_T 263 70 = some (2, .putfield 435, 73, [61, 0, 12], .null) := by decide +kernel
theorem t263_73 : am_T 263 73 = some (0, .aload_n 0, 74, [], .null) := by decide +kernel
theorem t263_74 : am_T 263 74 = some (0, .aload_n 0, 75, [], .null) := by decide +kernel
theorem t263_75 : am_T 263 75 = some (2, .getfield 307, 78, [34, 12], .null) := by decide +kernel
theorem t263_78 : am_T 263 78 = some (2, .putfield 438, 81, [62, 0, 12], .null) := by decide +kernel
theorem t263_81 : am_T 263 81 = some (0, .aload_n 0, 82, [], .null) := by decide +kernel
theorem t263_82 : am_T 263 82 = some (0, .aload_n 0, 83, [], .null) := by decide +kernel
theorem t263_83 : am_T 263 83 = some (2, .getfield 310, 86, [35, 12], .null) := by decide +kernel
theorem t263_86 : am_T 263 86 = some (2, .putfield 441, 89, [63, 0, 12], .null) := by decide +kernel
theorem t263_89 : am_T 263 89 = some (0, .aload_n 0, 90, [], .null) := by decide +kernel
theorem t263_90 : am_T 263 90 = some (0, .iconst 1, 91, [], .int (1)) := by decide +kernel
theorem t263_91 : am_T 263 91 = some (2, .putfield 322, 94, [64, 1, 12], .null) := by decide +kernel
theorem t263_94 : am_T 263 94 = some (0, .aload_n 0, 95, [], .null) := by decide +kernel
theorem t263_95 : am_T 263 95 = some (2, .getfield 307, 98, [34, 12], .null) := by decide +kernel
theorem t263_98 : am_T 263 98 = some (4, .ireturn, 99, [0], .null) := by decide +kernel
theorem t264_0 : am_T 264 0 = some (0, .aload_n 0, 1, [], .null) := by decide +kernel
theorem t264_1 : am_T 264 1 = some (0, .iconst 0, 2, [], .int (0)) := by decide +kernel
theorem t264_2 : am_T 264 2 = some (2, .putfield 128, 5, [0, 0, 12], .null) := by decide +kernel
theorem t264_5 : am_T 264 5 = some (0, .aload_n 0, 6, [], .null) := by decide +kernel
theorem t264_6 : am_T 264 6 = some (2, .getfield 322, 9, [64, 12], .null) := by decide +kernel
theorem t264_9 : am_T 264 9 = some (1, .ifCond .ne 5, 12, [14], .null) := by decide +kernel
theorem t264_12 : am_T 264 12 = some (0, .iconst (-1), 13, [], .int (-1)) := by decide +kernel
theorem t264_13 : am_T 264 13 = some (4, .ireturn, 14, [0], .null) := by decide +kernel
theorem t264_14 : am_T 264 14 = some (0, .iconst 0, 15, [], .int (0)) := by decide +kernel
theorem t264_15 : am_T 264 15 = some (0, .istore_n 1, 16, [], .null) := by decide +kernel
theorem t264_16 : am_T 264 16 = some (0, .iload_n 1, 17, [], .null) := by decide +kernel
theorem t264_17 : am_T 264 17 = some (0, .bipush 60, 19, [], .int (60)) := by decide +kernel
theorem t264_19 : am_T 264 19 = some (1, .if_icmp .ge 21, 22, [40], .null) := by decide +kernel
theorem t264_22 : am_T 264 22 = some (0, .aload_n 0, 23, [], .null) := by decide +kernel
theorem t264_23 : am_T 264 23 = some (2, .getfield 65, 26, [36, 12], .null) := by decide +kernel
theorem t264_26 : am_T 264 26 = some (0, .iload_n 1, 27, [], .null) := by decide +kernel
theorem t264_27 : am_T 264 27 = some (0, .aload_n 0, 28, [], .null) := by decide +kernel
theorem t264_28 : am_T 264 28 = some (2, .getfield 122, 31, [59, 12], .null) := by decide +kernel
theorem t264_31 : am_T 264 31 = some (0, .iload_n 1, 32, [], .null) := by decide +kernel
theorem t264_32 : am_T 264 32 = some (2, .iaload, 33, [], .null) := by decide +kernel
theorem t264_33 : am_T 264 33 = some (2, .iastore, 34, [], .null) := by decide +kernel
theorem t264_34 : am_T 264 34 = some (0, .iinc 1 1, 37, [], .int (1)) := by decide +kernel
theorem t264_37 : am_T 264 37 = some (1, .goto (-21), 40, [16], .null) := by decide +kernel
theorem t264_40 : am_T 264 40 = some (0, .iconst 0, 41, [], .int (0)) := by decide +kernel
theorem t264_41 : am_T 264 41 = some (0, .istore_n 1, 42, [], .null) := by decide +kernel
theorem t264_42 : am_T 264 42 = some (0, .iload_n 1, 43, [], .null) := by decide +kernel
theorem t264_43 : am_T 264 43 = some (0, .iconst 3, 44, [], .int (3)) := by decide +kernel
theorem t264_44 : am_T 264 44 = some (1, .if_icmp .ge 21, 47, [65], .null) := by decide +kernel
theorem t264_47 : am_T 264 47 = some (0, .aload_n 0, 48, [], .null) := by decide +kernel
theorem t264_48 : am_T 264 48 = some (2, .getfield 37, 51, [18, 12], .null) := by decide +kernel
theorem t264_51 : am_T 264 51 = some (0, .iload_n 1, 52, [], .null) := by decide +kernel
theorem t264_52 : am_T 264 52 = some (0, .aload_n 0, 53, [], .null) := by decide +kernel
theorem t264_53 : am_T 264 53 = some (2, .getfield 125, 56, [60, 12], .null) := by decide +kernel
theorem t264_56 : am_T 264 56 = some (0, .iload_n 1, 57, [], .null) := by decide +kernel
theorem t264_57 : am_T 264 57 = some (2, .iaload, 58, [], .null) := by decide +kernel
theorem t264_58 : am_T 264 58 = some (2, .iastore, 59, [], .null) := by decide +kernel
theorem t264_59 : am_T 264 59 = some (0, .iinc 1 1, 62, [], .int (1)) := by decide +kernel
theorem t264_62 : am_T 264 62 = some (1, .goto (-20), 65, [42], .null) := by decide +kernel
theorem t264_65 : am_T 264 65 = some (0, .aload_n 0, 66, [], .null) := by decide +kernel
theorem t264_66 : am_T 264 66 = some (0, .aload_n 0, 67, [], .null) := by decide +kernel
theorem t264_67 : am_T 264 67 = some (2, .getfield 435, 70, [61, 12], .null) := by decide +kernel
theorem t264_70 : am_T 264 70 = some (2, .putfield 304, 73, [33, 0, 12], .null) := by decide +kernel
theorem t264_73 : am_T 264 73 = some (0, .aload_n 0, 74, [], .null) := by decide +kernel
theorem t264_74 : am_T 264 74 = some (0, .aload_n 0, 75, [], .null) := by decide +kernel
theorem t264_75 : am_T 264 75 = some (2, .getfield 438, 78, [62, 12], .null) := by decide +kernel
theorem t264_78 : am_T 264 78 = some (2, .putfield 307, 81, [34, 0, 12], .null) := by decide +kernel
theorem t264_81 : am_T 264 81 = some (0, .aload_n 0, 82, [], .null) := by decide +kernel
theorem t264_82 : am_T 264 82 = some (0, .aload_n 0, 83, [], .null) := by decide +kernel
theorem t264_83 : am_T 264 83 = some (2, .getfield 441, 86, [63, 12], .null) := by decide +kernel
theorem t264_86 : am_T 264 86 = some (2, .putfield 310, 89, [35, 0, 12], .null) := by decide +kernel
theorem t264_89 : am_T 264 89 = some (0, .aload_n 0, 90, [], .null) := by decide +kernel
theorem t264_90 : am_T 264 90 = some (0, .iconst 0, 91, [], .int (0)) := by decide +kernel
theorem t264_91 : am_T 264 91 = some (2, .putfield 313, 94, [40, 0, 12], .null) := by decide +kernel
theorem t264_94 : am_T 264 94 = some (0, .aload_n 0, 95, [], .null) := by decide +kernel
theorem t264_95 : am_T 264 95 = some (2, .getfield 307, 98, [34, 12], .null) := by decide +kernel
theorem t264_98 : am_T 264 98 = some (4, .ireturn, 99, [0], .null) := by decide +kernel
theorem t265_0 : am_T 265 0 = some (0, .aload_n 0, 1, [], .null) := by decide +kernel
theorem t265_1 : am_T 265 1 = some (0, .iconst 0, 2, [], .int (0)) := by decide +kernel
theorem t265_2 : am_T 265 2 = some (2, .putfield 128, 5, [0, 0, 12], .null) := by decide +kernel
theorem t265_5 : am_T 265 5 = some (0, .iload_n 1, 6, [], .null) := by decide +kernel
theorem t265_6 : am_T 265 6 = some (5, .tableswitch 148 0 13 #[70, 75, 82, 89, 94, 99, 104, 113, 118, 123, 128, 133, 138, 143], 76, [154, 76, 81, 88, 95, 100, 105, 110, 119, 124, 129, 134, 139, 144, 149], .int (0)) := by decide +kernel
theorem t265_76 : am_T 265 76 = some (0, .aload_n 0, 77, [], .null) := by decide +kernel
theorem t265_77 : am_T 265 77 = some (2, .getfield 298, 80, [20, 12], .null) := by decide +kernel
theorem t265_80 : am_T 265 80 = some (4, .ireturn, 81, [0], .null) := by decide +kernel
theorem t265_81 : am_T 265 81 = some (0, .aload_n 0, 82, [], .null) := by decide +kernel
theorem t265_82 : am_T 265 82 = some (2, .getfield 37, 85, [18, 12], .null) := by decide +kernel
theorem t265_85 : am_T 265 85 = some (0, .iconst 1, 86, [], .int (1)) := by decide +kernel
theorem t265_86 : am_T 265 86 = some (2, .iaload, 87, [], .null) := by decide +kernel
theorem t265_87 : am_T 265 87 = some (4, .ireturn, 88, [0], .null) := by decide +kernel
theorem t265_88 : am_T 265 88 = some (0, .aload_n 0, 89, [], .null) := by decide +kernel
theorem t265_89 : am_T 265 89 = some (2, .getfield 37, 92, [18, 12], .null) := by decide +kernel
theorem t265_92 : am_T 265 92 = some (0, .iconst 2, 93, [], .int (2)) := by decide +kernel
theorem t265_93 : am_T 265 93 = some (2, .iaload, 94, [], .null) := by decide +kernel
theorem t265_94 : am_T 265 94 = some (4, .ireturn, 95, [0], .null) := by decide +kernel
theorem t265_95 : am_T 265 95 = some (0, .aload_n 0, 96, [], .null) := by decide +kernel
theorem t265_96 : am_T 265 96 = some (2, .getfield 301, 99, [21, 12], .null) := by decide +kernel
theorem t265_99 : am_T 265 99 = some (4, .ireturn, 100, [0], .null) := by decide +kernel
theorem t265_100 : am_T 265 100 = some (0, .aload_n 0, 101, [], .null) := by decide +kernel
theorem t265_101 : am_T 265 101 = some (2, .getfield 310, 104, [35, 12], .null) := by decide +kernel
theorem t265_104 : am_T 265 104 = some (4, .ireturn, 105, [0], .null) := by decide +kernel
theorem t265_105 : am_T 265 105 = some (0, .aload_n 0, 106, [], .null) := by decide +kernel
theorem t265_106 : am_T 265 106 = some (2, .getfield 307, 109, [34, 12], .null) := by decide +kernel
theorem t265_109 : am_T 265 109 = some (4, .ireturn, 110, [0], .null) := by decide +kernel
theorem t265_110 : am_T 265 110 = some (0, .aload_n 0, 111, [], .null) := by decide +kernel
theorem t265_111 : am_T 265 111 = some (0, .aload_n 0, 112, [], .null) := by decide +kernel
theorem t265_112 : am_T 265 112 = some (2, .getfield 304, 115, [33, 12], .null) := by decide +kernel
theorem t265_115 : am_T 265 115 = some (3, .invokevirtual 388, 118, [2, 12, 215], .null) := by decide +kernel
theorem t265_118 : am_T 265 118 = some (4, .ireturn, 119, [0], .null) := by decide +kernel
theorem t265_119 : am_T 265 119 = some (0, .aload_n 0, 120, [], .null) := by decide +kernel
theorem t265_120 : am_T 265 120 = some (2, .getfield 284, 123, [28, 12], .null) := by decide +kernel
theorem t265_123 : am_T 265 123 = some (4, .ireturn, 124, [0], .null) := by decide +kernel
theorem t265_124 : am_T 265 124 = some (0, .aload_n 0, 125, [], .null) := by decide +kernel
theorem t265_125 : am_T 265 125 = some (2, .getfield 287, 128, [31, 12], .null) := by decide +kernel
theorem t265_128 : am_T 265 128 = some (4, .ireturn, 129, [0], .null) := by decide +kernel
theorem t265_129 : am_T 265 129 = some (0, .aload_n 0, 130, [], .null) := by decide +kernel
theorem t265_130 : am_T 265 130 = some (2, .getfield 290, 133, [7, 12], .null) := by decide +kernel
theorem t265_133 : am_T 265 133 = some (4, .ireturn, 134, [0], .null) := by decide +kernel
theorem t265_134 : am_T 265 134 = some (0, .aload_n 0, 135, [], .null) := by decide +kernel
theorem t265_135 : am_T 265 135 = some (2, .getfield 141, 138, [6, 12], .null) := by decide +kernel
theorem t265_138 : am_T 265 138 = some (4, .ireturn, 139, [0], .null) := by decide +kernel
theorem t265_139 : am_T 265 139 = some (0, .aload_n 0, 140, [], .null) := by decide +kernel
theorem t265_140 : am_T 265 140 = some (2, .getfield 313, 143, [40, 12], .null) := by decide +kernel
theorem t265_143 : am_T 265 143 = some (4, .ireturn, 144, [0], .null) := by decide +kernel
theorem t265_144 : am_T 265 144 = some (0, .aload_n 0, 145, [], .null) := by decide +kernel
theorem t265_145 : am_T 265 145 = some (2, .getfield 316, 148, [53, 12], .null) := by decide +kernel
theorem t265_148 : am_T 265 148 = some (4, .ireturn, 149, [0], .null) := by decide +kernel
theorem t265_149 : am_T 265 149 = some (0, .aload_n 0, 150, [], .null) := by decide +kernel
theorem t265_150 : am_T 265 150 = some (2, .getfield 319, 153, [58, 12], .null) := by decide +kernel
theorem t265_153 : am_T 265 153 = some (4, .ireturn, 154, [0], .null) := by decide +kernel
theorem t265_154 : am_T 265 154 = some (0, .ldc_w 346, 157, [], .int (-1000000)) := by decide +kernel
theorem t265_157 : am_T 265 157 = some (4, .ireturn, 158, [0], .null) := by decide +kernel
theorem t266_0 : am_T 266 0 = some (0, .iload_n 0, 1, [], .null) := by decide +kernel
theorem t266_1 : am_T 266 1 = some (0, .iload_n 0, 2, [], .null) := by decide +kernel
theorem t266_2 : am_T 266 2 = some (0, .iconst 1, 3, [], .int (1)) := by decide +kernel
theorem t266_3 : am_T 266 3 = some (0, .iushr, 4, [], .null) := by decide +kernel
theorem t266_4 : am_T 266 4 = some (0, .ldc_w 265, 7, [], .int (1431655765)) := by decide +kernel
theorem t266_7 : am_T 266 7 = some (0, .iand, 8, [], .null) := by decide +kernel
theorem t266_8 : am_T 266 8 = some (0, .isub, 9, [], .null) := by decide +kernel
theorem t266_9 : am_T 266 9 = some (0, .istore_n 0, 10, [], .null) := by decide +kernel
theorem t266_10 : am_T 266 10 = some (0, .iload_n 0, 11, [], .null) := by decide +kernel
theorem t266_11 : am_T 266 11 = some (0, .ldc_w 266, 14, [], .int (858993459)) := by decide +kernel
theorem t266_14 : am_T 266 14 = some (0, .iand, 15, [], .null) := by decide +kernel
theorem t266_15 : am_T 266 15 = some (0, .iload_n 0, 16, [], .null) := by decide +kernel
theorem t266_16 : am_T 266 16 = some (0, .iconst 2, 17, [], .int (2)) := by decide +kernel
theorem t266_17 : am_T 266 17 = some (0, .iushr, 18, [], .null) := by decide +kernel
theorem t266_18 : am_T 266 18 = some (0, .ldc_w 266, 21, [], .int (858993459)) := by decide +kernel
theorem t266_21 : am_T 266 21 = some (0, .iand, 22, [], .null) := by decide +kernel
theorem t266_22 : am_T 266 22 = some (0, .iadd, 23, [], .null) := by decide +kernel
theorem t266_23 : am_T 266 23 = some (0, .istore_n 0, 24, [], .null) := by decide +kernel
theorem t266_24 : am_T 266 24 = some (0, .iload_n 0, 25, [], .null) := by decide +kernel
theorem t266_25 : am_T 266 25 = some (0, .iload_n 0, 26, [], .null) := by decide +kernel
theorem t266_26 : am_T 266 26 = some (0, .iconst 4, 27, [], .int (4)) := by decide +kernel
theorem t266_27 : am_T 266 27 = some (0, .iushr, 28, [], .null) := by decide +kernel
theorem t266_28 : am_T 266 28 = some (0, .iadd, 29, [], .null) := by decide +kernel
theorem t266_29 : am_T 266 29 = some (0, .ldc_w 267, 32, [], .int (252645135)) := by decide +kernel
theorem t266_32 : am_T 266 32 = some (0, .iand, 33, [], .null) := by decide +kernel
theorem t266_33 : am_T 266 33 = some (0, .istore_n 0, 34, [], .null) := by decide +kernel
theorem t266_34 : am_T 266 34 = some (0, .iload_n 0, 35, [], .null) := by decide +kernel
theorem t266_35 : am_T 266 35 = some (0, .iload_n 0, 36, [], .null) := by decide +kernel
theorem t266_36 : am_T 266 36 = some (0, .bipush 8, 38, [], .int (8)) := by decide +kernel
theorem t266_38 : am_T 266 38 = some (0, .iushr, 39, [], .null) := by decide +kernel
theorem t266_39 : am_T 266 39 = some (0, .iadd, 40, [], .null) := by decide +kernel
theorem t266_40 : am_T 266 40 = some (0, .istore_n 0, 41, [], .null) := by decide +kernel
theorem t266_41 : am_T 266 41 = some (0, .iload_n 0, 42, [], .null) := by decide +kernel
theorem t266_42 : am_T 266 42 = some (0, .iload_n 0, 43, [], .null) := by decide +kernel
theorem t266_43 : am_T 266 43 = some (0, .bipush 16, 45, [], .int (16)) := by decide +kernel
theorem t266_45 : am_T 266 45 = some (0, .iushr, 46, [], .null) := by decide +kernel
theorem t266_46 : am_T 266 46 = some (0, .iadd, 47, [], .null) := by decide +kernel
theorem t266_47 : am_T 266 47 = some (0, .istore_n 0, 48, [], .null) := by decide +kernel
theorem t266_48 : am_T 266 48 = some (0, .iload_n 0, 49, [], .null) := by decide +kernel
theorem t266_49 : am_T 266 49 = some (0, .bipush 63, 51, [], .int (63)) := by decide +kernel
theorem t266_51 : am_T 266 51 = some (0, .iand, 52, [], .null) := by decide +kernel
theorem t266_52 : am_T 266 52 = some (4, .ireturn, 53, [0], .null) := by decide +kernel
theorem t267_0 : am_T 267 0 = some (0, .aload_n 0, 1, [], .null) := by decide +kernel
theorem t267_1 : am_T 267 1 = some (2, .getfield 9, 4, [0, 100], .null) := by decide +kernel
theorem t267_4 : am_T 267 4 = some (2, .arraylength, 5, [], .null) := by decide +kernel
theorem t267_5 : am_T 267 5 = some (0, .aload_n 0, 6, [], .null) := by decide +kernel
theorem t267_6 : am_T 267 6 = some (3, .invokevirtual 335, 9, [1, 100, 269], .null) := by decide +kernel
theorem t267_9 : am_T 267 9 = some (0, .ishr, 10, [], .null) := by decide +kernel
theorem t267_10 : am_T 267 10 = some (4, .ireturn, 11, [0], .null) := by decide +kernel
theorem t268_0 : am_T 268 0 = some (0, .aload_n 0, 1, [], .null) := by decide +kernel
theorem t268_1 : am_T 268 1 = some (3, .invokevirtual 492, 4, [1, 100, 270], .null) := by decide +kernel
theorem t268_4 : am_T 268 4 = some (1, .ifCond .eq 12, 7, [16], .null) := by decide +kernel
theorem t268_7 : am_T 268 7 = some (0, .aload_n 0, 8, [], .null) := by decide +kernel
theorem t268_8 : am_T 268 8 = some (2, .getfield 9, 11, [0, 100], .null) := by decide +kernel
theorem t268_11 : am_T 268 11 = some (0, .iload_n 1, 12, [], .null) := by decide +kernel
theorem t268_12 : am_T 268 12 = some (3, .invokestatic 495, 15, [2, 272], .null) := by decide +kernel
theorem t268_15 : am_T 268 15 = some (4, .ireturn, 16, [3], .null) := by decide +kernel
theorem t268_16 : am_T 268 16 = some (0, .aload_n 0, 17, [], .null) := by decide +kernel
theorem t268_17 : am_T 268 17 = some (2, .getfield 9, 20, [0, 100], .null) := by decide +kernel
theorem t268_20 : am_T 268 20 = some (0, .iload_n 1, 21, [], .null) := by decide +kernel
theorem t268_24 : am_T 268 24 = some (4, .ireturn, 25, [3], .null) := by decide +kernel
theorem t269_0 : am_T 269 0 = some (2, .getstatic 38, 3, [], .int 1) := by decide +kernel
theorem t269_3 : am_T 269 3 = some (1, .ifCond .eq 10, 6, [13], .null) := by decide +kernel
theorem t269_6 : am_T 269 6 = some (0, .aload_n 0, 7, [], .null) := by decide +kernel
theorem t269_7 : am_T 269 7 = some (2, .getfield 15, 10, [1, 100], .null) := by decide +kernel
theorem t269_10 : am_T 269 10 = some (1, .goto 4, 13, [14], .null) := by decide +kernel
theorem t269_13 : am_T 269 13 = some (0, .iconst 1, 14, [], .int (1)) := by decide +kernel
theorem t269_14 : am_T 269 14 = some (4, .ireturn, 15, [2], .null) := by decide +kernel
theorem t270_0 : am_T 270 0 = some (2, .getstatic 38, 3, [], .int 1) := by decide +kernel
theorem t270_3 : am_T 270 3 = some (1, .ifCond .eq 14, 6, [17], .null) := by decide +kernel
theorem t270_6 : am_T 270 6 = some (0, .aload_n 0, 7, [], .null) := by decide +kernel
theorem t270_7 : am_T 270 7 = some (2, .getfield 15, 10, [1, 100], .null) := by decide +kernel
theorem t270_10 : am_T 270 10 = some (1, .ifCond .ne 7, 13, [17], .null) := by decide +kernel
theorem t270_13 : am_T 270 13 = some (0, .iconst 1, 14, [], .int (1)) := by decide +kernel
theorem t270_14 : am_T 270 14 = some (1, .goto 4, 17, [18], .null) := by decide +kernel
theorem t270_17 : am_T 270 17 = some (0, .iconst 0, 18, [], .int (0)) := by decide +kernel
theorem t270_18 : am_T 270 18 = some (4, .ireturn, 19, [1], .null) := by decide +kernel
theorem t271_0 : am_T 271 0 = some (0, .iload_n 0, 1, [], .null) := by decide +kernel
theorem t271_1 : am_T 271 1 = some (0, .iload_n 1, 2, [], .null) := by decide +kernel
theorem t271_2 : am_T 271 2 = some (2, .getstatic 1053, 5, [], .retAddr 6) := by decide +kernel
theorem t271_5 : am_T 271 5 = some (3, .invokestatic 1059, 8, [3, 284], .null) := by decide +kernel
theorem t271_8 : am_T 271 8 = some (0, .pop, 9, [], .null) := by decide +kernel
theorem t271_9 : am_T 271 9 = some (4, .return_, 10, [], .null) := by decide +kernel
theorem t272_0 : am_T 272 0 = some (0, .iload_n 1, 1, [], .null) := by decide +kernel
theorem t272_1 : am_T 272 1 = some (0, .aload_n 0, 2, [], .null) := by decide +kernel
theorem t272_2 : am_T 272 2 = some (2, .arraylength, 3, [], .null) := by decide +kernel
theorem t272_3 : am_T 272 3 = some (3, .invokestatic 9, 6, [2, 271], .null) := by decide +kernel
theorem t272_6 : am_T 272 6 = some (0, .aload_n 0, 7, [], .null) := by decide +kernel
theorem t272_7 : am_T 272 7 = some (0, .iload_n 1, 8, [], .null) := by decide +kernel
theorem t272_8 : am_T 272 8 = some (2, .baload, 9, [], .null) := by decide +kernel
theorem t272_9 : am_T 272 9 = some (0, .sipush 255, 12, [], .int (255)) := by decide +kernel
theorem t272_12 : am_T 272 12 = some (0, .iand, 13, [], .null) := by decide +kernel
theorem t272_13 : am_T 272 13 = some (0, .i2c, 14, [], .null) := by decide +kernel
theorem t272_14 : am_T 272 14 = some (4, .ireturn, 15, [3], .null) := by decide +kernel
theorem t273_0 : am_T 273 0 = some (0, .aload_n 0, 1, [], .null) := by decide +kernel
theorem t273_1 : am_T 273 1 = some (2, .invokespecial 1, 4, [], .null) := by decide +kernel
theorem t273_4 : am_T 273 4 = some (4, .return_, 5, [], .null) := by decide +kernel
theorem t274_0 : am_T 274 0 = some (0, .aload_n 0, 1, [], .null) := by decide +kernel
theorem t274_1 : am_T 274 1 = some (3, .invokespecial 1, 4, [1, 273], .null) := by decide +kernel
theorem t274_4 : am_T 274 4 = some (0, .aload_n 0, 5, [], .null) := by decide +kernel
theorem t274_5 : am_T 274 5 = some (0, .iconst 0, 6, [], .int (0)) := by decide +kernel
theorem t274_6 : am_T 274 6 = some (2, .putfield 7, 9, [0, 0, 0], .null) := by decide +kernel
theorem t274_9 : am_T 274 9 = some (4, .return_, 10, [], .null) := by decide +kernel
theorem t275_0 : am_T 275 0 = some (0, .aload_n 0, 1, [], .null) := by decide +kernel
theorem t275_1 : am_T 275 1 = some (3, .invokespecial 1, 4, [1, 274], .null) := by decide +kernel
theorem t275_4 : am_T 275 4 = some (0, .aload_n 0, 5, [], .null) := by decide +kernel
theorem t275_5 : am_T 275 5 = some (2, .getstatic 39, 8, [], .retAddr 1) := by decide +kernel
theorem t275_8 : am_T 275 8 = some (2, .putfield 9, 11, [1, 2, 0], .null) := by decide +kernel
theorem t275_11 : am_T 275 11 = some (4, .return_, 12, [], .null) := by decide +kernel
theorem t276_0 : am_T 276 0 = some (0, .aload_n 0, 1, [], .null) := by decide +kernel
theorem t276_1 : am_T 276 1 = some (2, .getfield 9, 4, [1, 0], .null) := by decide +kernel
theorem t276_4 : am_T 276 4 = some (2, .arraylength, 5, [], .null) := by decide +kernel
theorem t276_5 : am_T 276 5 = some (0, .istore_n 2, 6, [], .null) := by decide +kernel
theorem t276_6 : am_T 276 6 = some (0, .iload_n 2, 7, [], .null) := by decide +kernel
theorem t276_7 : am_T 276 7 = some (1, .ifCond .gt 13, 10, [20], .null) := by decide +kernel
theorem t276_10 : am_T 276 10 = some (0, .aload_n 0, 11, [], .null) := by decide +kernel
theorem t276_11 : am_T 276 11 = some (2, .getfield 9, 14, [1, 0], .null) := by decide +kernel
theorem t276_14 : am_T 276 14 = some (2, .getstatic 39, 17, [], .retAddr 1) := by decide +kernel
theorem t276_17 : am_T 276 17 = some (1, .if_acmp .eq 28, 20, [45], .null) := by decide +kernel
theorem t276_20 : am_T 276 20 = some (0, .iload_n 2, 21, [], .null) := by decide +kernel
theorem t276_21 : am_T 276 21 = some (0, .iload_n 1, 22, [], .null) := by decide +kernel
theorem t276_22 : am_T 276 22 = some (0, .iload_n 2, 23, [], .null) := by decide +kernel
theorem t276_23 : am_T 276 23 = some (0, .isub, 24, [], .null) := by decide +kernel
theorem t276_24 : am_T 276 24 = some (0, .iload_n 2, 25, [], .null) := by decide +kernel
theorem t276_25 : am_T 276 25 = some (0, .iconst 1, 26, [], .int (1)) := by decide +kernel
theorem t276_26 : am_T 276 26 = some (0, .ishr, 27, [], .null) := by decide +kernel
theorem t276_30 : am_T 276 30 = some (0, .istore_n 3, 31, [], .null) := by decide +kernel
theorem t276_31 : am_T 276 31 = some (0, .aload_n 0, 32, [], .null) := by decide +kernel
theorem t276_32 : am_T 276 32 = some (0, .aload_n 0, 33, [], .null) := by decide +kernel
theorem t276_33 : am_T 276 33 = some (2, .getfield 9, 36, [1, 0], .null) := by decide +kernel
theorem t276_36 : am_T 276 36 = some (0, .iload_n 3, 37, [], .null) := by decide +kernel
theorem t276_40 : am_T 276 40 = some (0, .dup_x1, 41, [], .null) := by decide +kernel
theorem t276_41 : am_T 276 41 = some (2, .putfield 9, 44, [1, 2, 0], .null) := by decide +kernel
theorem t276_44 : am_T 276 44 = some (4, .areturn, 45, [], .null) := by decide +kernel
theorem t276_45 : am_T 276 45 = some (0, .aload_n 0, 46, [], .null) := by decide +kernel
theorem t276_46 : am_T 276 46 = some (0, .bipush 10, 48, [], .int (10)) := by decide +kernel
theorem t276_48 : am_T 276 48 = some (0, .iload_n 1, 49, [], .null) := by decide +kernel
theorem t276_49 : am_T 276 49 = some (2, .invokestatic 79, 52, [1], .null) := by decide +kernel
theorem t276_52 : am_T 276 52 = some (2, .anewarray 7, 55, [4], .null) := by decide +kernel
theorem t276_55 : am_T 276 55 = some (0, .dup_x1, 56, [], .null) := by decide +kernel
theorem t276_56 : am_T 276 56 = some (2, .putfield 9, 59, [1, 2, 0], .null) := by decide +kernel
theorem t276_59 : am_T 276 59 = some (4, .areturn, 60, [], .null) := by decide +kernel
theorem t277_0 : am_T 277 0 = some (0, .aload_n 0, 1, [], .null) := by decide +kernel
theorem t277_1 : am_T 277 1 = some (0, .aload_n 0, 2, [], .null) := by decide +kernel
theorem t277_2 : am_T 277 2 = some (2, .getfield 48, 5, [2, 0], .null) := by decide +kernel
theorem t277_5 : am_T 277 5 = some (0, .iconst 1, 6, [], .int (1)) := by decide +kernel
theorem t277_6 : am_T 277 6 = some (0, .iadd, 7, [], .null) := by decide +kernel
theorem t277_7 : am_T 277 7 = some (3, .invokevirtual 69, 10, [2, 0, 276], .null) := by decide +kernel
theorem t277_10 : am_T 277 10 = some (4, .areturn, 11, [], .null) := by decide +kernel
theorem t278_0 : am_T 278 0 = some (0, .aload_n 0, 1, [], .null) := by decide +kernel
theorem t278_1 : am_T 278 1 = some (2, .getfield 48, 4, [2, 0], .null) := by decide +kernel
theorem t278_4 : am_T 278 4 = some (4, .ireturn, 5, [0], .null) := by decide +kernel
theorem t279_0 : am_T 279 0 = some (0, .aload_n 0, 1, [], .null) := by decide +kernel
theorem t279_1 : am_T 279 1 = some (2, .getfield 9, 4, [1, 0], .null) := by decide +kernel
theorem t279_4 : am_T 279 4 = some (0, .iload_n 1, 5, [], .null) := by decide +kernel
theorem t279_5 : am_T 279 5 = some (2, .aaload, 6, [], .null) := by decide +kernel
theorem t279_6 : am_T 279 6 = some (4, .areturn, 7, [], .null) := by decide +kernel
theorem t280_0 : am_T 280 0 = some (0, .iload_n 1, 1, [], .null) := by decide +kernel
theorem t280_1 : am_T 280 1 = some (0, .aload_n 0, 2, [], .null) := by decide +kernel
theorem t280_2 : am_T 280 2 = some (2, .getfield 48, 5, [2, 0], .null) := by decide +kernel
theorem t280_5 : am_T 280 5 = some (3, .invokestatic 118, 8, [2, 283], .null) := by decide +kernel
theorem t280_8 : am_T 280 8 = some (0, .pop, 9, [], .null) := by decide +kernel
theorem t280_9 : am_T 280 9 = some (0, .aload_n 0, 10, [], .null) := by decide +kernel
theorem t280_10 : am_T 280 10 = some (0, .iload_n 1, 11, [], .null) := by decide +kernel
theorem t280_11 : am_T 280 11 = some (3, .invokevirtual 123, 14, [2, 0, 279], .null) := by decide +kernel
theorem t280_14 : am_T 280 14 = some (4, .areturn, 15, [], .null) := by decide +kernel
theorem t281_0 : am_T 281 0 = some (0, .iload_n 3, 1, [], .null) := by decide +kernel
theorem t281_1 : am_T 281 1 = some (0, .aload_n 2, 2, [], .null) := by decide +kernel
theorem t281_2 : am_T 281 2 = some (2, .arraylength, 3, [], .null) := by decide +kernel
theorem t281_3 : am_T 281 3 = some (1, .if_icmp .ne 8, 6, [11], .null) := by decide +kernel
theorem t281_6 : am_T 281 6 = some (0, .aload_n 0, 7, [], .null) := by decide +kernel
theorem t281_7 : am_T 281 7 = some (3, .invokevirtual 129, 10, [1, 0, 277], .null) := by decide +kernel
theorem t281_10 : am_T 281 10 = some (0, .astore_n 2, 11, [], .null) := by decide +kernel
theorem t281_11 : am_T 281 11 = some (0, .aload_n 2, 12, [], .null) := by decide +kernel
theorem t281_12 : am_T 281 12 = some (0, .iload_n 3, 13, [], .null) := by decide +kernel
theorem t281_13 : am_T 281 13 = some (0, .aload_n 1, 14, [], .null) := by decide +kernel
theorem t281_14 : am_T 281 14 = some (2, .aastore, 15, [], .null) := by decide +kernel
theorem t281_15 : am_T 281 15 = some (0, .aload_n 0, 16, [], .null) := by decide +kernel
theorem t281_16 : am_T 281 16 = some (0, .iload_n 3, 17, [], .null) := by decide +kernel
theorem t281_17 : am_T 281 17 = some (0, .iconst 1, 18, [], .int (1)) := by decide +kernel
theorem t281_18 : am_T 281 18 = some (0, .iadd, 19, [], .null) := by decide +kernel
theorem t281_19 : am_T 281 19 = some (2, .putfield 48, 22, [2, 0, 0], .null) := by decide +kernel
theorem t281_22 : am_T 281 22 = some (4, .return_, 23, [], .null) := by decide +kernel
theorem t282_0 : am_T 282 0 = some (0, .aload_n 0, 1, [], .null) := by decide +kernel
theorem t282_1 : am_T 282 1 = some (0, .dup, 2, [], .null) := by decide +kernel
theorem t282_2 : am_T 282 2 = some (2, .getfield 63, 5, [0, 0], .null) := by decide +kernel
theorem t282_5 : am_T 282 5 = some (0, .iconst 1, 6, [], .int (1)) := by decide +kernel
theorem t282_6 : am_T 282 6 = some (0, .iadd, 7, [], .null) := by decide +kernel
theorem t282_7 : am_T 282 7 = some (2, .putfield 63, 10, [0, 0, 0], .null) := by decide +kernel
theorem t282_10 : am_T 282 10 = some (0, .aload_n 0, 11, [], .null) := by decide +kernel
theorem t282_11 : am_T 282 11 = some (0, .aload_n 1, 12, [], .null) := by decide +kernel
theorem t282_12 : am_T 282 12 = some (0, .aload_n 0, 13, [], .null) := by decide +kernel
theorem t282_13 : am_T 282 13 = some (2, .getfield 9, 16, [1, 0], .null) := by decide +kernel
theorem t282_16 : am_T 282 16 = some (0, .aload_n 0, 17, [], .null) := by decide +kernel
theorem t282_17 : am_T 282 17 = some (2, .getfield 48, 20, [2, 0], .null) := by decide +kernel
theorem t282_20 : am_T 282 20 = some (3, .invokevirtual 131, 23, [4, 0, 281], .null) := by decide +kernel
theorem t282_23 : am_T 282 23 = some (0, .iconst 1, 24, [], .int (1)) := by decide +kernel
theorem t282_24 : am_T 282 24 = some (4, .ireturn, 25, [1], .null) := by decide +kernel
theorem t283_0 : am_T 283 0 = some (0, .iload_n 0, 1, [], .null) := by decide +kernel
theorem t283_1 : am_T 283 1 = some (0, .iload_n 1, 2, [], .null) := by decide +kernel
theorem t283_2 : am_T 283 2 = some (0, .aconst_null, 3, [], .null) := by decide +kernel
theorem t283_3 : am_T 283 3 = some (3, .invokestatic 105, 6, [3, 284], .null) := by decide +kernel
theorem t283_6 : am_T 283 6 = some (4, .ireturn, 7, [0], .null) := by decide +kernel
theorem t284_0 : am_T 284 0 = some (0, .iload_n 0, 1, [], .null) := by decide +kernel
theorem t284_1 : am_T 284 1 = some (1, .ifCond .lt 8, 4, [9], .null) := by decide +kernel
theorem t284_4 : am_T 284 4 = some (0, .iload_n 0, 5, [], .null) := by decide +kernel
theorem t284_5 : am_T 284 5 = some (0, .iload_n 1, 6, [], .null) := by decide +kernel
theorem t284_6 : am_T 284 6 = some (1, .if_icmp .lt 10, 9, [16], .null) := by decide +kernel
theorem t284_9 : am_T 284 9 = some (0, .aload_n 2, 10, [], .null) := by decide +kernel
theorem t284_10 : am_T 284 10 = some (0, .iload_n 0, 11, [], .null) := by decide +kernel
theorem t284_11 : am_T 284 11 = some (0, .iload_n 1, 12, [], .null) := by decide +kernel
theorem t284_16 : am_T 284 16 = some (0, .iload_n 0, 17, [], .null) := by decide +kernel
theorem t284_17 : am_T 284 17 = some (4, .ireturn, 18, [0], .null) := by decide +kernel
theorem t285_0 : am_T 285 0 = some (2, .new 8, 3, [11, 17], .null) := by decide +kernel
theorem t285_3 : am_T 285 3 = some (0, .dup, 4, [], .null) := by decide +kernel
theorem t285_4 : am_T 285 4 = some (3, .invokespecial 15, 7, [1, 118], .null) := by decide +kernel
theorem t285_7 : am_T 285 7 = some (0, .astore_n 1, 8, [], .null) := by decide +kernel
theorem t285_8 : am_T 285 8 = some (2, .new 16, 11, [12, 65], .null) := by decide +kernel
theorem t285_11 : am_T 285 11 = some (0, .dup, 12, [], .null) := by decide +kernel
theorem t285_12 : am_T 285 12 = some (3, .invokespecial 18, 15, [1, 174], .null) := by decide +kernel
theorem t285_15 : am_T 285 15 = some (0, .astore_n 2, 16, [], .null) := by decide +kernel
theorem t285_16 : am_T 285 16 = some (0, .iconst 1, 17, [], .int (1)) := by decide +kernel
theorem t285_17 : am_T 285 17 = some (2, .newarray .long, 19, [3], .null) := by decide +kernel
theorem t285_19 : am_T 285 19 = some (0, .astore_n 3, 20, [], .null) := by decide +kernel
theorem t285_20 : am_T 285 20 = some (0, .iconst 0, 21, [], .int (0)) := by decide +kernel
theorem t285_21 : am_T 285 21 = some (0, .istore 4, 23, [], .null) := by decide +kernel
theorem t285_23 : am_T 285 23 = some (0, .iload 4, 25, [], .null) := by decide +kernel
theorem t285_25 : am_T 285 25 = some (0, .aload_n 0, 26, [], .null) := by decide +kernel
theorem t285_26 : am_T 285 26 = some (2, .arraylength, 27, [], .null) := by decide +kernel
theorem t285_27 : am_T 285 27 = some (0, .bipush 6, 29, [], .int (6)) := by decide +kernel
theorem t285_29 : am_T 285 29 = some (0, .isub, 30, [], .null) := by decide +kernel
theorem t285_30 : am_T 285 30 = some (1, .if_icmp .gt 1440, 33, [1470], .null) := by decide +kernel
theorem t285_33 : am_T 285 33 = some (0, .aload_n 0, 34, [], .null) := by decide +kernel
theorem t285_34 : am_T 285 34 = some (0, .iload 4, 36, [], .null) := by decide +kernel
theorem t285_36 : am_T 285 36 = some (2, .iaload, 37, [], .null) := by decide +kernel
theorem t285_37 : am_T 285 37 = some (0, .bipush 63, 39, [], .int (63)) := by decide +kernel
theorem t285_39 : am_T 285 39 = some (0, .iand, 40, [], .null) := by decide +kernel
theorem t285_40 : am_T 285 40 = some (5, .tableswitch 1424 0 34 #[156, 229, 254, 279, 304, 360, 397, 422, 459, 484, 521, 546, 559, 596, 633, 710, 735, 784, 821, 870, 919, 944, 981, 1054, 1103, 1129, 1191, 1228, 1241, 1254, 1279, 1348, 1373, 1386, 1399], 196, [1464, 196, 269, 294, 319, 344, 400, 437, 462, 499, 524, 561, 586, 599, 636, 673, 750, 775, 824, 861, 910, 959, 984, 1021, 1094, 1143, 1169, 1231, 1268, 1281, 1294, 1319, 1388, 1413, 1426, 1439], .int (0)) := by decide +kernel
theorem t285_196 : am_T 285 196 = some (0, .aload_n 1, 197, [], .null) := by decide +kernel
theorem t285_197 : am_T 285 197 = some (0, .aload_n 0, 198, [], .null) := by decide +kernel
theorem t285_198 : am_T 285 198 = some (0, .iload 4, 200, [], .null) := by decide +kernel
theorem t285_200 : am_T 285 200 = some (0, .iconst 1, 201, [], .int (1)) := by decide +kernel
theorem t285_201 : am_T 285 201 = some (0, .iadd, 202, [], .null) := by decide +kernel
theorem t285_202 : am_T 285 202 = some (2, .iaload, 203, [], .null) := by decide +kernel
theorem t285_203 : am_T 285 203 = some (0, .aload_n 0, 204, [], .null) := by decide +kernel
theorem t285_204 : am_T 285 204 = some (0, .iload 4, 206, [], .null) := by decide +kernel
theorem t285_206 : am_T 285 206 = some (0, .iconst 2, 207, [], .int (2)) := by decide +kernel
theorem t285_207 : am_T 285 207 = some (0, .iadd, 208, [], .null) := by decide +kernel
theorem t285_208 : am_T 285 208 = some (2, .iaload, 209, [], .null) := by decide +kernel
theorem t285_209 : am_T 285 209 = some (0, .aload_n 0, 210, [], .null) := by decide +kernel
theorem t285_210 : am_T 285 210 = some (0, .iload 4, 212, [], .null) := by decide +kernel
theorem t285_212 : am_T 285 212 = some (0, .iconst 3, 213, [], .int (3)) := by decide +kernel
theorem t285_213 : am_T 285 213 = some (0, .iadd, 214, [], .null) := by decide +kernel
theorem t285_214 : am_T 285 214 = some (2, .iaload, 215, [], .null) := by decide +kernel
theorem t285_215 : am_T 285 215 = some (0, .aload_n 0, 216, [], .null) := by decide +kernel
theorem t285_216 : am_T 285 216 = some (0, .iload 4, 218, [], .null) := by decide +kernel
theorem t285_218 : am_T 285 218 = some (0, .iconst 4, 219, [], .int (4)) := by decide +kernel
theorem t285_219 : am_T 285 219 = some (0, .iadd, 220, [], .null) := by decide +kernel
theorem t285_220 : am_T 285 220 = some (2, .iaload, 221, [], .null) := by decide +kernel
theorem t285_221 : am_T 285 221 = some (0, .aload_n 0, 222, [], .null) := by decide +kernel
theorem t285_222 : am_T 285 222 = some (0, .iload 4, 224, [], .null) := by decide +kernel
theorem t285_224 : am_T 285 224 = some (0, .iconst 5, 225, [], .int (5)) := by decide +kernel
theorem t285_225 : am_T 285 225 = some (0, .iadd, 226, [], .null) := by decide +kernel
theorem t285_226 : am_T 285 226 = some (2, .iaload, 227, [], .null) := by decide +kernel
theorem t285_227 : am_T 285 227 = some (3, .invokevirtual 19, 230, [6, 11, 119], .null) := by decide +kernel
theorem t285_230 : am_T 285 230 = some (0, .aload_n 2, 231, [], .null) := by decide +kernel
theorem t285_231 : am_T 285 231 = some (0, .aload_n 0, 232, [], .null) := by decide +kernel
theorem t285_232 : am_T 285 232 = some (0, .iload 4, 234, [], .null) := by decide +kernel
theorem t285_234 : am_T 285 234 = some (0, .iconst 1, 235, [], .int (1)) := by decide +kernel
theorem t285_235 : am_T 285 235 = some (0, .iadd, 236, [], .null) := by decide +kernel
theorem t285_236 : am_T 285 236 = some (2, .iaload, 237, [], .null) := by decide +kernel
theorem t285_237 : am_T 285 237 = some (0, .aload_n 0, 238, [], .null) := by decide +kernel
theorem t285_238 : am_T 285 238 = some (0, .iload 4, 240, [], .null) := by decide +kernel
theorem t285_240 : am_T 285 240 = some (0, .iconst 2, 241, [], .int (2)) := by decide +kernel
theorem t285_241 : am_T 285 241 = some (0, .iadd, 242, [], .null) := by decide +kernel
theorem t285_242 : am_T 285 242 = some (2, .iaload, 243, [], .null) := by decide +kernel
theorem t285_243 : am_T 285 243 = some (0, .aload_n 0, 244, [], .null) := by decide +kernel
theorem t285_244 : am_T 285 244 = some (0, .iload 4, 246, [], .null) := by decide +kernel
theorem t285_246 : am_T 285 246 = some (0, .iconst 3, 247, [], .int (3)) := by decide +kernel
theorem t285_247 : am_T 285 247 = some (0, .iadd, 248, [], .null) := by decide +kernel
theorem t285_248 : am_T 285 248 = some (2, .iaload, 249, [], .null) := by decide +kernel
theorem t285_249 : am_T 285 249 = some (0, .aload_n 0, 250, [], .null) := by decide +kernel
theorem t285_250 : am_T 285 250 = some (0, .iload 4, 252, [], .null) := by decide +kernel
theorem t285_252 : am_T 285 252 = some (0, .iconst 4, 253, [], .int (4)) := by decide +kernel
theorem t285_253 : am_T 285 253 = some (0, .iadd, 254, [], .null) := by decide +kernel
theorem t285_254 : am_T 285 254 = some (2, .iaload, 255, [], .null) := by decide +kernel
theorem t285_255 : am_T 285 255 = some (0, .aload_n 0, 256, [], .null) := by decide +kernel
theorem t285_256 : am_T 285 256 = some (0, .iload 4, 258, [], .null) := by decide +kernel
theorem t285_258 : am_T 285 258 = some (0, .iconst 5, 259, [], .int (5)) := by decide +kernel
theorem t285_259 : am_T 285 259 = some (0, .iadd, 260, [], .null) := by decide +kernel
theorem t285_260 : am_T 285 260 = some (2, .iaload, 261, [], .null) := by decide +kernel
theorem t285_261 : am_T 285 261 = some (3, .invokevirtual 23, 264, [6, 12, 181], .null) := by decide +kernel
theorem t285_264 : am_T 285 264 = some (1, .if_icmp .eq 1200, 267, [1464], .null) := by decide +kernel
theorem t285_267 : am_T 285 267 = some (0, .iconst 0, 268, [], .int (0)) := by decide +kernel
theorem t285_268 : am_T 285 268 = some (4, .ireturn, 269, [1], .null) := by decide +kernel
theorem t285_269 : am_T 285 269 = some (0, .aload_n 1, 270, [], .null) := by decide +kernel
theorem t285_270 : am_T 285 270 = some (0, .aload_n 0, 271, [], .null) := by decide +kernel
theorem t285_271 : am_T 285 271 = some (0, .iload 4, 273, [], .null) := by decide +kernel
theorem t285_273 : am_T 285 273 = some (0, .iconst 1, 274, [], .int (1)) := by decide +kernel
theorem t285_274 : am_T 285 274 = some (0, .iadd, 275, [], .null) := by decide +kernel
theorem t285_275 : am_T 285 275 = some (2, .iaload, 276, [], .null) := by decide +kernel
theorem t285_276 : am_T 285 276 = some (3, .invokevirtual 24, 279, [2, 11, 121], .null) := by decide +kernel
theorem t285_279 : am_T 285 279 = some (0, .aload_n 2, 280, [], .null) := by decide +kernel
theorem t285_280 : am_T 285 280 = some (0, .aload_n 0, 281, [], .null) := by decide +kernel
theorem t285_281 : am_T 285 281 = some (0, .iload 4, 283, [], .null) := by decide +kernel
theorem t285_283 : am_T 285 283 = some (0, .iconst 1, 284, [], .int (1)) := by decide +kernel
theorem t285_284 : am_T 285 284 = some (0, .iadd, 285, [], .null) := by decide +kernel
theorem t285_285 : am_T 285 285 = some (2, .iaload, 286, [], .null) := by decide +kernel
theorem t285_286 : am_T 285 286 = some (3, .invokevirtual 28, 289, [2, 12, 182], .null) := by decide +kernel
theorem t285_289 : am_T 285 289 = some (1, .if_icmp .eq 1175, 292, [1464], .null) := by decide +kernel
theorem t285_292 : am_T 285 292 = some (0, .iconst 0, 293, [], .int (0)) := by decide +kernel
theorem t285_293 : am_T 285 293 = some (4, .ireturn, 294, [1], .null) := by decide +kernel
theorem t285_294 : am_T 285 294 = some (0, .aload_n 1, 295, [], .null) := by decide +kernel
theorem t285_295 : am_T 285 295 = some (0, .aload_n 0, 296, [], .null) := by decide +kernel
theorem t285_296 : am_T 285 296 = some (0, .iload 4, 298, [], .null) := by decide +kernel
theorem t285_298 : am_T 285 298 = some (0, .iconst 1, 299, [], .int (1)) := by decide +kernel
theorem t285_299 : am_T 285 299 = some (0, .iadd, 300, [], .null) := by decide +kernel
theorem t285_300 : am_T 285 300 = some (2, .iaload, 301, [], .null) := by decide +kernel
theorem t285_301 : am_T 285 301 = some (3, .invokevirtual 29, 304, [2, 11, 122], .null) := by decide +kernel
theorem t285_304 : am_T 285 304 = some (0, .aload_n 2, 305, [], .null) := by decide +kernel
theorem t285_305 : am_T 285 305 = some (0, .aload_n 0, 306, [], .null) := by decide +kernel
theorem t285_306 : am_T 285 306 = some (0, .iload 4, 308, [], .null) := by decide +kernel
theorem t285_308 : am_T 285 308 = some (0, .iconst 1, 309, [], .int (1)) := by decide +kernel
theorem t285_309 : am_T 285 309 = some (0, .iadd, 310, [], .null) := by decide +kernel
theorem t285_310 : am_T 285 310 = some (2, .iaload, 311, [], .null) := by decide +kernel
theorem t285_311 : am_T 285 311 = some (3, .invokevirtual 32, 314, [2, 12, 206], .null) := by decide +kernel
theorem t285_314 : am_T 285 314 = some (1, .if_icmp .eq 1150, 317, [1464], .null) := by decide +kernel
theorem t285_317 : am_T 285 317 = some (0, .iconst 0, 318, [], .int (0)) := by decide +kernel
theorem t285_318 : am_T 285 318 = some (4, .ireturn, 319, [1], .null) := by decide +kernel
theorem t285_319 : am_T 285 319 = some (0, .aload_n 1, 320, [], .null) := by decide +kernel
theorem t285_320 : am_T 285 320 = some (0, .aload_n 0, 321, [], .null) := by decide +kernel
theorem t285_321 : am_T 285 321 = some (0, .iload 4, 323, [], .null) := by decide +kernel
theorem t285_323 : am_T 285 323 = some (0, .iconst 1, 324, [], .int (1)) := by decide +kernel
theorem t285_324 : am_T 285 324 = some (0, .iadd, 325, [], .null) := by decide +kernel
theorem t285_325 : am_T 285 325 = some (2, .iaload, 326, [], .null) := by decide +kernel
theorem t285_326 : am_T 285 326 = some (3, .invokevirtual 33, 329, [2, 11, 124], .null) := by decide +kernel
theorem t285_329 : am_T 285 329 = some (0, .aload_n 2, 330, [], .null) := by decide +kernel
theorem t285_330 : am_T 285 330 = some (0, .aload_n 0, 331, [], .null) := by decide +kernel
theorem t285_331 : am_T 285 331 = some (0, .iload 4, 333, [], .null) := by decide +kernel
theorem t285_333 : am_T 285 333 = some (0, .iconst 1, 334, [], .int (1)) := by decide +kernel
theorem t285_334 : am_T 285 334 = some (0, .iadd, 335, [], .null) := by decide +kernel
theorem t285_335 : am_T 285 335 = some (2, .iaload, 336, [], .null) := by decide +kernel
theorem t285_336 : am_T 285 336 = some (3, .invokevirtual 36, 339, [2, 12, 208], .null) := by decide +kernel
theorem t285_339 : am_T 285 339 = some (1, .if_icmp .eq 1125, 342, [1464], .null) := by decide +kernel
theorem t285_342 : am_T 285 342 = some (0, .iconst 0, 343, [], .int (0)) := by decide +kernel
theorem t285_343 : am_T 285 343 = some (4, .ireturn, 344, [1], .null) := by decide +kernel
theorem t285_344 : am_T 285 344 = some (0, .aload_n 1, 345, [], .null) := by decide +kernel
theorem t285_345 : am_T 285 345 = some (0, .aload_n 0, 346, [], .null) := by decide +kernel
theorem t285_346 : am_T 285 346 = some (0, .iload 4, 348, [], .null) := by decide +kernel
theorem t285_348 : am_T 285 348 = some (0, .iconst 1, 349, [], .int (1)) := by decide +kernel
theorem t285_349 : am_T 285 349 = some (0, .iadd, 350, [], .null) := by decide +kernel
theorem t285_350 : am_T 285 350 = some (2, .iaload, 351, [], .null) := by decide +kernel
theorem t285_351 : am_T 285 351 = some (0, .aload_n 3, 352, [], .null) := by decide +kernel
theorem t285_352 : am_T 285 352 = some (6, .invokestatic 37, 355, [136], .null) := by decide +kernel
theorem t285_355 : am_T 285 355 = some (0, .istore 5, 357, [], .null) := by decide +kernel
theorem t285_357 : am_T 285 357 = some (0, .aload_n 2, 358, [], .null) := by decide +kernel
theorem t285_358 : am_T 285 358 = some (0, .aload_n 0, 359, [], .null) := by decide +kernel
theorem t285_359 : am_T 285 359 = some (0, .iload 4, 361, [], .null) := by decide +kernel
theorem t285_361 : am_T 285 361 = some (0, .iconst 1, 362, [], .int (1)) := by decide +kernel
theorem t285_362 : am_T 285 362 = some (0, .iadd, 363, [], .null) := by decide +kernel
theorem t285_363 : am_T 285 363 = some (2, .iaload, 364, [], .null) := by decide +kernel
theorem t285_364 : am_T 285 364 = some (3, .invokevirtual 42, 367, [2, 12, 219], .null) := by decide +kernel
theorem t285_367 : am_T 285 367 = some (0, .istore 6, 369, [], .null) := by decide +kernel
theorem t285_369 : am_T 285 369 = some (0, .aload_n 2, 370, [], .null) := by decide +kernel
theorem t285_370 : am_T 285 370 = some (3, .invokevirtual 43, 373, [1, 12, 175], .null) := by decide +kernel
theorem t285_373 : am_T 285 373 = some (0, .iload 5, 375, [], .null) := by decide +kernel
theorem t285_375 : am_T 285 375 = some (1, .if_icmp .eq 5, 378, [380], .null) := by decide +kernel
theorem t285_378 : am_T 285 378 = some (0, .iconst 0, 379, [], .int (0)) := by decide +kernel
theorem t285_379 : am_T 285 379 = some (4, .ireturn, 380, [1], .null) := by decide +kernel
theorem t285_380 : am_T 285 380 = some (0, .iload 5, 382, [], .null) := by decide +kernel
theorem t285_382 : am_T 285 382 = some (1, .ifCond .ne 15, 385, [397], .null) := by decide +kernel
theorem t285_385 : am_T 285 385 = some (0, .aload_n 3, 386, [], .null) := by decide +kernel
theorem t285_386 : am_T 285 386 = some (0, .iconst 0, 387, [], .int (0)) := by decide +kernel
theorem t285_387 : am_T 285 387 = some (2, .laload, 388, [], .null) := by decide +kernel
theorem t285_388 : am_T 285 388 = some (0, .iload 6, 390, [], .null) := by decide +kernel
theorem t285_390 : am_T 285 390 = some (0, .i2l, 391, [], .null) := by decide +kernel
theorem t285_391 : am_T 285 391 = some (0, .lcmp, 392, [], .null) := by decide +kernel
theorem t285_392 : am_T 285 392 = some (1, .ifCond .eq 5, 395, [397], .null) := by decide +kernel
theorem t285_395 : am_T 285 395 = some (0, .iconst 0, 396, [], .int (0)) := by decide +kernel
theorem t285_396 : am_T 285 396 = some (4, .ireturn, 397, [1], .null) := by decide +kernel
theorem t285_397 : am_T 285 397 = some (1, .goto 1067, 400, [1464], .null) := by decide +kernel
theorem t285_400 : am_T 285 400 = some (0, .aload_n 1, 401, [], .null) := by decide +kernel
theorem t285_401 : am_T 285 401 = some (0, .aload_n 0, 402, [], .null) := by decide +kernel
theorem t285_402 : am_T 285 402 = some (0, .iload 4, 404, [], .null) := by decide +kernel
theorem t285_404 : am_T 285 404 = some (0, .iconst 1, 405, [], .int (1)) := by decide +kernel
theorem t285_405 : am_T 285 405 = some (0, .iadd, 406, [], .null) := by decide +kernel
theorem t285_406 : am_T 285 406 = some (2, .iaload, 407, [], .null) := by decide +kernel
theorem t285_407 : am_T 285 407 = some (0, .aload_n 0, 408, [], .null) := by decide +kernel
theorem t285_408 : am_T 285 408 = some (0, .iload 4, 410, [], .null) := by decide +kernel
theorem t285_410 : am_T 285 410 = some (0, .iconst 2, 411, [], .int (2)) := by decide +kernel
theorem t285_411 : am_T 285 411 = some (0, .iadd, 412, [], .null) := by decide +kernel
theorem t285_412 : am_T 285 412 = some (2, .iaload, 413, [], .null) := by decide +kernel
theorem t285_413 : am_T 285 413 = some (3, .invokevirtual 47, 416, [3, 11, 137], .null) := by decide +kernel
theorem t285_416 : am_T 285 416 = some (0, .aload_n 2, 417, [], .null) := by decide +kernel
theorem t285_417 : am_T 285 417 = some (0, .aload_n 0, 418, [], .null) := by decide +kernel
theorem t285_418 : am_T 285 418 = some (0, .iload 4, 420, [], .null) := by decide +kernel
theorem t285_420 : am_T 285 420 = some (0, .iconst 1, 421, [], .int (1)) := by decide +kernel
theorem t285_421 : am_T 285 421 = some (0, .iadd, 422, [], .null) := by decide +kernel
theorem t285_422 : am_T 285 422 = some (2, .iaload, 423, [], .null) := by decide +kernel
theorem t285_423 : am_T 285 423 = some (0, .aload_n 0, 424, [], .null) := by decide +kernel
theorem t285_424 : am_T 285 424 = some (0, .iload 4, 426, [], .null) := by decide +kernel
theorem t285_426 : am_T 285 426 = some (0, .iconst 2, 427, [], .int (2)) := by decide +kernel
theorem t285_427 : am_T 285 427 = some (0, .iadd, 428, [], .null) := by decide +kernel
theorem t285_428 : am_T 285 428 = some (2, .iaload, 429, [], .null) := by decide +kernel
theorem t285_429 : am_T 285 429 = some (3, .invokevirtual 51, 432, [3, 12, 221], .null) := by decide +kernel
theorem t285_432 : am_T 285 432 = some (1, .if_icmp .eq 1032, 435, [1464], .null) := by decide +kernel
theorem t285_435 : am_T 285 435 = some (0, .iconst 0, 436, [], .int (0)) := by decide +kernel
theorem t285_436 : am_T 285 436 = some (4, .ireturn, 437, [1], .null) := by decide +kernel
theorem t285_437 : am_T 285 437 = some (0, .aload_n 1, 438, [], .null) := by decide +kernel
theorem t285_438 : am_T 285 438 = some (0, .aload_n 0, 439, [], .null) := by decide +kernel
theorem t285_439 : am_T 285 439 = some (0, .iload 4, 441, [], .null) := by decide +kernel
theorem t285_441 : am_T 285 441 = some (0, .iconst 1, 442, [], .int (1)) := by decide +kernel
theorem t285_442 : am_T 285 442 = some (0, .iadd, 443, [], .null) := by decide +kernel
theorem t285_443 : am_T 285 443 = some (2, .iaload, 444, [], .null) := by decide +kernel
theorem t285_444 : am_T 285 444 = some (3, .invokevirtual 52, 447, [2, 11, 138], .null) := by decide +kernel
theorem t285_447 : am_T 285 447 = some (0, .aload_n 2, 448, [], .null) := by decide +kernel
theorem t285_448 : am_T 285 448 = some (0, .aload_n 0, 449, [], .null) := by decide +kernel
theorem t285_449 : am_T 285 449 = some (0, .iload 4, 451, [], .null) := by decide +kernel
theorem t285_451 : am_T 285 451 = some (0, .iconst 1, 452, [], .int (1)) := by decide +kernel
theorem t285_452 : am_T 285 452 = some (0, .iadd, 453, [], .null) := by decide +kernel
theorem t285_453 : am_T 285 453 = some (2, .iaload, 454, [], .null) := by decide +kernel
theorem t285_454 : am_T 285 454 = some (3, .invokevirtual 55, 457, [2, 12, 222], .null) := by decide +kernel
theorem t285_457 : am_T 285 457 = some (1, .if_icmp .eq 1007, 460, [1464], .null) := by decide +kernel
theorem t285_460 : am_T 285 460 = some (0, .iconst 0, 461, [], .int (0)) := by decide +kernel
theorem t285_461 : am_T 285 461 = some (4, .ireturn, 462, [1], .null) := by decide +kernel
theorem t285_462 : am_T 285 462 = some (0, .aload_n 1, 463, [], .null) := by decide +kernel
theorem t285_463 : am_T 285 463 = some (0, .aload_n 0, 464, [], .null) := by decide +kernel
theorem t285_464 : am_T 285 464 = some (0, .iload 4, 466, [], .null) := by decide +kernel
theorem t285_466 : am_T 285 466 = some (0, .iconst 1, 467, [], .int (1)) := by decide +kernel
theorem t285_467 : am_T 285 467 = some (0, .iadd, 468, [], .null) := by decide +kernel
theorem t285_468 : am_T 285 468 = some (2, .iaload, 469, [], .null) := by decide +kernel
theorem t285_469 : am_T 285 469 = some (0, .aload_n 0, 470, [], .null) := by decide +kernel
theorem t285_470 : am_T 285 470 = some (0, .iload 4, 472, [], .null) := by decide +kernel
theorem t285_472 : am_T 285 472 = some (0, .iconst 2, 473, [], .int (2)) := by decide +kernel
theorem t285_473 : am_T 285 473 = some (0, .iadd, 474, [], .null) := by decide +kernel
theorem t285_474 : am_T 285 474 = some (2, .iaload, 475, [], .null) := by decide +kernel
theorem t285_475 : am_T 285 475 = some (3, .invokevirtual 56, 478, [3, 11, 139], .null) := by decide +kernel
theorem t285_478 : am_T 285 478 = some (0, .aload_n 2, 479, [], .null) := by decide +kernel
theorem t285_479 : am_T 285 479 = some (0, .aload_n 0, 480, [], .null) := by decide +kernel
theorem t285_480 : am_T 285 480 = some (0, .iload 4, 482, [], .null) := by decide +kernel
theorem t285_482 : am_T 285 482 = some (0, .iconst 1, 483, [], .int (1)) := by decide +kernel
theorem t285_483 : am_T 285 483 = some (0, .iadd, 484, [], .null) := by decide +kernel
theorem t285_484 : am_T 285 484 = some (2, .iaload, 485, [], .null) := by decide +kernel
theorem t285_485 : am_T 285 485 = some (0, .aload_n 0, 486, [], .null) := by decide +kernel
theorem t285_486 : am_T 285 486 = some (0, .iload 4, 488, [], .null) := by decide +kernel
theorem t285_488 : am_T 285 488 = some (0, .iconst 2, 489, [], .int (2)) := by decide +kernel
theorem t285_489 : am_T 285 489 = some (0, .iadd, 490, [], .null) := by decide +kernel
theorem t285_490 : am_T 285 490 = some (2, .iaload, 491, [], .null) := by decide +kernel
theorem t285_491 : am_T 285 491 = some (3, .invokevirtual 59, 494, [3, 12, 225], .null) := by decide +kernel
theorem t285_494 : am_T 285 494 = some (1, .if_icmp .eq 970, 497, [1464], .null) := by decide +kernel
theorem t285_497 : am_T 285 497 = some (0, .iconst 0, 498, [], .int (0)) := by decide +kernel
theorem t285_498 : am_T 285 498 = some (4, .ireturn, 499, [1], .null) := by decide +kernel
theorem t285_499 : am_T 285 499 = some (0, .aload_n 1, 500, [], .null) := by decide +kernel
theorem t285_500 : am_T 285 500 = some (0, .aload_n 0, 501, [], .null) := by decide +kernel
theorem t285_501 : am_T 285 501 = some (0, .iload 4, 503, [], .null) := by decide +kernel
theorem t285_503 : am_T 285 503 = some (0, .iconst 1, 504, [], .int (1)) := by decide +kernel
theorem t285_504 : am_T 285 504 = some (0, .iadd, 505, [], .null) := by decide +kernel
theorem t285_505 : am_T 285 505 = some (2, .iaload, 506, [], .null) := by decide +kernel
theorem t285_506 : am_T 285 506 = some (3, .invokevirtual 60, 509, [2, 11, 140], .null) := by decide +kernel
theorem t285_509 : am_T 285 509 = some (0, .aload_n 2, 510, [], .null) := by decide +kernel
theorem t285_510 : am_T 285 510 = some (0, .aload_n 0, 511, [], .null) := by decide +kernel
theorem t285_511 : am_T 285 511 = some (0, .iload 4, 513, [], .null) := by decide +kernel
theorem t285_513 : am_T 285 513 = some (0, .iconst 1, 514, [], .int (1)) := by decide +kernel
theorem t285_514 : am_T 285 514 = some (0, .iadd, 515, [], .null) := by decide +kernel
theorem t285_515 : am_T 285 515 = some (2, .iaload, 516, [], .null) := by decide +kernel
theorem t285_516 : am_T 285 516 = some (3, .invokevirtual 63, 519, [2, 12, 226], .null) := by decide +kernel
theorem t285_519 : am_T 285 519 = some (1, .if_icmp .eq 945, 522, [1464], .null) := by decide +kernel
theorem t285_522 : am_T 285 522 = some (0, .iconst 0, 523, [], .int (0)) := by decide +kernel
theorem t285_523 : am_T 285 523 = some (4, .ireturn, 524, [1], .null) := by decide +kernel
theorem t285_524 : am_T 285 524 = some (0, .aload_n 1, 525, [], .null) := by decide +kernel
theorem t285_525 : am_T 285 525 = some (0, .aload_n 0, 526, [], .null) := by decide +kernel
theorem t285_526 : am_T 285 526 = some (0, .iload 4, 528, [], .null) := by decide +kernel
theorem t285_528 : am_T 285 528 = some (0, .iconst 1, 529, [], .int (1)) := by decide +kernel
theorem t285_529 : am_T 285 529 = some (0, .iadd, 530, [], .null) := by decide +kernel
theorem t285_530 : am_T 285 530 = some (2, .iaload, 531, [], .null) := by decide +kernel
theorem t285_531 : am_T 285 531 = some (0, .aload_n 0, 532, [], .null) := by decide +kernel
theorem t285_532 : am_T 285 532 = some (0, .iload 4, 534, [], .null) := by decide +kernel
theorem t285_534 : am_T 285 534 = some (0, .iconst 2, 535, [], .int (2)) := by decide +kernel
theorem t285_535 : am_T 285 535 = some (0, .iadd, 536, [], .null) := by decide +kernel
theorem t285_536 : am_T 285 536 = some (2, .iaload, 537, [], .null) := by decide +kernel
theorem t285_537 : am_T 285 537 = some (3, .invokevirtual 64, 540, [3, 11, 141], .null) := by decide +kernel
theorem t285_540 : am_T 285 540 = some (0, .aload_n 2, 541, [], .null) := by decide +kernel
theorem t285_541 : am_T 285 541 = some (0, .aload_n 0, 542, [], .null) := by decide +kernel
theorem t285_542 : am_T 285 542 = some (0, .iload 4, 544, [], .null) := by decide +kernel
theorem t285_544 : am_T 285 544 = some (0, .iconst 1, 545, [], .int (1)) := by decide +kernel
theorem t285_545 : am_T 285 545 = some (0, .iadd, 546, [], .null) := by decide +kernel
theorem t285_546 : am_T 285 546 = some (2, .iaload, 547, [], .null) := by decide +kernel
theorem t285_547 : am_T 285 547 = some (0, .aload_n 0, 548, [], .null) := by decide +kernel
theorem t285_548 : am_T 285 548 = some (0, .iload 4, 550, [], .null) := by decide +kernel
theorem t285_550 : am_T 285 550 = some (0, .iconst 2, 551, [], .int (2)) := by decide +kernel
theorem t285_551 : am_T 285 551 = some (0, .iadd, 552, [], .null) := by decide +kernel
theorem t285_552 : am_T 285 552 = some (2, .iaload, 553, [], .null) := by decide +kernel
theorem t285_553 : am_T 285 553 = some (3, .invokevirtual 67, 556, [3, 12, 227], .null) := by decide +kernel
theorem t285_556 : am_T 285 556 = some (1, .if_icmp .eq 908, 559, [1464], .null) := by decide +kernel
theorem t285_559 : am_T 285 559 = some (0, .iconst 0, 560, [], .int (0)) := by decide +kernel
theorem t285_560 : am_T 285 560 = some (4, .ireturn, 561, [1], .null) := by decide +kernel
theorem t285_561 : am_T 285 561 = some (0, .aload_n 1, 562, [], .null) := by decide +kernel
theorem t285_562 : am_T 285 562 = some (0, .aload_n 0, 563, [], .null) := by decide +kernel
theorem t285_563 : am_T 285 563 = some (0, .iload 4, 565, [], .null) := by decide +kernel
theorem t285_565 : am_T 285 565 = some (0, .iconst 1, 566, [], .int (1)) := by decide +kernel
theorem t285_566 : am_T 285 566 = some (0, .iadd, 567, [], .null) := by decide +kernel
theorem t285_567 : am_T 285 567 = some (2, .iaload, 568, [], .null) := by decide +kernel
theorem t285_568 : am_T 285 568 = some (3, .invokevirtual 68, 571, [2, 11, 142], .null) := by decide +kernel
theorem t285_571 : am_T 285 571 = some (0, .aload_n 2, 572, [], .null) := by decide +kernel
theorem t285_572 : am_T 285 572 = some (0, .aload_n 0, 573, [], .null) := by decide +kernel
theorem t285_573 : am_T 285 573 = some (0, .iload 4, 575, [], .null) := by decide +kernel
theorem t285_575 : am_T 285 575 = some (0, .iconst 1, 576, [], .int (1)) := by decide +kernel
theorem t285_576 : am_T 285 576 = some (0, .iadd, 577, [], .null) := by decide +kernel
theorem t285_577 : am_T 285 577 = some (2, .iaload, 578, [], .null) := by decide +kernel
theorem t285_578 : am_T 285 578 = some (3, .invokevirtual 71, 581, [2, 12, 229], .null) := by decide +kernel
theorem t285_581 : am_T 285 581 = some (1, .if_icmp .eq 883, 584, [1464], .null) := by decide +kernel
theorem t285_584 : am_T 285 584 = some (0, .iconst 0, 585, [], .int (0)) := by decide +kernel
theorem t285_585 : am_T 285 585 = some (4, .ireturn, 586, [1], .null) := by decide +kernel
theorem t285_586 : am_T 285 586 = some (0, .aload_n 1, 587, [], .null) := by decide +kernel
theorem t285_587 : am_T 285 587 = some (3, .invokevirtual 72, 590, [1, 11, 143], .null) := by decide +kernel
theorem t285_590 : am_T 285 590 = some (0, .aload_n 2, 591, [], .null) := by decide +kernel
theorem t285_591 : am_T 285 591 = some (3, .invokevirtual 75, 594, [1, 12, 230], .null) := by decide +kernel
theorem t285_594 : am_T 285 594 = some (1, .if_icmp .eq 870, 597, [1464], .null) := by decide +kernel
theorem t285_597 : am_T 285 597 = some (0, .iconst 0, 598, [], .int (0)) := by decide +kernel
theorem t285_598 : am_T 285 598 = some (4, .ireturn, 599, [1], .null) := by decide +kernel
theorem t285_599 : am_T 285 599 = some (0, .aload_n 1, 600, [], .null) := by decide +kernel
theorem t285_600 : am_T 285 600 = some (0, .aload_n 0, 601, [], .null) := by decide +kernel
theorem t285_601 : am_T 285 601 = some (0, .iload 4, 603, [], .null) := by decide +kernel
theorem t285_603 : am_T 285 603 = some (0, .iconst 1, 604, [], .int (1)) := by decide +kernel
theorem t285_604 : am_T 285 604 = some (0, .iadd, 605, [], .null) := by decide +kernel
theorem t285_605 : am_T 285 605 = some (2, .iaload, 606, [], .null) := by decide +kernel
theorem t285_606 : am_T 285 606 = some (0, .aload_n 0, 607, [], .null) := by decide +kernel
theorem t285_607 : am_T 285 607 = some (0, .iload 4, 609, [], .null) := by decide +kernel
theorem t285_609 : am_T 285 609 = some (0, .iconst 2, 610, [], .int (2)) := by decide +kernel
theorem t285_610 : am_T 285 610 = some (0, .iadd, 611, [], .null) := by decide +kernel
theorem t285_611 : am_T 285 611 = some (2, .iaload, 612, [], .null) := by decide +kernel
theorem t285_612 : am_T 285 612 = some (3, .invokevirtual 76, 615, [3, 11, 144], .null) := by decide +kernel
theorem t285_615 : am_T 285 615 = some (0, .aload_n 2, 616, [], .null) := by decide +kernel
theorem t285_616 : am_T 285 616 = some (0, .aload_n 0, 617, [], .null) := by decide +kernel
theorem t285_617 : am_T 285 617 = some (0, .iload 4, 619, [], .null) := by decide +kernel
theorem t285_619 : am_T 285 619 = some (0, .iconst 1, 620, [], .int (1)) := by decide +kernel
theorem t285_620 : am_T 285 620 = some (0, .iadd, 621, [], .null) := by decide +kernel
theorem t285_621 : am_T 285 621 = some (2, .iaload, 622, [], .null) := by decide +kernel
theorem t285_622 : am_T 285 622 = some (0, .aload_n 0, 623, [], .null) := by decide +kernel
theorem t285_623 : am_T 285 623 = some (0, .iload 4, 625, [], .null) := by decide +kernel
theorem t285_625 : am_T 285 625 = some (0, .iconst 2, 626, [], .int (2)) := by decide +kernel
theorem t285_626 : am_T 285 626 = some (0, .iadd, 627, [], .null) := by decide +kernel
theorem t285_627 : am_T 285 627 = some (2, .iaload, 628, [], .null) := by decide +kernel
theorem t285_628 : am_T 285 628 = some (3, .invokevirtual 79, 631, [3, 12, 232], .null) := by decide +kernel
theorem t285_631 : am_T 285 631 = some (1, .if_icmp .eq 833, 634, [1464], .null) := by decide +kernel
theorem t285_634 : am_T 285 634 = some (0, .iconst 0, 635, [], .int (0)) := by decide +kernel
theorem t285_635 : am_T 285 635 = some (4, .ireturn, 636, [1], .null) := by decide +kernel
theorem t285_636 : am_T 285 636 = some (0, .aload_n 1, 637, [], .null) := by decide +kernel
theorem t285_637 : am_T 285 637 = some (0, .aload_n 0, 638, [], .null) := by decide +kernel
theorem t285_638 : am_T 285 638 = some (0, .iload 4, 640, [], .null) := by decide +kernel
theorem t285_640 : am_T 285 640 = some (0, .iconst 1, 641, [], .int (1)) := by decide +kernel
theorem t285_641 : am_T 285 641 = some (0, .iadd, 642, [], .null) := by decide +kernel
theorem t285_642 : am_T 285 642 = some (2, .iaload, 643, [], .null) := by decide +kernel
theorem t285_643 : am_T 285 643 = some (0, .aload_n 0, 644, [], .null) := by decide +kernel
theorem t285_644 : am_T 285 644 = some (0, .iload 4, 646, [], .null) := by decide +kernel
theorem t285_646 : am_T 285 646 = some (0, .iconst 2, 647, [], .int (2)) := by decide +kernel
theorem t285_647 : am_T 285 647 = some (0, .iadd, 648, [], .null) := by decide +kernel
theorem t285_648 : am_T 285 648 = some (2, .iaload, 649, [], .null) := by decide +kernel
theorem t285_649 : am_T 285 649 = some (3, .invokevirtual 80, 652, [3, 11, 145], .null) := by decide +kernel
theorem t285_652 : am_T 285 652 = some (0, .aload_n 2, 653, [], .null) := by decide +kernel
theorem t285_653 : am_T 285 653 = some (0, .aload_n 0, 654, [], .null) := by decide +kernel
theorem t285_654 : am_T 285 654 = some (0, .iload 4, 656, [], .null) := by decide +kernel
theorem t285_656 : am_T 285 656 = some (0, .iconst 1, 657, [], .int (1)) := by decide +kernel
theorem t285_657 : am_T 285 657 = some (0, .iadd, 658, [], .null) := by decide +kernel
theorem t285_658 : am_T 285 658 = some (2, .iaload, 659, [], .null) := by decide +kernel
theorem t285_659 : am_T 285 659 = some (0, .aload_n 0, 660, [], .null) := by decide +kernel
theorem t285_660 : am_T 285 660 = some (0, .iload 4, 662, [], .null) := by decide +kernel
theorem t285_662 : am_T 285 662 = some (0, .iconst 2, 663, [], .int (2)) := by decide +kernel
theorem t285_663 : am_T 285 663 = some (0, .iadd, 664, [], .null) := by decide +kernel
theorem t285_664 : am_T 285 664 = some (2, .iaload, 665, [], .null) := by decide +kernel
theorem t285_665 : am_T 285 665 = some (3, .invokevirtual 83, 668, [3, 12, 236], .null) := by decide +kernel
theorem t285_668 : am_T 285 668 = some (1, .if_icmp .eq 796, 671, [1464], .null) := by decide +kernel
theorem t285_671 : am_T 285 671 = some (0, .iconst 0, 672, [], .int (0)) := by decide +kernel
theorem t285_672 : am_T 285 672 = some (4, .ireturn, 673, [1], .null) := by decide +kernel
theorem t285_673 : am_T 285 673 = some (0, .aload_n 1, 674, [], .null) := by decide +kernel
theorem t285_674 : am_T 285 674 = some (0, .aload_n 0, 675, [], .null) := by decide +kernel
theorem t285_675 : am_T 285 675 = some (0, .iload 4, 677, [], .null) := by decide +kernel
theorem t285_677 : am_T 285 677 = some (0, .iconst 1, 678, [], .int (1)) := by decide +kernel
theorem t285_678 : am_T 285 678 = some (0, .iadd, 679, [], .null) := by decide +kernel
theorem t285_679 : am_T 285 679 = some (2, .iaload, 680, [], .null) := by decide +kernel
theorem t285_680 : am_T 285 680 = some (0, .aload_n 0, 681, [], .null) := by decide +kernel
theorem t285_681 : am_T 285 681 = some (0, .iload 4, 683, [], .null) := by decide +kernel
theorem t285_683 : am_T 285 683 = some (0, .iconst 2, 684, [], .int (2)) := by decide +kernel
theorem t285_684 : am_T 285 684 = some (0, .iadd, 685, [], .null) := by decide +kernel
theorem t285_685 : am_T 285 685 = some (2, .iaload, 686, [], .null) := by decide +kernel
theorem t285_686 : am_T 285 686 = some (0, .aload_n 0, 687, [], .null) := by decide +kernel
theorem t285_687 : am_T 285 687 = some (0, .iload 4, 689, [], .null) := by decide +kernel
theorem t285_689 : am_T 285 689 = some (0, .iconst 3, 690, [], .int (3)) := by decide +kernel
theorem t285_690 : am_T 285 690 = some (0, .iadd, 691, [], .null) := by decide +kernel
theorem t285_691 : am_T 285 691 = some (2, .iaload, 692, [], .null) := by decide +kernel
theorem t285_692 : am_T 285 692 = some (1, .ifCond .eq 7, 695, [699], .null) := by decide +kernel
theorem t285_695 : am_T 285 695 = some (0, .iconst 1, 696, [], .int (1)) := by decide +kernel
theorem t285_696 : am_T 285 696 = some (1, .goto 4, 699, [700], .null) := by decide +kernel
theorem t285_699 : am_T 285 699 = some (0, .iconst 0, 700, [], .int (0)) := by decide +kernel
theorem t285_700 : am_T 285 700 = some (0, .aload_n 0, 701, [], .null) := by decide +kernel
theorem t285_701 : am_T 285 701 = some (0, .iload 4, 703, [], .null) := by decide +kernel
theorem t285_703 : am_T 285 703 = some (0, .iconst 4, 704, [], .int (4)) := by decide +kernel
theorem t285_704 : am_T 285 704 = some (0, .iadd, 705, [], .null) := by decide +kernel
theorem t285_705 : am_T 285 705 = some (2, .iaload, 706, [], .null) := by decide +kernel
theorem t285_706 : am_T 285 706 = some (3, .invokevirtual 84, 709, [5, 11, 146], .null) := by decide +kernel
theorem t285_709 : am_T 285 709 = some (0, .aload_n 2, 710, [], .null) := by decide +kernel
theorem t285_710 : am_T 285 710 = some (0, .aload_n 0, 711, [], .null) := by decide +kernel
theorem t285_711 : am_T 285 711 = some (0, .iload 4, 713, [], .null) := by decide +kernel
theorem t285_713 : am_T 285 713 = some (0, .iconst 1, 714, [], .int (1)) := by decide +kernel
theorem t285_714 : am_T 285 714 = some (0, .iadd, 715, [], .null) := by decide +kernel
theorem t285_715 : am_T 285 715 = some (2, .iaload, 716, [], .null) := by decide +kernel
theorem t285_716 : am_T 285 716 = some (0, .aload_n 0, 717, [], .null) := by decide +kernel
theorem t285_717 : am_T 285 717 = some (0, .iload 4, 719, [], .null) := by decide +kernel
theorem t285_719 : am_T 285 719 = some (0, .iconst 2, 720, [], .int (2)) := by decide +kernel
theorem t285_720 : am_T 285 720 = some (0, .iadd, 721, [], .null) := by decide +kernel
theorem t285_721 : am_T 285 721 = some (2, .iaload, 722, [], .null) := by decide +kernel
theorem t285_722 : am_T 285 722 = some (0, .aload_n 0, 723, [], .null) := by decide +kernel
theorem t285_723 : am_T 285 723 = some (0, .iload 4, 725, [], .null) := by decide +kernel
theorem t285_725 : am_T 285 725 = some (0, .iconst 3, 726, [], .int (3)) := by decide +kernel
theorem t285_726 : am_T 285 726 = some (0, .iadd, 727, [], .null) := by decide +kernel
theorem t285_727 : am_T 285 727 = some (2, .iaload, 728, [], .null) := by decide +kernel
theorem t285_728 : am_T 285 728 = some (1, .ifCond .eq 7, 731, [735], .null) := by decide +kernel
theorem t285_731 : am_T 285 731 = some (0, .iconst 1, 732, [], .int (1)) := by decide +kernel
theorem t285_732 : am_T 285 732 = some (1, .goto 4, 735, [736], .null) := by decide +kernel
theorem t285_735 : am_T 285 735 = some (0, .iconst 0, 736, [], .int (0)) := by decide +kernel
theorem t285_736 : am_T 285 736 = some (0, .aload_n 0, 737, [], .null) := by decide +kernel
theorem t285_737 : am_T 285 737 = some (0, .iload 4, 739, [], .null) := by decide +kernel
theorem t285_739 : am_T 285 739 = some (0, .iconst 4, 740, [], .int (4)) := by decide +kernel
theorem t285_740 : am_T 285 740 = some (0, .iadd, 741, [], .null) := by decide +kernel
theorem t285_741 : am_T 285 741 = some (2, .iaload, 742, [], .null) := by decide +kernel
theorem t285_742 : am_T 285 742 = some (3, .invokevirtual 88, 745, [5, 12, 238], .null) := by decide +kernel
theorem t285_745 : am_T 285 745 = some (1, .if_icmp .eq 719, 748, [1464], .null) := by decide +kernel
theorem t285_748 : am_T 285 748 = some (0, .iconst 0, 749, [], .int (0)) := by decide +kernel
theorem t285_749 : am_T 285 749 = some (4, .ireturn, 750, [1], .null) := by decide +kernel
theorem t285_750 : am_T 285 750 = some (0, .aload_n 1, 751, [], .null) := by decide +kernel
theorem t285_751 : am_T 285 751 = some (0, .aload_n 0, 752, [], .null) := by decide +kernel
theorem t285_752 : am_T 285 752 = some (0, .iload 4, 754, [], .null) := by decide +kernel
theorem t285_754 : am_T 285 754 = some (0, .iconst 1, 755, [], .int (1)) := by decide +kernel
theorem t285_755 : am_T 285 755 = some (0, .iadd, 756, [], .null) := by decide +kernel
theorem t285_756 : am_T 285 756 = some (2, .iaload, 757, [], .null) := by decide +kernel
theorem t285_757 : am_T 285 757 = some (3, .invokevirtual 89, 760, [2, 11, 149], .null) := by decide +kernel
theorem t285_760 : am_T 285 760 = some (0, .aload_n 2, 761, [], .null) := by decide +kernel
theorem t285_761 : am_T 285 761 = some (0, .aload_n 0, 762, [], .null) := by decide +kernel
theorem t285_762 : am_T 285 762 = some (0, .iload 4, 764, [], .null) := by decide +kernel
theorem t285_764 : am_T 285 764 = some (0, .iconst 1, 765, [], .int (1)) := by decide +kernel
theorem t285_765 : am_T 285 765 = some (0, .iadd, 766, [], .null) := by decide +kernel
theorem t285_766 : am_T 285 766 = some (2, .iaload, 767, [], .null) := by decide +kernel
theorem t285_767 : am_T 285 767 = some (3, .invokevirtual 92, 770, [2, 12, 239], .null) := by decide +kernel
theorem t285_770 : am_T 285 770 = some (1, .if_icmp .eq 694, 773, [1464], .null) := by decide +kernel
theorem t285_773 : am_T 285 773 = some (0, .iconst 0, 774, [], .int (0)) := by decide +kernel
theorem t285_774 : am_T 285 774 = some (4, .ireturn, 775, [1], .null) := by decide +kernel
theorem t285_775 : am_T 285 775 = some (0, .aload_n 1, 776, [], .null) := by decide +kernel
theorem t285_776 : am_T 285 776 = some (0, .aload_n 0, 777, [], .null) := by decide +kernel
theorem t285_777 : am_T 285 777 = some (0, .iload 4, 779, [], .null) := by decide +kernel
theorem t285_779 : am_T 285 779 = some (0, .iconst 1, 780, [], .int (1)) := by decide +kernel
theorem t285_780 : am_T 285 780 = some (0, .iadd, 781, [], .null) := by decide +kernel
theorem t285_781 : am_T 285 781 = some (2, .iaload, 782, [], .null) := by decide +kernel
theorem t285_782 : am_T 285 782 = some (0, .aload_n 0, 783, [], .null) := by decide +kernel
theorem t285_783 : am_T 285 783 = some (0, .iload 4, 785, [], .null) := by decide +kernel
theorem t285_785 : am_T 285 785 = some (0, .iconst 2, 786, [], .int (2)) := by decide +kernel
theorem t285_786 : am_T 285 786 = some (0, .iadd, 787, [], .null) := by decide +kernel
theorem t285_787 : am_T 285 787 = some (2, .iaload, 788, [], .null) := by decide +kernel
theorem t285_788 : am_T 285 788 = some (0, .aload_n 0, 789, [], .null) := by decide +kernel
theorem t285_789 : am_T 285 789 = some (0, .iload 4, 791, [], .null) := by decide +kernel
theorem t285_791 : am_T 285 791 = some (0, .iconst 3, 792, [], .int (3)) := by decide +kernel
theorem t285_792 : am_T 285 792 = some (0, .iadd, 793, [], .null) := by decide +kernel
theorem t285_793 : am_T 285 793 = some (2, .iaload, 794, [], .null) := by decide +kernel
theorem t285_794 : am_T 285 794 = some (3, .invokevirtual 93, 797, [4, 11, 151], .null) := by decide +kernel
theorem t285_797 : am_T 285 797 = some (0, .aload_n 2, 798, [], .null) := by decide +kernel
theorem t285_798 : am_T 285 798 = some (0, .aload_n 0, 799, [], .null) := by decide +kernel
theorem t285_799 : am_T 285 799 = some (0, .iload 4, 801, [], .null) := by decide +kernel
theorem t285_801 : am_T 285 801 = some (0, .iconst 1, 802, [], .int (1)) := by decide +kernel
theorem t285_802 : am_T 285 802 = some (0, .iadd, 803, [], .null) := by decide +kernel
theorem t285_803 : am_T 285 803 = some (2, .iaload, 804, [], .null) := by decide +kernel
theorem t285_804 : am_T 285 804 = some (0, .aload_n 0, 805, [], .null) := by decide +kernel
theorem t285_805 : am_T 285 805 = some (0, .iload 4, 807, [], .null) := by decide +kernel
theorem t285_807 : am_T 285 807 = some (0, .iconst 2, 808, [], .int (2)) := by decide +kernel
theorem t285_808 : am_T 285 808 = some (0, .iadd, 809, [], .null) := by decide +kernel
theorem t285_809 : am_T 285 809 = some (2, .iaload, 810, [], .null) := by decide +kernel
theorem t285_810 : am_T 285 810 = some (0, .aload_n 0, 811, [], .null) := by decide +kernel
theorem t285_811 : am_T 285 811 = some (0, .iload 4, 813, [], .null) := by decide +kernel
theorem t285_813 : am_T 285 813 = some (0, .iconst 3, 814, [], .int (3)) := by decide +kernel
theorem t285_814 : am_T 285 814 = some (0, .iadd, 815, [], .null) := by decide +kernel
theorem t285_815 : am_T 285 815 = some (2, .iaload, 816, [], .null) := by decide +kernel
theorem t285_816 : am_T 285 816 = some (3, .invokevirtual 97, 819, [4, 12, 241], .null) := by decide +kernel
theorem t285_819 : am_T 285 819 = some (1, .if_icmp .eq 645, 822, [1464], .null) := by decide +kernel
theorem t285_822 : am_T 285 822 = some (0, .iconst 0, 823, [], .int (0)) := by decide +kernel
theorem t285_823 : am_T 285 823 = some (4, .ireturn, 824, [1], .null) := by decide +kernel
theorem t285_824 : am_T 285 824 = some (0, .aload_n 1, 825, [], .null) := by decide +kernel
theorem t285_825 : am_T 285 825 = some (0, .aload_n 0, 826, [], .null) := by decide +kernel
theorem t285_826 : am_T 285 826 = some (0, .iload 4, 828, [], .null) := by decide +kernel
theorem t285_828 : am_T 285 828 = some (0, .iconst 1, 829, [], .int (1)) := by decide +kernel
theorem t285_829 : am_T 285 829 = some (0, .iadd, 830, [], .null) := by decide +kernel
theorem t285_830 : am_T 285 830 = some (2, .iaload, 831, [], .null) := by decide +kernel
theorem t285_831 : am_T 285 831 = some (0, .aload_n 0, 832, [], .null) := by decide +kernel
theorem t285_832 : am_T 285 832 = some (0, .iload 4, 834, [], .null) := by decide +kernel
theorem t285_834 : am_T 285 834 = some (0, .iconst 2, 835, [], .int (2)) := by decide +kernel
theorem t285_835 : am_T 285 835 = some (0, .iadd, 836, [], .null) := by decide +kernel
theorem t285_836 : am_T 285 836 = some (2, .iaload, 837, [], .null) := by decide +kernel
theorem t285_837 : am_T 285 837 = some (3, .invokevirtual 98, 840, [3, 11, 152], .null) := by decide +kernel
theorem t285_840 : am_T 285 840 = some (0, .aload_n 2, 841, [], .null) := by decide +kernel
theorem t285_841 : am_T 285 841 = some (0, .aload_n 0, 842, [], .null) := by decide +kernel
theorem t285_842 : am_T 285 842 = some (0, .iload 4, 844, [], .null) := by decide +kernel
theorem t285_844 : am_T 285 844 = some (0, .iconst 1, 845, [], .int (1)) := by decide +kernel
theorem t285_845 : am_T 285 845 = some (0, .iadd, 846, [], .null) := by decide +kernel
theorem t285_846 : am_T 285 846 = some (2, .iaload, 847, [], .null) := by decide +kernel
theorem t285_847 : am_T 285 847 = some (0, .aload_n 0, 848, [], .null) := by decide +kernel
theorem t285_848 : am_T 285 848 = some (0, .iload 4, 850, [], .null) := by decide +kernel
theorem t285_850 : am_T 285 850 = some (0, .iconst 2, 851, [], .int (2)) := by decide +kernel
theorem t285_851 : am_T 285 851 = some (0, .iadd, 852, [], .null) := by decide +kernel
theorem t285_852 : am_T 285 852 = some (2, .iaload, 853, [], .null) := by decide +kernel
theorem t285_853 : am_T 285 853 = some (3, .invokevirtual 101, 856, [3, 12, 243], .null) := by decide +kernel
theorem t285_856 : am_T 285 856 = some (1, .if_icmp .eq 608, 859, [1464], .null) := by decide +kernel
theorem t285_859 : am_T 285 859 = some (0, .iconst 0, 860, [], .int (0)) := by decide +kernel
theorem t285_860 : am_T 285 860 = some (4, .ireturn, 861, [1], .null) := by decide +kernel
theorem t285_861 : am_T 285 861 = some (0, .aload_n 1, 862, [], .null) := by decide +kernel
theorem t285_862 : am_T 285 862 = some (0, .aload_n 0, 863, [], .null) := by decide +kernel
theorem t285_863 : am_T 285 863 = some (0, .iload 4, 865, [], .null) := by decide +kernel
theorem t285_865 : am_T 285 865 = some (0, .iconst 1, 866, [], .int (1)) := by decide +kernel
theorem t285_866 : am_T 285 866 = some (0, .iadd, 867, [], .null) := by decide +kernel
theorem t285_867 : am_T 285 867 = some (2, .iaload, 868, [], .null) := by decide +kernel
theorem t285_868 : am_T 285 868 = some (0, .aload_n 0, 869, [], .null) := by decide +kernel
theorem t285_869 : am_T 285 869 = some (0, .iload 4, 871, [], .null) := by decide +kernel
theorem t285_871 : am_T 285 871 = some (0, .iconst 2, 872, [], .int (2)) := by decide +kernel
theorem t285_872 : am_T 285 872 = some (0, .iadd, 873, [], .null) := by decide +kernel
theorem t285_873 : am_T 285 873 = some (2, .iaload, 874, [], .null) := by decide +kernel
theorem t285_874 : am_T 285 874 = some (0, .aload_n 0, 875, [], .null) := by decide +kernel
theorem t285_875 : am_T 285 875 = some (0, .iload 4, 877, [], .null) := by decide +kernel
theorem t285_877 : am_T 285 877 = some (0, .iconst 3, 878, [], .int (3)) := by decide +kernel
theorem t285_878 : am_T 285 878 = some (0, .iadd, 879, [], .null) := by decide +kernel
theorem t285_879 : am_T 285 879 = some (2, .iaload, 880, [], .null) := by decide +kernel
theorem t285_880 : am_T 285 880 = some (3, .invokevirtual 102, 883, [4, 11, 153], .null) := by decide +kernel
theorem t285_883 : am_T 285 883 = some (0, .aload_n 2, 884, [], .null) := by decide +kernel
theorem t285_884 : am_T 285 884 = some (0, .aload_n 0, 885, [], .null) := by decide +kernel
theorem t285_885 : am_T 285 885 = some (0, .iload 4, 887, [], .null) := by decide +kernel
theorem t285_887 : am_T 285 887 = some (0, .iconst 1, 888, [], .int (1)) := by decide +kernel
theorem t285_888 : am_T 285 888 = some (0, .iadd, 889, [], .null) := by decide +kernel
theorem t285_889 : am_T 285 889 = some (2, .iaload, 890, [], .null) := by decide +kernel
theorem t285_890 : am_T 285 890 = some (0, .aload_n 0, 891, [], .null) := by decide +kernel
theorem t285_891 : am_T 285 891 = some (0, .iload 4, 893, [], .null) := by decide +kernel
theorem t285_893 : am_T 285 893 = some (0, .iconst 2, 894, [], .int (2)) := by decide +kernel
theorem t285_894 : am_T 285 894 = some (0, .iadd, 895, [], .null) := by decide +kernel
theorem t285_895 : am_T 285 895 = some (2, .iaload, 896, [], .null) := by decide +kernel
theorem t285_896 : am_T 285 896 = some (0, .aload_n 0, 897, [], .null) := by decide +kernel
theorem t285_897 : am_T 285 897 = some (0, .iload 4, 899, [], .null) := by decide +kernel
theorem t285_899 : am_T 285 899 = some (0, .iconst 3, 900, [], .int (3)) := by decide +kernel
theorem t285_900 : am_T 285 900 = some (0, .iadd, 901, [], .null) := by decide +kernel
theorem t285_901 : am_T 285 901 = some (2, .iaload, 902, [], .null) := by decide +kernel
theorem t285_902 : am_T 285 902 = some (3, .invokevirtual 105, 905, [4, 12, 245], .null) := by decide +kernel
theorem t285_905 : am_T 285 905 = some (1, .if_icmp .eq 559, 908, [1464], .null) := by decide +kernel
theorem t285_908 : am_T 285 908 = some (0, .iconst 0, 909, [], .int (0)) := by decide +kernel
theorem t285_909 : am_T 285 909 = some (4, .ireturn, 910, [1], .null) := by decide +kernel
theorem t285_910 : am_T 285 910 = some (0, .aload_n 1, 911, [], .null) := by decide +kernel
theorem t285_911 : am_T 285 911 = some (0, .aload_n 0, 912, [], .null) := by decide +kernel
theorem t285_912 : am_T 285 912 = some (0, .iload 4, 914, [], .null) := by decide +kernel
theorem t285_914 : am_T 285 914 = some (0, .iconst 1, 915, [], .int (1)) := by decide +kernel
theorem t285_915 : am_T 285 915 = some (0, .iadd, 916, [], .null) := by decide +kernel
theorem t285_916 : am_T 285 916 = some (2, .iaload, 917, [], .null) := by decide +kernel
theorem t285_917 : am_T 285 917 = some (0, .aload_n 0, 918, [], .null) := by decide +kernel
theorem t285_918 : am_T 285 918 = some (0, .iload 4, 920, [], .null) := by decide +kernel
theorem t285_920 : am_T 285 920 = some (0, .iconst 2, 921, [], .int (2)) := by decide +kernel
theorem t285_921 : am_T 285 921 = some (0, .iadd, 922, [], .null) := by decide +kernel
theorem t285_922 : am_T 285 922 = some (2, .iaload, 923, [], .null) := by decide +kernel
theorem t285_923 : am_T 285 923 = some (0, .aload_n 0, 924, [], .null) := by decide +kernel
theorem t285_924 : am_T 285 924 = some (0, .iload 4, 926, [], .null) := by decide +kernel
theorem t285_926 : am_T 285 926 = some (0, .iconst 3, 927, [], .int (3)) := by decide +kernel
theorem t285_927 : am_T 285 927 = some (0, .iadd, 928, [], .null) := by decide +kernel
theorem t285_928 : am_T 285 928 = some (2, .iaload, 929, [], .null) := by decide +kernel
theorem t285_929 : am_T 285 929 = some (3, .invokevirtual 106, 932, [4, 11, 154], .null) := by decide +kernel
theorem t285_932 : am_T 285 932 = some (0, .aload_n 2, 933, [], .null) := by decide +kernel
theorem t285_933 : am_T 285 933 = some (0, .aload_n 0, 934, [], .null) := by decide +kernel
theorem t285_934 : am_T 285 934 = some (0, .iload 4, 936, [], .null) := by decide +kernel
theorem t285_936 : am_T 285 936 = some (0, .iconst 1, 937, [], .int (1)) := by decide +kernel
theorem t285_937 : am_T 285 937 = some (0, .iadd, 938, [], .null) := by decide +kernel
theorem t285_938 : am_T 285 938 = some (2, .iaload, 939, [], .null) := by decide +kernel
theorem t285_939 : am_T 285 939 = some (0, .aload_n 0, 940, [], .null) := by decide +kernel
theorem t285_940 : am_T 285 940 = some (0, .iload 4, 942, [], .null) := by decide +kernel
theorem t285_942 : am_T 285 942 = some (0, .iconst 2, 943, [], .int (2)) := by decide +kernel
theorem t285_943 : am_T 285 943 = some (0, .iadd, 944, [], .null) := by decide +kernel
theorem t285_944 : am_T 285 944 = some (2, .iaload, 945, [], .null) := by decide +kernel
theorem t285_945 : am_T 285 945 = some (0, .aload_n 0, 946, [], .null) := by decide +kernel
theorem t285_946 : am_T 285 946 = some (0, .iload 4, 948, [], .null) := by decide +kernel
theorem t285_948 : am_T 285 948 = some (0, .iconst 3, 949, [], .int (3)) := by decide +kernel
theorem t285_949 : am_T 285 949 = some (0, .iadd, 950, [], .null) := by decide +kernel
theorem t285_950 : am_T 285 950 = some (2, .iaload, 951, [], .null) := by decide +kernel
theorem t285_951 : am_T 285 951 = some (3, .invokevirtual 109, 954, [4, 12, 247], .null) := by decide +kernel
theorem t285_954 : am_T 285 954 = some (1, .if_icmp .eq 510, 957, [1464], .null) := by decide +kernel
theorem t285_957 : am_T 285 957 = some (0, .iconst 0, 958, [], .int (0)) := by decide +kernel
theorem t285_958 : am_T 285 958 = some (4, .ireturn, 959, [1], .null) := by decide +kernel
theorem t285_959 : am_T 285 959 = some (0, .aload_n 1, 960, [], .null) := by decide +kernel
theorem t285_960 : am_T 285 960 = some (0, .aload_n 0, 961, [], .null) := by decide +kernel
theorem t285_961 : am_T 285 961 = some (0, .iload 4, 963, [], .null) := by decide +kernel
theorem t285_963 : am_T 285 963 = some (0, .iconst 1, 964, [], .int (1)) := by decide +kernel
theorem t285_964 : am_T 285 964 = some (0, .iadd, 965, [], .null) := by decide +kernel
theorem t285_965 : am_T 285 965 = some (2, .iaload, 966, [], .null) := by decide +kernel
theorem t285_966 : am_T 285 966 = some (3, .invokevirtual 110, 969, [2, 11, 156], .null) := by decide +kernel
theorem t285_969 : am_T 285 969 = some (0, .aload_n 2, 970, [], .null) := by decide +kernel
theorem t285_970 : am_T 285 970 = some (0, .aload_n 0, 971, [], .null) := by decide +kernel
theorem t285_971 : am_T 285 971 = some (0, .iload 4, 973, [], .null) := by decide +kernel
theorem t285_973 : am_T 285 973 = some (0, .iconst 1, 974, [], .int (1)) := by decide +kernel
theorem t285_974 : am_T 285 974 = some (0, .iadd, 975, [], .null) := by decide +kernel
theorem t285_975 : am_T 285 975 = some (2, .iaload, 976, [], .null) := by decide +kernel
theorem t285_976 : am_T 285 976 = some (3, .invokevirtual 113, 979, [2, 12, 248], .null) := by decide +kernel
theorem t285_979 : am_T 285 979 = some (1, .if_icmp .eq 485, 982, [1464], .null) := by decide +kernel
theorem t285_982 : am_T 285 982 = some (0, .iconst 0, 983, [], .int (0)) := by decide +kernel
theorem t285_983 : am_T 285 983 = some (4, .ireturn, 984, [1], .null) := by decide +kernel
theorem t285_984 : am_T 285 984 = some (0, .aload_n 1, 985, [], .null) := by decide +kernel
theorem t285_985 : am_T 285 985 = some (0, .aload_n 0, 986, [], .null) := by decide +kernel
theorem t285_986 : am_T 285 986 = some (0, .iload 4, 988, [], .null) := by decide +kernel
theorem t285_988 : am_T 285 988 = some (0, .iconst 1, 989, [], .int (1)) := by decide +kernel
theorem t285_989 : am_T 285 989 = some (0, .iadd, 990, [], .null) := by decide +kernel
theorem t285_990 : am_T 285 990 = some (2, .iaload, 991, [], .null) := by decide +kernel
theorem t285_991 : am_T 285 991 = some (0, .aload_n 0, 992, [], .null) := by decide +kernel
theorem t285_992 : am_T 285 992 = some (0, .iload 4, 994, [], .null) := by decide +kernel
theorem t285_994 : am_T 285 994 = some (0, .iconst 2, 995, [], .int (2)) := by decide +kernel
theorem t285_995 : am_T 285 995 = some (0, .iadd, 996, [], .null) := by decide +kernel
theorem t285_996 : am_T 285 996 = some (2, .iaload, 997, [], .null) := by decide +kernel
theorem t285_997 : am_T 285 997 = some (3, .invokevirtual 114, 1000, [3, 11, 158], .null) := by decide +kernel
theorem t285_1000 : am_T 285 1000 = some (0, .aload_n 2, 1001, [], .null) := by decide +kernel
theorem t285_1001 : am_T 285 1001 = some (0, .aload_n 0, 1002, [], .null) := by decide +kernel
theorem t285_1002 : am_T 285 1002 = some (0, .iload 4, 1004, [], .null) := by decide +kernel
theorem t285_1004 : am_T 285 1004 = some (0, .iconst 1, 1005, [], .int (1)) := by decide +kernel
theorem t285_1005 : am_T 285 1005 = some (0, .iadd, 1006, [], .null) := by decide +kernel
theorem t285_1006 : am_T 285 1006 = some (2, .iaload, 1007, [], .null) := by decide +kernel
theorem t285_1007 : am_T 285 1007 = some (0, .aload_n 0, 1008, [], .null) := by decide +kernel
theorem t285_1008 : am_T 285 1008 = some (0, .iload 4, 1010, [], .null) := by decide +kernel
theorem t285_1010 : am_T 285 1010 = some (0, .iconst 2, 1011, [], .int (2)) := by decide +kernel
theorem t285_1011 : am_T 285 1011 = some (0, .iadd, 1012, [], .null) := by decide +kernel
theorem t285_1012 : am_T 285 1012 = some (2, .iaload, 1013, [], .null) := by decide +kernel
theorem t285_1013 : am_T 285 1013 = some (3, .invokevirtual 117, 1016, [3, 12, 249], .null) := by decide +kernel
theorem t285_1016 : am_T 285 1016 = some (1, .if_icmp .eq 448, 1019, [1464], .null) := by decide +kernel
theorem t285_1019 : am_T 285 1019 = some (0, .iconst 0, 1020, [], .int (0)) := by decide +kernel
theorem t285_1020 : am_T 285 1020 = some (4, .ireturn, 1021, [1], .null) := by decide +kernel
theorem t285_1021 : am_T 285 1021 = some (0, .aload_n 1, 1022, [], .null) := by decide +kernel
theorem t285_1022 : am_T 285 1022 = some (0, .aload_n 0, 1023, [], .null) := by decide +kernel
theorem t285_1023 : am_T 285 1023 = some (0, .iload 4, 1025, [], .null) := by decide +kernel
theorem t285_1025 : am_T 285 1025 = some (0, .iconst 1, 1026, [], .int (1)) := by decide +kernel
theorem t285_1026 : am_T 285 1026 = some (0, .iadd, 1027, [], .null) := by decide +kernel
theorem t285_1027 : am_T 285 1027 = some (2, .iaload, 1028, [], .null) := by decide +kernel
theorem t285_1028 : am_T 285 1028 = some (0, .aload_n 0, 1029, [], .null) := by decide +kernel
theorem t285_1029 : am_T 285 1029 = some (0, .iload 4, 1031, [], .null) := by decide +kernel
theorem t285_1031 : am_T 285 1031 = some (0, .iconst 2, 1032, [], .int (2)) := by decide +kernel
theorem t285_1032 : am_T 285 1032 = some (0, .iadd, 1033, [], .null) := by decide +kernel
theorem t285_1033 : am_T 285 1033 = some (2, .iaload, 1034, [], .null) := by decide +kernel
theorem t285_1034 : am_T 285 1034 = some (0, .aload_n 0, 1035, [], .null) := by decide +kernel
theorem t285_1035 : am_T 285 1035 = some (0, .iload 4, 1037, [], .null) := by decide +kernel
theorem t285_1037 : am_T 285 1037 = some (0, .iconst 3, 1038, [], .int (3)) := by decide +kernel
theorem t285_1038 : am_T 285 1038 = some (0, .iadd, 1039, [], .null) := by decide +kernel
theorem t285_1039 : am_T 285 1039 = some (2, .iaload, 1040, [], .null) := by decide +kernel
theorem t285_1040 : am_T 285 1040 = some (0, .aload_n 0, 1041, [], .null) := by decide +kernel
theorem t285_1041 : am_T 285 1041 = some (0, .iload 4, 1043, [], .null) := by decide +kernel
theorem t285_1043 : am_T 285 1043 = some (0, .iconst 4, 1044, [], .int (4)) := by decide +kernel
theorem t285_1044 : am_T 285 1044 = some (0, .iadd, 1045, [], .null) := by decide +kernel
theorem t285_1045 : am_T 285 1045 = some (2, .iaload, 1046, [], .null) := by decide +kernel
theorem t285_1046 : am_T 285 1046 = some (0, .aload_n 0, 1047, [], .null) := by decide +kernel
theorem t285_1047 : am_T 285 1047 = some (0, .iload 4, 1049, [], .null) := by decide +kernel
theorem t285_1049 : am_T 285 1049 = some (0, .iconst 5, 1050, [], .int (5)) := by decide +kernel
theorem t285_1050 : am_T 285 1050 = some (0, .iadd, 1051, [], .null) := by decide +kernel
theorem t285_1051 : am_T 285 1051 = some (2, .iaload, 1052, [], .null) := by decide +kernel
theorem t285_1052 : am_T 285 1052 = some (3, .invokevirtual 118, 1055, [6, 11, 159], .null) := by decide +kernel
theorem t285_1055 : am_T 285 1055 = some (0, .aload_n 2, 1056, [], .null) := by decide +kernel
theorem t285_1056 : am_T 285 1056 = some (0, .aload_n 0, 1057, [], .null) := by decide +kernel
theorem t285_1057 : am_T 285 1057 = some (0, .iload 4, 1059, [], .null) := by decide +kernel
theorem t285_1059 : am_T 285 1059 = some (0, .iconst 1, 1060, [], .int (1)) := by decide +kernel
theorem t285_1060 : am_T 285 1060 = some (0, .iadd, 1061, [], .null) := by decide +kernel
theorem t285_1061 : am_T 285 1061 = some (2, .iaload, 1062, [], .null) := by decide +kernel
theorem t285_1062 : am_T 285 1062 = some (0, .aload_n 0, 1063, [], .null) := by decide +kernel
theorem t285_1063 : am_T 285 1063 = some (0, .iload 4, 1065, [], .null) := by decide +kernel
theorem t285_1065 : am_T 285 1065 = some (0, .iconst 2, 1066, [], .int (2)) := by decide +kernel
theorem t285_1066 : am_T 285 1066 = some (0, .iadd, 1067, [], .null) := by decide +kernel
theorem t285_1067 : am_T 285 1067 = some (2, .iaload, 1068, [], .null) := by decide +kernel
theorem t285_1068 : am_T 285 1068 = some (0, .aload_n 0, 1069, [], .null) := by decide +kernel
theorem t285_1069 : am_T 285 1069 = some (0, .iload 4, 1071, [], .null) := by decide +kernel
theorem t285_1071 : am_T 285 1071 = some (0, .iconst 3, 1072, [], .int (3)) := by decide +kernel
theorem t285_1072 : am_T 285 1072 = some (0, .iadd, 1073, [], .null) := by decide +kernel
theorem t285_1073 : am_T 285 1073 = some (2, .iaload, 1074, [], .null) := by decide +kernel
theorem t285_1074 : am_T 285 1074 = some (0, .aload_n 0, 1075, [], .null) := by decide +kernel
theorem t285_1075 : am_T 285 1075 = some (0, .iload 4, 1077, [], .null) := by decide +kernel
theorem t285_1077 : am_T 285 1077 = some (0, .iconst 4, 1078, [], .int (4)) := by decide +kernel
theorem t285_1078 : am_T 285 1078 = some (0, .iadd, 1079, [], .null) := by decide +kernel
theorem t285_1079 : am_T 285 1079 = some (2, .iaload, 1080, [], .null) := by decide +kernel
theorem t285_1080 : am_T 285 1080 = some (0, .aload_n 0, 1081, [], .null) := by decide +kernel
theorem t285_1081 : am_T 285 1081 = some (0, .iload 4, 1083, [], .null) := by decide +kernel
theorem t285_1083 : am_T 285 1083 = some (0, .iconst 5, 1084, [], .int (5)) := by decide +kernel
theorem t285_1084 : am_T 285 1084 = some (0, .iadd, 1085, [], .null) := by decide +kernel
theorem t285_1085 : am_T 285 1085 = some (2, .iaload, 1086, [], .null) := by decide +kernel
theorem t285_1086 : am_T 285 1086 = some (3, .invokevirtual 121, 1089, [6, 12, 250], .null) := by decide +kernel
theorem t285_1089 : am_T 285 1089 = some (1, .if_icmp .eq 375, 1092, [1464], .null) := by decide +kernel
theorem t285_1092 : am_T 285 1092 = some (0, .iconst 0, 1093, [], .int (0)) := by decide +kernel
theorem t285_1093 : am_T 285 1093 = some (4, .ireturn, 1094, [1], .null) := by decide +kernel
theorem t285_1094 : am_T 285 1094 = some (0, .aload_n 1, 1095, [], .null) := by decide +kernel
theorem t285_1095 : am_T 285 1095 = some (0, .aload_n 0, 1096, [], .null) := by decide +kernel
theorem t285_1096 : am_T 285 1096 = some (0, .iload 4, 1098, [], .null) := by decide +kernel
theorem t285_1098 : am_T 285 1098 = some (0, .iconst 1, 1099, [], .int (1)) := by decide +kernel
theorem t285_1099 : am_T 285 1099 = some (0, .iadd, 1100, [], .null) := by decide +kernel
theorem t285_1100 : am_T 285 1100 = some (2, .iaload, 1101, [], .null) := by decide +kernel
theorem t285_1101 : am_T 285 1101 = some (0, .aload_n 0, 1102, [], .null) := by decide +kernel
theorem t285_1102 : am_T 285 1102 = some (0, .iload 4, 1104, [], .null) := by decide +kernel
theorem t285_1104 : am_T 285 1104 = some (0, .iconst 2, 1105, [], .int (2)) := by decide +kernel
theorem t285_1105 : am_T 285 1105 = some (0, .iadd, 1106, [], .null) := by decide +kernel
theorem t285_1106 : am_T 285 1106 = some (2, .iaload, 1107, [], .null) := by decide +kernel
theorem t285_1107 : am_T 285 1107 = some (0, .aload_n 0, 1108, [], .null) := by decide +kernel
theorem t285_1108 : am_T 285 1108 = some (0, .iload 4, 1110, [], .null) := by decide +kernel
theorem t285_1110 : am_T 285 1110 = some (0, .iconst 3, 1111, [], .int (3)) := by decide +kernel
theorem t285_1111 : am_T 285 1111 = some (0, .iadd, 1112, [], .null) := by decide +kernel
theorem t285_1112 : am_T 285 1112 = some (2, .iaload, 1113, [], .null) := by decide +kernel
theorem t285_1113 : am_T 285 1113 = some (3, .invokevirtual 122, 1116, [4, 11, 160], .null) := by decide +kernel
theorem t285_1116 : am_T 285 1116 = some (0, .aload_n 2, 1117, [], .null) := by decide +kernel
theorem t285_1117 : am_T 285 1117 = some (0, .aload_n 0, 1118, [], .null) := by decide +kernel
theorem t285_1118 : am_T 285 1118 = some (0, .iload 4, 1120, [], .null) := by decide +kernel
theorem t285_1120 : am_T 285 1120 = some (0, .iconst 1, 1121, [], .int (1)) := by decide +kernel
theorem t285_1121 : am_T 285 1121 = some (0, .iadd, 1122, [], .null) := by decide +kernel
theorem t285_1122 : am_T 285 1122 = some (2, .iaload, 1123, [], .null) := by decide +kernel
theorem t285_1123 : am_T 285 1123 = some (0, .aload_n 0, 1124, [], .null) := by decide +kernel
theorem t285_1124 : am_T 285 1124 = some (0, .iload 4, 1126, [], .null) := by decide +kernel
theorem t285_1126 : am_T 285 1126 = some (0, .iconst 2, 1127, [], .int (2)) := by decide +kernel
theorem t285_1127 : am_T 285 1127 = some (0, .iadd, 1128, [], .null) := by decide +kernel
theorem t285_1128 : am_T 285 1128 = some (2, .iaload, 1129, [], .null) := by decide +kernel
theorem t285_1129 : am_T 285 1129 = some (0, .aload_n 0, 1130, [], .null) := by decide +kernel
theorem t285_1130 : am_T 285 1130 = some (0, .iload 4, 1132, [], .null) := by decide +kernel
theorem t285_1132 : am_T 285 1132 = some (0, .iconst 3, 1133, [], .int (3)) := by decide +kernel
theorem t285_1133 : am_T 285 1133 = some (0, .iadd, 1134, [], .null) := by decide +kernel
theorem t285_1134 : am_T 285 1134 = some (2, .iaload, 1135, [], .null) := by decide +kernel
theorem t285_1135 : am_T 285 1135 = some (3, .invokevirtual 125, 1138, [4, 12, 251], .null) := by decide +kernel
theorem t285_1138 : am_T 285 1138 = some (1, .if_icmp .eq 326, 1141, [1464], .null) := by decide +kernel
theorem t285_1141 : am_T 285 1141 = some (0, .iconst 0, 1142, [], .int (0)) := by decide +kernel
theorem t285_1142 : am_T 285 1142 = some (4, .ireturn, 1143, [1], .null) := by decide +kernel
theorem t285_1143 : am_T 285 1143 = some (0, .aload_n 1, 1144, [], .null) := by decide +kernel
theorem t285_1144 : am_T 285 1144 = some (0, .aload_n 0, 1145, [], .null) := by decide +kernel
theorem t285_1145 : am_T 285 1145 = some (0, .iload 4, 1147, [], .null) := by decide +kernel
theorem t285_1147 : am_T 285 1147 = some (0, .iconst 1, 1148, [], .int (1)) := by decide +kernel
theorem t285_1148 : am_T 285 1148 = some (0, .iadd, 1149, [], .null) := by decide +kernel
theorem t285_1149 : am_T 285 1149 = some (2, .iaload, 1150, [], .null) := by decide +kernel
theorem t285_1150 : am_T 285 1150 = some (3, .invokevirtual 126, 1153, [2, 11, 161], .null) := by decide +kernel
theorem t285_1153 : am_T 285 1153 = some (0, .aload_n 2, 1154, [], .null) := by decide +kernel
theorem t285_1154 : am_T 285 1154 = some (0, .aload_n 0, 1155, [], .null) := by decide +kernel
theorem t285_1155 : am_T 285 1155 = some (0, .iload 4, 1157, [], .null) := by decide +kernel
theorem t285_1157 : am_T 285 1157 = some (0, .iconst 1, 1158, [], .int (1)) := by decide +kernel
theorem t285_1158 : am_T 285 1158 = some (0, .iadd, 1159, [], .null) := by decide +kernel
theorem t285_1159 : am_T 285 1159 = some (2, .iaload, 1160, [], .null) := by decide +kernel
theorem t285_1160 : am_T 285 1160 = some (3, .invokevirtual 130, 1163, [2, 12, 254], .null) := by decide +kernel
theorem t285_1163 : am_T 285 1163 = some (0, .lcmp, 1164, [], .null) := by decide +kernel
theorem t285_1164 : am_T 285 1164 = some (1, .ifCond .eq 300, 1167, [1464], .null) := by decide +kernel
theorem t285_1167 : am_T 285 1167 = some (0, .iconst 0, 1168, [], .int (0)) := by decide +kernel
theorem t285_1168 : am_T 285 1168 = some (4, .ireturn, 1169, [1], .null) := by decide +kernel
theorem t285_1169 : am_T 285 1169 = some (0, .aload_n 1, 1170, [], .null) := by decide +kernel
theorem t285_1170 : am_T 285 1170 = some (0, .aload_n 0, 1171, [], .null) := by decide +kernel
theorem t285_1171 : am_T 285 1171 = some (0, .iload 4, 1173, [], .null) := by decide +kernel
theorem t285_1173 : am_T 285 1173 = some (0, .iconst 1, 1174, [], .int (1)) := by decide +kernel
theorem t285_1174 : am_T 285 1174 = some (0, .iadd, 1175, [], .null) := by decide +kernel
theorem t285_1175 : am_T 285 1175 = some (2, .iaload, 1176, [], .null) := by decide +kernel
theorem t285_1176 : am_T 285 1176 = some (0, .aload_n 0, 1177, [], .null) := by decide +kernel
theorem t285_1177 : am_T 285 1177 = some (0, .iload 4, 1179, [], .null) := by decide +kernel
theorem t285_1179 : am_T 285 1179 = some (0, .iconst 2, 1180, [], .int (2)) := by decide +kernel
theorem t285_1180 : am_T 285 1180 = some (0, .iadd, 1181, [], .null) := by decide +kernel
theorem t285_1181 : am_T 285 1181 = some (2, .iaload, 1182, [], .null) := by decide +kernel
theorem t285_1182 : am_T 285 1182 = some (0, .aload_n 0, 1183, [], .null) := by decide +kernel
theorem t285_1183 : am_T 285 1183 = some (0, .iload 4, 1185, [], .null) := by decide +kernel
theorem t285_1185 : am_T 285 1185 = some (0, .iconst 3, 1186, [], .int (3)) := by decide +kernel
theorem t285_1186 : am_T 285 1186 = some (0, .iadd, 1187, [], .null) := by decide +kernel
theorem t285_1187 : am_T 285 1187 = some (2, .iaload, 1188, [], .null) := by decide +kernel
theorem t285_1188 : am_T 285 1188 = some (0, .aload_n 0, 1189, [], .null) := by decide +kernel
theorem t285_1189 : am_T 285 1189 = some (0, .iload 4, 1191, [], .null) := by decide +kernel
theorem t285_1191 : am_T 285 1191 = some (0, .iconst 4, 1192, [], .int (4)) := by decide +kernel
theorem t285_1192 : am_T 285 1192 = some (0, .iadd, 1193, [], .null) := by decide +kernel
theorem t285_1193 : am_T 285 1193 = some (2, .iaload, 1194, [], .null) := by decide +kernel
theorem t285_1194 : am_T 285 1194 = some (3, .invokevirtual 131, 1197, [5, 11, 162], .null) := by decide +kernel
theorem t285_1197 : am_T 285 1197 = some (0, .aload_n 2, 1198, [], .null) := by decide +kernel
theorem t285_1198 : am_T 285 1198 = some (0, .aload_n 0, 1199, [], .null) := by decide +kernel
theorem t285_1199 : am_T 285 1199 = some (0, .iload 4, 1201, [], .null) := by decide +kernel
theorem t285_1201 : am_T 285 1201 = some (0, .iconst 1, 1202, [], .int (1)) := by decide +kernel
theorem t285_1202 : am_T 285 1202 = some (0, .iadd, 1203, [], .null) := by decide +kernel
theorem t285_1203 : am_T 285 1203 = some (2, .iaload, 1204, [], .null) := by decide +kernel
theorem t285_1204 : am_T 285 1204 = some (0, .aload_n 0, 1205, [], .null) := by decide +kernel
theorem t285_1205 : am_T 285 1205 = some (0, .iload 4, 1207, [], .null) := by decide +kernel
theorem t285_1207 : am_T 285 1207 = some (0, .iconst 2, 1208, [], .int (2)) := by decide +kernel
theorem t285_1208 : am_T 285 1208 = some (0, .iadd, 1209, [], .null) := by decide +kernel
theorem t285_1209 : am_T 285 1209 = some (2, .iaload, 1210, [], .null) := by decide +kernel
theorem t285_1210 : am_T 285 1210 = some (0, .aload_n 0, 1211, [], .null) := by decide +kernel
theorem t285_1211 : am_T 285 1211 = some (0, .iload 4, 1213, [], .null) := by decide +kernel
theorem t285_1213 : am_T 285 1213 = some (0, .iconst 3, 1214, [], .int (3)) := by decide +kernel
theorem t285_1214 : am_T 285 1214 = some (0, .iadd, 1215, [], .null) := by decide +kernel
theorem t285_1215 : am_T 285 1215 = some (2, .iaload, 1216, [], .null) := by decide +kernel
theorem t285_1216 : am_T 285 1216 = some (0, .aload_n 0, 1217, [], .null) := by decide +kernel
theorem t285_1217 : am_T 285 1217 = some (0, .iload 4, 1219, [], .null) := by decide +kernel
theorem t285_1219 : am_T 285 1219 = some (0, .iconst 4, 1220, [], .int (4)) := by decide +kernel
theorem t285_1220 : am_T 285 1220 = some (0, .iadd, 1221, [], .null) := by decide +kernel
theorem t285_1221 : am_T 285 1221 = some (2, .iaload, 1222, [], .null) := by decide +kernel
theorem t285_1222 : am_T 285 1222 = some (3, .invokevirtual 135, 1225, [5, 12, 255], .null) := by decide +kernel
theorem t285_1225 : am_T 285 1225 = some (0, .lcmp, 1226, [], .null) := by decide +kernel
theorem t285_1226 : am_T 285 1226 = some (1, .ifCond .eq 238, 1229, [1464], .null) := by decide +kernel
theorem t285_1229 : am_T 285 1229 = some (0, .iconst 0, 1230, [], .int (0)) := by decide +kernel
theorem t285_1230 : am_T 285 1230 = some (4, .ireturn, 1231, [1], .null) := by decide +kernel
theorem t285_1231 : am_T 285 1231 = some (0, .aload_n 1, 1232, [], .null) := by decide +kernel
theorem t285_1232 : am_T 285 1232 = some (0, .aload_n 0, 1233, [], .null) := by decide +kernel
theorem t285_1233 : am_T 285 1233 = some (0, .iload 4, 1235, [], .null) := by decide +kernel
theorem t285_1235 : am_T 285 1235 = some (0, .iconst 1, 1236, [], .int (1)) := by decide +kernel
theorem t285_1236 : am_T 285 1236 = some (0, .iadd, 1237, [], .null) := by decide +kernel
theorem t285_1237 : am_T 285 1237 = some (2, .iaload, 1238, [], .null) := by decide +kernel
theorem t285_1238 : am_T 285 1238 = some (0, .aload_n 0, 1239, [], .null) := by decide +kernel
theorem t285_1239 : am_T 285 1239 = some (0, .iload 4, 1241, [], .null) := by decide +kernel
theorem t285_1241 : am_T 285 1241 = some (0, .iconst 2, 1242, [], .int (2)) := by decide +kernel
theorem t285_1242 : am_T 285 1242 = some (0, .iadd, 1243, [], .null) := by decide +kernel
theorem t285_1243 : am_T 285 1243 = some (2, .iaload, 1244, [], .null) := by decide +kernel
theorem t285_1244 : am_T 285 1244 = some (3, .invokevirtual 136, 1247, [3, 11, 163], .null) := by decide +kernel
theorem t285_1247 : am_T 285 1247 = some (0, .aload_n 2, 1248, [], .null) := by decide +kernel
theorem t285_1248 : am_T 285 1248 = some (0, .aload_n 0, 1249, [], .null) := by decide +kernel
theorem t285_1249 : am_T 285 1249 = some (0, .iload 4, 1251, [], .null) := by decide +kernel
theorem t285_1251 : am_T 285 1251 = some (0, .iconst 1, 1252, [], .int (1)) := by decide +kernel
theorem t285_1252 : am_T 285 1252 = some (0, .iadd, 1253, [], .null) := by decide +kernel
theorem t285_1253 : am_T 285 1253 = some (2, .iaload, 1254, [], .null) := by decide +kernel
theorem t285_1254 : am_T 285 1254 = some (0, .aload_n 0, 1255, [], .null) := by decide +kernel
theorem t285_1255 : am_T 285 1255 = some (0, .iload 4, 1257, [], .null) := by decide +kernel
theorem t285_1257 : am_T 285 1257 = some (0, .iconst 2, 1258, [], .int (2)) := by decide +kernel
theorem t285_1258 : am_T 285 1258 = some (0, .iadd, 1259, [], .null) := by decide +kernel
theorem t285_1259 : am_T 285 1259 = some (2, .iaload, 1260, [], .null) := by decide +kernel
theorem t285_1260 : am_T 285 1260 = some (3, .invokevirtual 139, 1263, [3, 12, 256], .null) := by decide +kernel
theorem t285_1263 : am_T 285 1263 = some (1, .if_icmp .eq 201, 1266, [1464], .null) := by decide +kernel
theorem t285_1266 : am_T 285 1266 = some (0, .iconst 0, 1267, [], .int (0)) := by decide +kernel
theorem t285_1267 : am_T 285 1267 = some (4, .ireturn, 1268, [1], .null) := by decide +kernel
theorem t285_1268 : am_T 285 1268 = some (0, .aload_n 1, 1269, [], .null) := by decide +kernel
theorem t285_1269 : am_T 285 1269 = some (3, .invokevirtual 140, 1272, [1, 11, 164], .null) := by decide +kernel
theorem t285_1272 : am_T 285 1272 = some (0, .aload_n 2, 1273, [], .null) := by decide +kernel
theorem t285_1273 : am_T 285 1273 = some (3, .invokevirtual 143, 1276, [1, 12, 257], .null) := by decide +kernel
theorem t285_1276 : am_T 285 1276 = some (1, .if_icmp .eq 188, 1279, [1464], .null) := by decide +kernel
theorem t285_1279 : am_T 285 1279 = some (0, .iconst 0, 1280, [], .int (0)) := by decide +kernel
theorem t285_1280 : am_T 285 1280 = some (4, .ireturn, 1281, [1], .null) := by decide +kernel
theorem t285_1281 : am_T 285 1281 = some (0, .aload_n 1, 1282, [], .null) := by decide +kernel
theorem t285_1282 : am_T 285 1282 = some (3, .invokevirtual 144, 1285, [1, 11, 166], .null) := by decide +kernel
theorem t285_1285 : am_T 285 1285 = some (0, .aload_n 2, 1286, [], .null) := by decide +kernel
theorem t285_1286 : am_T 285 1286 = some (3, .invokevirtual 147, 1289, [1, 12, 259], .null) := by decide +kernel
theorem t285_1289 : am_T 285 1289 = some (1, .if_icmp .eq 175, 1292, [1464], .null) := by decide +kernel
theorem t285_1292 : am_T 285 1292 = some (0, .iconst 0, 1293, [], .int (0)) := by decide +kernel
theorem t285_1293 : am_T 285 1293 = some (4, .ireturn, 1294, [1], .null) := by decide +kernel
theorem t285_1294 : am_T 285 1294 = some (0, .aload_n 1, 1295, [], .null) := by decide +kernel
theorem t285_1295 : am_T 285 1295 = some (0, .aload_n 0, 1296, [], .null) := by decide +kernel
theorem t285_1296 : am_T 285 1296 = some (0, .iload 4, 1298, [], .null) := by decide +kernel
theorem t285_1298 : am_T 285 1298 = some (0, .iconst 1, 1299, [], .int (1)) := by decide +kernel
theorem t285_1299 : am_T 285 1299 = some (0, .iadd, 1300, [], .null) := by decide +kernel
theorem t285_1300 : am_T 285 1300 = some (2, .iaload, 1301, [], .null) := by decide +kernel
theorem t285_1301 : am_T 285 1301 = some (3, .invokevirtual 148, 1304, [2, 11, 168], .null) := by decide +kernel
theorem t285_1304 : am_T 285 1304 = some (0, .aload_n 2, 1305, [], .null) := by decide +kernel
theorem t285_1305 : am_T 285 1305 = some (0, .aload_n 0, 1306, [], .null) := by decide +kernel
theorem t285_1306 : am_T 285 1306 = some (0, .iload 4, 1308, [], .null) := by decide +kernel
theorem t285_1308 : am_T 285 1308 = some (0, .iconst 1, 1309, [], .int (1)) := by decide +kernel
theorem t285_1309 : am_T 285 1309 = some (0, .iadd, 1310, [], .null) := by decide +kernel
theorem t285_1310 : am_T 285 1310 = some (2, .iaload, 1311, [], .null) := by decide +kernel
theorem t285_1311 : am_T 285 1311 = some (3, .invokevirtual 151, 1314, [2, 12, 260], .null) := by decide +kernel
theorem t285_1314 : am_T 285 1314 = some (1, .if_icmp .eq 150, 1317, [1464], .null) := by decide +kernel
theorem t285_1317 : am_T 285 1317 = some (0, .iconst 0, 1318, [], .int (0)) := by decide +kernel
theorem t285_1318 : am_T 285 1318 = some (4, .ireturn, 1319, [1], .null) := by decide +kernel
theorem t285_1319 : am_T 285 1319 = some (0, .aload_n 1, 1320, [], .null) := by decide +kernel
theorem t285_1320 : am_T 285 1320 = some (0, .aload_n 0, 1321, [], .null) := by decide +kernel
theorem t285_1321 : am_T 285 1321 = some (0, .iload 4, 1323, [], .null) := by decide +kernel
theorem t285_1323 : am_T 285 1323 = some (0, .iconst 1, 1324, [], .int (1)) := by decide +kernel
theorem t285_1324 : am_T 285 1324 = some (0, .iadd, 1325, [], .null) := by decide +kernel
theorem t285_1325 : am_T 285 1325 = some (2, .iaload, 1326, [], .null) := by decide +kernel
theorem t285_1326 : am_T 285 1326 = some (0, .aload_n 0, 1327, [], .null) := by decide +kernel
theorem t285_1327 : am_T 285 1327 = some (0, .iload 4, 1329, [], .null) := by decide +kernel
theorem t285_1329 : am_T 285 1329 = some (0, .iconst 2, 1330, [], .int (2)) := by decide +kernel
theorem t285_1330 : am_T 285 1330 = some (0, .iadd, 1331, [], .null) := by decide +kernel
theorem t285_1331 : am_T 285 1331 = some (2, .iaload, 1332, [], .null) := by decide +kernel
theorem t285_1332 : am_T 285 1332 = some (0, .i2l, 1333, [], .null) := by decide +kernel
theorem t285_1333 : am_T 285 1333 = some (0, .bipush 32, 1335, [], .int (32)) := by decide +kernel
theorem t285_1335 : am_T 285 1335 = some (0, .lshl, 1336, [], .null) := by decide +kernel
theorem t285_1336 : am_T 285 1336 = some (0, .aload_n 0, 1337, [], .null) := by decide +kernel
theorem t285_1337 : am_T 285 1337 = some (0, .iload 4, 1339, [], .null) := by decide +kernel
theorem t285_1339 : am_T 285 1339 = some (0, .iconst 3, 1340, [], .int (3)) := by decide +kernel
theorem t285_1340 : am_T 285 1340 = some (0, .iadd, 1341, [], .null) := by decide +kernel
theorem t285_1341 : am_T 285 1341 = some (2, .iaload, 1342, [], .null) := by decide +kernel
theorem t285_1342 : am_T 285 1342 = some (0, .i2l, 1343, [], .null) := by decide +kernel
theorem t285_1343 : am_T 285 1343 = some (0, .ldc2_w 152, 1346, [], .long (4294967295)) := by decide +kernel
theorem t285_1346 : am_T 285 1346 = some (0, .land, 1347, [], .null) := by decide +kernel
theorem t285_1347 : am_T 285 1347 = some (0, .lor, 1348, [], .null) := by decide +kernel
theorem t285_1348 : am_T 285 1348 = some (3, .invokevirtual 154, 1351, [3, 11, 169], .null) := by decide +kernel
theorem t285_1351 : am_T 285 1351 = some (0, .aload_n 2, 1352, [], .null) := by decide +kernel
theorem t285_1352 : am_T 285 1352 = some (0, .aload_n 0, 1353, [], .null) := by decide +kernel
theorem t285_1353 : am_T 285 1353 = some (0, .iload 4, 1355, [], .null) := by decide +kernel
theorem t285_1355 : am_T 285 1355 = some (0, .iconst 1, 1356, [], .int (1)) := by decide +kernel
theorem t285_1356 : am_T 285 1356 = some (0, .iadd, 1357, [], .null) := by decide +kernel
theorem t285_1357 : am_T 285 1357 = some (2, .iaload, 1358, [], .null) := by decide +kernel
theorem t285_1358 : am_T 285 1358 = some (0, .aload_n 0, 1359, [], .null) := by decide +kernel
theorem t285_1359 : am_T 285 1359 = some (0, .iload 4, 1361, [], .null) := by decide +kernel
theorem t285_1361 : am_T 285 1361 = some (0, .iconst 2, 1362, [], .int (2)) := by decide +kernel
theorem t285_1362 : am_T 285 1362 = some (0, .iadd, 1363, [], .null) := by decide +kernel
theorem t285_1363 : am_T 285 1363 = some (2, .iaload, 1364, [], .null) := by decide +kernel
theorem t285_1364 : am_T 285 1364 = some (0, .i2l, 1365, [], .null) := by decide +kernel
theorem t285_1365 : am_T 285 1365 = some (0, .bipush 32, 1367, [], .int (32)) := by decide +kernel
theorem t285_1367 : am_T 285 1367 = some (0, .lshl, 1368, [], .null) := by decide +kernel
theorem t285_1368 : am_T 285 1368 = some (0, .aload_n 0, 1369, [], .null) := by decide +kernel
theorem t285_1369 : am_T 285 1369 = some (0, .iload 4, 1371, [], .null) := by decide +kernel
theorem t285_1371 : am_T 285 1371 = some (0, .iconst 3, 1372, [], .int (3)) := by decide +kernel
theorem t285_1372 : am_T 285 1372 = some (0, .iadd, 1373, [], .null) := by decide +kernel
theorem t285_1373 : am_T 285 1373 = some (2, .iaload, 1374, [], .null) := by decide +kernel
theorem t285_1374 : am_T 285 1374 = some (0, .i2l, 1375, [], .null) := by decide +kernel
theorem t285_1375 : am_T 285 1375 = some (0, .ldc2_w 152, 1378, [], .long (4294967295)) := by decide +kernel
theorem t285_1378 : am_T 285 1378 = some (0, .land, 1379, [], .null) := by decide +kernel
theorem t285_1379 : am_T 285 1379 = some (0, .lor, 1380, [], .null) := by decide +kernel
theorem t285_1380 : am_T 285 1380 = some (3, .invokevirtual 158, 1383, [3, 12, 261], .null) := by decide +kernel
theorem t285_1383 : am_T 285 1383 = some (1, .if_icmp .eq 81, 1386, [1464], .null) := by decide +kernel
theorem t285_1386 : am_T 285 1386 = some (0, .iconst 0, 1387, [], .int (0)) := by decide +kernel
theorem t285_1387 : am_T 285 1387 = some (4, .ireturn, 1388, [1], .null) := by decide +kernel
theorem t285_1388 : am_T 285 1388 = some (0, .aload_n 1, 1389, [], .null) := by decide +kernel
theorem t285_1389 : am_T 285 1389 = some (0, .aload_n 0, 1390, [], .null) := by decide +kernel
theorem t285_1390 : am_T 285 1390 = some (0, .iload 4, 1392, [], .null) := by decide +kernel
theorem t285_1392 : am_T 285 1392 = some (0, .iconst 1, 1393, [], .int (1)) := by decide +kernel
theorem t285_1393 : am_T 285 1393 = some (0, .iadd, 1394, [], .null) := by decide +kernel
theorem t285_1394 : am_T 285 1394 = some (2, .iaload, 1395, [], .null) := by decide +kernel
theorem t285_1395 : am_T 285 1395 = some (3, .invokevirtual 159, 1398, [2, 11, 170], .null) := by decide +kernel
theorem t285_1398 : am_T 285 1398 = some (0, .aload_n 2, 1399, [], .null) := by decide +kernel
theorem t285_1399 : am_T 285 1399 = some (0, .aload_n 0, 1400, [], .null) := by decide +kernel
theorem t285_1400 : am_T 285 1400 = some (0, .iload 4, 1402, [], .null) := by decide +kernel
theorem t285_1402 : am_T 285 1402 = some (0, .iconst 1, 1403, [], .int (1)) := by decide +kernel
theorem t285_1403 : am_T 285 1403 = some (0, .iadd, 1404, [], .null) := by decide +kernel
theorem t285_1404 : am_T 285 1404 = some (2, .iaload, 1405, [], .null) := by decide +kernel
theorem t285_1405 : am_T 285 1405 = some (3, .invokevirtual 162, 1408, [2, 12, 262], .null) := by decide +kernel
theorem t285_1408 : am_T 285 1408 = some (1, .if_icmp .eq 56, 1411, [1464], .null) := by decide +kernel
theorem t285_1411 : am_T 285 1411 = some (0, .iconst 0, 1412, [], .int (0)) := by decide +kernel
theorem t285_1412 : am_T 285 1412 = some (4, .ireturn, 1413, [1], .null) := by decide +kernel
theorem t285_1413 : am_T 285 1413 = some (0, .aload_n 1, 1414, [], .null) := by decide +kernel
theorem t285_1414 : am_T 285 1414 = some (3, .invokevirtual 163, 1417, [1, 11, 171], .null) := by decide +kernel
theorem t285_1417 : am_T 285 1417 = some (0, .aload_n 2, 1418, [], .null) := by decide +kernel
theorem t285_1418 : am_T 285 1418 = some (3, .invokevirtual 166, 1421, [1, 12, 263], .null) := by decide +kernel
theorem t285_1421 : am_T 285 1421 = some (1, .if_icmp .eq 43, 1424, [1464], .null) := by decide +kernel
theorem t285_1424 : am_T 285 1424 = some (0, .iconst 0, 1425, [], .int (0)) := by decide +kernel
theorem t285_1425 : am_T 285 1425 = some (4, .ireturn, 1426, [1], .null) := by decide +kernel
theorem t285_1426 : am_T 285 1426 = some (0, .aload_n 1, 1427, [], .null) := by decide +kernel
theorem t285_1427 : am_T 285 1427 = some (3, .invokevirtual 167, 1430, [1, 11, 172], .null) := by decide +kernel
theorem t285_1430 : am_T 285 1430 = some (0, .aload_n 2, 1431, [], .null) := by decide +kernel
theorem t285_1431 : am_T 285 1431 = some (3, .invokevirtual 170, 1434, [1, 12, 264], .null) := by decide +kernel
theorem t285_1434 : am_T 285 1434 = some (1, .if_icmp .eq 30, 1437, [1464], .null) := by decide +kernel
theorem t285_1437 : am_T 285 1437 = some (0, .iconst 0, 1438, [], .int (0)) := by decide +kernel
theorem t285_1438 : am_T 285 1438 = some (4, .ireturn, 1439, [1], .null) := by decide +kernel
theorem t285_1439 : am_T 285 1439 = some (0, .aload_n 1, 1440, [], .null) := by decide +kernel
theorem t285_1440 : am_T 285 1440 = some (0, .aload_n 0, 1441, [], .null) := by decide +kernel
theorem t285_1441 : am_T 285 1441 = some (0, .iload 4, 1443, [], .null) := by decide +kernel
theorem t285_1443 : am_T 285 1443 = some (0, .iconst 1, 1444, [], .int (1)) := by decide +kernel
theorem t285_1444 : am_T 285 1444 = some (0, .iadd, 1445, [], .null) := by decide +kernel
theorem t285_1445 : am_T 285 1445 = some (2, .iaload, 1446, [], .null) := by decide +kernel
theorem t285_1446 : am_T 285 1446 = some (3, .invokevirtual 171, 1449, [2, 11, 173], .null) := by decide +kernel
theorem t285_1449 : am_T 285 1449 = some (0, .aload_n 2, 1450, [], .null) := by decide +kernel
theorem t285_1450 : am_T 285 1450 = some (0, .aload_n 0, 1451, [], .null) := by decide +kernel
theorem t285_1451 : am_T 285 1451 = some (0, .iload 4, 1453, [], .null) := by decide +kernel
theorem t285_1453 : am_T 285 1453 = some (0, .iconst 1, 1454, [], .int (1)) := by decide +kernel
theorem t285_1454 : am_T 285 1454 = some (0, .iadd, 1455, [], .null) := by decide +kernel
theorem t285_1455 : am_T 285 1455 = some (2, .iaload, 1456, [], .null) := by decide +kernel
theorem t285_1456 : am_T 285 1456 = some (3, .invokevirtual 174, 1459, [2, 12, 265], .null) := by decide +kernel
theorem t285_1459 : am_T 285 1459 = some (1, .if_icmp .eq 5, 1462, [1464], .null) := by decide +kernel
theorem t285_1462 : am_T 285 1462 = some (0, .iconst 0, 1463, [], .int (0)) := by decide +kernel
theorem t285_1463 : am_T 285 1463 = some (4, .ireturn, 1464, [1], .null) := by decide +kernel
theorem t285_1464 : am_T 285 1464 = some (0, .iinc 4 6, 1467, [], .int (6)) := by decide +kernel
theorem t285_1467 : am_T 285 1467 = some (1, .goto (-1444), 1470, [23], .null) := by decide +kernel
theorem t285_1470 : am_T 285 1470 = some (0, .iconst 1, 1471, [], .int (1)) := by decide +kernel
theorem t285_1471 : am_T 285 1471 = some (4, .ireturn, 1472, [1], .null) := by decide +kernel
