theorem dL_from_0 : decode cL_from 0 = .ok (.aload_n 0, 1) := by decide +kernel
theorem dL_from_1 : decode cL_from 1 = .ok (.arraylength, 1) := by decide +kernel
theorem dL_from_2 : decode cL_from 2 = .ok (.ifCond .ne 14, 3) := by decide +kernel
theorem dL_from_5 : decode cL_from 5 = .ok (.sipush 811, 3) := by decide +kernel
theorem dL_from_8 : decode cL_from 8 = .ok (.iload_n 1, 1) := by decide +kernel
theorem dL_from_9 : decode cL_from 9 = .ok (.imul, 1) := by decide +kernel
theorem dL_from_10 : decode cL_from 10 = .ok (.bipush 53, 2) := by decide +kernel
theorem dL_from_12 : decode cL_from 12 = .ok (.iadd, 1) := by decide +kernel
theorem dL_from_13 : decode cL_from 13 = .ok (.goto 14, 3) := by decide +kernel
theorem dL_from_16 : decode cL_from 16 = .ok (.aload_n 0, 1) := by decide +kernel
theorem dL_from_17 : decode cL_from 17 = .ok (.iload_n 1, 1) := by decide +kernel
theorem dL_from_18 : decode cL_from 18 = .ok (.aload_n 0, 1) := by decide +kernel
theorem dL_from_19 : decode cL_from 19 = .ok (.arraylength, 1) := by decide +kernel
theorem dL_from_20 : decode cL_from 20 = .ok (.irem, 1) := by decide +kernel
theorem dL_from_21 : decode cL_from 21 = .ok (.iaload, 1) := by decide +kernel
theorem dL_from_22 : decode cL_from 22 = .ok (.ldc 7, 2) := by decide +kernel
theorem dL_from_24 : decode cL_from 24 = .ok (.iload_n 1, 1) := by decide +kernel
theorem dL_from_25 : decode cL_from 25 = .ok (.imul, 1) := by decide +kernel
theorem dL_from_26 : decode cL_from 26 = .ok (.ixor, 1) := by decide +kernel
theorem dL_from_27 : decode cL_from 27 = .ok (.istore_n 3, 1) := by decide +kernel
theorem dL_from_28 : decode cL_from 28 = .ok (.iload_n 3, 1) := by decide +kernel
theorem dL_from_29 : decode cL_from 29 = .ok (.ldc 8, 2) := by decide +kernel
theorem dL_from_31 : decode cL_from 31 = .ok (.iand, 1) := by decide +kernel
theorem dL_from_32 : decode cL_from 32 = .ok (.iload_n 2, 1) := by decide +kernel
theorem dL_from_33 : decode cL_from 33 = .ok (.irem, 1) := by decide +kernel
theorem dL_from_34 : decode cL_from 34 = .ok (.ireturn, 1) := by decide +kernel
theorem dL_at_0 : decode cL_at 0 = .ok (.lload_n 0, 1) := by decide +kernel
theorem dL_at_1 : decode cL_at 1 = .ok (.iconst 3, 1) := by decide +kernel
theorem dL_at_2 : decode cL_at 2 = .ok (.iload_n 2, 1) := by decide +kernel
theorem dL_at_3 : decode cL_at 3 = .ok (.iconst 1, 1) := by decide +kernel
theorem dL_at_4 : decode cL_at 4 = .ok (.isub, 1) := by decide +kernel
theorem dL_at_5 : decode cL_at 5 = .ok (.imul, 1) := by decide +kernel
theorem dL_at_6 : decode cL_at 6 = .ok (.lshr, 1) := by decide +kernel
theorem dL_at_7 : decode cL_at 7 = .ok (.ldc2_w 9, 3) := by decide +kernel
theorem dL_at_10 : decode cL_at 10 = .ok (.land, 1) := by decide +kernel
theorem dL_at_11 : decode cL_at 11 = .ok (.l2i, 1) := by decide +kernel
theorem dL_at_12 : decode cL_at 12 = .ok (.ireturn, 1) := by decide +kernel
theorem dL_with_0 : decode cL_with 0 = .ok (.iload_n 3, 1) := by decide +kernel
theorem dL_with_1 : decode cL_with 1 = .ok (.i2l, 1) := by decide +kernel
theorem dL_with_2 : decode cL_with 2 = .ok (.lstore 4, 2) := by decide +kernel
theorem dL_with_4 : decode cL_with 4 = .ok (.lload_n 0, 1) := by decide +kernel
theorem dL_with_5 : decode cL_with 5 = .ok (.ldc2_w 9, 3) := by decide +kernel
theorem dL_with_8 : decode cL_with 8 = .ok (.iconst 3, 1) := by decide +kernel
theorem dL_with_9 : decode cL_with 9 = .ok (.iload_n 2, 1) := by decide +kernel
theorem dL_with_10 : decode cL_with 10 = .ok (.iconst 1, 1) := by decide +kernel
theorem dL_with_11 : decode cL_with 11 = .ok (.isub, 1) := by decide +kernel
theorem dL_with_12 : decode cL_with 12 = .ok (.imul, 1) := by decide +kernel
theorem dL_with_13 : decode cL_with 13 = .ok (.lshl, 1) := by decide +kernel
theorem dL_with_14 : decode cL_with 14 = .ok (.ldc2_w 11, 3) := by decide +kernel
theorem dL_with_17 : decode cL_with 17 = .ok (.lxor, 1) := by decide +kernel
theorem dL_with_18 : decode cL_with 18 = .ok (.land, 1) := by decide +kernel
theorem dL_with_19 : decode cL_with 19 = .ok (.lload 4, 2) := by decide +kernel
theorem dL_with_21 : decode cL_with 21 = .ok (.iconst 3, 1) := by decide +kernel
theorem dL_with_22 : decode cL_with 22 = .ok (.iload_n 2, 1) := by decide +kernel
theorem dL_with_23 : decode cL_with 23 = .ok (.iconst 1, 1) := by decide +kernel
theorem dL_with_24 : decode cL_with 24 = .ok (.isub, 1) := by decide +kernel
theorem dL_with_25 : decode cL_with 25 = .ok (.imul, 1) := by decide +kernel
theorem dL_with_26 : decode cL_with 26 = .ok (.lshl, 1) := by decide +kernel
theorem dL_with_27 : decode cL_with 27 = .ok (.lor, 1) := by decide +kernel
theorem dL_with_28 : decode cL_with 28 = .ok (.lreturn, 1) := by decide +kernel
theorem dL_sounds_0 : decode cL_sounds 0 = .ok (.iconst 0, 1) := by decide +kernel
theorem dL_sounds_1 : decode cL_sounds 1 = .ok (.istore 4, 2) := by decide +kernel
theorem dL_sounds_3 : decode cL_sounds 3 = .ok (.iconst 0, 1) := by decide +kernel
theorem dL_sounds_4 : decode cL_sounds 4 = .ok (.istore 5, 2) := by decide +kernel
theorem dL_sounds_6 : decode cL_sounds 6 = .ok (.iload 5, 2) := by decide +kernel
theorem dL_sounds_8 : decode cL_sounds 8 = .ok (.iload_n 2, 1) := by decide +kernel
theorem dL_sounds_9 : decode cL_sounds 9 = .ok (.if_icmp .ge 41, 3) := by decide +kernel
theorem dL_sounds_12 : decode cL_sounds 12 = .ok (.iload_n 3, 1) := by decide +kernel
theorem dL_sounds_13 : decode cL_sounds 13 = .ok (.iload 5, 2) := by decide +kernel
theorem dL_sounds_15 : decode cL_sounds 15 = .ok (.iadd, 1) := by decide +kernel
theorem dL_sounds_16 : decode cL_sounds 16 = .ok (.iload_n 2, 1) := by decide +kernel
theorem dL_sounds_17 : decode cL_sounds 17 = .ok (.irem, 1) := by decide +kernel
theorem dL_sounds_18 : decode cL_sounds 18 = .ok (.iconst 1, 1) := by decide +kernel
theorem dL_sounds_19 : decode cL_sounds 19 = .ok (.iadd, 1) := by decide +kernel
theorem dL_sounds_20 : decode cL_sounds 20 = .ok (.istore 6, 2) := by decide +kernel
theorem dL_sounds_22 : decode cL_sounds 22 = .ok (.lload_n 0, 1) := by decide +kernel
theorem dL_sounds_23 : decode cL_sounds 23 = .ok (.iload 6, 2) := by decide +kernel
theorem dL_sounds_25 : decode cL_sounds 25 = .ok (.invokestatic 13, 3) := by decide +kernel
theorem dL_sounds_28 : decode cL_sounds 28 = .ok (.ifCond .le 12, 3) := by decide +kernel
theorem dL_sounds_31 : decode cL_sounds 31 = .ok (.lload_n 0, 1) := by decide +kernel
theorem dL_sounds_32 : decode cL_sounds 32 = .ok (.iload 6, 2) := by decide +kernel
theorem dL_sounds_34 : decode cL_sounds 34 = .ok (.invokestatic 13, 3) := by decide +kernel
theorem dL_sounds_37 : decode cL_sounds 37 = .ok (.goto 5, 3) := by decide +kernel
theorem dL_sounds_40 : decode cL_sounds 40 = .ok (.iload 4, 2) := by decide +kernel
theorem dL_sounds_42 : decode cL_sounds 42 = .ok (.istore 4, 2) := by decide +kernel
theorem dL_sounds_44 : decode cL_sounds 44 = .ok (.iinc 5 1, 3) := by decide +kernel
theorem dL_sounds_47 : decode cL_sounds 47 = .ok (.goto (-41), 3) := by decide +kernel
theorem dL_sounds_50 : decode cL_sounds 50 = .ok (.iload 4, 2) := by decide +kernel
theorem dL_sounds_52 : decode cL_sounds 52 = .ok (.ireturn, 1) := by decide +kernel
theorem dL_depth_0 : decode cL_depth 0 = .ok (.iconst 0, 1) := by decide +kernel
theorem dL_depth_1 : decode cL_depth 1 = .ok (.istore_n 2, 1) := by decide +kernel
theorem dL_depth_2 : decode cL_depth 2 = .ok (.iload_n 2, 1) := by decide +kernel
theorem dL_depth_3 : decode cL_depth 3 = .ok (.bipush 7, 2) := by decide +kernel
theorem dL_depth_5 : decode cL_depth 5 = .ok (.if_icmp .ge 27, 3) := by decide +kernel
theorem dL_depth_8 : decode cL_depth 8 = .ok (.iload_n 0, 1) := by decide +kernel
theorem dL_depth_9 : decode cL_depth 9 = .ok (.iconst 1, 1) := by decide +kernel
theorem dL_depth_10 : decode cL_depth 10 = .ok (.iload_n 2, 1) := by decide +kernel
theorem dL_depth_11 : decode cL_depth 11 = .ok (.ishl, 1) := by decide +kernel
theorem dL_depth_12 : decode cL_depth 12 = .ok (.irem, 1) := by decide +kernel
theorem dL_depth_13 : decode cL_depth 13 = .ok (.ifCond .ne 13, 3) := by decide +kernel
theorem dL_depth_16 : decode cL_depth 16 = .ok (.iload_n 1, 1) := by decide +kernel
theorem dL_depth_17 : decode cL_depth 17 = .ok (.iload_n 0, 1) := by decide +kernel
theorem dL_depth_18 : decode cL_depth 18 = .ok (.iload_n 2, 1) := by decide +kernel
theorem dL_depth_19 : decode cL_depth 19 = .ok (.ishr, 1) := by decide +kernel
theorem dL_depth_20 : decode cL_depth 20 = .ok (.irem, 1) := by decide +kernel
theorem dL_depth_21 : decode cL_depth 21 = .ok (.ifCond .ne 5, 3) := by decide +kernel
theorem dL_depth_24 : decode cL_depth 24 = .ok (.iload_n 2, 1) := by decide +kernel
theorem dL_depth_25 : decode cL_depth 25 = .ok (.ireturn, 1) := by decide +kernel
theorem dL_depth_26 : decode cL_depth 26 = .ok (.iinc 2 1, 3) := by decide +kernel
theorem dL_depth_29 : decode cL_depth 29 = .ok (.goto (-27), 3) := by decide +kernel
theorem dL_depth_32 : decode cL_depth 32 = .ok (.iconst (-1), 1) := by decide +kernel
theorem dL_depth_33 : decode cL_depth 33 = .ok (.ireturn, 1) := by decide +kernel
theorem dL_density_0 : decode cL_density 0 = .ok (.iload_n 0, 1) := by decide +kernel
theorem dL_density_1 : decode cL_density 1 = .ok (.iconst 1, 1) := by decide +kernel
theorem dL_density_2 : decode cL_density 2 = .ok (.if_icmp .eq 8, 3) := by decide +kernel
theorem dL_density_5 : decode cL_density 5 = .ok (.iload_n 0, 1) := by decide +kernel
theorem dL_density_6 : decode cL_density 6 = .ok (.iconst 3, 1) := by decide +kernel
theorem dL_density_7 : decode cL_density 7 = .ok (.if_icmp .ne 7, 3) := by decide +kernel
theorem dL_density_10 : decode cL_density 10 = .ok (.iconst 2, 1) := by decide +kernel
theorem dL_density_11 : decode cL_density 11 = .ok (.goto 4, 3) := by decide +kernel
theorem dL_density_14 : decode cL_density 14 = .ok (.iconst 1, 1) := by decide +kernel
theorem dL_density_15 : decode cL_density 15 = .ok (.istore_n 2, 1) := by decide +kernel
theorem dL_density_16 : decode cL_density 16 = .ok (.iconst 0, 1) := by decide +kernel
theorem dL_density_17 : decode cL_density 17 = .ok (.istore_n 3, 1) := by decide +kernel
theorem dL_density_18 : decode cL_density 18 = .ok (.iload_n 3, 1) := by decide +kernel
theorem dL_density_19 : decode cL_density 19 = .ok (.iload_n 1, 1) := by decide +kernel
theorem dL_density_20 : decode cL_density 20 = .ok (.if_icmp .ge 17, 3) := by decide +kernel
theorem dL_density_23 : decode cL_density 23 = .ok (.iload_n 0, 1) := by decide +kernel
theorem dL_density_24 : decode cL_density 24 = .ok (.ifCond .le 13, 3) := by decide +kernel
theorem dL_density_27 : decode cL_density 27 = .ok (.iload_n 2, 1) := by decide +kernel
theorem dL_density_28 : decode cL_density 28 = .ok (.iconst 2, 1) := by decide +kernel
theorem dL_density_29 : decode cL_density 29 = .ok (.imul, 1) := by decide +kernel
theorem dL_density_30 : decode cL_density 30 = .ok (.istore_n 2, 1) := by decide +kernel
theorem dL_density_31 : decode cL_density 31 = .ok (.iinc 3 1, 3) := by decide +kernel
theorem dL_density_34 : decode cL_density 34 = .ok (.goto (-16), 3) := by decide +kernel
theorem dL_density_37 : decode cL_density 37 = .ok (.iload_n 2, 1) := by decide +kernel
theorem dL_density_38 : decode cL_density 38 = .ok (.ireturn, 1) := by decide +kernel
theorem dL_stroke_0 : decode cL_stroke 0 = .ok (.iload_n 3, 1) := by decide +kernel
theorem dL_stroke_1 : decode cL_stroke 1 = .ok (.istore 5, 2) := by decide +kernel
theorem dL_stroke_3 : decode cL_stroke 3 = .ok (.iconst 1, 1) := by decide +kernel
theorem dL_stroke_4 : decode cL_stroke 4 = .ok (.istore 6, 2) := by decide +kernel
theorem dL_stroke_6 : decode cL_stroke 6 = .ok (.iload 6, 2) := by decide +kernel
theorem dL_stroke_8 : decode cL_stroke 8 = .ok (.iload_n 2, 1) := by decide +kernel
theorem dL_stroke_9 : decode cL_stroke 9 = .ok (.if_icmp .gt 159, 3) := by decide +kernel
theorem dL_stroke_12 : decode cL_stroke 12 = .ok (.iload_n 0, 1) := by decide +kernel
theorem dL_stroke_13 : decode cL_stroke 13 = .ok (.iconst 3, 1) := by decide +kernel
theorem dL_stroke_14 : decode cL_stroke 14 = .ok (.if_icmp .ne 16, 3) := by decide +kernel
theorem dL_stroke_17 : decode cL_stroke 17 = .ok (.iload_n 3, 1) := by decide +kernel
theorem dL_stroke_18 : decode cL_stroke 18 = .ok (.ifCond .le 12, 3) := by decide +kernel
theorem dL_stroke_21 : decode cL_stroke 21 = .ok (.iload 4, 2) := by decide +kernel
theorem dL_stroke_23 : decode cL_stroke 23 = .ok (.ifCond .le 7, 3) := by decide +kernel
theorem dL_stroke_26 : decode cL_stroke 26 = .ok (.iconst 1, 1) := by decide +kernel
theorem dL_stroke_27 : decode cL_stroke 27 = .ok (.goto 4, 3) := by decide +kernel
theorem dL_stroke_30 : decode cL_stroke 30 = .ok (.iconst 0, 1) := by decide +kernel
theorem dL_stroke_31 : decode cL_stroke 31 = .ok (.istore 7, 2) := by decide +kernel
theorem dL_stroke_33 : decode cL_stroke 33 = .ok (.iload_n 0, 1) := by decide +kernel
theorem dL_stroke_34 : decode cL_stroke 34 = .ok (.ifCond .ne 8, 3) := by decide +kernel
theorem dL_stroke_37 : decode cL_stroke 37 = .ok (.iload 4, 2) := by decide +kernel
theorem dL_stroke_39 : decode cL_stroke 39 = .ok (.goto 97, 3) := by decide +kernel
theorem dL_stroke_42 : decode cL_stroke 42 = .ok (.iload_n 0, 1) := by decide +kernel
theorem dL_stroke_43 : decode cL_stroke 43 = .ok (.iconst 1, 1) := by decide +kernel
theorem dL_stroke_44 : decode cL_stroke 44 = .ok (.if_icmp .ne 21, 3) := by decide +kernel
theorem dL_stroke_47 : decode cL_stroke 47 = .ok (.iload 6, 2) := by decide +kernel
theorem dL_stroke_49 : decode cL_stroke 49 = .ok (.iconst 2, 1) := by decide +kernel
theorem dL_stroke_50 : decode cL_stroke 50 = .ok (.idiv, 1) := by decide +kernel
theorem dL_stroke_51 : decode cL_stroke 51 = .ok (.iconst 2, 1) := by decide +kernel
theorem dL_stroke_52 : decode cL_stroke 52 = .ok (.irem, 1) := by decide +kernel
theorem dL_stroke_53 : decode cL_stroke 53 = .ok (.ifCond .ne 7, 3) := by decide +kernel
theorem dL_stroke_56 : decode cL_stroke 56 = .ok (.iload_n 3, 1) := by decide +kernel
theorem dL_stroke_57 : decode cL_stroke 57 = .ok (.goto 79, 3) := by decide +kernel
theorem dL_stroke_60 : decode cL_stroke 60 = .ok (.iload 4, 2) := by decide +kernel
theorem dL_stroke_62 : decode cL_stroke 62 = .ok (.goto 74, 3) := by decide +kernel
theorem dL_stroke_65 : decode cL_stroke 65 = .ok (.iload 7, 2) := by decide +kernel
theorem dL_stroke_67 : decode cL_stroke 67 = .ok (.ifCond .ne 39, 3) := by decide +kernel
theorem dL_stroke_70 : decode cL_stroke 70 = .ok (.iload 5, 2) := by decide +kernel
theorem dL_stroke_72 : decode cL_stroke 72 = .ok (.iload_n 3, 1) := by decide +kernel
theorem dL_stroke_73 : decode cL_stroke 73 = .ok (.if_icmp .ne 16, 3) := by decide +kernel
theorem dL_stroke_76 : decode cL_stroke 76 = .ok (.iload 6, 2) := by decide +kernel
theorem dL_stroke_78 : decode cL_stroke 78 = .ok (.iconst 2, 1) := by decide +kernel
theorem dL_stroke_79 : decode cL_stroke 79 = .ok (.irem, 1) := by decide +kernel
theorem dL_stroke_80 : decode cL_stroke 80 = .ok (.iconst 1, 1) := by decide +kernel
theorem dL_stroke_81 : decode cL_stroke 81 = .ok (.if_icmp .ne 8, 3) := by decide +kernel
theorem dL_stroke_84 : decode cL_stroke 84 = .ok (.iload 4, 2) := by decide +kernel
theorem dL_stroke_86 : decode cL_stroke 86 = .ok (.goto 50, 3) := by decide +kernel
theorem dL_stroke_89 : decode cL_stroke 89 = .ok (.iload 6, 2) := by decide +kernel
theorem dL_stroke_91 : decode cL_stroke 91 = .ok (.iconst 2, 1) := by decide +kernel
theorem dL_stroke_92 : decode cL_stroke 92 = .ok (.irem, 1) := by decide +kernel
theorem dL_stroke_93 : decode cL_stroke 93 = .ok (.iconst 1, 1) := by decide +kernel
theorem dL_stroke_94 : decode cL_stroke 94 = .ok (.if_icmp .ne 8, 3) := by decide +kernel
theorem dL_stroke_97 : decode cL_stroke 97 = .ok (.iload 4, 2) := by decide +kernel
theorem dL_stroke_99 : decode cL_stroke 99 = .ok (.goto 37, 3) := by decide +kernel
theorem dL_stroke_102 : decode cL_stroke 102 = .ok (.iload_n 3, 1) := by decide +kernel
theorem dL_stroke_103 : decode cL_stroke 103 = .ok (.goto 33, 3) := by decide +kernel
theorem dL_stroke_106 : decode cL_stroke 106 = .ok (.iload 5, 2) := by decide +kernel
theorem dL_stroke_108 : decode cL_stroke 108 = .ok (.iload 4, 2) := by decide +kernel
theorem dL_stroke_110 : decode cL_stroke 110 = .ok (.if_icmp .ge 10, 3) := by decide +kernel
theorem dL_stroke_113 : decode cL_stroke 113 = .ok (.iload 5, 2) := by decide +kernel
theorem dL_stroke_115 : decode cL_stroke 115 = .ok (.iconst 1, 1) := by decide +kernel
theorem dL_stroke_116 : decode cL_stroke 116 = .ok (.iadd, 1) := by decide +kernel
theorem dL_stroke_117 : decode cL_stroke 117 = .ok (.goto 19, 3) := by decide +kernel
theorem dL_stroke_120 : decode cL_stroke 120 = .ok (.iload 5, 2) := by decide +kernel
theorem dL_stroke_122 : decode cL_stroke 122 = .ok (.iload 4, 2) := by decide +kernel
theorem dL_stroke_124 : decode cL_stroke 124 = .ok (.if_icmp .le 10, 3) := by decide +kernel
theorem dL_stroke_127 : decode cL_stroke 127 = .ok (.iload 5, 2) := by decide +kernel
theorem dL_stroke_129 : decode cL_stroke 129 = .ok (.iconst 1, 1) := by decide +kernel
theorem dL_stroke_130 : decode cL_stroke 130 = .ok (.isub, 1) := by decide +kernel
theorem dL_stroke_131 : decode cL_stroke 131 = .ok (.goto 5, 3) := by decide +kernel
theorem dL_stroke_134 : decode cL_stroke 134 = .ok (.iload 4, 2) := by decide +kernel
theorem dL_stroke_136 : decode cL_stroke 136 = .ok (.istore 5, 2) := by decide +kernel
theorem dL_stroke_138 : decode cL_stroke 138 = .ok (.iload 7, 2) := by decide +kernel
theorem dL_stroke_140 : decode cL_stroke 140 = .ok (.ifCond .eq 18, 3) := by decide +kernel
theorem dL_stroke_143 : decode cL_stroke 143 = .ok (.iload 6, 2) := by decide +kernel
theorem dL_stroke_145 : decode cL_stroke 145 = .ok (.iconst 2, 1) := by decide +kernel
theorem dL_stroke_146 : decode cL_stroke 146 = .ok (.iload_n 1, 1) := by decide +kernel
theorem dL_stroke_147 : decode cL_stroke 147 = .ok (.imul, 1) := by decide +kernel
theorem dL_stroke_148 : decode cL_stroke 148 = .ok (.iconst 1, 1) := by decide +kernel
theorem dL_stroke_149 : decode cL_stroke 149 = .ok (.isub, 1) := by decide +kernel
theorem dL_stroke_150 : decode cL_stroke 150 = .ok (.if_icmp .ne 8, 3) := by decide +kernel
theorem dL_stroke_153 : decode cL_stroke 153 = .ok (.iload 4, 2) := by decide +kernel
theorem dL_stroke_155 : decode cL_stroke 155 = .ok (.goto 5, 3) := by decide +kernel
theorem dL_stroke_158 : decode cL_stroke 158 = .ok (.iload 5, 2) := by decide +kernel
theorem dL_stroke_160 : decode cL_stroke 160 = .ok (.istore 5, 2) := by decide +kernel
theorem dL_stroke_162 : decode cL_stroke 162 = .ok (.iinc 6 1, 3) := by decide +kernel
theorem dL_stroke_165 : decode cL_stroke 165 = .ok (.goto (-159), 3) := by decide +kernel
theorem dL_stroke_168 : decode cL_stroke 168 = .ok (.iload 5, 2) := by decide +kernel
theorem dL_stroke_170 : decode cL_stroke 170 = .ok (.ireturn, 1) := by decide +kernel
theorem dL_covered_0 : decode cL_covered 0 = .ok (.iconst 0, 1) := by decide +kernel
theorem dL_covered_1 : decode cL_covered 1 = .ok (.istore_n 3, 1) := by decide +kernel
theorem dL_covered_2 : decode cL_covered 2 = .ok (.iconst 0, 1) := by decide +kernel
theorem dL_covered_3 : decode cL_covered 3 = .ok (.istore 4, 2) := by decide +kernel
theorem dL_covered_5 : decode cL_covered 5 = .ok (.iload 4, 2) := by decide +kernel
theorem dL_covered_7 : decode cL_covered 7 = .ok (.sipush 625, 3) := by decide +kernel
theorem dL_covered_10 : decode cL_covered 10 = .ok (.if_icmp .ge 138, 3) := by decide +kernel
theorem dL_covered_13 : decode cL_covered 13 = .ok (.iconst 0, 1) := by decide +kernel
theorem dL_covered_14 : decode cL_covered 14 = .ok (.istore 5, 2) := by decide +kernel
theorem dL_covered_16 : decode cL_covered 16 = .ok (.iconst 0, 1) := by decide +kernel
theorem dL_covered_17 : decode cL_covered 17 = .ok (.istore 6, 2) := by decide +kernel
theorem dL_covered_19 : decode cL_covered 19 = .ok (.iload 4, 2) := by decide +kernel
theorem dL_covered_21 : decode cL_covered 21 = .ok (.istore 7, 2) := by decide +kernel
theorem dL_covered_23 : decode cL_covered 23 = .ok (.iconst 1, 1) := by decide +kernel
theorem dL_covered_24 : decode cL_covered 24 = .ok (.istore 8, 2) := by decide +kernel
theorem dL_covered_26 : decode cL_covered 26 = .ok (.iconst 0, 1) := by decide +kernel
theorem dL_covered_27 : decode cL_covered 27 = .ok (.istore 9, 2) := by decide +kernel
theorem dL_covered_29 : decode cL_covered 29 = .ok (.iload 9, 2) := by decide +kernel
theorem dL_covered_31 : decode cL_covered 31 = .ok (.iconst 4, 1) := by decide +kernel
theorem dL_covered_32 : decode cL_covered 32 = .ok (.if_icmp .ge 92, 3) := by decide +kernel
theorem dL_covered_35 : decode cL_covered 35 = .ok (.iload 7, 2) := by decide +kernel
theorem dL_covered_37 : decode cL_covered 37 = .ok (.iconst 5, 1) := by decide +kernel
theorem dL_covered_38 : decode cL_covered 38 = .ok (.irem, 1) := by decide +kernel
theorem dL_covered_39 : decode cL_covered 39 = .ok (.istore 10, 2) := by decide +kernel
theorem dL_covered_41 : decode cL_covered 41 = .ok (.iload 7, 2) := by decide +kernel
theorem dL_covered_43 : decode cL_covered 43 = .ok (.iconst 5, 1) := by decide +kernel
theorem dL_covered_44 : decode cL_covered 44 = .ok (.idiv, 1) := by decide +kernel
theorem dL_covered_45 : decode cL_covered 45 = .ok (.istore 7, 2) := by decide +kernel
theorem dL_covered_47 : decode cL_covered 47 = .ok (.iload 10, 2) := by decide +kernel
theorem dL_covered_49 : decode cL_covered 49 = .ok (.iconst 4, 1) := by decide +kernel
theorem dL_covered_50 : decode cL_covered 50 = .ok (.if_icmp .ge 68, 3) := by decide +kernel
theorem dL_covered_53 : decode cL_covered 53 = .ok (.iload 8, 2) := by decide +kernel
theorem dL_covered_55 : decode cL_covered 55 = .ok (.ifCond .eq 48, 3) := by decide +kernel
theorem dL_covered_58 : decode cL_covered 58 = .ok (.aload_n 0, 1) := by decide +kernel
theorem dL_covered_59 : decode cL_covered 59 = .ok (.iconst 2, 1) := by decide +kernel
theorem dL_covered_60 : decode cL_covered 60 = .ok (.iconst 2, 1) := by decide +kernel
theorem dL_covered_61 : decode cL_covered 61 = .ok (.iload 9, 2) := by decide +kernel
theorem dL_covered_63 : decode cL_covered 63 = .ok (.imul, 1) := by decide +kernel
theorem dL_covered_64 : decode cL_covered 64 = .ok (.iadd, 1) := by decide +kernel
theorem dL_covered_65 : decode cL_covered 65 = .ok (.iload_n 2, 1) := by decide +kernel
theorem dL_covered_66 : decode cL_covered 66 = .ok (.iadd, 1) := by decide +kernel
theorem dL_covered_67 : decode cL_covered 67 = .ok (.laload, 1) := by decide +kernel
theorem dL_covered_68 : decode cL_covered 68 = .ok (.lconst 0, 1) := by decide +kernel
theorem dL_covered_69 : decode cL_covered 69 = .ok (.lcmp, 1) := by decide +kernel
theorem dL_covered_70 : decode cL_covered 70 = .ok (.ifCond .lt 33, 3) := by decide +kernel
theorem dL_covered_73 : decode cL_covered 73 = .ok (.aload_n 1, 1) := by decide +kernel
theorem dL_covered_74 : decode cL_covered 74 = .ok (.bipush 15, 2) := by decide +kernel
theorem dL_covered_76 : decode cL_covered 76 = .ok (.iload 9, 2) := by decide +kernel
theorem dL_covered_78 : decode cL_covered 78 = .ok (.iadd, 1) := by decide +kernel
theorem dL_covered_79 : decode cL_covered 79 = .ok (.iaload, 1) := by decide +kernel
theorem dL_covered_80 : decode cL_covered 80 = .ok (.iload 10, 2) := by decide +kernel
theorem dL_covered_82 : decode cL_covered 82 = .ok (.ishr, 1) := by decide +kernel
theorem dL_covered_83 : decode cL_covered 83 = .ok (.iconst 1, 1) := by decide +kernel
theorem dL_covered_84 : decode cL_covered 84 = .ok (.iand, 1) := by decide +kernel
theorem dL_covered_85 : decode cL_covered 85 = .ok (.iconst 1, 1) := by decide +kernel
theorem dL_covered_86 : decode cL_covered 86 = .ok (.if_icmp .ne 17, 3) := by decide +kernel
theorem dL_covered_89 : decode cL_covered 89 = .ok (.iload 5, 2) := by decide +kernel
theorem dL_covered_91 : decode cL_covered 91 = .ok (.iload 10, 2) := by decide +kernel
theorem dL_covered_93 : decode cL_covered 93 = .ok (.ishr, 1) := by decide +kernel
theorem dL_covered_94 : decode cL_covered 94 = .ok (.iconst 1, 1) := by decide +kernel
theorem dL_covered_95 : decode cL_covered 95 = .ok (.iand, 1) := by decide +kernel
theorem dL_covered_96 : decode cL_covered 96 = .ok (.ifCond .ne 7, 3) := by decide +kernel
theorem dL_covered_99 : decode cL_covered 99 = .ok (.iconst 1, 1) := by decide +kernel
theorem dL_covered_100 : decode cL_covered 100 = .ok (.goto 4, 3) := by decide +kernel
theorem dL_covered_103 : decode cL_covered 103 = .ok (.iconst 0, 1) := by decide +kernel
theorem dL_covered_104 : decode cL_covered 104 = .ok (.istore 8, 2) := by decide +kernel
theorem dL_covered_106 : decode cL_covered 106 = .ok (.iload 5, 2) := by decide +kernel
theorem dL_covered_108 : decode cL_covered 108 = .ok (.iconst 1, 1) := by decide +kernel
theorem dL_covered_109 : decode cL_covered 109 = .ok (.iload 10, 2) := by decide +kernel
theorem dL_covered_111 : decode cL_covered 111 = .ok (.ishl, 1) := by decide +kernel
theorem dL_covered_112 : decode cL_covered 112 = .ok (.ior, 1) := by decide +kernel
theorem dL_covered_113 : decode cL_covered 113 = .ok (.istore 5, 2) := by decide +kernel
theorem dL_covered_115 : decode cL_covered 115 = .ok (.iinc 6 1, 3) := by decide +kernel
theorem dL_covered_118 : decode cL_covered 118 = .ok (.iinc 9 1, 3) := by decide +kernel
theorem dL_covered_121 : decode cL_covered 121 = .ok (.goto (-92), 3) := by decide +kernel
theorem dL_covered_124 : decode cL_covered 124 = .ok (.iload 8, 2) := by decide +kernel
theorem dL_covered_126 : decode cL_covered 126 = .ok (.ifCond .eq 14, 3) := by decide +kernel
theorem dL_covered_129 : decode cL_covered 129 = .ok (.iload 6, 2) := by decide +kernel
theorem dL_covered_131 : decode cL_covered 131 = .ok (.iload_n 3, 1) := by decide +kernel
theorem dL_covered_132 : decode cL_covered 132 = .ok (.if_icmp .le 8, 3) := by decide +kernel
theorem dL_covered_135 : decode cL_covered 135 = .ok (.iload 6, 2) := by decide +kernel
theorem dL_covered_137 : decode cL_covered 137 = .ok (.goto 4, 3) := by decide +kernel
theorem dL_covered_140 : decode cL_covered 140 = .ok (.iload_n 3, 1) := by decide +kernel
theorem dL_covered_141 : decode cL_covered 141 = .ok (.istore_n 3, 1) := by decide +kernel
theorem dL_covered_142 : decode cL_covered 142 = .ok (.iinc 4 1, 3) := by decide +kernel
theorem dL_covered_145 : decode cL_covered 145 = .ok (.goto (-140), 3) := by decide +kernel
theorem dL_covered_148 : decode cL_covered 148 = .ok (.iload_n 3, 1) := by decide +kernel
theorem dL_covered_149 : decode cL_covered 149 = .ok (.ireturn, 1) := by decide +kernel
theorem dL_play_0 : decode cL_play 0 = .ok (.aload_n 1, 1) := by decide +kernel
theorem dL_play_1 : decode cL_play 1 = .ok (.bipush 6, 2) := by decide +kernel
theorem dL_play_3 : decode cL_play 3 = .ok (.aload_n 1, 1) := by decide +kernel
theorem dL_play_4 : decode cL_play 4 = .ok (.bipush 6, 2) := by decide +kernel
theorem dL_play_6 : decode cL_play 6 = .ok (.iaload, 1) := by decide +kernel
theorem dL_play_7 : decode cL_play 7 = .ok (.aload_n 1, 1) := by decide +kernel
theorem dL_play_8 : decode cL_play 8 = .ok (.aload_n 1, 1) := by decide +kernel
theorem dL_play_9 : decode cL_play 9 = .ok (.iconst 5, 1) := by decide +kernel
theorem dL_play_10 : decode cL_play 10 = .ok (.iaload, 1) := by decide +kernel
theorem dL_play_11 : decode cL_play 11 = .ok (.iaload, 1) := by decide +kernel
theorem dL_play_12 : decode cL_play 12 = .ok (.irem, 1) := by decide +kernel
theorem dL_play_13 : decode cL_play 13 = .ok (.iconst 1, 1) := by decide +kernel
theorem dL_play_14 : decode cL_play 14 = .ok (.iadd, 1) := by decide +kernel
theorem dL_play_15 : decode cL_play 15 = .ok (.iastore, 1) := by decide +kernel
theorem dL_play_16 : decode cL_play 16 = .ok (.aload_n 0, 1) := by decide +kernel
theorem dL_play_17 : decode cL_play 17 = .ok (.bipush 10, 2) := by decide +kernel
theorem dL_play_19 : decode cL_play 19 = .ok (.dup2, 1) := by decide +kernel
theorem dL_play_20 : decode cL_play 20 = .ok (.laload, 1) := by decide +kernel
theorem dL_play_21 : decode cL_play 21 = .ok (.aload_n 1, 1) := by decide +kernel
theorem dL_play_22 : decode cL_play 22 = .ok (.bipush 7, 2) := by decide +kernel
theorem dL_play_24 : decode cL_play 24 = .ok (.iaload, 1) := by decide +kernel
theorem dL_play_25 : decode cL_play 25 = .ok (.i2l, 1) := by decide +kernel
theorem dL_play_26 : decode cL_play 26 = .ok (.ladd, 1) := by decide +kernel
theorem dL_play_27 : decode cL_play 27 = .ok (.lastore, 1) := by decide +kernel
theorem dL_play_28 : decode cL_play 28 = .ok (.iconst 0, 1) := by decide +kernel
theorem dL_play_29 : decode cL_play 29 = .ok (.istore_n 2, 1) := by decide +kernel
theorem dL_play_30 : decode cL_play 30 = .ok (.iload_n 2, 1) := by decide +kernel
theorem dL_play_31 : decode cL_play 31 = .ok (.iconst 4, 1) := by decide +kernel
theorem dL_play_32 : decode cL_play 32 = .ok (.if_icmp .ge 27, 3) := by decide +kernel
theorem dL_play_35 : decode cL_play 35 = .ok (.aload_n 0, 1) := by decide +kernel
theorem dL_play_36 : decode cL_play 36 = .ok (.bipush 11, 2) := by decide +kernel
theorem dL_play_38 : decode cL_play 38 = .ok (.iload_n 2, 1) := by decide +kernel
theorem dL_play_39 : decode cL_play 39 = .ok (.iadd, 1) := by decide +kernel
theorem dL_play_40 : decode cL_play 40 = .ok (.dup2, 1) := by decide +kernel
theorem dL_play_41 : decode cL_play 41 = .ok (.laload, 1) := by decide +kernel
theorem dL_play_42 : decode cL_play 42 = .ok (.iload_n 2, 1) := by decide +kernel
theorem dL_play_43 : decode cL_play 43 = .ok (.aload_n 1, 1) := by decide +kernel
theorem dL_play_44 : decode cL_play 44 = .ok (.bipush 8, 2) := by decide +kernel
theorem dL_play_46 : decode cL_play 46 = .ok (.iaload, 1) := by decide +kernel
theorem dL_play_47 : decode cL_play 47 = .ok (.invokestatic 19, 3) := by decide +kernel
theorem dL_play_50 : decode cL_play 50 = .ok (.i2l, 1) := by decide +kernel
theorem dL_play_51 : decode cL_play 51 = .ok (.ladd, 1) := by decide +kernel
theorem dL_play_52 : decode cL_play 52 = .ok (.lastore, 1) := by decide +kernel
theorem dL_play_53 : decode cL_play 53 = .ok (.iinc 2 1, 3) := by decide +kernel
theorem dL_play_56 : decode cL_play 56 = .ok (.goto (-26), 3) := by decide +kernel
theorem dL_play_59 : decode cL_play 59 = .ok (.aload_n 1, 1) := by decide +kernel
theorem dL_play_60 : decode cL_play 60 = .ok (.bipush 7, 2) := by decide +kernel
theorem dL_play_62 : decode cL_play 62 = .ok (.dup2, 1) := by decide +kernel
theorem dL_play_63 : decode cL_play 63 = .ok (.iaload, 1) := by decide +kernel
theorem dL_play_64 : decode cL_play 64 = .ok (.aload_n 1, 1) := by decide +kernel
theorem dL_play_65 : decode cL_play 65 = .ok (.bipush 10, 2) := by decide +kernel
theorem dL_play_67 : decode cL_play 67 = .ok (.iaload, 1) := by decide +kernel
theorem dL_play_68 : decode cL_play 68 = .ok (.iconst 1, 1) := by decide +kernel
theorem dL_play_69 : decode cL_play 69 = .ok (.if_icmp .ne 17, 3) := by decide +kernel
theorem dL_play_72 : decode cL_play 72 = .ok (.aload_n 1, 1) := by decide +kernel
theorem dL_play_73 : decode cL_play 73 = .ok (.bipush 7, 2) := by decide +kernel
theorem dL_play_75 : decode cL_play 75 = .ok (.iaload, 1) := by decide +kernel
theorem dL_play_76 : decode cL_play 76 = .ok (.sipush 160, 3) := by decide +kernel
theorem dL_play_79 : decode cL_play 79 = .ok (.if_icmp .ge 7, 3) := by decide +kernel
theorem dL_play_82 : decode cL_play 82 = .ok (.iconst 2, 1) := by decide +kernel
theorem dL_play_83 : decode cL_play 83 = .ok (.goto 26, 3) := by decide +kernel
theorem dL_play_86 : decode cL_play 86 = .ok (.aload_n 1, 1) := by decide +kernel
theorem dL_play_87 : decode cL_play 87 = .ok (.bipush 10, 2) := by decide +kernel
theorem dL_play_89 : decode cL_play 89 = .ok (.iaload, 1) := by decide +kernel
theorem dL_play_90 : decode cL_play 90 = .ok (.iconst 2, 1) := by decide +kernel
theorem dL_play_91 : decode cL_play 91 = .ok (.if_icmp .ne 17, 3) := by decide +kernel
theorem dL_play_94 : decode cL_play 94 = .ok (.aload_n 1, 1) := by decide +kernel
theorem dL_play_95 : decode cL_play 95 = .ok (.bipush 7, 2) := by decide +kernel
theorem dL_play_97 : decode cL_play 97 = .ok (.iaload, 1) := by decide +kernel
theorem dL_play_98 : decode cL_play 98 = .ok (.bipush 10, 2) := by decide +kernel
theorem dL_play_100 : decode cL_play 100 = .ok (.if_icmp .le 8, 3) := by decide +kernel
theorem dL_play_103 : decode cL_play 103 = .ok (.bipush (-2), 2) := by decide +kernel
theorem dL_play_105 : decode cL_play 105 = .ok (.goto 4, 3) := by decide +kernel
theorem dL_play_108 : decode cL_play 108 = .ok (.iconst 0, 1) := by decide +kernel
theorem dL_play_109 : decode cL_play 109 = .ok (.iadd, 1) := by decide +kernel
theorem dL_play_110 : decode cL_play 110 = .ok (.iastore, 1) := by decide +kernel
theorem dL_play_111 : decode cL_play 111 = .ok (.aload_n 1, 1) := by decide +kernel
theorem dL_play_112 : decode cL_play 112 = .ok (.bipush 6, 2) := by decide +kernel
theorem dL_play_114 : decode cL_play 114 = .ok (.iaload, 1) := by decide +kernel
theorem dL_play_115 : decode cL_play 115 = .ok (.aload_n 1, 1) := by decide +kernel
theorem dL_play_116 : decode cL_play 116 = .ok (.aload_n 1, 1) := by decide +kernel
theorem dL_play_117 : decode cL_play 117 = .ok (.iconst 5, 1) := by decide +kernel
theorem dL_play_118 : decode cL_play 118 = .ok (.iaload, 1) := by decide +kernel
theorem dL_play_119 : decode cL_play 119 = .ok (.iaload, 1) := by decide +kernel
theorem dL_play_120 : decode cL_play 120 = .ok (.if_icmp .ne 75, 3) := by decide +kernel
theorem dL_play_123 : decode cL_play 123 = .ok (.aload_n 1, 1) := by decide +kernel
theorem dL_play_124 : decode cL_play 124 = .ok (.bipush 8, 2) := by decide +kernel
theorem dL_play_126 : decode cL_play 126 = .ok (.aload_n 1, 1) := by decide +kernel
theorem dL_play_127 : decode cL_play 127 = .ok (.bipush 7, 2) := by decide +kernel
theorem dL_play_129 : decode cL_play 129 = .ok (.iaload, 1) := by decide +kernel
theorem dL_play_130 : decode cL_play 130 = .ok (.sipush 159, 3) := by decide +kernel
theorem dL_play_133 : decode cL_play 133 = .ok (.if_icmp .le 7, 3) := by decide +kernel
theorem dL_play_136 : decode cL_play 136 = .ok (.iconst 3, 1) := by decide +kernel
theorem dL_play_137 : decode cL_play 137 = .ok (.goto 30, 3) := by decide +kernel
theorem dL_play_140 : decode cL_play 140 = .ok (.aload_n 1, 1) := by decide +kernel
theorem dL_play_141 : decode cL_play 141 = .ok (.bipush 7, 2) := by decide +kernel
theorem dL_play_143 : decode cL_play 143 = .ok (.iaload, 1) := by decide +kernel
theorem dL_play_144 : decode cL_play 144 = .ok (.bipush 79, 2) := by decide +kernel
theorem dL_play_146 : decode cL_play 146 = .ok (.if_icmp .le 7, 3) := by decide +kernel
theorem dL_play_149 : decode cL_play 149 = .ok (.iconst 2, 1) := by decide +kernel
theorem dL_play_150 : decode cL_play 150 = .ok (.goto 17, 3) := by decide +kernel
theorem dL_play_153 : decode cL_play 153 = .ok (.aload_n 1, 1) := by decide +kernel
theorem dL_play_154 : decode cL_play 154 = .ok (.bipush 7, 2) := by decide +kernel
theorem dL_play_156 : decode cL_play 156 = .ok (.iaload, 1) := by decide +kernel
theorem dL_play_157 : decode cL_play 157 = .ok (.bipush 39, 2) := by decide +kernel
theorem dL_play_159 : decode cL_play 159 = .ok (.if_icmp .le 7, 3) := by decide +kernel
theorem dL_play_162 : decode cL_play 162 = .ok (.iconst 1, 1) := by decide +kernel
theorem dL_play_163 : decode cL_play 163 = .ok (.goto 4, 3) := by decide +kernel
theorem dL_play_166 : decode cL_play 166 = .ok (.iconst 0, 1) := by decide +kernel
theorem dL_play_167 : decode cL_play 167 = .ok (.iastore, 1) := by decide +kernel
theorem dL_play_168 : decode cL_play 168 = .ok (.aload_n 1, 1) := by decide +kernel
theorem dL_play_169 : decode cL_play 169 = .ok (.bipush 9, 2) := by decide +kernel
theorem dL_play_171 : decode cL_play 171 = .ok (.dup2, 1) := by decide +kernel
theorem dL_play_172 : decode cL_play 172 = .ok (.iaload, 1) := by decide +kernel
theorem dL_play_173 : decode cL_play 173 = .ok (.iconst 1, 1) := by decide +kernel
theorem dL_play_174 : decode cL_play 174 = .ok (.iadd, 1) := by decide +kernel
theorem dL_play_175 : decode cL_play 175 = .ok (.iastore, 1) := by decide +kernel
theorem dL_play_176 : decode cL_play 176 = .ok (.aload_n 1, 1) := by decide +kernel
theorem dL_play_177 : decode cL_play 177 = .ok (.iconst 4, 1) := by decide +kernel
theorem dL_play_178 : decode cL_play 178 = .ok (.aload_n 1, 1) := by decide +kernel
theorem dL_play_179 : decode cL_play 179 = .ok (.bipush 11, 2) := by decide +kernel
theorem dL_play_181 : decode cL_play 181 = .ok (.iaload, 1) := by decide +kernel
theorem dL_play_182 : decode cL_play 182 = .ok (.aload_n 1, 1) := by decide +kernel
theorem dL_play_183 : decode cL_play 183 = .ok (.bipush 9, 2) := by decide +kernel
theorem dL_play_185 : decode cL_play 185 = .ok (.iaload, 1) := by decide +kernel
theorem dL_play_186 : decode cL_play 186 = .ok (.if_icmp .ne 7, 3) := by decide +kernel
theorem dL_play_189 : decode cL_play 189 = .ok (.iconst 0, 1) := by decide +kernel
theorem dL_play_190 : decode cL_play 190 = .ok (.goto 4, 3) := by decide +kernel
theorem dL_play_193 : decode cL_play 193 = .ok (.iconst 1, 1) := by decide +kernel
theorem dL_play_194 : decode cL_play 194 = .ok (.iastore, 1) := by decide +kernel
theorem dL_play_195 : decode cL_play 195 = .ok (.return_, 1) := by decide +kernel
theorem dL_isSame_0 : decode cL_isSame 0 = .ok (.iload 4, 2) := by decide +kernel
theorem dL_isSame_2 : decode cL_isSame 2 = .ok (.iconst 2, 1) := by decide +kernel
theorem dL_isSame_3 : decode cL_isSame 3 = .ok (.irem, 1) := by decide +kernel
theorem dL_isSame_4 : decode cL_isSame 4 = .ok (.istore 5, 2) := by decide +kernel
theorem dL_isSame_6 : decode cL_isSame 6 = .ok (.aload_n 2, 1) := by decide +kernel
theorem dL_isSame_7 : decode cL_isSame 7 = .ok (.iload 5, 2) := by decide +kernel
theorem dL_isSame_9 : decode cL_isSame 9 = .ok (.iaload, 1) := by decide +kernel
theorem dL_isSame_10 : decode cL_isSame 10 = .ok (.istore 6, 2) := by decide +kernel
theorem dL_isSame_12 : decode cL_isSame 12 = .ok (.iconst 1, 1) := by decide +kernel
theorem dL_isSame_13 : decode cL_isSame 13 = .ok (.iload 4, 2) := by decide +kernel
theorem dL_isSame_15 : decode cL_isSame 15 = .ok (.iconst 2, 1) := by decide +kernel
theorem dL_isSame_16 : decode cL_isSame 16 = .ok (.idiv, 1) := by decide +kernel
theorem dL_isSame_17 : decode cL_isSame 17 = .ok (.iload 6, 2) := by decide +kernel
theorem dL_isSame_19 : decode cL_isSame 19 = .ok (.irem, 1) := by decide +kernel
theorem dL_isSame_20 : decode cL_isSame 20 = .ok (.iadd, 1) := by decide +kernel
theorem dL_isSame_21 : decode cL_isSame 21 = .ok (.istore 7, 2) := by decide +kernel
theorem dL_isSame_23 : decode cL_isSame 23 = .ok (.iload 4, 2) := by decide +kernel
theorem dL_isSame_25 : decode cL_isSame 25 = .ok (.bipush 32, 2) := by decide +kernel
theorem dL_isSame_27 : decode cL_isSame 27 = .ok (.idiv, 1) := by decide +kernel
theorem dL_isSame_28 : decode cL_isSame 28 = .ok (.iconst 4, 1) := by decide +kernel
theorem dL_isSame_29 : decode cL_isSame 29 = .ok (.irem, 1) := by decide +kernel
theorem dL_isSame_30 : decode cL_isSame 30 = .ok (.istore 8, 2) := by decide +kernel
theorem dL_isSame_32 : decode cL_isSame 32 = .ok (.iload 4, 2) := by decide +kernel
theorem dL_isSame_34 : decode cL_isSame 34 = .ok (.sipush 128, 3) := by decide +kernel
theorem dL_isSame_37 : decode cL_isSame 37 = .ok (.idiv, 1) := by decide +kernel
theorem dL_isSame_38 : decode cL_isSame 38 = .ok (.iconst 4, 1) := by decide +kernel
theorem dL_isSame_39 : decode cL_isSame 39 = .ok (.irem, 1) := by decide +kernel
theorem dL_isSame_40 : decode cL_isSame 40 = .ok (.istore 9, 2) := by decide +kernel
theorem dL_isSame_42 : decode cL_isSame 42 = .ok (.iload 8, 2) := by decide +kernel
theorem dL_isSame_44 : decode cL_isSame 44 = .ok (.iload 9, 2) := by decide +kernel
theorem dL_isSame_46 : decode cL_isSame 46 = .ok (.invokestatic 19, 3) := by decide +kernel
theorem dL_isSame_49 : decode cL_isSame 49 = .ok (.istore 10, 2) := by decide +kernel
theorem dL_isSame_51 : decode cL_isSame 51 = .ok (.iload 4, 2) := by decide +kernel
theorem dL_isSame_53 : decode cL_isSame 53 = .ok (.sipush 512, 3) := by decide +kernel
theorem dL_isSame_56 : decode cL_isSame 56 = .ok (.idiv, 1) := by decide +kernel
theorem dL_isSame_57 : decode cL_isSame 57 = .ok (.iload 10, 2) := by decide +kernel
theorem dL_isSame_59 : decode cL_isSame 59 = .ok (.irem, 1) := by decide +kernel
theorem dL_isSame_60 : decode cL_isSame 60 = .ok (.istore 11, 2) := by decide +kernel
theorem dL_isSame_62 : decode cL_isSame 62 = .ok (.iload 7, 2) := by decide +kernel
theorem dL_isSame_64 : decode cL_isSame 64 = .ok (.iconst 2, 1) := by decide +kernel
theorem dL_isSame_65 : decode cL_isSame 65 = .ok (.irem, 1) := by decide +kernel
theorem dL_isSame_66 : decode cL_isSame 66 = .ok (.iconst 1, 1) := by decide +kernel
theorem dL_isSame_67 : decode cL_isSame 67 = .ok (.if_icmp .ne 8, 3) := by decide +kernel
theorem dL_isSame_70 : decode cL_isSame 70 = .ok (.iload 7, 2) := by decide +kernel
theorem dL_isSame_72 : decode cL_isSame 72 = .ok (.goto 7, 3) := by decide +kernel
theorem dL_isSame_75 : decode cL_isSame 75 = .ok (.iload 7, 2) := by decide +kernel
theorem dL_isSame_77 : decode cL_isSame 77 = .ok (.iconst 1, 1) := by decide +kernel
theorem dL_isSame_78 : decode cL_isSame 78 = .ok (.isub, 1) := by decide +kernel
theorem dL_isSame_79 : decode cL_isSame 79 = .ok (.istore 12, 2) := by decide +kernel
theorem dL_isSame_81 : decode cL_isSame 81 = .ok (.iload 8, 2) := by decide +kernel
theorem dL_isSame_83 : decode cL_isSame 83 = .ok (.iload 10, 2) := by decide +kernel
theorem dL_isSame_85 : decode cL_isSame 85 = .ok (.iload 7, 2) := by decide +kernel
theorem dL_isSame_87 : decode cL_isSame 87 = .ok (.iload 12, 2) := by decide +kernel
theorem dL_isSame_89 : decode cL_isSame 89 = .ok (.if_icmp .ne 8, 3) := by decide +kernel
theorem dL_isSame_92 : decode cL_isSame 92 = .ok (.iload 11, 2) := by decide +kernel
theorem dL_isSame_94 : decode cL_isSame 94 = .ok (.goto 8, 3) := by decide +kernel
theorem dL_isSame_97 : decode cL_isSame 97 = .ok (.iload 10, 2) := by decide +kernel
theorem dL_isSame_99 : decode cL_isSame 99 = .ok (.iload 11, 2) := by decide +kernel
theorem dL_isSame_101 : decode cL_isSame 101 = .ok (.iadd, 1) := by decide +kernel
theorem dL_isSame_102 : decode cL_isSame 102 = .ok (.aload_n 1, 1) := by decide +kernel
theorem dL_isSame_103 : decode cL_isSame 103 = .ok (.iload 5, 2) := by decide +kernel
theorem dL_isSame_105 : decode cL_isSame 105 = .ok (.laload, 1) := by decide +kernel
theorem dL_isSame_106 : decode cL_isSame 106 = .ok (.iload 6, 2) := by decide +kernel
theorem dL_isSame_108 : decode cL_isSame 108 = .ok (.iload 12, 2) := by decide +kernel
theorem dL_isSame_110 : decode cL_isSame 110 = .ok (.invokestatic 23, 3) := by decide +kernel
theorem dL_isSame_113 : decode cL_isSame 113 = .ok (.aload_n 1, 1) := by decide +kernel
theorem dL_isSame_114 : decode cL_isSame 114 = .ok (.iload 5, 2) := by decide +kernel
theorem dL_isSame_116 : decode cL_isSame 116 = .ok (.laload, 1) := by decide +kernel
theorem dL_isSame_117 : decode cL_isSame 117 = .ok (.iload 6, 2) := by decide +kernel
theorem dL_isSame_119 : decode cL_isSame 119 = .ok (.iload 12, 2) := by decide +kernel
theorem dL_isSame_121 : decode cL_isSame 121 = .ok (.iconst 1, 1) := by decide +kernel
theorem dL_isSame_122 : decode cL_isSame 122 = .ok (.iadd, 1) := by decide +kernel
theorem dL_isSame_123 : decode cL_isSame 123 = .ok (.invokestatic 23, 3) := by decide +kernel
theorem dL_isSame_126 : decode cL_isSame 126 = .ok (.invokestatic 27, 3) := by decide +kernel
theorem dL_isSame_129 : decode cL_isSame 129 = .ok (.istore 13, 2) := by decide +kernel
theorem dL_isSame_131 : decode cL_isSame 131 = .ok (.aload_n 0, 1) := by decide +kernel
theorem dL_isSame_132 : decode cL_isSame 132 = .ok (.iload 5, 2) := by decide +kernel
theorem dL_isSame_134 : decode cL_isSame 134 = .ok (.iload 7, 2) := by decide +kernel
theorem dL_isSame_136 : decode cL_isSame 136 = .ok (.invokevirtual 31, 3) := by decide +kernel
theorem dL_isSame_139 : decode cL_isSame 139 = .ok (.iload 6, 2) := by decide +kernel
theorem dL_isSame_141 : decode cL_isSame 141 = .ok (.iload 7, 2) := by decide +kernel
theorem dL_isSame_143 : decode cL_isSame 143 = .ok (.invokestatic 36, 3) := by decide +kernel
theorem dL_isSame_146 : decode cL_isSame 146 = .ok (.if_icmp .ne 67, 3) := by decide +kernel
theorem dL_isSame_149 : decode cL_isSame 149 = .ok (.aload_n 0, 1) := by decide +kernel
theorem dL_isSame_150 : decode cL_isSame 150 = .ok (.iload 5, 2) := by decide +kernel
theorem dL_isSame_152 : decode cL_isSame 152 = .ok (.iload 7, 2) := by decide +kernel
theorem dL_isSame_154 : decode cL_isSame 154 = .ok (.invokevirtual 37, 3) := by decide +kernel
theorem dL_isSame_157 : decode cL_isSame 157 = .ok (.aload_n 1, 1) := by decide +kernel
theorem dL_isSame_158 : decode cL_isSame 158 = .ok (.iload 5, 2) := by decide +kernel
theorem dL_isSame_160 : decode cL_isSame 160 = .ok (.laload, 1) := by decide +kernel
theorem dL_isSame_161 : decode cL_isSame 161 = .ok (.iload 6, 2) := by decide +kernel
theorem dL_isSame_163 : decode cL_isSame 163 = .ok (.iload 7, 2) := by decide +kernel
theorem dL_isSame_165 : decode cL_isSame 165 = .ok (.invokestatic 23, 3) := by decide +kernel
theorem dL_isSame_168 : decode cL_isSame 168 = .ok (.if_icmp .ne 45, 3) := by decide +kernel
theorem dL_isSame_171 : decode cL_isSame 171 = .ok (.aload_n 0, 1) := by decide +kernel
theorem dL_isSame_172 : decode cL_isSame 172 = .ok (.iload 5, 2) := by decide +kernel
theorem dL_isSame_174 : decode cL_isSame 174 = .ok (.iload 8, 2) := by decide +kernel
theorem dL_isSame_176 : decode cL_isSame 176 = .ok (.iload 7, 2) := by decide +kernel
theorem dL_isSame_178 : decode cL_isSame 178 = .ok (.iload 9, 2) := by decide +kernel
theorem dL_isSame_180 : decode cL_isSame 180 = .ok (.iload 11, 2) := by decide +kernel
theorem dL_isSame_182 : decode cL_isSame 182 = .ok (.invokevirtual 39, 3) := by decide +kernel
theorem dL_isSame_185 : decode cL_isSame 185 = .ok (.iload 13, 2) := by decide +kernel
theorem dL_isSame_187 : decode cL_isSame 187 = .ok (.if_icmp .ne 26, 3) := by decide +kernel
theorem dL_isSame_190 : decode cL_isSame 190 = .ok (.aload_n 0, 1) := by decide +kernel
theorem dL_isSame_191 : decode cL_isSame 191 = .ok (.iload 5, 2) := by decide +kernel
theorem dL_isSame_193 : decode cL_isSame 193 = .ok (.iload 8, 2) := by decide +kernel
theorem dL_isSame_195 : decode cL_isSame 195 = .ok (.iload 7, 2) := by decide +kernel
theorem dL_isSame_197 : decode cL_isSame 197 = .ok (.iload 9, 2) := by decide +kernel
theorem dL_isSame_199 : decode cL_isSame 199 = .ok (.iload 11, 2) := by decide +kernel
theorem dL_isSame_201 : decode cL_isSame 201 = .ok (.invokevirtual 40, 3) := by decide +kernel
theorem dL_isSame_204 : decode cL_isSame 204 = .ok (.iload 13, 2) := by decide +kernel
theorem dL_isSame_206 : decode cL_isSame 206 = .ok (.if_icmp .ne 7, 3) := by decide +kernel
theorem dL_isSame_209 : decode cL_isSame 209 = .ok (.iconst 1, 1) := by decide +kernel
theorem dL_isSame_210 : decode cL_isSame 210 = .ok (.goto 4, 3) := by decide +kernel
theorem dL_isSame_213 : decode cL_isSame 213 = .ok (.iconst 0, 1) := by decide +kernel
theorem dL_isSame_214 : decode cL_isSame 214 = .ok (.istore 14, 2) := by decide +kernel
theorem dL_isSame_216 : decode cL_isSame 216 = .ok (.iload 14, 2) := by decide +kernel
theorem dL_isSame_218 : decode cL_isSame 218 = .ok (.ifCond .eq 106, 3) := by decide +kernel
theorem dL_isSame_221 : decode cL_isSame 221 = .ok (.aload_n 0, 1) := by decide +kernel
theorem dL_isSame_222 : decode cL_isSame 222 = .ok (.iconst 0, 1) := by decide +kernel
theorem dL_isSame_223 : decode cL_isSame 223 = .ok (.invokevirtual 43, 3) := by decide +kernel
theorem dL_isSame_226 : decode cL_isSame 226 = .ok (.aload_n 2, 1) := by decide +kernel
theorem dL_isSame_227 : decode cL_isSame 227 = .ok (.bipush 6, 2) := by decide +kernel
theorem dL_isSame_229 : decode cL_isSame 229 = .ok (.iaload, 1) := by decide +kernel
theorem dL_isSame_230 : decode cL_isSame 230 = .ok (.if_icmp .ne 94, 3) := by decide +kernel
theorem dL_isSame_233 : decode cL_isSame 233 = .ok (.aload_n 0, 1) := by decide +kernel
theorem dL_isSame_234 : decode cL_isSame 234 = .ok (.iconst 1, 1) := by decide +kernel
theorem dL_isSame_235 : decode cL_isSame 235 = .ok (.invokevirtual 43, 3) := by decide +kernel
theorem dL_isSame_238 : decode cL_isSame 238 = .ok (.aload_n 2, 1) := by decide +kernel
theorem dL_isSame_239 : decode cL_isSame 239 = .ok (.bipush 7, 2) := by decide +kernel
theorem dL_isSame_241 : decode cL_isSame 241 = .ok (.iaload, 1) := by decide +kernel
theorem dL_isSame_242 : decode cL_isSame 242 = .ok (.if_icmp .ne 82, 3) := by decide +kernel
theorem dL_isSame_245 : decode cL_isSame 245 = .ok (.aload_n 0, 1) := by decide +kernel
theorem dL_isSame_246 : decode cL_isSame 246 = .ok (.iconst 2, 1) := by decide +kernel
theorem dL_isSame_247 : decode cL_isSame 247 = .ok (.invokevirtual 43, 3) := by decide +kernel
theorem dL_isSame_250 : decode cL_isSame 250 = .ok (.aload_n 2, 1) := by decide +kernel
theorem dL_isSame_251 : decode cL_isSame 251 = .ok (.bipush 8, 2) := by decide +kernel
theorem dL_isSame_253 : decode cL_isSame 253 = .ok (.iaload, 1) := by decide +kernel
theorem dL_isSame_254 : decode cL_isSame 254 = .ok (.if_icmp .ne 70, 3) := by decide +kernel
theorem dL_isSame_257 : decode cL_isSame 257 = .ok (.aload_n 0, 1) := by decide +kernel
theorem dL_isSame_258 : decode cL_isSame 258 = .ok (.iconst 3, 1) := by decide +kernel
theorem dL_isSame_259 : decode cL_isSame 259 = .ok (.invokevirtual 43, 3) := by decide +kernel
theorem dL_isSame_262 : decode cL_isSame 262 = .ok (.aload_n 2, 1) := by decide +kernel
theorem dL_isSame_263 : decode cL_isSame 263 = .ok (.bipush 9, 2) := by decide +kernel
theorem dL_isSame_265 : decode cL_isSame 265 = .ok (.iaload, 1) := by decide +kernel
theorem dL_isSame_266 : decode cL_isSame 266 = .ok (.if_icmp .ne 58, 3) := by decide +kernel
theorem dL_isSame_269 : decode cL_isSame 269 = .ok (.aload_n 0, 1) := by decide +kernel
theorem dL_isSame_270 : decode cL_isSame 270 = .ok (.iconst 4, 1) := by decide +kernel
theorem dL_isSame_271 : decode cL_isSame 271 = .ok (.invokevirtual 43, 3) := by decide +kernel
theorem dL_isSame_274 : decode cL_isSame 274 = .ok (.aload_n 2, 1) := by decide +kernel
theorem dL_isSame_275 : decode cL_isSame 275 = .ok (.iconst 4, 1) := by decide +kernel
theorem dL_isSame_276 : decode cL_isSame 276 = .ok (.iaload, 1) := by decide +kernel
theorem dL_isSame_277 : decode cL_isSame 277 = .ok (.if_icmp .ne 47, 3) := by decide +kernel
theorem dL_isSame_280 : decode cL_isSame 280 = .ok (.aload_n 0, 1) := by decide +kernel
theorem dL_isSame_281 : decode cL_isSame 281 = .ok (.iconst 5, 1) := by decide +kernel
theorem dL_isSame_282 : decode cL_isSame 282 = .ok (.invokevirtual 43, 3) := by decide +kernel
theorem dL_isSame_285 : decode cL_isSame 285 = .ok (.aload_n 2, 1) := by decide +kernel
theorem dL_isSame_286 : decode cL_isSame 286 = .ok (.iconst 5, 1) := by decide +kernel
theorem dL_isSame_287 : decode cL_isSame 287 = .ok (.iaload, 1) := by decide +kernel
theorem dL_isSame_288 : decode cL_isSame 288 = .ok (.if_icmp .ne 36, 3) := by decide +kernel
theorem dL_isSame_291 : decode cL_isSame 291 = .ok (.aload_n 0, 1) := by decide +kernel
theorem dL_isSame_292 : decode cL_isSame 292 = .ok (.invokevirtual 47, 3) := by decide +kernel
theorem dL_isSame_295 : decode cL_isSame 295 = .ok (.aload_n 1, 1) := by decide +kernel
theorem dL_isSame_296 : decode cL_isSame 296 = .ok (.bipush 10, 2) := by decide +kernel
theorem dL_isSame_298 : decode cL_isSame 298 = .ok (.laload, 1) := by decide +kernel
theorem dL_isSame_299 : decode cL_isSame 299 = .ok (.lcmp, 1) := by decide +kernel
theorem dL_isSame_300 : decode cL_isSame 300 = .ok (.ifCond .ne 24, 3) := by decide +kernel
theorem dL_isSame_303 : decode cL_isSame 303 = .ok (.aload_n 0, 1) := by decide +kernel
theorem dL_isSame_304 : decode cL_isSame 304 = .ok (.iload 8, 2) := by decide +kernel
theorem dL_isSame_306 : decode cL_isSame 306 = .ok (.invokevirtual 51, 3) := by decide +kernel
theorem dL_isSame_309 : decode cL_isSame 309 = .ok (.aload_n 1, 1) := by decide +kernel
theorem dL_isSame_310 : decode cL_isSame 310 = .ok (.bipush 11, 2) := by decide +kernel
theorem dL_isSame_312 : decode cL_isSame 312 = .ok (.iload 8, 2) := by decide +kernel
theorem dL_isSame_314 : decode cL_isSame 314 = .ok (.iadd, 1) := by decide +kernel
theorem dL_isSame_315 : decode cL_isSame 315 = .ok (.laload, 1) := by decide +kernel
theorem dL_isSame_316 : decode cL_isSame 316 = .ok (.lcmp, 1) := by decide +kernel
theorem dL_isSame_317 : decode cL_isSame 317 = .ok (.ifCond .ne 7, 3) := by decide +kernel
theorem dL_isSame_320 : decode cL_isSame 320 = .ok (.iconst 1, 1) := by decide +kernel
theorem dL_isSame_321 : decode cL_isSame 321 = .ok (.goto 4, 3) := by decide +kernel
theorem dL_isSame_324 : decode cL_isSame 324 = .ok (.iconst 0, 1) := by decide +kernel
theorem dL_isSame_325 : decode cL_isSame 325 = .ok (.istore 14, 2) := by decide +kernel
theorem dL_isSame_327 : decode cL_isSame 327 = .ok (.iload 4, 2) := by decide +kernel
theorem dL_isSame_329 : decode cL_isSame 329 = .ok (.iconst 3, 1) := by decide +kernel
theorem dL_isSame_330 : decode cL_isSame 330 = .ok (.idiv, 1) := by decide +kernel
theorem dL_isSame_331 : decode cL_isSame 331 = .ok (.iconst 4, 1) := by decide +kernel
theorem dL_isSame_332 : decode cL_isSame 332 = .ok (.irem, 1) := by decide +kernel
theorem dL_isSame_333 : decode cL_isSame 333 = .ok (.istore 15, 2) := by decide +kernel
theorem dL_isSame_335 : decode cL_isSame 335 = .ok (.iload 4, 2) := by decide +kernel
theorem dL_isSame_337 : decode cL_isSame 337 = .ok (.bipush 12, 2) := by decide +kernel
theorem dL_isSame_339 : decode cL_isSame 339 = .ok (.idiv, 1) := by decide +kernel
theorem dL_isSame_340 : decode cL_isSame 340 = .ok (.iconst 4, 1) := by decide +kernel
theorem dL_isSame_341 : decode cL_isSame 341 = .ok (.irem, 1) := by decide +kernel
theorem dL_isSame_342 : decode cL_isSame 342 = .ok (.istore 16, 2) := by decide +kernel
theorem dL_isSame_344 : decode cL_isSame 344 = .ok (.iload 4, 2) := by decide +kernel
theorem dL_isSame_346 : decode cL_isSame 346 = .ok (.bipush 48, 2) := by decide +kernel
theorem dL_isSame_348 : decode cL_isSame 348 = .ok (.idiv, 1) := by decide +kernel
theorem dL_isSame_349 : decode cL_isSame 349 = .ok (.bipush 7, 2) := by decide +kernel
theorem dL_isSame_351 : decode cL_isSame 351 = .ok (.irem, 1) := by decide +kernel
theorem dL_isSame_352 : decode cL_isSame 352 = .ok (.istore 17, 2) := by decide +kernel
theorem dL_isSame_354 : decode cL_isSame 354 = .ok (.aload_n 3, 1) := by decide +kernel
theorem dL_isSame_355 : decode cL_isSame 355 = .ok (.bipush 7, 2) := by decide +kernel
theorem dL_isSame_357 : decode cL_isSame 357 = .ok (.iload 15, 2) := by decide +kernel
theorem dL_isSame_359 : decode cL_isSame 359 = .ok (.imul, 1) := by decide +kernel
theorem dL_isSame_360 : decode cL_isSame 360 = .ok (.iload 17, 2) := by decide +kernel
theorem dL_isSame_362 : decode cL_isSame 362 = .ok (.iadd, 1) := by decide +kernel
theorem dL_isSame_363 : decode cL_isSame 363 = .ok (.iaload, 1) := by decide +kernel
theorem dL_isSame_364 : decode cL_isSame 364 = .ok (.aload_n 3, 1) := by decide +kernel
theorem dL_isSame_365 : decode cL_isSame 365 = .ok (.bipush 7, 2) := by decide +kernel
theorem dL_isSame_367 : decode cL_isSame 367 = .ok (.iload 16, 2) := by decide +kernel
theorem dL_isSame_369 : decode cL_isSame 369 = .ok (.imul, 1) := by decide +kernel
theorem dL_isSame_370 : decode cL_isSame 370 = .ok (.iload 17, 2) := by decide +kernel
theorem dL_isSame_372 : decode cL_isSame 372 = .ok (.iadd, 1) := by decide +kernel
theorem dL_isSame_373 : decode cL_isSame 373 = .ok (.iaload, 1) := by decide +kernel
theorem dL_isSame_374 : decode cL_isSame 374 = .ok (.isub, 1) := by decide +kernel
theorem dL_isSame_375 : decode cL_isSame 375 = .ok (.istore 18, 2) := by decide +kernel
theorem dL_isSame_377 : decode cL_isSame 377 = .ok (.iload 14, 2) := by decide +kernel
theorem dL_isSame_379 : decode cL_isSame 379 = .ok (.ifCond .eq 51, 3) := by decide +kernel
theorem dL_isSame_382 : decode cL_isSame 382 = .ok (.aload_n 0, 1) := by decide +kernel
theorem dL_isSame_383 : decode cL_isSame 383 = .ok (.iload 15, 2) := by decide +kernel
theorem dL_isSame_385 : decode cL_isSame 385 = .ok (.iload 16, 2) := by decide +kernel
theorem dL_isSame_387 : decode cL_isSame 387 = .ok (.iload 17, 2) := by decide +kernel
theorem dL_isSame_389 : decode cL_isSame 389 = .ok (.iconst 1, 1) := by decide +kernel
theorem dL_isSame_390 : decode cL_isSame 390 = .ok (.iadd, 1) := by decide +kernel
theorem dL_isSame_391 : decode cL_isSame 391 = .ok (.invokevirtual 55, 3) := by decide +kernel
theorem dL_isSame_394 : decode cL_isSame 394 = .ok (.iload 18, 2) := by decide +kernel
theorem dL_isSame_396 : decode cL_isSame 396 = .ok (.ifCond .ge 9, 3) := by decide +kernel
theorem dL_isSame_399 : decode cL_isSame 399 = .ok (.iload 18, 2) := by decide +kernel
theorem dL_isSame_401 : decode cL_isSame 401 = .ok (.ineg, 1) := by decide +kernel
theorem dL_isSame_402 : decode cL_isSame 402 = .ok (.goto 5, 3) := by decide +kernel
theorem dL_isSame_405 : decode cL_isSame 405 = .ok (.iload 18, 2) := by decide +kernel
theorem dL_isSame_407 : decode cL_isSame 407 = .ok (.if_icmp .ne 23, 3) := by decide +kernel
theorem dL_isSame_410 : decode cL_isSame 410 = .ok (.aload_n 0, 1) := by decide +kernel
theorem dL_isSame_411 : decode cL_isSame 411 = .ok (.iload 5, 2) := by decide +kernel
theorem dL_isSame_413 : decode cL_isSame 413 = .ok (.invokevirtual 59, 3) := by decide +kernel
theorem dL_isSame_416 : decode cL_isSame 416 = .ok (.aload_n 1, 1) := by decide +kernel
theorem dL_isSame_417 : decode cL_isSame 417 = .ok (.aload_n 2, 1) := by decide +kernel
theorem dL_isSame_418 : decode cL_isSame 418 = .ok (.iload 5, 2) := by decide +kernel
theorem dL_isSame_420 : decode cL_isSame 420 = .ok (.invokestatic 62, 3) := by decide +kernel
theorem dL_isSame_423 : decode cL_isSame 423 = .ok (.if_icmp .ne 7, 3) := by decide +kernel
theorem dL_isSame_426 : decode cL_isSame 426 = .ok (.iconst 1, 1) := by decide +kernel
theorem dL_isSame_427 : decode cL_isSame 427 = .ok (.goto 4, 3) := by decide +kernel
theorem dL_isSame_430 : decode cL_isSame 430 = .ok (.iconst 0, 1) := by decide +kernel
theorem dL_isSame_431 : decode cL_isSame 431 = .ok (.istore 14, 2) := by decide +kernel
theorem dL_isSame_433 : decode cL_isSame 433 = .ok (.aload_n 1, 1) := by decide +kernel
theorem dL_isSame_434 : decode cL_isSame 434 = .ok (.iconst 2, 1) := by decide +kernel
theorem dL_isSame_435 : decode cL_isSame 435 = .ok (.iconst 2, 1) := by decide +kernel
theorem dL_isSame_436 : decode cL_isSame 436 = .ok (.iload 15, 2) := by decide +kernel
theorem dL_isSame_438 : decode cL_isSame 438 = .ok (.imul, 1) := by decide +kernel
theorem dL_isSame_439 : decode cL_isSame 439 = .ok (.iadd, 1) := by decide +kernel
theorem dL_isSame_440 : decode cL_isSame 440 = .ok (.iload 5, 2) := by decide +kernel
theorem dL_isSame_442 : decode cL_isSame 442 = .ok (.iadd, 1) := by decide +kernel
theorem dL_isSame_443 : decode cL_isSame 443 = .ok (.laload, 1) := by decide +kernel
theorem dL_isSame_444 : decode cL_isSame 444 = .ok (.lstore 19, 2) := by decide +kernel
theorem dL_isSame_446 : decode cL_isSame 446 = .ok (.iload 4, 2) := by decide +kernel
theorem dL_isSame_448 : decode cL_isSame 448 = .ok (.sipush 400, 3) := by decide +kernel
theorem dL_isSame_451 : decode cL_isSame 451 = .ok (.idiv, 1) := by decide +kernel
theorem dL_isSame_452 : decode cL_isSame 452 = .ok (.iconst 2, 1) := by decide +kernel
theorem dL_isSame_453 : decode cL_isSame 453 = .ok (.irem, 1) := by decide +kernel
theorem dL_isSame_454 : decode cL_isSame 454 = .ok (.ifCond .ne 10, 3) := by decide +kernel
theorem dL_isSame_457 : decode cL_isSame 457 = .ok (.aload_n 1, 1) := by decide +kernel
theorem dL_isSame_458 : decode cL_isSame 458 = .ok (.iload 5, 2) := by decide +kernel
theorem dL_isSame_460 : decode cL_isSame 460 = .ok (.laload, 1) := by decide +kernel
theorem dL_isSame_461 : decode cL_isSame 461 = .ok (.goto 14, 3) := by decide +kernel
theorem dL_isSame_464 : decode cL_isSame 464 = .ok (.aload_n 1, 1) := by decide +kernel
theorem dL_isSame_465 : decode cL_isSame 465 = .ok (.iconst 2, 1) := by decide +kernel
theorem dL_isSame_466 : decode cL_isSame 466 = .ok (.iconst 2, 1) := by decide +kernel
theorem dL_isSame_467 : decode cL_isSame 467 = .ok (.iload 16, 2) := by decide +kernel
theorem dL_isSame_469 : decode cL_isSame 469 = .ok (.imul, 1) := by decide +kernel
theorem dL_isSame_470 : decode cL_isSame 470 = .ok (.iadd, 1) := by decide +kernel
theorem dL_isSame_471 : decode cL_isSame 471 = .ok (.iload 5, 2) := by decide +kernel
theorem dL_isSame_473 : decode cL_isSame 473 = .ok (.iadd, 1) := by decide +kernel
theorem dL_isSame_474 : decode cL_isSame 474 = .ok (.laload, 1) := by decide +kernel
theorem dL_isSame_475 : decode cL_isSame 475 = .ok (.lstore 21, 2) := by decide +kernel
theorem dL_isSame_477 : decode cL_isSame 477 = .ok (.iconst 0, 1) := by decide +kernel
theorem dL_isSame_478 : decode cL_isSame 478 = .ok (.istore 23, 2) := by decide +kernel
theorem dL_isSame_480 : decode cL_isSame 480 = .ok (.iconst 1, 1) := by decide +kernel
theorem dL_isSame_481 : decode cL_isSame 481 = .ok (.istore 24, 2) := by decide +kernel
theorem dL_isSame_483 : decode cL_isSame 483 = .ok (.iload 24, 2) := by decide +kernel
theorem dL_isSame_485 : decode cL_isSame 485 = .ok (.iload 6, 2) := by decide +kernel
theorem dL_isSame_487 : decode cL_isSame 487 = .ok (.if_icmp .gt 54, 3) := by decide +kernel
theorem dL_isSame_490 : decode cL_isSame 490 = .ok (.iload 23, 2) := by decide +kernel
theorem dL_isSame_492 : decode cL_isSame 492 = .ok (.lload 19, 2) := by decide +kernel
theorem dL_isSame_494 : decode cL_isSame 494 = .ok (.lconst 0, 1) := by decide +kernel
theorem dL_isSame_495 : decode cL_isSame 495 = .ok (.lcmp, 1) := by decide +kernel
theorem dL_isSame_496 : decode cL_isSame 496 = .ok (.ifCond .lt 10, 3) := by decide +kernel
theorem dL_isSame_499 : decode cL_isSame 499 = .ok (.lload 21, 2) := by decide +kernel
theorem dL_isSame_501 : decode cL_isSame 501 = .ok (.lconst 0, 1) := by decide +kernel
theorem dL_isSame_502 : decode cL_isSame 502 = .ok (.lcmp, 1) := by decide +kernel
theorem dL_isSame_503 : decode cL_isSame 503 = .ok (.ifCond .ge 7, 3) := by decide +kernel
theorem dL_isSame_506 : decode cL_isSame 506 = .ok (.iconst 0, 1) := by decide +kernel
theorem dL_isSame_507 : decode cL_isSame 507 = .ok (.goto 25, 3) := by decide +kernel
theorem dL_isSame_510 : decode cL_isSame 510 = .ok (.lload 19, 2) := by decide +kernel
theorem dL_isSame_512 : decode cL_isSame 512 = .ok (.iload 24, 2) := by decide +kernel
theorem dL_isSame_514 : decode cL_isSame 514 = .ok (.invokestatic 13, 3) := by decide +kernel
theorem dL_isSame_517 : decode cL_isSame 517 = .ok (.lload 21, 2) := by decide +kernel
theorem dL_isSame_519 : decode cL_isSame 519 = .ok (.iload 24, 2) := by decide +kernel
theorem dL_isSame_521 : decode cL_isSame 521 = .ok (.invokestatic 13, 3) := by decide +kernel
theorem dL_isSame_524 : decode cL_isSame 524 = .ok (.if_icmp .eq 7, 3) := by decide +kernel
theorem dL_isSame_527 : decode cL_isSame 527 = .ok (.iconst 1, 1) := by decide +kernel
theorem dL_isSame_528 : decode cL_isSame 528 = .ok (.goto 4, 3) := by decide +kernel
theorem dL_isSame_531 : decode cL_isSame 531 = .ok (.iconst 0, 1) := by decide +kernel
theorem dL_isSame_532 : decode cL_isSame 532 = .ok (.iadd, 1) := by decide +kernel
theorem dL_isSame_533 : decode cL_isSame 533 = .ok (.istore 23, 2) := by decide +kernel
theorem dL_isSame_535 : decode cL_isSame 535 = .ok (.iinc 24 1, 3) := by decide +kernel
theorem dL_isSame_538 : decode cL_isSame 538 = .ok (.goto (-55), 3) := by decide +kernel
theorem dL_isSame_541 : decode cL_isSame 541 = .ok (.lload 19, 2) := by decide +kernel
theorem dL_isSame_543 : decode cL_isSame 543 = .ok (.lconst 0, 1) := by decide +kernel
theorem dL_isSame_544 : decode cL_isSame 544 = .ok (.lcmp, 1) := by decide +kernel
theorem dL_isSame_545 : decode cL_isSame 545 = .ok (.ifCond .lt 10, 3) := by decide +kernel
theorem dL_isSame_548 : decode cL_isSame 548 = .ok (.lload 21, 2) := by decide +kernel
theorem dL_isSame_550 : decode cL_isSame 550 = .ok (.lconst 0, 1) := by decide +kernel
theorem dL_isSame_551 : decode cL_isSame 551 = .ok (.lcmp, 1) := by decide +kernel
theorem dL_isSame_552 : decode cL_isSame 552 = .ok (.ifCond .ge 7, 3) := by decide +kernel
theorem dL_isSame_555 : decode cL_isSame 555 = .ok (.iconst (-1), 1) := by decide +kernel
theorem dL_isSame_556 : decode cL_isSame 556 = .ok (.goto 5, 3) := by decide +kernel
theorem dL_isSame_559 : decode cL_isSame 559 = .ok (.iload 23, 2) := by decide +kernel
theorem dL_isSame_561 : decode cL_isSame 561 = .ok (.istore 23, 2) := by decide +kernel
theorem dL_isSame_563 : decode cL_isSame 563 = .ok (.iload 14, 2) := by decide +kernel
theorem dL_isSame_565 : decode cL_isSame 565 = .ok (.ifCond .eq 37, 3) := by decide +kernel
theorem dL_isSame_568 : decode cL_isSame 568 = .ok (.aload_n 0, 1) := by decide +kernel
theorem dL_isSame_569 : decode cL_isSame 569 = .ok (.iload 15, 2) := by decide +kernel
theorem dL_isSame_571 : decode cL_isSame 571 = .ok (.iload 4, 2) := by decide +kernel
theorem dL_isSame_573 : decode cL_isSame 573 = .ok (.sipush 400, 3) := by decide +kernel
theorem dL_isSame_576 : decode cL_isSame 576 = .ok (.idiv, 1) := by decide +kernel
theorem dL_isSame_577 : decode cL_isSame 577 = .ok (.iconst 2, 1) := by decide +kernel
theorem dL_isSame_578 : decode cL_isSame 578 = .ok (.irem, 1) := by decide +kernel
theorem dL_isSame_579 : decode cL_isSame 579 = .ok (.ifCond .ne 7, 3) := by decide +kernel
theorem dL_isSame_582 : decode cL_isSame 582 = .ok (.iconst (-1), 1) := by decide +kernel
theorem dL_isSame_583 : decode cL_isSame 583 = .ok (.goto 5, 3) := by decide +kernel
theorem dL_isSame_586 : decode cL_isSame 586 = .ok (.iload 16, 2) := by decide +kernel
theorem dL_isSame_588 : decode cL_isSame 588 = .ok (.iload 5, 2) := by decide +kernel
theorem dL_isSame_590 : decode cL_isSame 590 = .ok (.invokevirtual 65, 3) := by decide +kernel
theorem dL_isSame_593 : decode cL_isSame 593 = .ok (.iload 23, 2) := by decide +kernel
theorem dL_isSame_595 : decode cL_isSame 595 = .ok (.if_icmp .ne 7, 3) := by decide +kernel
theorem dL_isSame_598 : decode cL_isSame 598 = .ok (.iconst 1, 1) := by decide +kernel
theorem dL_isSame_599 : decode cL_isSame 599 = .ok (.goto 4, 3) := by decide +kernel
theorem dL_isSame_602 : decode cL_isSame 602 = .ok (.iconst 0, 1) := by decide +kernel
theorem dL_isSame_603 : decode cL_isSame 603 = .ok (.ireturn, 1) := by decide +kernel
theorem dL_isPlayed_0 : decode cL_isPlayed 0 = .ok (.iload_n 3, 1) := by decide +kernel
theorem dL_isPlayed_1 : decode cL_isPlayed 1 = .ok (.ifCond .ne 102, 3) := by decide +kernel
theorem dL_isPlayed_4 : decode cL_isPlayed 4 = .ok (.iload 4, 2) := by decide +kernel
theorem dL_isPlayed_6 : decode cL_isPlayed 6 = .ok (.iconst 2, 1) := by decide +kernel
theorem dL_isPlayed_7 : decode cL_isPlayed 7 = .ok (.irem, 1) := by decide +kernel
theorem dL_isPlayed_8 : decode cL_isPlayed 8 = .ok (.istore 5, 2) := by decide +kernel
theorem dL_isPlayed_10 : decode cL_isPlayed 10 = .ok (.aload_n 2, 1) := by decide +kernel
theorem dL_isPlayed_11 : decode cL_isPlayed 11 = .ok (.iconst 4, 1) := by decide +kernel
theorem dL_isPlayed_12 : decode cL_isPlayed 12 = .ok (.iaload, 1) := by decide +kernel
theorem dL_isPlayed_13 : decode cL_isPlayed 13 = .ok (.iconst 1, 1) := by decide +kernel
theorem dL_isPlayed_14 : decode cL_isPlayed 14 = .ok (.if_icmp .eq 20, 3) := by decide +kernel
theorem dL_isPlayed_17 : decode cL_isPlayed 17 = .ok (.aload_n 2, 1) := by decide +kernel
theorem dL_isPlayed_18 : decode cL_isPlayed 18 = .ok (.iconst 2, 1) := by decide +kernel
theorem dL_isPlayed_19 : decode cL_isPlayed 19 = .ok (.iload 5, 2) := by decide +kernel
theorem dL_isPlayed_21 : decode cL_isPlayed 21 = .ok (.iadd, 1) := by decide +kernel
theorem dL_isPlayed_22 : decode cL_isPlayed 22 = .ok (.iaload, 1) := by decide +kernel
theorem dL_isPlayed_23 : decode cL_isPlayed 23 = .ok (.aload_n 2, 1) := by decide +kernel
theorem dL_isPlayed_24 : decode cL_isPlayed 24 = .ok (.bipush 13, 2) := by decide +kernel
theorem dL_isPlayed_26 : decode cL_isPlayed 26 = .ok (.iaload, 1) := by decide +kernel
theorem dL_isPlayed_27 : decode cL_isPlayed 27 = .ok (.ishr, 1) := by decide +kernel
theorem dL_isPlayed_28 : decode cL_isPlayed 28 = .ok (.iconst 1, 1) := by decide +kernel
theorem dL_isPlayed_29 : decode cL_isPlayed 29 = .ok (.iand, 1) := by decide +kernel
theorem dL_isPlayed_30 : decode cL_isPlayed 30 = .ok (.iconst 1, 1) := by decide +kernel
theorem dL_isPlayed_31 : decode cL_isPlayed 31 = .ok (.if_icmp .ne 5, 3) := by decide +kernel
theorem dL_isPlayed_34 : decode cL_isPlayed 34 = .ok (.iconst 1, 1) := by decide +kernel
theorem dL_isPlayed_35 : decode cL_isPlayed 35 = .ok (.ireturn, 1) := by decide +kernel
theorem dL_isPlayed_36 : decode cL_isPlayed 36 = .ok (.aload_n 2, 1) := by decide +kernel
theorem dL_isPlayed_37 : decode cL_isPlayed 37 = .ok (.iconst 4, 1) := by decide +kernel
theorem dL_isPlayed_38 : decode cL_isPlayed 38 = .ok (.iconst 1, 1) := by decide +kernel
theorem dL_isPlayed_39 : decode cL_isPlayed 39 = .ok (.iastore, 1) := by decide +kernel
theorem dL_isPlayed_40 : decode cL_isPlayed 40 = .ok (.aload_n 2, 1) := by decide +kernel
theorem dL_isPlayed_41 : decode cL_isPlayed 41 = .ok (.iconst 5, 1) := by decide +kernel
theorem dL_isPlayed_42 : decode cL_isPlayed 42 = .ok (.iload 5, 2) := by decide +kernel
theorem dL_isPlayed_44 : decode cL_isPlayed 44 = .ok (.iastore, 1) := by decide +kernel
theorem dL_isPlayed_45 : decode cL_isPlayed 45 = .ok (.aload_n 2, 1) := by decide +kernel
theorem dL_isPlayed_46 : decode cL_isPlayed 46 = .ok (.bipush 6, 2) := by decide +kernel
theorem dL_isPlayed_48 : decode cL_isPlayed 48 = .ok (.iconst 0, 1) := by decide +kernel
theorem dL_isPlayed_49 : decode cL_isPlayed 49 = .ok (.iastore, 1) := by decide +kernel
theorem dL_isPlayed_50 : decode cL_isPlayed 50 = .ok (.aload_n 2, 1) := by decide +kernel
theorem dL_isPlayed_51 : decode cL_isPlayed 51 = .ok (.bipush 7, 2) := by decide +kernel
theorem dL_isPlayed_53 : decode cL_isPlayed 53 = .ok (.bipush 20, 2) := by decide +kernel
theorem dL_isPlayed_55 : decode cL_isPlayed 55 = .ok (.iastore, 1) := by decide +kernel
theorem dL_isPlayed_56 : decode cL_isPlayed 56 = .ok (.aload_n 2, 1) := by decide +kernel
theorem dL_isPlayed_57 : decode cL_isPlayed 57 = .ok (.bipush 8, 2) := by decide +kernel
theorem dL_isPlayed_59 : decode cL_isPlayed 59 = .ok (.iconst 0, 1) := by decide +kernel
theorem dL_isPlayed_60 : decode cL_isPlayed 60 = .ok (.iastore, 1) := by decide +kernel
theorem dL_isPlayed_61 : decode cL_isPlayed 61 = .ok (.aload_n 2, 1) := by decide +kernel
theorem dL_isPlayed_62 : decode cL_isPlayed 62 = .ok (.bipush 9, 2) := by decide +kernel
theorem dL_isPlayed_64 : decode cL_isPlayed 64 = .ok (.iconst 0, 1) := by decide +kernel
theorem dL_isPlayed_65 : decode cL_isPlayed 65 = .ok (.iastore, 1) := by decide +kernel
theorem dL_isPlayed_66 : decode cL_isPlayed 66 = .ok (.aload_n 2, 1) := by decide +kernel
theorem dL_isPlayed_67 : decode cL_isPlayed 67 = .ok (.bipush 10, 2) := by decide +kernel
theorem dL_isPlayed_69 : decode cL_isPlayed 69 = .ok (.iconst 0, 1) := by decide +kernel
theorem dL_isPlayed_70 : decode cL_isPlayed 70 = .ok (.iastore, 1) := by decide +kernel
theorem dL_isPlayed_71 : decode cL_isPlayed 71 = .ok (.aload_n 2, 1) := by decide +kernel
theorem dL_isPlayed_72 : decode cL_isPlayed 72 = .ok (.bipush 11, 2) := by decide +kernel
theorem dL_isPlayed_74 : decode cL_isPlayed 74 = .ok (.iconst 0, 1) := by decide +kernel
theorem dL_isPlayed_75 : decode cL_isPlayed 75 = .ok (.iastore, 1) := by decide +kernel
theorem dL_isPlayed_76 : decode cL_isPlayed 76 = .ok (.aload_n 2, 1) := by decide +kernel
theorem dL_isPlayed_77 : decode cL_isPlayed 77 = .ok (.bipush 12, 2) := by decide +kernel
theorem dL_isPlayed_79 : decode cL_isPlayed 79 = .ok (.dup2, 1) := by decide +kernel
theorem dL_isPlayed_80 : decode cL_isPlayed 80 = .ok (.iaload, 1) := by decide +kernel
theorem dL_isPlayed_81 : decode cL_isPlayed 81 = .ok (.iconst 1, 1) := by decide +kernel
theorem dL_isPlayed_82 : decode cL_isPlayed 82 = .ok (.iadd, 1) := by decide +kernel
theorem dL_isPlayed_83 : decode cL_isPlayed 83 = .ok (.iastore, 1) := by decide +kernel
theorem dL_isPlayed_84 : decode cL_isPlayed 84 = .ok (.aload_n 0, 1) := by decide +kernel
theorem dL_isPlayed_85 : decode cL_isPlayed 85 = .ok (.iload 5, 2) := by decide +kernel
theorem dL_isPlayed_87 : decode cL_isPlayed 87 = .ok (.invokevirtual 68, 3) := by decide +kernel
theorem dL_isPlayed_90 : decode cL_isPlayed 90 = .ok (.aload_n 2, 1) := by decide +kernel
theorem dL_isPlayed_91 : decode cL_isPlayed 91 = .ok (.bipush 12, 2) := by decide +kernel
theorem dL_isPlayed_93 : decode cL_isPlayed 93 = .ok (.iaload, 1) := by decide +kernel
theorem dL_isPlayed_94 : decode cL_isPlayed 94 = .ok (.if_icmp .ne 7, 3) := by decide +kernel
theorem dL_isPlayed_97 : decode cL_isPlayed 97 = .ok (.iconst 1, 1) := by decide +kernel
theorem dL_isPlayed_98 : decode cL_isPlayed 98 = .ok (.goto 4, 3) := by decide +kernel
theorem dL_isPlayed_101 : decode cL_isPlayed 101 = .ok (.iconst 0, 1) := by decide +kernel
theorem dL_isPlayed_102 : decode cL_isPlayed 102 = .ok (.ireturn, 1) := by decide +kernel
theorem dL_isPlayed_103 : decode cL_isPlayed 103 = .ok (.aload_n 2, 1) := by decide +kernel
theorem dL_isPlayed_104 : decode cL_isPlayed 104 = .ok (.iconst 4, 1) := by decide +kernel
theorem dL_isPlayed_105 : decode cL_isPlayed 105 = .ok (.iaload, 1) := by decide +kernel
theorem dL_isPlayed_106 : decode cL_isPlayed 106 = .ok (.ifCond .ne 45, 3) := by decide +kernel
theorem dL_isPlayed_109 : decode cL_isPlayed 109 = .ok (.aload_n 2, 1) := by decide +kernel
theorem dL_isPlayed_110 : decode cL_isPlayed 110 = .ok (.bipush 13, 2) := by decide +kernel
theorem dL_isPlayed_112 : decode cL_isPlayed 112 = .ok (.aload_n 2, 1) := by decide +kernel
theorem dL_isPlayed_113 : decode cL_isPlayed 113 = .ok (.bipush 13, 2) := by decide +kernel
theorem dL_isPlayed_115 : decode cL_isPlayed 115 = .ok (.iaload, 1) := by decide +kernel
theorem dL_isPlayed_116 : decode cL_isPlayed 116 = .ok (.iconst 1, 1) := by decide +kernel
theorem dL_isPlayed_117 : decode cL_isPlayed 117 = .ok (.iadd, 1) := by decide +kernel
theorem dL_isPlayed_118 : decode cL_isPlayed 118 = .ok (.iload 4, 2) := by decide +kernel
theorem dL_isPlayed_120 : decode cL_isPlayed 120 = .ok (.bipush 100, 2) := by decide +kernel
theorem dL_isPlayed_122 : decode cL_isPlayed 122 = .ok (.irem, 1) := by decide +kernel
theorem dL_isPlayed_123 : decode cL_isPlayed 123 = .ok (.iadd, 1) := by decide +kernel
theorem dL_isPlayed_124 : decode cL_isPlayed 124 = .ok (.iconst 5, 1) := by decide +kernel
theorem dL_isPlayed_125 : decode cL_isPlayed 125 = .ok (.irem, 1) := by decide +kernel
theorem dL_isPlayed_126 : decode cL_isPlayed 126 = .ok (.iastore, 1) := by decide +kernel
theorem dL_isPlayed_127 : decode cL_isPlayed 127 = .ok (.aload_n 0, 1) := by decide +kernel
theorem dL_isPlayed_128 : decode cL_isPlayed 128 = .ok (.iconst 1, 1) := by decide +kernel
theorem dL_isPlayed_129 : decode cL_isPlayed 129 = .ok (.iload 4, 2) := by decide +kernel
theorem dL_isPlayed_131 : decode cL_isPlayed 131 = .ok (.bipush 100, 2) := by decide +kernel
theorem dL_isPlayed_133 : decode cL_isPlayed 133 = .ok (.irem, 1) := by decide +kernel
theorem dL_isPlayed_134 : decode cL_isPlayed 134 = .ok (.iadd, 1) := by decide +kernel
theorem dL_isPlayed_135 : decode cL_isPlayed 135 = .ok (.invokevirtual 71, 3) := by decide +kernel
theorem dL_isPlayed_138 : decode cL_isPlayed 138 = .ok (.aload_n 2, 1) := by decide +kernel
theorem dL_isPlayed_139 : decode cL_isPlayed 139 = .ok (.bipush 13, 2) := by decide +kernel
theorem dL_isPlayed_141 : decode cL_isPlayed 141 = .ok (.iaload, 1) := by decide +kernel
theorem dL_isPlayed_142 : decode cL_isPlayed 142 = .ok (.if_icmp .ne 7, 3) := by decide +kernel
theorem dL_isPlayed_145 : decode cL_isPlayed 145 = .ok (.iconst 1, 1) := by decide +kernel
theorem dL_isPlayed_146 : decode cL_isPlayed 146 = .ok (.goto 4, 3) := by decide +kernel
theorem dL_isPlayed_149 : decode cL_isPlayed 149 = .ok (.iconst 0, 1) := by decide +kernel
theorem dL_isPlayed_150 : decode cL_isPlayed 150 = .ok (.ireturn, 1) := by decide +kernel
theorem dL_isPlayed_151 : decode cL_isPlayed 151 = .ok (.iload_n 3, 1) := by decide +kernel
theorem dL_isPlayed_152 : decode cL_isPlayed 152 = .ok (.iconst 1, 1) := by decide +kernel
theorem dL_isPlayed_153 : decode cL_isPlayed 153 = .ok (.if_icmp .ne 133, 3) := by decide +kernel
theorem dL_isPlayed_156 : decode cL_isPlayed 156 = .ok (.iload 4, 2) := by decide +kernel
theorem dL_isPlayed_158 : decode cL_isPlayed 158 = .ok (.iconst 5, 1) := by decide +kernel
theorem dL_isPlayed_159 : decode cL_isPlayed 159 = .ok (.irem, 1) := by decide +kernel
theorem dL_isPlayed_160 : decode cL_isPlayed 160 = .ok (.iconst 4, 1) := by decide +kernel
theorem dL_isPlayed_161 : decode cL_isPlayed 161 = .ok (.if_icmp .ne 16, 3) := by decide +kernel
theorem dL_isPlayed_164 : decode cL_isPlayed 164 = .ok (.iload 4, 2) := by decide +kernel
theorem dL_isPlayed_166 : decode cL_isPlayed 166 = .ok (.iconst 5, 1) := by decide +kernel
theorem dL_isPlayed_167 : decode cL_isPlayed 167 = .ok (.idiv, 1) := by decide +kernel
theorem dL_isPlayed_168 : decode cL_isPlayed 168 = .ok (.iconst 3, 1) := by decide +kernel
theorem dL_isPlayed_169 : decode cL_isPlayed 169 = .ok (.irem, 1) := by decide +kernel
theorem dL_isPlayed_170 : decode cL_isPlayed 170 = .ok (.ifCond .le 7, 3) := by decide +kernel
theorem dL_isPlayed_173 : decode cL_isPlayed 173 = .ok (.iconst 1, 1) := by decide +kernel
theorem dL_isPlayed_174 : decode cL_isPlayed 174 = .ok (.goto 7, 3) := by decide +kernel
theorem dL_isPlayed_177 : decode cL_isPlayed 177 = .ok (.iload 4, 2) := by decide +kernel
theorem dL_isPlayed_179 : decode cL_isPlayed 179 = .ok (.iconst 5, 1) := by decide +kernel
theorem dL_isPlayed_180 : decode cL_isPlayed 180 = .ok (.irem, 1) := by decide +kernel
theorem dL_isPlayed_181 : decode cL_isPlayed 181 = .ok (.istore 5, 2) := by decide +kernel
theorem dL_isPlayed_183 : decode cL_isPlayed 183 = .ok (.aload_n 2, 1) := by decide +kernel
theorem dL_isPlayed_184 : decode cL_isPlayed 184 = .ok (.iconst 4, 1) := by decide +kernel
theorem dL_isPlayed_185 : decode cL_isPlayed 185 = .ok (.iload 5, 2) := by decide +kernel
theorem dL_isPlayed_187 : decode cL_isPlayed 187 = .ok (.iconst 4, 1) := by decide +kernel
theorem dL_isPlayed_188 : decode cL_isPlayed 188 = .ok (.if_icmp .ne 7, 3) := by decide +kernel
theorem dL_isPlayed_191 : decode cL_isPlayed 191 = .ok (.iconst 0, 1) := by decide +kernel
theorem dL_isPlayed_192 : decode cL_isPlayed 192 = .ok (.goto 4, 3) := by decide +kernel
theorem dL_isPlayed_195 : decode cL_isPlayed 195 = .ok (.iconst 1, 1) := by decide +kernel
theorem dL_isPlayed_196 : decode cL_isPlayed 196 = .ok (.iastore, 1) := by decide +kernel
theorem dL_isPlayed_197 : decode cL_isPlayed 197 = .ok (.aload_n 2, 1) := by decide +kernel
theorem dL_isPlayed_198 : decode cL_isPlayed 198 = .ok (.bipush 10, 2) := by decide +kernel
theorem dL_isPlayed_200 : decode cL_isPlayed 200 = .ok (.iload 5, 2) := by decide +kernel
theorem dL_isPlayed_202 : decode cL_isPlayed 202 = .ok (.iconst 3, 1) := by decide +kernel
theorem dL_isPlayed_203 : decode cL_isPlayed 203 = .ok (.if_icmp .ge 8, 3) := by decide +kernel
theorem dL_isPlayed_206 : decode cL_isPlayed 206 = .ok (.iload 5, 2) := by decide +kernel
theorem dL_isPlayed_208 : decode cL_isPlayed 208 = .ok (.goto 7, 3) := by decide +kernel
theorem dL_isPlayed_211 : decode cL_isPlayed 211 = .ok (.aload_n 2, 1) := by decide +kernel
theorem dL_isPlayed_212 : decode cL_isPlayed 212 = .ok (.bipush 10, 2) := by decide +kernel
theorem dL_isPlayed_214 : decode cL_isPlayed 214 = .ok (.iaload, 1) := by decide +kernel
theorem dL_isPlayed_215 : decode cL_isPlayed 215 = .ok (.iastore, 1) := by decide +kernel
theorem dL_isPlayed_216 : decode cL_isPlayed 216 = .ok (.aload_n 2, 1) := by decide +kernel
theorem dL_isPlayed_217 : decode cL_isPlayed 217 = .ok (.bipush 11, 2) := by decide +kernel
theorem dL_isPlayed_219 : decode cL_isPlayed 219 = .ok (.iload 5, 2) := by decide +kernel
theorem dL_isPlayed_221 : decode cL_isPlayed 221 = .ok (.iconst 3, 1) := by decide +kernel
theorem dL_isPlayed_222 : decode cL_isPlayed 222 = .ok (.if_icmp .ne 40, 3) := by decide +kernel
theorem dL_isPlayed_225 : decode cL_isPlayed 225 = .ok (.aload_n 2, 1) := by decide +kernel
theorem dL_isPlayed_226 : decode cL_isPlayed 226 = .ok (.bipush 11, 2) := by decide +kernel
theorem dL_isPlayed_228 : decode cL_isPlayed 228 = .ok (.iaload, 1) := by decide +kernel
theorem dL_isPlayed_229 : decode cL_isPlayed 229 = .ok (.ifCond .ne 33, 3) := by decide +kernel
theorem dL_isPlayed_232 : decode cL_isPlayed 232 = .ok (.aload_n 2, 1) := by decide +kernel
theorem dL_isPlayed_233 : decode cL_isPlayed 233 = .ok (.bipush 9, 2) := by decide +kernel
theorem dL_isPlayed_235 : decode cL_isPlayed 235 = .ok (.iaload, 1) := by decide +kernel
theorem dL_isPlayed_236 : decode cL_isPlayed 236 = .ok (.aload_n 2, 1) := by decide +kernel
theorem dL_isPlayed_237 : decode cL_isPlayed 237 = .ok (.bipush 6, 2) := by decide +kernel
theorem dL_isPlayed_239 : decode cL_isPlayed 239 = .ok (.iaload, 1) := by decide +kernel
theorem dL_isPlayed_240 : decode cL_isPlayed 240 = .ok (.aload_n 2, 1) := by decide +kernel
theorem dL_isPlayed_241 : decode cL_isPlayed 241 = .ok (.aload_n 2, 1) := by decide +kernel
theorem dL_isPlayed_242 : decode cL_isPlayed 242 = .ok (.iconst 5, 1) := by decide +kernel
theorem dL_isPlayed_243 : decode cL_isPlayed 243 = .ok (.iaload, 1) := by decide +kernel
theorem dL_isPlayed_244 : decode cL_isPlayed 244 = .ok (.iaload, 1) := by decide +kernel
theorem dL_isPlayed_245 : decode cL_isPlayed 245 = .ok (.aload_n 2, 1) := by decide +kernel
theorem dL_isPlayed_246 : decode cL_isPlayed 246 = .ok (.bipush 6, 2) := by decide +kernel
theorem dL_isPlayed_248 : decode cL_isPlayed 248 = .ok (.iaload, 1) := by decide +kernel
theorem dL_isPlayed_249 : decode cL_isPlayed 249 = .ok (.isub, 1) := by decide +kernel
theorem dL_isPlayed_250 : decode cL_isPlayed 250 = .ok (.if_icmp .le 7, 3) := by decide +kernel
theorem dL_isPlayed_253 : decode cL_isPlayed 253 = .ok (.iconst 2, 1) := by decide +kernel
theorem dL_isPlayed_254 : decode cL_isPlayed 254 = .ok (.goto 4, 3) := by decide +kernel
theorem dL_isPlayed_257 : decode cL_isPlayed 257 = .ok (.iconst 1, 1) := by decide +kernel
theorem dL_isPlayed_258 : decode cL_isPlayed 258 = .ok (.iadd, 1) := by decide +kernel
theorem dL_isPlayed_259 : decode cL_isPlayed 259 = .ok (.goto 7, 3) := by decide +kernel
theorem dL_isPlayed_262 : decode cL_isPlayed 262 = .ok (.aload_n 2, 1) := by decide +kernel
theorem dL_isPlayed_263 : decode cL_isPlayed 263 = .ok (.bipush 11, 2) := by decide +kernel
theorem dL_isPlayed_265 : decode cL_isPlayed 265 = .ok (.iaload, 1) := by decide +kernel
theorem dL_isPlayed_266 : decode cL_isPlayed 266 = .ok (.iastore, 1) := by decide +kernel
theorem dL_isPlayed_267 : decode cL_isPlayed 267 = .ok (.aload_n 0, 1) := by decide +kernel
theorem dL_isPlayed_268 : decode cL_isPlayed 268 = .ok (.iload 5, 2) := by decide +kernel
theorem dL_isPlayed_270 : decode cL_isPlayed 270 = .ok (.invokevirtual 74, 3) := by decide +kernel
theorem dL_isPlayed_273 : decode cL_isPlayed 273 = .ok (.aload_n 2, 1) := by decide +kernel
theorem dL_isPlayed_274 : decode cL_isPlayed 274 = .ok (.bipush 6, 2) := by decide +kernel
theorem dL_isPlayed_276 : decode cL_isPlayed 276 = .ok (.iaload, 1) := by decide +kernel
theorem dL_isPlayed_277 : decode cL_isPlayed 277 = .ok (.if_icmp .ne 7, 3) := by decide +kernel
theorem dL_isPlayed_280 : decode cL_isPlayed 280 = .ok (.iconst 1, 1) := by decide +kernel
theorem dL_isPlayed_281 : decode cL_isPlayed 281 = .ok (.goto 4, 3) := by decide +kernel
theorem dL_isPlayed_284 : decode cL_isPlayed 284 = .ok (.iconst 0, 1) := by decide +kernel
theorem dL_isPlayed_285 : decode cL_isPlayed 285 = .ok (.ireturn, 1) := by decide +kernel
theorem dL_isPlayed_286 : decode cL_isPlayed 286 = .ok (.iconst 1, 1) := by decide +kernel
theorem dL_isPlayed_287 : decode cL_isPlayed 287 = .ok (.iload 4, 2) := by decide +kernel
theorem dL_isPlayed_289 : decode cL_isPlayed 289 = .ok (.iload 4, 2) := by decide +kernel
theorem dL_isPlayed_291 : decode cL_isPlayed 291 = .ok (.bipush 100, 2) := by decide +kernel
theorem dL_isPlayed_293 : decode cL_isPlayed 293 = .ok (.idiv, 1) := by decide +kernel
theorem dL_isPlayed_294 : decode cL_isPlayed 294 = .ok (.iconst 3, 1) := by decide +kernel
theorem dL_isPlayed_295 : decode cL_isPlayed 295 = .ok (.irem, 1) := by decide +kernel
theorem dL_isPlayed_296 : decode cL_isPlayed 296 = .ok (.ifCond .ne 8, 3) := by decide +kernel
theorem dL_isPlayed_299 : decode cL_isPlayed 299 = .ok (.bipush 100, 2) := by decide +kernel
theorem dL_isPlayed_301 : decode cL_isPlayed 301 = .ok (.goto 5, 3) := by decide +kernel
theorem dL_isPlayed_304 : decode cL_isPlayed 304 = .ok (.bipush 12, 2) := by decide +kernel
theorem dL_isPlayed_306 : decode cL_isPlayed 306 = .ok (.irem, 1) := by decide +kernel
theorem dL_isPlayed_307 : decode cL_isPlayed 307 = .ok (.iadd, 1) := by decide +kernel
theorem dL_isPlayed_308 : decode cL_isPlayed 308 = .ok (.istore 5, 2) := by decide +kernel
theorem dL_isPlayed_310 : decode cL_isPlayed 310 = .ok (.iconst 0, 1) := by decide +kernel
theorem dL_isPlayed_311 : decode cL_isPlayed 311 = .ok (.istore 6, 2) := by decide +kernel
theorem dL_isPlayed_313 : decode cL_isPlayed 313 = .ok (.iload 6, 2) := by decide +kernel
theorem dL_isPlayed_315 : decode cL_isPlayed 315 = .ok (.iload 5, 2) := by decide +kernel
theorem dL_isPlayed_317 : decode cL_isPlayed 317 = .ok (.if_icmp .ge 21, 3) := by decide +kernel
theorem dL_isPlayed_320 : decode cL_isPlayed 320 = .ok (.aload_n 2, 1) := by decide +kernel
theorem dL_isPlayed_321 : decode cL_isPlayed 321 = .ok (.iconst 4, 1) := by decide +kernel
theorem dL_isPlayed_322 : decode cL_isPlayed 322 = .ok (.iaload, 1) := by decide +kernel
theorem dL_isPlayed_323 : decode cL_isPlayed 323 = .ok (.iconst 1, 1) := by decide +kernel
theorem dL_isPlayed_324 : decode cL_isPlayed 324 = .ok (.if_icmp .ne 14, 3) := by decide +kernel
theorem dL_isPlayed_327 : decode cL_isPlayed 327 = .ok (.aload_n 1, 1) := by decide +kernel
theorem dL_isPlayed_328 : decode cL_isPlayed 328 = .ok (.aload_n 2, 1) := by decide +kernel
theorem dL_isPlayed_329 : decode cL_isPlayed 329 = .ok (.invokestatic 77, 3) := by decide +kernel
theorem dL_isPlayed_332 : decode cL_isPlayed 332 = .ok (.iinc 6 1, 3) := by decide +kernel
theorem dL_isPlayed_335 : decode cL_isPlayed 335 = .ok (.goto (-22), 3) := by decide +kernel
theorem dL_isPlayed_338 : decode cL_isPlayed 338 = .ok (.aload_n 0, 1) := by decide +kernel
theorem dL_isPlayed_339 : decode cL_isPlayed 339 = .ok (.iload 5, 2) := by decide +kernel
theorem dL_isPlayed_341 : decode cL_isPlayed 341 = .ok (.invokevirtual 81, 3) := by decide +kernel
theorem dL_isPlayed_344 : decode cL_isPlayed 344 = .ok (.iload 6, 2) := by decide +kernel
theorem dL_isPlayed_346 : decode cL_isPlayed 346 = .ok (.if_icmp .ne 7, 3) := by decide +kernel
theorem dL_isPlayed_349 : decode cL_isPlayed 349 = .ok (.iconst 1, 1) := by decide +kernel
theorem dL_isPlayed_350 : decode cL_isPlayed 350 = .ok (.goto 4, 3) := by decide +kernel
theorem dL_isPlayed_353 : decode cL_isPlayed 353 = .ok (.iconst 0, 1) := by decide +kernel
theorem dL_isPlayed_354 : decode cL_isPlayed 354 = .ok (.ireturn, 1) := by decide +kernel
theorem dL_isTuned_0 : decode cL_isTuned 0 = .ok (.iload 4, 2) := by decide +kernel
theorem dL_isTuned_2 : decode cL_isTuned 2 = .ok (.iconst 4, 1) := by decide +kernel
theorem dL_isTuned_3 : decode cL_isTuned 3 = .ok (.irem, 1) := by decide +kernel
theorem dL_isTuned_4 : decode cL_isTuned 4 = .ok (.istore 5, 2) := by decide +kernel
theorem dL_isTuned_6 : decode cL_isTuned 6 = .ok (.iload_n 3, 1) := by decide +kernel
theorem dL_isTuned_7 : decode cL_isTuned 7 = .ok (.ifCond .ne 70, 3) := by decide +kernel
theorem dL_isTuned_10 : decode cL_isTuned 10 = .ok (.bipush 7, 2) := by decide +kernel
theorem dL_isTuned_12 : decode cL_isTuned 12 = .ok (.iload 5, 2) := by decide +kernel
theorem dL_isTuned_14 : decode cL_isTuned 14 = .ok (.imul, 1) := by decide +kernel
theorem dL_isTuned_15 : decode cL_isTuned 15 = .ok (.iload 4, 2) := by decide +kernel
theorem dL_isTuned_17 : decode cL_isTuned 17 = .ok (.iconst 4, 1) := by decide +kernel
theorem dL_isTuned_18 : decode cL_isTuned 18 = .ok (.idiv, 1) := by decide +kernel
theorem dL_isTuned_19 : decode cL_isTuned 19 = .ok (.bipush 7, 2) := by decide +kernel
theorem dL_isTuned_21 : decode cL_isTuned 21 = .ok (.irem, 1) := by decide +kernel
theorem dL_isTuned_22 : decode cL_isTuned 22 = .ok (.iadd, 1) := by decide +kernel
theorem dL_isTuned_23 : decode cL_isTuned 23 = .ok (.istore 6, 2) := by decide +kernel
theorem dL_isTuned_25 : decode cL_isTuned 25 = .ok (.aload_n 2, 1) := by decide +kernel
theorem dL_isTuned_26 : decode cL_isTuned 26 = .ok (.iload 6, 2) := by decide +kernel
theorem dL_isTuned_28 : decode cL_isTuned 28 = .ok (.iaload, 1) := by decide +kernel
theorem dL_isTuned_29 : decode cL_isTuned 29 = .ok (.istore 7, 2) := by decide +kernel
theorem dL_isTuned_31 : decode cL_isTuned 31 = .ok (.aload_n 2, 1) := by decide +kernel
theorem dL_isTuned_32 : decode cL_isTuned 32 = .ok (.iload 6, 2) := by decide +kernel
theorem dL_isTuned_34 : decode cL_isTuned 34 = .ok (.sipush 5000, 3) := by decide +kernel
theorem dL_isTuned_37 : decode cL_isTuned 37 = .ok (.iload 4, 2) := by decide +kernel
theorem dL_isTuned_39 : decode cL_isTuned 39 = .ok (.bipush 28, 2) := by decide +kernel
theorem dL_isTuned_41 : decode cL_isTuned 41 = .ok (.idiv, 1) := by decide +kernel
theorem dL_isTuned_42 : decode cL_isTuned 42 = .ok (.ldc 84, 2) := by decide +kernel
theorem dL_isTuned_44 : decode cL_isTuned 44 = .ok (.irem, 1) := by decide +kernel
theorem dL_isTuned_45 : decode cL_isTuned 45 = .ok (.iadd, 1) := by decide +kernel
theorem dL_isTuned_46 : decode cL_isTuned 46 = .ok (.iastore, 1) := by decide +kernel
theorem dL_isTuned_47 : decode cL_isTuned 47 = .ok (.aload_n 0, 1) := by decide +kernel
theorem dL_isTuned_48 : decode cL_isTuned 48 = .ok (.iload 5, 2) := by decide +kernel
theorem dL_isTuned_50 : decode cL_isTuned 50 = .ok (.iload 4, 2) := by decide +kernel
theorem dL_isTuned_52 : decode cL_isTuned 52 = .ok (.iconst 4, 1) := by decide +kernel
theorem dL_isTuned_53 : decode cL_isTuned 53 = .ok (.idiv, 1) := by decide +kernel
theorem dL_isTuned_54 : decode cL_isTuned 54 = .ok (.bipush 7, 2) := by decide +kernel
theorem dL_isTuned_56 : decode cL_isTuned 56 = .ok (.irem, 1) := by decide +kernel
theorem dL_isTuned_57 : decode cL_isTuned 57 = .ok (.iconst 1, 1) := by decide +kernel
theorem dL_isTuned_58 : decode cL_isTuned 58 = .ok (.iadd, 1) := by decide +kernel
theorem dL_isTuned_59 : decode cL_isTuned 59 = .ok (.aload_n 2, 1) := by decide +kernel
theorem dL_isTuned_60 : decode cL_isTuned 60 = .ok (.iload 6, 2) := by decide +kernel
theorem dL_isTuned_62 : decode cL_isTuned 62 = .ok (.iaload, 1) := by decide +kernel
theorem dL_isTuned_63 : decode cL_isTuned 63 = .ok (.invokevirtual 85, 3) := by decide +kernel
theorem dL_isTuned_66 : decode cL_isTuned 66 = .ok (.iload 7, 2) := by decide +kernel
theorem dL_isTuned_68 : decode cL_isTuned 68 = .ok (.if_icmp .ne 7, 3) := by decide +kernel
theorem dL_isTuned_71 : decode cL_isTuned 71 = .ok (.iconst 1, 1) := by decide +kernel
theorem dL_isTuned_72 : decode cL_isTuned 72 = .ok (.goto 4, 3) := by decide +kernel
theorem dL_isTuned_75 : decode cL_isTuned 75 = .ok (.iconst 0, 1) := by decide +kernel
theorem dL_isTuned_76 : decode cL_isTuned 76 = .ok (.ireturn, 1) := by decide +kernel
theorem dL_isTuned_77 : decode cL_isTuned 77 = .ok (.iload_n 3, 1) := by decide +kernel
theorem dL_isTuned_78 : decode cL_isTuned 78 = .ok (.iconst 1, 1) := by decide +kernel
theorem dL_isTuned_79 : decode cL_isTuned 79 = .ok (.if_icmp .ne 50, 3) := by decide +kernel
theorem dL_isTuned_82 : decode cL_isTuned 82 = .ok (.aload_n 2, 1) := by decide +kernel
theorem dL_isTuned_83 : decode cL_isTuned 83 = .ok (.bipush 28, 2) := by decide +kernel
theorem dL_isTuned_85 : decode cL_isTuned 85 = .ok (.iload 5, 2) := by decide +kernel
theorem dL_isTuned_87 : decode cL_isTuned 87 = .ok (.iadd, 1) := by decide +kernel
theorem dL_isTuned_88 : decode cL_isTuned 88 = .ok (.iaload, 1) := by decide +kernel
theorem dL_isTuned_89 : decode cL_isTuned 89 = .ok (.istore 6, 2) := by decide +kernel
theorem dL_isTuned_91 : decode cL_isTuned 91 = .ok (.aload_n 2, 1) := by decide +kernel
theorem dL_isTuned_92 : decode cL_isTuned 92 = .ok (.bipush 28, 2) := by decide +kernel
theorem dL_isTuned_94 : decode cL_isTuned 94 = .ok (.iload 5, 2) := by decide +kernel
theorem dL_isTuned_96 : decode cL_isTuned 96 = .ok (.iadd, 1) := by decide +kernel
theorem dL_isTuned_97 : decode cL_isTuned 97 = .ok (.iload 4, 2) := by decide +kernel
theorem dL_isTuned_99 : decode cL_isTuned 99 = .ok (.iconst 4, 1) := by decide +kernel
theorem dL_isTuned_100 : decode cL_isTuned 100 = .ok (.idiv, 1) := by decide +kernel
theorem dL_isTuned_101 : decode cL_isTuned 101 = .ok (.bipush 51, 2) := by decide +kernel
theorem dL_isTuned_103 : decode cL_isTuned 103 = .ok (.irem, 1) := by decide +kernel
theorem dL_isTuned_104 : decode cL_isTuned 104 = .ok (.iastore, 1) := by decide +kernel
theorem dL_isTuned_105 : decode cL_isTuned 105 = .ok (.aload_n 0, 1) := by decide +kernel
theorem dL_isTuned_106 : decode cL_isTuned 106 = .ok (.iload 5, 2) := by decide +kernel
theorem dL_isTuned_108 : decode cL_isTuned 108 = .ok (.aload_n 2, 1) := by decide +kernel
theorem dL_isTuned_109 : decode cL_isTuned 109 = .ok (.bipush 28, 2) := by decide +kernel
theorem dL_isTuned_111 : decode cL_isTuned 111 = .ok (.iload 5, 2) := by decide +kernel
theorem dL_isTuned_113 : decode cL_isTuned 113 = .ok (.iadd, 1) := by decide +kernel
theorem dL_isTuned_114 : decode cL_isTuned 114 = .ok (.iaload, 1) := by decide +kernel
theorem dL_isTuned_115 : decode cL_isTuned 115 = .ok (.invokevirtual 88, 3) := by decide +kernel
theorem dL_isTuned_118 : decode cL_isTuned 118 = .ok (.iload 6, 2) := by decide +kernel
theorem dL_isTuned_120 : decode cL_isTuned 120 = .ok (.if_icmp .ne 7, 3) := by decide +kernel
theorem dL_isTuned_123 : decode cL_isTuned 123 = .ok (.iconst 1, 1) := by decide +kernel
theorem dL_isTuned_124 : decode cL_isTuned 124 = .ok (.goto 4, 3) := by decide +kernel
theorem dL_isTuned_127 : decode cL_isTuned 127 = .ok (.iconst 0, 1) := by decide +kernel
theorem dL_isTuned_128 : decode cL_isTuned 128 = .ok (.ireturn, 1) := by decide +kernel
theorem dL_isTuned_129 : decode cL_isTuned 129 = .ok (.iload_n 3, 1) := by decide +kernel
theorem dL_isTuned_130 : decode cL_isTuned 130 = .ok (.iconst 2, 1) := by decide +kernel
theorem dL_isTuned_131 : decode cL_isTuned 131 = .ok (.if_icmp .ne 131, 3) := by decide +kernel
theorem dL_isTuned_134 : decode cL_isTuned 134 = .ok (.iconst 1, 1) := by decide +kernel
theorem dL_isTuned_135 : decode cL_isTuned 135 = .ok (.iload 4, 2) := by decide +kernel
theorem dL_isTuned_137 : decode cL_isTuned 137 = .ok (.bipush 9, 2) := by decide +kernel
theorem dL_isTuned_139 : decode cL_isTuned 139 = .ok (.irem, 1) := by decide +kernel
theorem dL_isTuned_140 : decode cL_isTuned 140 = .ok (.iadd, 1) := by decide +kernel
theorem dL_isTuned_141 : decode cL_isTuned 141 = .ok (.istore 6, 2) := by decide +kernel
theorem dL_isTuned_143 : decode cL_isTuned 143 = .ok (.aload_n 1, 1) := by decide +kernel
theorem dL_isTuned_144 : decode cL_isTuned 144 = .ok (.bipush 14, 2) := by decide +kernel
theorem dL_isTuned_146 : decode cL_isTuned 146 = .ok (.iaload, 1) := by decide +kernel
theorem dL_isTuned_147 : decode cL_isTuned 147 = .ok (.iload 6, 2) := by decide +kernel
theorem dL_isTuned_149 : decode cL_isTuned 149 = .ok (.iadd, 1) := by decide +kernel
theorem dL_isTuned_150 : decode cL_isTuned 150 = .ok (.sipush 300, 3) := by decide +kernel
theorem dL_isTuned_153 : decode cL_isTuned 153 = .ok (.if_icmp .le 5, 3) := by decide +kernel
theorem dL_isTuned_156 : decode cL_isTuned 156 = .ok (.iconst 1, 1) := by decide +kernel
theorem dL_isTuned_157 : decode cL_isTuned 157 = .ok (.ireturn, 1) := by decide +kernel
theorem dL_isTuned_158 : decode cL_isTuned 158 = .ok (.iconst 0, 1) := by decide +kernel
theorem dL_isTuned_159 : decode cL_isTuned 159 = .ok (.istore 7, 2) := by decide +kernel
theorem dL_isTuned_161 : decode cL_isTuned 161 = .ok (.iload 7, 2) := by decide +kernel
theorem dL_isTuned_163 : decode cL_isTuned 163 = .ok (.bipush 28, 2) := by decide +kernel
theorem dL_isTuned_165 : decode cL_isTuned 165 = .ok (.iload 6, 2) := by decide +kernel
theorem dL_isTuned_167 : decode cL_isTuned 167 = .ok (.imul, 1) := by decide +kernel
theorem dL_isTuned_168 : decode cL_isTuned 168 = .ok (.if_icmp .ge 66, 3) := by decide +kernel
theorem dL_isTuned_171 : decode cL_isTuned 171 = .ok (.iload 7, 2) := by decide +kernel
theorem dL_isTuned_173 : decode cL_isTuned 173 = .ok (.bipush 28, 2) := by decide +kernel
theorem dL_isTuned_175 : decode cL_isTuned 175 = .ok (.irem, 1) := by decide +kernel
theorem dL_isTuned_176 : decode cL_isTuned 176 = .ok (.istore 8, 2) := by decide +kernel
theorem dL_isTuned_178 : decode cL_isTuned 178 = .ok (.aload_n 2, 1) := by decide +kernel
theorem dL_isTuned_179 : decode cL_isTuned 179 = .ok (.iload 8, 2) := by decide +kernel
theorem dL_isTuned_181 : decode cL_isTuned 181 = .ok (.dup2, 1) := by decide +kernel
theorem dL_isTuned_182 : decode cL_isTuned 182 = .ok (.iaload, 1) := by decide +kernel
theorem dL_isTuned_183 : decode cL_isTuned 183 = .ok (.aload_n 2, 1) := by decide +kernel
theorem dL_isTuned_184 : decode cL_isTuned 184 = .ok (.iload 8, 2) := by decide +kernel
theorem dL_isTuned_186 : decode cL_isTuned 186 = .ok (.iaload, 1) := by decide +kernel
theorem dL_isTuned_187 : decode cL_isTuned 187 = .ok (.aload_n 2, 1) := by decide +kernel
theorem dL_isTuned_188 : decode cL_isTuned 188 = .ok (.bipush 28, 2) := by decide +kernel
theorem dL_isTuned_190 : decode cL_isTuned 190 = .ok (.iload 8, 2) := by decide +kernel
theorem dL_isTuned_192 : decode cL_isTuned 192 = .ok (.bipush 7, 2) := by decide +kernel
theorem dL_isTuned_194 : decode cL_isTuned 194 = .ok (.idiv, 1) := by decide +kernel
theorem dL_isTuned_195 : decode cL_isTuned 195 = .ok (.iadd, 1) := by decide +kernel
theorem dL_isTuned_196 : decode cL_isTuned 196 = .ok (.iaload, 1) := by decide +kernel
theorem dL_isTuned_197 : decode cL_isTuned 197 = .ok (.imul, 1) := by decide +kernel
theorem dL_isTuned_198 : decode cL_isTuned 198 = .ok (.sipush 10000, 3) := by decide +kernel
theorem dL_isTuned_201 : decode cL_isTuned 201 = .ok (.idiv, 1) := by decide +kernel
theorem dL_isTuned_202 : decode cL_isTuned 202 = .ok (.isub, 1) := by decide +kernel
theorem dL_isTuned_203 : decode cL_isTuned 203 = .ok (.iastore, 1) := by decide +kernel
theorem dL_isTuned_204 : decode cL_isTuned 204 = .ok (.aload_n 2, 1) := by decide +kernel
theorem dL_isTuned_205 : decode cL_isTuned 205 = .ok (.iload 8, 2) := by decide +kernel
theorem dL_isTuned_207 : decode cL_isTuned 207 = .ok (.aload_n 2, 1) := by decide +kernel
theorem dL_isTuned_208 : decode cL_isTuned 208 = .ok (.iload 8, 2) := by decide +kernel
theorem dL_isTuned_210 : decode cL_isTuned 210 = .ok (.iaload, 1) := by decide +kernel
theorem dL_isTuned_211 : decode cL_isTuned 211 = .ok (.sipush 5000, 3) := by decide +kernel
theorem dL_isTuned_214 : decode cL_isTuned 214 = .ok (.if_icmp .ge 9, 3) := by decide +kernel
theorem dL_isTuned_217 : decode cL_isTuned 217 = .ok (.sipush 5000, 3) := by decide +kernel
theorem dL_isTuned_220 : decode cL_isTuned 220 = .ok (.goto 7, 3) := by decide +kernel
theorem dL_isTuned_223 : decode cL_isTuned 223 = .ok (.aload_n 2, 1) := by decide +kernel
theorem dL_isTuned_224 : decode cL_isTuned 224 = .ok (.iload 8, 2) := by decide +kernel
theorem dL_isTuned_226 : decode cL_isTuned 226 = .ok (.iaload, 1) := by decide +kernel
theorem dL_isTuned_227 : decode cL_isTuned 227 = .ok (.iastore, 1) := by decide +kernel
theorem dL_isTuned_228 : decode cL_isTuned 228 = .ok (.iinc 7 1, 3) := by decide +kernel
theorem dL_isTuned_231 : decode cL_isTuned 231 = .ok (.goto (-70), 3) := by decide +kernel
theorem dL_isTuned_234 : decode cL_isTuned 234 = .ok (.aload_n 1, 1) := by decide +kernel
theorem dL_isTuned_235 : decode cL_isTuned 235 = .ok (.bipush 14, 2) := by decide +kernel
theorem dL_isTuned_237 : decode cL_isTuned 237 = .ok (.dup2, 1) := by decide +kernel
theorem dL_isTuned_238 : decode cL_isTuned 238 = .ok (.iaload, 1) := by decide +kernel
theorem dL_isTuned_239 : decode cL_isTuned 239 = .ok (.iload 6, 2) := by decide +kernel
theorem dL_isTuned_241 : decode cL_isTuned 241 = .ok (.iadd, 1) := by decide +kernel
theorem dL_isTuned_242 : decode cL_isTuned 242 = .ok (.iastore, 1) := by decide +kernel
theorem dL_isTuned_243 : decode cL_isTuned 243 = .ok (.aload_n 0, 1) := by decide +kernel
theorem dL_isTuned_244 : decode cL_isTuned 244 = .ok (.iload 6, 2) := by decide +kernel
theorem dL_isTuned_246 : decode cL_isTuned 246 = .ok (.invokevirtual 91, 3) := by decide +kernel
theorem dL_isTuned_249 : decode cL_isTuned 249 = .ok (.aload_n 1, 1) := by decide +kernel
theorem dL_isTuned_250 : decode cL_isTuned 250 = .ok (.bipush 14, 2) := by decide +kernel
theorem dL_isTuned_252 : decode cL_isTuned 252 = .ok (.iaload, 1) := by decide +kernel
theorem dL_isTuned_253 : decode cL_isTuned 253 = .ok (.if_icmp .ne 7, 3) := by decide +kernel
theorem dL_isTuned_256 : decode cL_isTuned 256 = .ok (.iconst 1, 1) := by decide +kernel
theorem dL_isTuned_257 : decode cL_isTuned 257 = .ok (.goto 4, 3) := by decide +kernel
theorem dL_isTuned_260 : decode cL_isTuned 260 = .ok (.iconst 0, 1) := by decide +kernel
theorem dL_isTuned_261 : decode cL_isTuned 261 = .ok (.ireturn, 1) := by decide +kernel
theorem dL_isTuned_262 : decode cL_isTuned 262 = .ok (.iload 5, 2) := by decide +kernel
theorem dL_isTuned_264 : decode cL_isTuned 264 = .ok (.iconst 1, 1) := by decide +kernel
theorem dL_isTuned_265 : decode cL_isTuned 265 = .ok (.iadd, 1) := by decide +kernel
theorem dL_isTuned_266 : decode cL_isTuned 266 = .ok (.iload 4, 2) := by decide +kernel
theorem dL_isTuned_268 : decode cL_isTuned 268 = .ok (.iconst 4, 1) := by decide +kernel
theorem dL_isTuned_269 : decode cL_isTuned 269 = .ok (.idiv, 1) := by decide +kernel
theorem dL_isTuned_270 : decode cL_isTuned 270 = .ok (.iconst 3, 1) := by decide +kernel
theorem dL_isTuned_271 : decode cL_isTuned 271 = .ok (.irem, 1) := by decide +kernel
theorem dL_isTuned_272 : decode cL_isTuned 272 = .ok (.iadd, 1) := by decide +kernel
theorem dL_isTuned_273 : decode cL_isTuned 273 = .ok (.iconst 4, 1) := by decide +kernel
theorem dL_isTuned_274 : decode cL_isTuned 274 = .ok (.irem, 1) := by decide +kernel
theorem dL_isTuned_275 : decode cL_isTuned 275 = .ok (.istore 6, 2) := by decide +kernel
theorem dL_isTuned_277 : decode cL_isTuned 277 = .ok (.aload_n 2, 1) := by decide +kernel
theorem dL_isTuned_278 : decode cL_isTuned 278 = .ok (.bipush 7, 2) := by decide +kernel
theorem dL_isTuned_280 : decode cL_isTuned 280 = .ok (.iload 5, 2) := by decide +kernel
theorem dL_isTuned_282 : decode cL_isTuned 282 = .ok (.imul, 1) := by decide +kernel
theorem dL_isTuned_283 : decode cL_isTuned 283 = .ok (.iaload, 1) := by decide +kernel
theorem dL_isTuned_284 : decode cL_isTuned 284 = .ok (.i2l, 1) := by decide +kernel
theorem dL_isTuned_285 : decode cL_isTuned 285 = .ok (.lstore 7, 2) := by decide +kernel
theorem dL_isTuned_287 : decode cL_isTuned 287 = .ok (.iconst 0, 1) := by decide +kernel
theorem dL_isTuned_288 : decode cL_isTuned 288 = .ok (.istore 9, 2) := by decide +kernel
theorem dL_isTuned_290 : decode cL_isTuned 290 = .ok (.iload 9, 2) := by decide +kernel
theorem dL_isTuned_292 : decode cL_isTuned 292 = .ok (.bipush 7, 2) := by decide +kernel
theorem dL_isTuned_294 : decode cL_isTuned 294 = .ok (.if_icmp .ge 77, 3) := by decide +kernel
theorem dL_isTuned_297 : decode cL_isTuned 297 = .ok (.aload_n 2, 1) := by decide +kernel
theorem dL_isTuned_298 : decode cL_isTuned 298 = .ok (.bipush 7, 2) := by decide +kernel
theorem dL_isTuned_300 : decode cL_isTuned 300 = .ok (.iload 5, 2) := by decide +kernel
theorem dL_isTuned_302 : decode cL_isTuned 302 = .ok (.imul, 1) := by decide +kernel
theorem dL_isTuned_303 : decode cL_isTuned 303 = .ok (.iload 9, 2) := by decide +kernel
theorem dL_isTuned_305 : decode cL_isTuned 305 = .ok (.iadd, 1) := by decide +kernel
theorem dL_isTuned_306 : decode cL_isTuned 306 = .ok (.iaload, 1) := by decide +kernel
theorem dL_isTuned_307 : decode cL_isTuned 307 = .ok (.i2l, 1) := by decide +kernel
theorem dL_isTuned_308 : decode cL_isTuned 308 = .ok (.aload_n 2, 1) := by decide +kernel
theorem dL_isTuned_309 : decode cL_isTuned 309 = .ok (.bipush 7, 2) := by decide +kernel
theorem dL_isTuned_311 : decode cL_isTuned 311 = .ok (.iload 6, 2) := by decide +kernel
theorem dL_isTuned_313 : decode cL_isTuned 313 = .ok (.imul, 1) := by decide +kernel
theorem dL_isTuned_314 : decode cL_isTuned 314 = .ok (.iaload, 1) := by decide +kernel
theorem dL_isTuned_315 : decode cL_isTuned 315 = .ok (.i2l, 1) := by decide +kernel
theorem dL_isTuned_316 : decode cL_isTuned 316 = .ok (.lmul, 1) := by decide +kernel
theorem dL_isTuned_317 : decode cL_isTuned 317 = .ok (.lload 7, 2) := by decide +kernel
theorem dL_isTuned_319 : decode cL_isTuned 319 = .ok (.ldiv, 1) := by decide +kernel
theorem dL_isTuned_320 : decode cL_isTuned 320 = .ok (.lstore 10, 2) := by decide +kernel
theorem dL_isTuned_322 : decode cL_isTuned 322 = .ok (.aload_n 2, 1) := by decide +kernel
theorem dL_isTuned_323 : decode cL_isTuned 323 = .ok (.bipush 7, 2) := by decide +kernel
theorem dL_isTuned_325 : decode cL_isTuned 325 = .ok (.iload 5, 2) := by decide +kernel
theorem dL_isTuned_327 : decode cL_isTuned 327 = .ok (.imul, 1) := by decide +kernel
theorem dL_isTuned_328 : decode cL_isTuned 328 = .ok (.iload 9, 2) := by decide +kernel
theorem dL_isTuned_330 : decode cL_isTuned 330 = .ok (.iadd, 1) := by decide +kernel
theorem dL_isTuned_331 : decode cL_isTuned 331 = .ok (.lload 10, 2) := by decide +kernel
theorem dL_isTuned_333 : decode cL_isTuned 333 = .ok (.ldc2_w 94, 3) := by decide +kernel
theorem dL_isTuned_336 : decode cL_isTuned 336 = .ok (.lcmp, 1) := by decide +kernel
theorem dL_isTuned_337 : decode cL_isTuned 337 = .ok (.ifCond .le 9, 3) := by decide +kernel
theorem dL_isTuned_340 : decode cL_isTuned 340 = .ok (.ldc2_w 94, 3) := by decide +kernel
theorem dL_isTuned_343 : decode cL_isTuned 343 = .ok (.goto 20, 3) := by decide +kernel
theorem dL_isTuned_346 : decode cL_isTuned 346 = .ok (.lload 10, 2) := by decide +kernel
theorem dL_isTuned_348 : decode cL_isTuned 348 = .ok (.ldc2_w 96, 3) := by decide +kernel
theorem dL_isTuned_351 : decode cL_isTuned 351 = .ok (.lcmp, 1) := by decide +kernel
theorem dL_isTuned_352 : decode cL_isTuned 352 = .ok (.ifCond .ge 9, 3) := by decide +kernel
theorem dL_isTuned_355 : decode cL_isTuned 355 = .ok (.ldc2_w 96, 3) := by decide +kernel
theorem dL_isTuned_358 : decode cL_isTuned 358 = .ok (.goto 5, 3) := by decide +kernel
theorem dL_isTuned_361 : decode cL_isTuned 361 = .ok (.lload 10, 2) := by decide +kernel
theorem dL_isTuned_363 : decode cL_isTuned 363 = .ok (.l2i, 1) := by decide +kernel
theorem dL_isTuned_364 : decode cL_isTuned 364 = .ok (.iastore, 1) := by decide +kernel
theorem dL_isTuned_365 : decode cL_isTuned 365 = .ok (.iinc 9 1, 3) := by decide +kernel
theorem dL_isTuned_368 : decode cL_isTuned 368 = .ok (.goto (-78), 3) := by decide +kernel
theorem dL_isTuned_371 : decode cL_isTuned 371 = .ok (.aload_n 0, 1) := by decide +kernel
theorem dL_isTuned_372 : decode cL_isTuned 372 = .ok (.iload 5, 2) := by decide +kernel
theorem dL_isTuned_374 : decode cL_isTuned 374 = .ok (.iload 6, 2) := by decide +kernel
theorem dL_isTuned_376 : decode cL_isTuned 376 = .ok (.invokevirtual 98, 3) := by decide +kernel
theorem dL_isTuned_379 : decode cL_isTuned 379 = .ok (.aload_n 2, 1) := by decide +kernel
theorem dL_isTuned_380 : decode cL_isTuned 380 = .ok (.bipush 7, 2) := by decide +kernel
theorem dL_isTuned_382 : decode cL_isTuned 382 = .ok (.iload 5, 2) := by decide +kernel
theorem dL_isTuned_384 : decode cL_isTuned 384 = .ok (.imul, 1) := by decide +kernel
theorem dL_isTuned_385 : decode cL_isTuned 385 = .ok (.iaload, 1) := by decide +kernel
theorem dL_isTuned_386 : decode cL_isTuned 386 = .ok (.if_icmp .ne 7, 3) := by decide +kernel
theorem dL_isTuned_389 : decode cL_isTuned 389 = .ok (.iconst 1, 1) := by decide +kernel
theorem dL_isTuned_390 : decode cL_isTuned 390 = .ok (.goto 4, 3) := by decide +kernel
theorem dL_isTuned_393 : decode cL_isTuned 393 = .ok (.iconst 0, 1) := by decide +kernel
theorem dL_isTuned_394 : decode cL_isTuned 394 = .ok (.ireturn, 1) := by decide +kernel
theorem dL_isLearned_0 : decode cL_isLearned 0 = .ok (.iload 4, 2) := by decide +kernel
theorem dL_isLearned_2 : decode cL_isLearned 2 = .ok (.iconst 4, 1) := by decide +kernel
theorem dL_isLearned_3 : decode cL_isLearned 3 = .ok (.irem, 1) := by decide +kernel
theorem dL_isLearned_4 : decode cL_isLearned 4 = .ok (.istore 5, 2) := by decide +kernel
theorem dL_isLearned_6 : decode cL_isLearned 6 = .ok (.iload 4, 2) := by decide +kernel
theorem dL_isLearned_8 : decode cL_isLearned 8 = .ok (.iconst 4, 1) := by decide +kernel
theorem dL_isLearned_9 : decode cL_isLearned 9 = .ok (.idiv, 1) := by decide +kernel
theorem dL_isLearned_10 : decode cL_isLearned 10 = .ok (.iconst 2, 1) := by decide +kernel
theorem dL_isLearned_11 : decode cL_isLearned 11 = .ok (.irem, 1) := by decide +kernel
theorem dL_isLearned_12 : decode cL_isLearned 12 = .ok (.istore 6, 2) := by decide +kernel
theorem dL_isLearned_14 : decode cL_isLearned 14 = .ok (.iconst 1, 1) := by decide +kernel
theorem dL_isLearned_15 : decode cL_isLearned 15 = .ok (.iload 4, 2) := by decide +kernel
theorem dL_isLearned_17 : decode cL_isLearned 17 = .ok (.bipush 8, 2) := by decide +kernel
theorem dL_isLearned_19 : decode cL_isLearned 19 = .ok (.idiv, 1) := by decide +kernel
theorem dL_isLearned_20 : decode cL_isLearned 20 = .ok (.aload_n 2, 1) := by decide +kernel
theorem dL_isLearned_21 : decode cL_isLearned 21 = .ok (.iload 6, 2) := by decide +kernel
theorem dL_isLearned_23 : decode cL_isLearned 23 = .ok (.iaload, 1) := by decide +kernel
theorem dL_isLearned_24 : decode cL_isLearned 24 = .ok (.irem, 1) := by decide +kernel
theorem dL_isLearned_25 : decode cL_isLearned 25 = .ok (.iadd, 1) := by decide +kernel
theorem dL_isLearned_26 : decode cL_isLearned 26 = .ok (.istore 7, 2) := by decide +kernel
theorem dL_isLearned_28 : decode cL_isLearned 28 = .ok (.iload 4, 2) := by decide +kernel
theorem dL_isLearned_30 : decode cL_isLearned 30 = .ok (.sipush 128, 3) := by decide +kernel
theorem dL_isLearned_33 : decode cL_isLearned 33 = .ok (.idiv, 1) := by decide +kernel
theorem dL_isLearned_34 : decode cL_isLearned 34 = .ok (.bipush 8, 2) := by decide +kernel
theorem dL_isLearned_36 : decode cL_isLearned 36 = .ok (.irem, 1) := by decide +kernel
theorem dL_isLearned_37 : decode cL_isLearned 37 = .ok (.istore 8, 2) := by decide +kernel
theorem dL_isLearned_39 : decode cL_isLearned 39 = .ok (.iconst 2, 1) := by decide +kernel
theorem dL_isLearned_40 : decode cL_isLearned 40 = .ok (.iconst 2, 1) := by decide +kernel
theorem dL_isLearned_41 : decode cL_isLearned 41 = .ok (.iload 5, 2) := by decide +kernel
theorem dL_isLearned_43 : decode cL_isLearned 43 = .ok (.imul, 1) := by decide +kernel
theorem dL_isLearned_44 : decode cL_isLearned 44 = .ok (.iadd, 1) := by decide +kernel
theorem dL_isLearned_45 : decode cL_isLearned 45 = .ok (.iload 6, 2) := by decide +kernel
theorem dL_isLearned_47 : decode cL_isLearned 47 = .ok (.iadd, 1) := by decide +kernel
theorem dL_isLearned_48 : decode cL_isLearned 48 = .ok (.istore 9, 2) := by decide +kernel
theorem dL_isLearned_50 : decode cL_isLearned 50 = .ok (.iload_n 3, 1) := by decide +kernel
theorem dL_isLearned_51 : decode cL_isLearned 51 = .ok (.ifCond .ne 50, 3) := by decide +kernel
theorem dL_isLearned_54 : decode cL_isLearned 54 = .ok (.aload_n 1, 1) := by decide +kernel
theorem dL_isLearned_55 : decode cL_isLearned 55 = .ok (.iload 6, 2) := by decide +kernel
theorem dL_isLearned_57 : decode cL_isLearned 57 = .ok (.laload, 1) := by decide +kernel
theorem dL_isLearned_58 : decode cL_isLearned 58 = .ok (.iload 7, 2) := by decide +kernel
theorem dL_isLearned_60 : decode cL_isLearned 60 = .ok (.invokestatic 13, 3) := by decide +kernel
theorem dL_isLearned_63 : decode cL_isLearned 63 = .ok (.istore 10, 2) := by decide +kernel
theorem dL_isLearned_65 : decode cL_isLearned 65 = .ok (.aload_n 1, 1) := by decide +kernel
theorem dL_isLearned_66 : decode cL_isLearned 66 = .ok (.iload 6, 2) := by decide +kernel
theorem dL_isLearned_68 : decode cL_isLearned 68 = .ok (.aload_n 1, 1) := by decide +kernel
theorem dL_isLearned_69 : decode cL_isLearned 69 = .ok (.iload 6, 2) := by decide +kernel
theorem dL_isLearned_71 : decode cL_isLearned 71 = .ok (.laload, 1) := by decide +kernel
theorem dL_isLearned_72 : decode cL_isLearned 72 = .ok (.iload 7, 2) := by decide +kernel
theorem dL_isLearned_74 : decode cL_isLearned 74 = .ok (.iload 8, 2) := by decide +kernel
theorem dL_isLearned_76 : decode cL_isLearned 76 = .ok (.invokestatic 101, 3) := by decide +kernel
theorem dL_isLearned_79 : decode cL_isLearned 79 = .ok (.lastore, 1) := by decide +kernel
theorem dL_isLearned_80 : decode cL_isLearned 80 = .ok (.aload_n 0, 1) := by decide +kernel
theorem dL_isLearned_81 : decode cL_isLearned 81 = .ok (.iload 6, 2) := by decide +kernel
theorem dL_isLearned_83 : decode cL_isLearned 83 = .ok (.iload 7, 2) := by decide +kernel
theorem dL_isLearned_85 : decode cL_isLearned 85 = .ok (.iload 8, 2) := by decide +kernel
theorem dL_isLearned_87 : decode cL_isLearned 87 = .ok (.invokevirtual 105, 3) := by decide +kernel
theorem dL_isLearned_90 : decode cL_isLearned 90 = .ok (.iload 10, 2) := by decide +kernel
theorem dL_isLearned_92 : decode cL_isLearned 92 = .ok (.if_icmp .ne 7, 3) := by decide +kernel
theorem dL_isLearned_95 : decode cL_isLearned 95 = .ok (.iconst 1, 1) := by decide +kernel
theorem dL_isLearned_96 : decode cL_isLearned 96 = .ok (.goto 4, 3) := by decide +kernel
theorem dL_isLearned_99 : decode cL_isLearned 99 = .ok (.iconst 0, 1) := by decide +kernel
theorem dL_isLearned_100 : decode cL_isLearned 100 = .ok (.ireturn, 1) := by decide +kernel
theorem dL_isLearned_101 : decode cL_isLearned 101 = .ok (.iload_n 3, 1) := by decide +kernel
theorem dL_isLearned_102 : decode cL_isLearned 102 = .ok (.iconst 1, 1) := by decide +kernel
theorem dL_isLearned_103 : decode cL_isLearned 103 = .ok (.if_icmp .ne 62, 3) := by decide +kernel
theorem dL_isLearned_106 : decode cL_isLearned 106 = .ok (.aload_n 2, 1) := by decide +kernel
theorem dL_isLearned_107 : decode cL_isLearned 107 = .ok (.iconst 2, 1) := by decide +kernel
theorem dL_isLearned_108 : decode cL_isLearned 108 = .ok (.iload 6, 2) := by decide +kernel
theorem dL_isLearned_110 : decode cL_isLearned 110 = .ok (.iadd, 1) := by decide +kernel
theorem dL_isLearned_111 : decode cL_isLearned 111 = .ok (.iaload, 1) := by decide +kernel
theorem dL_isLearned_112 : decode cL_isLearned 112 = .ok (.istore 10, 2) := by decide +kernel
theorem dL_isLearned_114 : decode cL_isLearned 114 = .ok (.aload_n 2, 1) := by decide +kernel
theorem dL_isLearned_115 : decode cL_isLearned 115 = .ok (.iconst 2, 1) := by decide +kernel
theorem dL_isLearned_116 : decode cL_isLearned 116 = .ok (.iload 6, 2) := by decide +kernel
theorem dL_isLearned_118 : decode cL_isLearned 118 = .ok (.iadd, 1) := by decide +kernel
theorem dL_isLearned_119 : decode cL_isLearned 119 = .ok (.iload 4, 2) := by decide +kernel
theorem dL_isLearned_121 : decode cL_isLearned 121 = .ok (.bipush 8, 2) := by decide +kernel
theorem dL_isLearned_123 : decode cL_isLearned 123 = .ok (.idiv, 1) := by decide +kernel
theorem dL_isLearned_124 : decode cL_isLearned 124 = .ok (.iconst 2, 1) := by decide +kernel
theorem dL_isLearned_125 : decode cL_isLearned 125 = .ok (.irem, 1) := by decide +kernel
theorem dL_isLearned_126 : decode cL_isLearned 126 = .ok (.ifCond .ne 7, 3) := by decide +kernel
theorem dL_isLearned_129 : decode cL_isLearned 129 = .ok (.iconst 0, 1) := by decide +kernel
theorem dL_isLearned_130 : decode cL_isLearned 130 = .ok (.goto 11, 3) := by decide +kernel
theorem dL_isLearned_133 : decode cL_isLearned 133 = .ok (.iload 4, 2) := by decide +kernel
theorem dL_isLearned_135 : decode cL_isLearned 135 = .ok (.bipush 16, 2) := by decide +kernel
theorem dL_isLearned_137 : decode cL_isLearned 137 = .ok (.idiv, 1) := by decide +kernel
theorem dL_isLearned_138 : decode cL_isLearned 138 = .ok (.bipush 32, 2) := by decide +kernel
theorem dL_isLearned_140 : decode cL_isLearned 140 = .ok (.irem, 1) := by decide +kernel
theorem dL_isLearned_141 : decode cL_isLearned 141 = .ok (.iastore, 1) := by decide +kernel
theorem dL_isLearned_142 : decode cL_isLearned 142 = .ok (.aload_n 0, 1) := by decide +kernel
theorem dL_isLearned_143 : decode cL_isLearned 143 = .ok (.iload 6, 2) := by decide +kernel
theorem dL_isLearned_145 : decode cL_isLearned 145 = .ok (.aload_n 2, 1) := by decide +kernel
theorem dL_isLearned_146 : decode cL_isLearned 146 = .ok (.iconst 2, 1) := by decide +kernel
theorem dL_isLearned_147 : decode cL_isLearned 147 = .ok (.iload 6, 2) := by decide +kernel
theorem dL_isLearned_149 : decode cL_isLearned 149 = .ok (.iadd, 1) := by decide +kernel
theorem dL_isLearned_150 : decode cL_isLearned 150 = .ok (.iaload, 1) := by decide +kernel
theorem dL_isLearned_151 : decode cL_isLearned 151 = .ok (.invokevirtual 108, 3) := by decide +kernel
theorem dL_isLearned_154 : decode cL_isLearned 154 = .ok (.iload 10, 2) := by decide +kernel
theorem dL_isLearned_156 : decode cL_isLearned 156 = .ok (.if_icmp .ne 7, 3) := by decide +kernel
theorem dL_isLearned_159 : decode cL_isLearned 159 = .ok (.iconst 1, 1) := by decide +kernel
theorem dL_isLearned_160 : decode cL_isLearned 160 = .ok (.goto 4, 3) := by decide +kernel
theorem dL_isLearned_163 : decode cL_isLearned 163 = .ok (.iconst 0, 1) := by decide +kernel
theorem dL_isLearned_164 : decode cL_isLearned 164 = .ok (.ireturn, 1) := by decide +kernel
theorem dL_isLearned_165 : decode cL_isLearned 165 = .ok (.iload_n 3, 1) := by decide +kernel
theorem dL_isLearned_166 : decode cL_isLearned 166 = .ok (.iconst 2, 1) := by decide +kernel
theorem dL_isLearned_167 : decode cL_isLearned 167 = .ok (.if_icmp .ne 63, 3) := by decide +kernel
theorem dL_isLearned_170 : decode cL_isLearned 170 = .ok (.aload_n 1, 1) := by decide +kernel
theorem dL_isLearned_171 : decode cL_isLearned 171 = .ok (.iload 9, 2) := by decide +kernel
theorem dL_isLearned_173 : decode cL_isLearned 173 = .ok (.laload, 1) := by decide +kernel
theorem dL_isLearned_174 : decode cL_isLearned 174 = .ok (.lconst 0, 1) := by decide +kernel
theorem dL_isLearned_175 : decode cL_isLearned 175 = .ok (.lcmp, 1) := by decide +kernel
theorem dL_isLearned_176 : decode cL_isLearned 176 = .ok (.ifCond .ge 5, 3) := by decide +kernel
theorem dL_isLearned_179 : decode cL_isLearned 179 = .ok (.iconst 1, 1) := by decide +kernel
theorem dL_isLearned_180 : decode cL_isLearned 180 = .ok (.ireturn, 1) := by decide +kernel
theorem dL_isLearned_181 : decode cL_isLearned 181 = .ok (.aload_n 1, 1) := by decide +kernel
theorem dL_isLearned_182 : decode cL_isLearned 182 = .ok (.iload 9, 2) := by decide +kernel
theorem dL_isLearned_184 : decode cL_isLearned 184 = .ok (.laload, 1) := by decide +kernel
theorem dL_isLearned_185 : decode cL_isLearned 185 = .ok (.iload 7, 2) := by decide +kernel
theorem dL_isLearned_187 : decode cL_isLearned 187 = .ok (.invokestatic 13, 3) := by decide +kernel
theorem dL_isLearned_190 : decode cL_isLearned 190 = .ok (.istore 10, 2) := by decide +kernel
theorem dL_isLearned_192 : decode cL_isLearned 192 = .ok (.aload_n 1, 1) := by decide +kernel
theorem dL_isLearned_193 : decode cL_isLearned 193 = .ok (.iload 9, 2) := by decide +kernel
theorem dL_isLearned_195 : decode cL_isLearned 195 = .ok (.aload_n 1, 1) := by decide +kernel
theorem dL_isLearned_196 : decode cL_isLearned 196 = .ok (.iload 9, 2) := by decide +kernel
theorem dL_isLearned_198 : decode cL_isLearned 198 = .ok (.laload, 1) := by decide +kernel
theorem dL_isLearned_199 : decode cL_isLearned 199 = .ok (.iload 7, 2) := by decide +kernel
theorem dL_isLearned_201 : decode cL_isLearned 201 = .ok (.iload 8, 2) := by decide +kernel
theorem dL_isLearned_203 : decode cL_isLearned 203 = .ok (.invokestatic 101, 3) := by decide +kernel
theorem dL_isLearned_206 : decode cL_isLearned 206 = .ok (.lastore, 1) := by decide +kernel
theorem dL_isLearned_207 : decode cL_isLearned 207 = .ok (.aload_n 0, 1) := by decide +kernel
theorem dL_isLearned_208 : decode cL_isLearned 208 = .ok (.iload 5, 2) := by decide +kernel
theorem dL_isLearned_210 : decode cL_isLearned 210 = .ok (.iload 6, 2) := by decide +kernel
theorem dL_isLearned_212 : decode cL_isLearned 212 = .ok (.iload 7, 2) := by decide +kernel
theorem dL_isLearned_214 : decode cL_isLearned 214 = .ok (.iload 8, 2) := by decide +kernel
theorem dL_isLearned_216 : decode cL_isLearned 216 = .ok (.invokevirtual 111, 3) := by decide +kernel
theorem dL_isLearned_219 : decode cL_isLearned 219 = .ok (.iload 10, 2) := by decide +kernel
theorem dL_isLearned_221 : decode cL_isLearned 221 = .ok (.if_icmp .ne 7, 3) := by decide +kernel
theorem dL_isLearned_224 : decode cL_isLearned 224 = .ok (.iconst 1, 1) := by decide +kernel
theorem dL_isLearned_225 : decode cL_isLearned 225 = .ok (.goto 4, 3) := by decide +kernel
theorem dL_isLearned_228 : decode cL_isLearned 228 = .ok (.iconst 0, 1) := by decide +kernel
theorem dL_isLearned_229 : decode cL_isLearned 229 = .ok (.ireturn, 1) := by decide +kernel
theorem dL_isLearned_230 : decode cL_isLearned 230 = .ok (.iload 4, 2) := by decide +kernel
theorem dL_isLearned_232 : decode cL_isLearned 232 = .ok (.bipush 16, 2) := by decide +kernel
theorem dL_isLearned_234 : decode cL_isLearned 234 = .ok (.idiv, 1) := by decide +kernel
theorem dL_isLearned_235 : decode cL_isLearned 235 = .ok (.iconst 5, 1) := by decide +kernel
theorem dL_isLearned_236 : decode cL_isLearned 236 = .ok (.irem, 1) := by decide +kernel
theorem dL_isLearned_237 : decode cL_isLearned 237 = .ok (.iconst 1, 1) := by decide +kernel
theorem dL_isLearned_238 : decode cL_isLearned 238 = .ok (.isub, 1) := by decide +kernel
theorem dL_isLearned_239 : decode cL_isLearned 239 = .ok (.istore 10, 2) := by decide +kernel
theorem dL_isLearned_241 : decode cL_isLearned 241 = .ok (.iload 10, 2) := by decide +kernel
theorem dL_isLearned_243 : decode cL_isLearned 243 = .ok (.ifCond .ge 10, 3) := by decide +kernel
theorem dL_isLearned_246 : decode cL_isLearned 246 = .ok (.aload_n 1, 1) := by decide +kernel
theorem dL_isLearned_247 : decode cL_isLearned 247 = .ok (.iload 6, 2) := by decide +kernel
theorem dL_isLearned_249 : decode cL_isLearned 249 = .ok (.laload, 1) := by decide +kernel
theorem dL_isLearned_250 : decode cL_isLearned 250 = .ok (.goto 14, 3) := by decide +kernel
theorem dL_isLearned_253 : decode cL_isLearned 253 = .ok (.aload_n 1, 1) := by decide +kernel
theorem dL_isLearned_254 : decode cL_isLearned 254 = .ok (.iconst 2, 1) := by decide +kernel
theorem dL_isLearned_255 : decode cL_isLearned 255 = .ok (.iconst 2, 1) := by decide +kernel
theorem dL_isLearned_256 : decode cL_isLearned 256 = .ok (.iload 10, 2) := by decide +kernel
theorem dL_isLearned_258 : decode cL_isLearned 258 = .ok (.imul, 1) := by decide +kernel
theorem dL_isLearned_259 : decode cL_isLearned 259 = .ok (.iadd, 1) := by decide +kernel
theorem dL_isLearned_260 : decode cL_isLearned 260 = .ok (.iload 6, 2) := by decide +kernel
theorem dL_isLearned_262 : decode cL_isLearned 262 = .ok (.iadd, 1) := by decide +kernel
theorem dL_isLearned_263 : decode cL_isLearned 263 = .ok (.laload, 1) := by decide +kernel
theorem dL_isLearned_264 : decode cL_isLearned 264 = .ok (.lstore 11, 2) := by decide +kernel
theorem dL_isLearned_266 : decode cL_isLearned 266 = .ok (.iload 10, 2) := by decide +kernel
theorem dL_isLearned_268 : decode cL_isLearned 268 = .ok (.iload 5, 2) := by decide +kernel
theorem dL_isLearned_270 : decode cL_isLearned 270 = .ok (.if_icmp .eq 10, 3) := by decide +kernel
theorem dL_isLearned_273 : decode cL_isLearned 273 = .ok (.lload 11, 2) := by decide +kernel
theorem dL_isLearned_275 : decode cL_isLearned 275 = .ok (.lconst 0, 1) := by decide +kernel
theorem dL_isLearned_276 : decode cL_isLearned 276 = .ok (.lcmp, 1) := by decide +kernel
theorem dL_isLearned_277 : decode cL_isLearned 277 = .ok (.ifCond .ge 5, 3) := by decide +kernel
theorem dL_isLearned_280 : decode cL_isLearned 280 = .ok (.iconst 1, 1) := by decide +kernel
theorem dL_isLearned_281 : decode cL_isLearned 281 = .ok (.ireturn, 1) := by decide +kernel
theorem dL_isLearned_282 : decode cL_isLearned 282 = .ok (.aload_n 1, 1) := by decide +kernel
theorem dL_isLearned_283 : decode cL_isLearned 283 = .ok (.iload 9, 2) := by decide +kernel
theorem dL_isLearned_285 : decode cL_isLearned 285 = .ok (.lload 11, 2) := by decide +kernel
theorem dL_isLearned_287 : decode cL_isLearned 287 = .ok (.lastore, 1) := by decide +kernel
theorem dL_isLearned_288 : decode cL_isLearned 288 = .ok (.iconst 0, 1) := by decide +kernel
theorem dL_isLearned_289 : decode cL_isLearned 289 = .ok (.istore 13, 2) := by decide +kernel
theorem dL_isLearned_291 : decode cL_isLearned 291 = .ok (.iconst 0, 1) := by decide +kernel
theorem dL_isLearned_292 : decode cL_isLearned 292 = .ok (.istore 14, 2) := by decide +kernel
theorem dL_isLearned_294 : decode cL_isLearned 294 = .ok (.iload 14, 2) := by decide +kernel
theorem dL_isLearned_296 : decode cL_isLearned 296 = .ok (.iconst 4, 1) := by decide +kernel
theorem dL_isLearned_297 : decode cL_isLearned 297 = .ok (.if_icmp .ge 35, 3) := by decide +kernel
theorem dL_isLearned_300 : decode cL_isLearned 300 = .ok (.iload 13, 2) := by decide +kernel
theorem dL_isLearned_302 : decode cL_isLearned 302 = .ok (.aload_n 1, 1) := by decide +kernel
theorem dL_isLearned_303 : decode cL_isLearned 303 = .ok (.iconst 2, 1) := by decide +kernel
theorem dL_isLearned_304 : decode cL_isLearned 304 = .ok (.iconst 2, 1) := by decide +kernel
theorem dL_isLearned_305 : decode cL_isLearned 305 = .ok (.iload 14, 2) := by decide +kernel
theorem dL_isLearned_307 : decode cL_isLearned 307 = .ok (.imul, 1) := by decide +kernel
theorem dL_isLearned_308 : decode cL_isLearned 308 = .ok (.iadd, 1) := by decide +kernel
theorem dL_isLearned_309 : decode cL_isLearned 309 = .ok (.iload 6, 2) := by decide +kernel
theorem dL_isLearned_311 : decode cL_isLearned 311 = .ok (.iadd, 1) := by decide +kernel
theorem dL_isLearned_312 : decode cL_isLearned 312 = .ok (.laload, 1) := by decide +kernel
theorem dL_isLearned_313 : decode cL_isLearned 313 = .ok (.lconst 0, 1) := by decide +kernel
theorem dL_isLearned_314 : decode cL_isLearned 314 = .ok (.lcmp, 1) := by decide +kernel
theorem dL_isLearned_315 : decode cL_isLearned 315 = .ok (.ifCond .ge 7, 3) := by decide +kernel
theorem dL_isLearned_318 : decode cL_isLearned 318 = .ok (.iconst 0, 1) := by decide +kernel
theorem dL_isLearned_319 : decode cL_isLearned 319 = .ok (.goto 4, 3) := by decide +kernel
theorem dL_isLearned_322 : decode cL_isLearned 322 = .ok (.iconst 1, 1) := by decide +kernel
theorem dL_isLearned_323 : decode cL_isLearned 323 = .ok (.iadd, 1) := by decide +kernel
theorem dL_isLearned_324 : decode cL_isLearned 324 = .ok (.istore 13, 2) := by decide +kernel
theorem dL_isLearned_326 : decode cL_isLearned 326 = .ok (.iinc 14 1, 3) := by decide +kernel
theorem dL_isLearned_329 : decode cL_isLearned 329 = .ok (.goto (-35), 3) := by decide +kernel
theorem dL_isLearned_332 : decode cL_isLearned 332 = .ok (.aload_n 0, 1) := by decide +kernel
theorem dL_isLearned_333 : decode cL_isLearned 333 = .ok (.iload 5, 2) := by decide +kernel
theorem dL_isLearned_335 : decode cL_isLearned 335 = .ok (.iload 6, 2) := by decide +kernel
theorem dL_isLearned_337 : decode cL_isLearned 337 = .ok (.iload 10, 2) := by decide +kernel
theorem dL_isLearned_339 : decode cL_isLearned 339 = .ok (.invokevirtual 115, 3) := by decide +kernel
theorem dL_isLearned_342 : decode cL_isLearned 342 = .ok (.iload 13, 2) := by decide +kernel
theorem dL_isLearned_344 : decode cL_isLearned 344 = .ok (.if_icmp .ne 7, 3) := by decide +kernel
theorem dL_isLearned_347 : decode cL_isLearned 347 = .ok (.iconst 1, 1) := by decide +kernel
theorem dL_isLearned_348 : decode cL_isLearned 348 = .ok (.goto 4, 3) := by decide +kernel
theorem dL_isLearned_351 : decode cL_isLearned 351 = .ok (.iconst 0, 1) := by decide +kernel
theorem dL_isLearned_352 : decode cL_isLearned 352 = .ok (.ireturn, 1) := by decide +kernel
theorem dL_isBegun_0 : decode cL_isBegun 0 = .ok (.aload_n 0, 1) := by decide +kernel
theorem dL_isBegun_1 : decode cL_isBegun 1 = .ok (.iconst 1, 1) := by decide +kernel
theorem dL_isBegun_2 : decode cL_isBegun 2 = .ok (.invokevirtual 43, 3) := by decide +kernel
theorem dL_isBegun_5 : decode cL_isBegun 5 = .ok (.ifCond .ne 16, 3) := by decide +kernel
theorem dL_isBegun_8 : decode cL_isBegun 8 = .ok (.aload_n 0, 1) := by decide +kernel
theorem dL_isBegun_9 : decode cL_isBegun 9 = .ok (.iconst 5, 1) := by decide +kernel
theorem dL_isBegun_10 : decode cL_isBegun 10 = .ok (.invokevirtual 43, 3) := by decide +kernel
theorem dL_isBegun_13 : decode cL_isBegun 13 = .ok (.iconst (-1), 1) := by decide +kernel
theorem dL_isBegun_14 : decode cL_isBegun 14 = .ok (.if_icmp .ne 7, 3) := by decide +kernel
theorem dL_isBegun_17 : decode cL_isBegun 17 = .ok (.iconst 1, 1) := by decide +kernel
theorem dL_isBegun_18 : decode cL_isBegun 18 = .ok (.goto 4, 3) := by decide +kernel
theorem dL_isBegun_21 : decode cL_isBegun 21 = .ok (.iconst 0, 1) := by decide +kernel
theorem dL_isBegun_22 : decode cL_isBegun 22 = .ok (.istore 5, 2) := by decide +kernel
theorem dL_isBegun_24 : decode cL_isBegun 24 = .ok (.aload_n 3, 1) := by decide +kernel
theorem dL_isBegun_25 : decode cL_isBegun 25 = .ok (.iconst 5, 1) := by decide +kernel
theorem dL_isBegun_26 : decode cL_isBegun 26 = .ok (.iconst (-1), 1) := by decide +kernel
theorem dL_isBegun_27 : decode cL_isBegun 27 = .ok (.iastore, 1) := by decide +kernel
theorem dL_isBegun_28 : decode cL_isBegun 28 = .ok (.iconst 0, 1) := by decide +kernel
theorem dL_isBegun_29 : decode cL_isBegun 29 = .ok (.istore 6, 2) := by decide +kernel
theorem dL_isBegun_31 : decode cL_isBegun 31 = .ok (.iload 6, 2) := by decide +kernel
theorem dL_isBegun_33 : decode cL_isBegun 33 = .ok (.iconst 2, 1) := by decide +kernel
theorem dL_isBegun_34 : decode cL_isBegun 34 = .ok (.if_icmp .ge 159, 3) := by decide +kernel
theorem dL_isBegun_37 : decode cL_isBegun 37 = .ok (.iload 5, 2) := by decide +kernel
theorem dL_isBegun_39 : decode cL_isBegun 39 = .ok (.ifCond .eq 154, 3) := by decide +kernel
theorem dL_isBegun_42 : decode cL_isBegun 42 = .ok (.aload_n 3, 1) := by decide +kernel
theorem dL_isBegun_43 : decode cL_isBegun 43 = .ok (.iload 6, 2) := by decide +kernel
theorem dL_isBegun_45 : decode cL_isBegun 45 = .ok (.iconst 4, 1) := by decide +kernel
theorem dL_isBegun_46 : decode cL_isBegun 46 = .ok (.iconst 4, 1) := by decide +kernel
theorem dL_isBegun_47 : decode cL_isBegun 47 = .ok (.aload_n 1, 1) := by decide +kernel
theorem dL_isBegun_48 : decode cL_isBegun 48 = .ok (.sipush 300, 3) := by decide +kernel
theorem dL_isBegun_51 : decode cL_isBegun 51 = .ok (.iload 6, 2) := by decide +kernel
theorem dL_isBegun_53 : decode cL_isBegun 53 = .ok (.iadd, 1) := by decide +kernel
theorem dL_isBegun_54 : decode cL_isBegun 54 = .ok (.iconst 4, 1) := by decide +kernel
theorem dL_isBegun_55 : decode cL_isBegun 55 = .ok (.invokestatic 118, 3) := by decide +kernel
theorem dL_isBegun_58 : decode cL_isBegun 58 = .ok (.imul, 1) := by decide +kernel
theorem dL_isBegun_59 : decode cL_isBegun 59 = .ok (.iadd, 1) := by decide +kernel
theorem dL_isBegun_60 : decode cL_isBegun 60 = .ok (.iastore, 1) := by decide +kernel
theorem dL_isBegun_61 : decode cL_isBegun 61 = .ok (.aload_n 0, 1) := by decide +kernel
theorem dL_isBegun_62 : decode cL_isBegun 62 = .ok (.aload_n 3, 1) := by decide +kernel
theorem dL_isBegun_63 : decode cL_isBegun 63 = .ok (.iload 6, 2) := by decide +kernel
theorem dL_isBegun_65 : decode cL_isBegun 65 = .ok (.iaload, 1) := by decide +kernel
theorem dL_isBegun_66 : decode cL_isBegun 66 = .ok (.invokevirtual 122, 3) := by decide +kernel
theorem dL_isBegun_69 : decode cL_isBegun 69 = .ok (.iload 6, 2) := by decide +kernel
theorem dL_isBegun_71 : decode cL_isBegun 71 = .ok (.if_icmp .ne 18, 3) := by decide +kernel
theorem dL_isBegun_74 : decode cL_isBegun 74 = .ok (.aload_n 0, 1) := by decide +kernel
theorem dL_isBegun_75 : decode cL_isBegun 75 = .ok (.iload 6, 2) := by decide +kernel
theorem dL_isBegun_77 : decode cL_isBegun 77 = .ok (.invokevirtual 125, 3) := by decide +kernel
theorem dL_isBegun_80 : decode cL_isBegun 80 = .ok (.iload 6, 2) := by decide +kernel
theorem dL_isBegun_82 : decode cL_isBegun 82 = .ok (.if_icmp .ne 7, 3) := by decide +kernel
theorem dL_isBegun_85 : decode cL_isBegun 85 = .ok (.iconst 1, 1) := by decide +kernel
theorem dL_isBegun_86 : decode cL_isBegun 86 = .ok (.goto 4, 3) := by decide +kernel
theorem dL_isBegun_89 : decode cL_isBegun 89 = .ok (.iconst 0, 1) := by decide +kernel
theorem dL_isBegun_90 : decode cL_isBegun 90 = .ok (.istore 5, 2) := by decide +kernel
theorem dL_isBegun_92 : decode cL_isBegun 92 = .ok (.iconst 1, 1) := by decide +kernel
theorem dL_isBegun_93 : decode cL_isBegun 93 = .ok (.istore 7, 2) := by decide +kernel
theorem dL_isBegun_95 : decode cL_isBegun 95 = .ok (.iload 7, 2) := by decide +kernel
theorem dL_isBegun_97 : decode cL_isBegun 97 = .ok (.aload_n 3, 1) := by decide +kernel
theorem dL_isBegun_98 : decode cL_isBegun 98 = .ok (.iload 6, 2) := by decide +kernel
theorem dL_isBegun_100 : decode cL_isBegun 100 = .ok (.iaload, 1) := by decide +kernel
theorem dL_isBegun_101 : decode cL_isBegun 101 = .ok (.if_icmp .gt 86, 3) := by decide +kernel
theorem dL_isBegun_104 : decode cL_isBegun 104 = .ok (.iload 5, 2) := by decide +kernel
theorem dL_isBegun_106 : decode cL_isBegun 106 = .ok (.ifCond .eq 81, 3) := by decide +kernel
theorem dL_isBegun_109 : decode cL_isBegun 109 = .ok (.aload_n 1, 1) := by decide +kernel
theorem dL_isBegun_110 : decode cL_isBegun 110 = .ok (.sipush 310, 3) := by decide +kernel
theorem dL_isBegun_113 : decode cL_isBegun 113 = .ok (.bipush 16, 2) := by decide +kernel
theorem dL_isBegun_115 : decode cL_isBegun 115 = .ok (.iload 6, 2) := by decide +kernel
theorem dL_isBegun_117 : decode cL_isBegun 117 = .ok (.imul, 1) := by decide +kernel
theorem dL_isBegun_118 : decode cL_isBegun 118 = .ok (.iadd, 1) := by decide +kernel
theorem dL_isBegun_119 : decode cL_isBegun 119 = .ok (.iload 7, 2) := by decide +kernel
theorem dL_isBegun_121 : decode cL_isBegun 121 = .ok (.iadd, 1) := by decide +kernel
theorem dL_isBegun_122 : decode cL_isBegun 122 = .ok (.bipush 16, 2) := by decide +kernel
theorem dL_isBegun_124 : decode cL_isBegun 124 = .ok (.invokestatic 118, 3) := by decide +kernel
theorem dL_isBegun_127 : decode cL_isBegun 127 = .ok (.bipush 8, 2) := by decide +kernel
theorem dL_isBegun_129 : decode cL_isBegun 129 = .ok (.isub, 1) := by decide +kernel
theorem dL_isBegun_130 : decode cL_isBegun 130 = .ok (.istore 8, 2) := by decide +kernel
theorem dL_isBegun_132 : decode cL_isBegun 132 = .ok (.aload_n 2, 1) := by decide +kernel
theorem dL_isBegun_133 : decode cL_isBegun 133 = .ok (.iload 6, 2) := by decide +kernel
theorem dL_isBegun_135 : decode cL_isBegun 135 = .ok (.aload_n 2, 1) := by decide +kernel
theorem dL_isBegun_136 : decode cL_isBegun 136 = .ok (.iload 6, 2) := by decide +kernel
theorem dL_isBegun_138 : decode cL_isBegun 138 = .ok (.laload, 1) := by decide +kernel
theorem dL_isBegun_139 : decode cL_isBegun 139 = .ok (.iload 7, 2) := by decide +kernel
theorem dL_isBegun_141 : decode cL_isBegun 141 = .ok (.iload 8, 2) := by decide +kernel
theorem dL_isBegun_143 : decode cL_isBegun 143 = .ok (.ifCond .le 8, 3) := by decide +kernel
theorem dL_isBegun_146 : decode cL_isBegun 146 = .ok (.iload 8, 2) := by decide +kernel
theorem dL_isBegun_148 : decode cL_isBegun 148 = .ok (.goto 4, 3) := by decide +kernel
theorem dL_isBegun_151 : decode cL_isBegun 151 = .ok (.iconst 0, 1) := by decide +kernel
theorem dL_isBegun_152 : decode cL_isBegun 152 = .ok (.invokestatic 101, 3) := by decide +kernel
theorem dL_isBegun_155 : decode cL_isBegun 155 = .ok (.lastore, 1) := by decide +kernel
theorem dL_isBegun_156 : decode cL_isBegun 156 = .ok (.iload 8, 2) := by decide +kernel
theorem dL_isBegun_158 : decode cL_isBegun 158 = .ok (.ifCond .le 16, 3) := by decide +kernel
theorem dL_isBegun_161 : decode cL_isBegun 161 = .ok (.aload_n 0, 1) := by decide +kernel
theorem dL_isBegun_162 : decode cL_isBegun 162 = .ok (.iload 6, 2) := by decide +kernel
theorem dL_isBegun_164 : decode cL_isBegun 164 = .ok (.iload 7, 2) := by decide +kernel
theorem dL_isBegun_166 : decode cL_isBegun 166 = .ok (.iload 8, 2) := by decide +kernel
theorem dL_isBegun_168 : decode cL_isBegun 168 = .ok (.invokevirtual 105, 3) := by decide +kernel
theorem dL_isBegun_171 : decode cL_isBegun 171 = .ok (.ifCond .ne 7, 3) := by decide +kernel
theorem dL_isBegun_174 : decode cL_isBegun 174 = .ok (.iconst 1, 1) := by decide +kernel
theorem dL_isBegun_175 : decode cL_isBegun 175 = .ok (.goto 4, 3) := by decide +kernel
theorem dL_isBegun_178 : decode cL_isBegun 178 = .ok (.iconst 0, 1) := by decide +kernel
theorem dL_isBegun_179 : decode cL_isBegun 179 = .ok (.istore 5, 2) := by decide +kernel
theorem dL_isBegun_181 : decode cL_isBegun 181 = .ok (.iinc 7 1, 3) := by decide +kernel
theorem dL_isBegun_184 : decode cL_isBegun 184 = .ok (.goto (-89), 3) := by decide +kernel
theorem dL_isBegun_187 : decode cL_isBegun 187 = .ok (.iinc 6 1, 3) := by decide +kernel
theorem dL_isBegun_190 : decode cL_isBegun 190 = .ok (.goto (-159), 3) := by decide +kernel
theorem dL_isBegun_193 : decode cL_isBegun 193 = .ok (.iconst 0, 1) := by decide +kernel
theorem dL_isBegun_194 : decode cL_isBegun 194 = .ok (.istore 6, 2) := by decide +kernel
theorem dL_isBegun_196 : decode cL_isBegun 196 = .ok (.iload 6, 2) := by decide +kernel
theorem dL_isBegun_198 : decode cL_isBegun 198 = .ok (.iconst 4, 1) := by decide +kernel
theorem dL_isBegun_199 : decode cL_isBegun 199 = .ok (.if_icmp .ge 78, 3) := by decide +kernel
theorem dL_isBegun_202 : decode cL_isBegun 202 = .ok (.iload 5, 2) := by decide +kernel
theorem dL_isBegun_204 : decode cL_isBegun 204 = .ok (.ifCond .eq 73, 3) := by decide +kernel
theorem dL_isBegun_207 : decode cL_isBegun 207 = .ok (.aload_n 3, 1) := by decide +kernel
theorem dL_isBegun_208 : decode cL_isBegun 208 = .ok (.bipush 15, 2) := by decide +kernel
theorem dL_isBegun_210 : decode cL_isBegun 210 = .ok (.iload 6, 2) := by decide +kernel
theorem dL_isBegun_212 : decode cL_isBegun 212 = .ok (.iadd, 1) := by decide +kernel
theorem dL_isBegun_213 : decode cL_isBegun 213 = .ok (.aload_n 1, 1) := by decide +kernel
theorem dL_isBegun_214 : decode cL_isBegun 214 = .ok (.sipush 350, 3) := by decide +kernel
theorem dL_isBegun_217 : decode cL_isBegun 217 = .ok (.iload 6, 2) := by decide +kernel
theorem dL_isBegun_219 : decode cL_isBegun 219 = .ok (.iadd, 1) := by decide +kernel
theorem dL_isBegun_220 : decode cL_isBegun 220 = .ok (.bipush 16, 2) := by decide +kernel
theorem dL_isBegun_222 : decode cL_isBegun 222 = .ok (.invokestatic 118, 3) := by decide +kernel
theorem dL_isBegun_225 : decode cL_isBegun 225 = .ok (.iastore, 1) := by decide +kernel
theorem dL_isBegun_226 : decode cL_isBegun 226 = .ok (.aload_n 2, 1) := by decide +kernel
theorem dL_isBegun_227 : decode cL_isBegun 227 = .ok (.iconst 2, 1) := by decide +kernel
theorem dL_isBegun_228 : decode cL_isBegun 228 = .ok (.iconst 2, 1) := by decide +kernel
theorem dL_isBegun_229 : decode cL_isBegun 229 = .ok (.iload 6, 2) := by decide +kernel
theorem dL_isBegun_231 : decode cL_isBegun 231 = .ok (.imul, 1) := by decide +kernel
theorem dL_isBegun_232 : decode cL_isBegun 232 = .ok (.iadd, 1) := by decide +kernel
theorem dL_isBegun_233 : decode cL_isBegun 233 = .ok (.ldc2_w 11, 3) := by decide +kernel
theorem dL_isBegun_236 : decode cL_isBegun 236 = .ok (.lastore, 1) := by decide +kernel
theorem dL_isBegun_237 : decode cL_isBegun 237 = .ok (.aload_n 2, 1) := by decide +kernel
theorem dL_isBegun_238 : decode cL_isBegun 238 = .ok (.iconst 3, 1) := by decide +kernel
theorem dL_isBegun_239 : decode cL_isBegun 239 = .ok (.iconst 2, 1) := by decide +kernel
theorem dL_isBegun_240 : decode cL_isBegun 240 = .ok (.iload 6, 2) := by decide +kernel
theorem dL_isBegun_242 : decode cL_isBegun 242 = .ok (.imul, 1) := by decide +kernel
theorem dL_isBegun_243 : decode cL_isBegun 243 = .ok (.iadd, 1) := by decide +kernel
theorem dL_isBegun_244 : decode cL_isBegun 244 = .ok (.ldc2_w 11, 3) := by decide +kernel
theorem dL_isBegun_247 : decode cL_isBegun 247 = .ok (.lastore, 1) := by decide +kernel
theorem dL_isBegun_248 : decode cL_isBegun 248 = .ok (.aload_n 0, 1) := by decide +kernel
theorem dL_isBegun_249 : decode cL_isBegun 249 = .ok (.aload_n 3, 1) := by decide +kernel
theorem dL_isBegun_250 : decode cL_isBegun 250 = .ok (.bipush 15, 2) := by decide +kernel
theorem dL_isBegun_252 : decode cL_isBegun 252 = .ok (.iload 6, 2) := by decide +kernel
theorem dL_isBegun_254 : decode cL_isBegun 254 = .ok (.iadd, 1) := by decide +kernel
theorem dL_isBegun_255 : decode cL_isBegun 255 = .ok (.iaload, 1) := by decide +kernel
theorem dL_isBegun_256 : decode cL_isBegun 256 = .ok (.invokevirtual 128, 3) := by decide +kernel
theorem dL_isBegun_259 : decode cL_isBegun 259 = .ok (.iload 6, 2) := by decide +kernel
theorem dL_isBegun_261 : decode cL_isBegun 261 = .ok (.if_icmp .ne 7, 3) := by decide +kernel
theorem dL_isBegun_264 : decode cL_isBegun 264 = .ok (.iconst 1, 1) := by decide +kernel
theorem dL_isBegun_265 : decode cL_isBegun 265 = .ok (.goto 4, 3) := by decide +kernel
theorem dL_isBegun_268 : decode cL_isBegun 268 = .ok (.iconst 0, 1) := by decide +kernel
theorem dL_isBegun_269 : decode cL_isBegun 269 = .ok (.istore 5, 2) := by decide +kernel
theorem dL_isBegun_271 : decode cL_isBegun 271 = .ok (.iinc 6 1, 3) := by decide +kernel
theorem dL_isBegun_274 : decode cL_isBegun 274 = .ok (.goto (-78), 3) := by decide +kernel
theorem dL_isBegun_277 : decode cL_isBegun 277 = .ok (.iconst 0, 1) := by decide +kernel
theorem dL_isBegun_278 : decode cL_isBegun 278 = .ok (.istore 6, 2) := by decide +kernel
theorem dL_isBegun_280 : decode cL_isBegun 280 = .ok (.iload 6, 2) := by decide +kernel
theorem dL_isBegun_282 : decode cL_isBegun 282 = .ok (.bipush 28, 2) := by decide +kernel
theorem dL_isBegun_284 : decode cL_isBegun 284 = .ok (.if_icmp .ge 16, 3) := by decide +kernel
theorem dL_isBegun_287 : decode cL_isBegun 287 = .ok (.aload 4, 2) := by decide +kernel
theorem dL_isBegun_289 : decode cL_isBegun 289 = .ok (.iload 6, 2) := by decide +kernel
theorem dL_isBegun_291 : decode cL_isBegun 291 = .ok (.ldc 131, 2) := by decide +kernel
theorem dL_isBegun_293 : decode cL_isBegun 293 = .ok (.iastore, 1) := by decide +kernel
theorem dL_isBegun_294 : decode cL_isBegun 294 = .ok (.iinc 6 1, 3) := by decide +kernel
theorem dL_isBegun_297 : decode cL_isBegun 297 = .ok (.goto (-17), 3) := by decide +kernel
theorem dL_isBegun_300 : decode cL_isBegun 300 = .ok (.iload 5, 2) := by decide +kernel
theorem dL_isBegun_302 : decode cL_isBegun 302 = .ok (.ireturn, 1) := by decide +kernel
theorem dL_holds_0 : decode cL_holds 0 = .ok (.new 32, 3) := by decide +kernel
theorem dL_holds_3 : decode cL_holds 3 = .ok (.dup, 1) := by decide +kernel
theorem dL_holds_4 : decode cL_holds 4 = .ok (.invokespecial 132, 3) := by decide +kernel
theorem dL_holds_7 : decode cL_holds 7 = .ok (.astore_n 1, 1) := by decide +kernel
theorem dL_holds_8 : decode cL_holds 8 = .ok (.bipush 15, 2) := by decide +kernel
theorem dL_holds_10 : decode cL_holds 10 = .ok (.newarray .long, 2) := by decide +kernel
theorem dL_holds_12 : decode cL_holds 12 = .ok (.astore_n 2, 1) := by decide +kernel
theorem dL_holds_13 : decode cL_holds 13 = .ok (.bipush 19, 2) := by decide +kernel
theorem dL_holds_15 : decode cL_holds 15 = .ok (.newarray .int, 2) := by decide +kernel
theorem dL_holds_17 : decode cL_holds 17 = .ok (.astore_n 3, 1) := by decide +kernel
theorem dL_holds_18 : decode cL_holds 18 = .ok (.bipush 32, 2) := by decide +kernel
theorem dL_holds_20 : decode cL_holds 20 = .ok (.newarray .int, 2) := by decide +kernel
theorem dL_holds_22 : decode cL_holds 22 = .ok (.astore 4, 2) := by decide +kernel
theorem dL_holds_24 : decode cL_holds 24 = .ok (.aload_n 1, 1) := by decide +kernel
theorem dL_holds_25 : decode cL_holds 25 = .ok (.aload_n 0, 1) := by decide +kernel
theorem dL_holds_26 : decode cL_holds 26 = .ok (.aload_n 2, 1) := by decide +kernel
theorem dL_holds_27 : decode cL_holds 27 = .ok (.aload_n 3, 1) := by decide +kernel
theorem dL_holds_28 : decode cL_holds 28 = .ok (.aload 4, 2) := by decide +kernel
theorem dL_holds_30 : decode cL_holds 30 = .ok (.invokestatic 133, 3) := by decide +kernel
theorem dL_holds_33 : decode cL_holds 33 = .ok (.istore 5, 2) := by decide +kernel
theorem dL_holds_35 : decode cL_holds 35 = .ok (.iconst 0, 1) := by decide +kernel
theorem dL_holds_36 : decode cL_holds 36 = .ok (.istore 6, 2) := by decide +kernel
theorem dL_holds_38 : decode cL_holds 38 = .ok (.iload 6, 2) := by decide +kernel
theorem dL_holds_40 : decode cL_holds 40 = .ok (.bipush 60, 2) := by decide +kernel
theorem dL_holds_42 : decode cL_holds 42 = .ok (.if_icmp .ge 198, 3) := by decide +kernel
theorem dL_holds_45 : decode cL_holds 45 = .ok (.iload 5, 2) := by decide +kernel
theorem dL_holds_47 : decode cL_holds 47 = .ok (.ifCond .eq 193, 3) := by decide +kernel
theorem dL_holds_50 : decode cL_holds 50 = .ok (.aload_n 0, 1) := by decide +kernel
theorem dL_holds_51 : decode cL_holds 51 = .ok (.iconst 2, 1) := by decide +kernel
theorem dL_holds_52 : decode cL_holds 52 = .ok (.iload 6, 2) := by decide +kernel
theorem dL_holds_54 : decode cL_holds 54 = .ok (.imul, 1) := by decide +kernel
theorem dL_holds_55 : decode cL_holds 55 = .ok (.bipush 32, 2) := by decide +kernel
theorem dL_holds_57 : decode cL_holds 57 = .ok (.invokestatic 118, 3) := by decide +kernel
theorem dL_holds_60 : decode cL_holds 60 = .ok (.istore 7, 2) := by decide +kernel
theorem dL_holds_62 : decode cL_holds 62 = .ok (.aload_n 0, 1) := by decide +kernel
theorem dL_holds_63 : decode cL_holds 63 = .ok (.iconst 2, 1) := by decide +kernel
theorem dL_holds_64 : decode cL_holds 64 = .ok (.iload 6, 2) := by decide +kernel
theorem dL_holds_66 : decode cL_holds 66 = .ok (.imul, 1) := by decide +kernel
theorem dL_holds_67 : decode cL_holds 67 = .ok (.iconst 1, 1) := by decide +kernel
theorem dL_holds_68 : decode cL_holds 68 = .ok (.iadd, 1) := by decide +kernel
theorem dL_holds_69 : decode cL_holds 69 = .ok (.ldc 137, 2) := by decide +kernel
theorem dL_holds_71 : decode cL_holds 71 = .ok (.invokestatic 118, 3) := by decide +kernel
theorem dL_holds_74 : decode cL_holds 74 = .ok (.istore 8, 2) := by decide +kernel
theorem dL_holds_76 : decode cL_holds 76 = .ok (.iload 7, 2) := by decide +kernel
theorem dL_holds_78 : decode cL_holds 78 = .ok (.bipush 14, 2) := by decide +kernel
theorem dL_holds_80 : decode cL_holds 80 = .ok (.if_icmp .ge 38, 3) := by decide +kernel
theorem dL_holds_83 : decode cL_holds 83 = .ok (.aload_n 1, 1) := by decide +kernel
theorem dL_holds_84 : decode cL_holds 84 = .ok (.aload_n 2, 1) := by decide +kernel
theorem dL_holds_85 : decode cL_holds 85 = .ok (.aload_n 3, 1) := by decide +kernel
theorem dL_holds_86 : decode cL_holds 86 = .ok (.iload 7, 2) := by decide +kernel
theorem dL_holds_88 : decode cL_holds 88 = .ok (.iconst 3, 1) := by decide +kernel
theorem dL_holds_89 : decode cL_holds 89 = .ok (.if_icmp .ge 7, 3) := by decide +kernel
theorem dL_holds_92 : decode cL_holds 92 = .ok (.iconst 0, 1) := by decide +kernel
theorem dL_holds_93 : decode cL_holds 93 = .ok (.goto 15, 3) := by decide +kernel
theorem dL_holds_96 : decode cL_holds 96 = .ok (.iload 7, 2) := by decide +kernel
theorem dL_holds_98 : decode cL_holds 98 = .ok (.bipush 7, 2) := by decide +kernel
theorem dL_holds_100 : decode cL_holds 100 = .ok (.if_icmp .ge 7, 3) := by decide +kernel
theorem dL_holds_103 : decode cL_holds 103 = .ok (.iconst 1, 1) := by decide +kernel
theorem dL_holds_104 : decode cL_holds 104 = .ok (.goto 4, 3) := by decide +kernel
theorem dL_holds_107 : decode cL_holds 107 = .ok (.iconst 2, 1) := by decide +kernel
theorem dL_holds_108 : decode cL_holds 108 = .ok (.iload 8, 2) := by decide +kernel
theorem dL_holds_110 : decode cL_holds 110 = .ok (.invokestatic 138, 3) := by decide +kernel
theorem dL_holds_113 : decode cL_holds 113 = .ok (.istore 5, 2) := by decide +kernel
theorem dL_holds_115 : decode cL_holds 115 = .ok (.goto 84, 3) := by decide +kernel
theorem dL_holds_118 : decode cL_holds 118 = .ok (.iload 7, 2) := by decide +kernel
theorem dL_holds_120 : decode cL_holds 120 = .ok (.bipush 20, 2) := by decide +kernel
theorem dL_holds_122 : decode cL_holds 122 = .ok (.if_icmp .ge 33, 3) := by decide +kernel
theorem dL_holds_125 : decode cL_holds 125 = .ok (.aload_n 1, 1) := by decide +kernel
theorem dL_holds_126 : decode cL_holds 126 = .ok (.aload_n 3, 1) := by decide +kernel
theorem dL_holds_127 : decode cL_holds 127 = .ok (.aload 4, 2) := by decide +kernel
theorem dL_holds_129 : decode cL_holds 129 = .ok (.iload 7, 2) := by decide +kernel
theorem dL_holds_131 : decode cL_holds 131 = .ok (.bipush 16, 2) := by decide +kernel
theorem dL_holds_133 : decode cL_holds 133 = .ok (.if_icmp .ge 7, 3) := by decide +kernel
theorem dL_holds_136 : decode cL_holds 136 = .ok (.iconst 0, 1) := by decide +kernel
theorem dL_holds_137 : decode cL_holds 137 = .ok (.goto 8, 3) := by decide +kernel
theorem dL_holds_140 : decode cL_holds 140 = .ok (.iload 7, 2) := by decide +kernel
theorem dL_holds_142 : decode cL_holds 142 = .ok (.bipush 16, 2) := by decide +kernel
theorem dL_holds_144 : decode cL_holds 144 = .ok (.isub, 1) := by decide +kernel
theorem dL_holds_145 : decode cL_holds 145 = .ok (.iload 8, 2) := by decide +kernel
theorem dL_holds_147 : decode cL_holds 147 = .ok (.invokestatic 142, 3) := by decide +kernel
theorem dL_holds_150 : decode cL_holds 150 = .ok (.istore 5, 2) := by decide +kernel
theorem dL_holds_152 : decode cL_holds 152 = .ok (.goto 47, 3) := by decide +kernel
theorem dL_holds_155 : decode cL_holds 155 = .ok (.aload_n 1, 1) := by decide +kernel
theorem dL_holds_156 : decode cL_holds 156 = .ok (.aload_n 2, 1) := by decide +kernel
theorem dL_holds_157 : decode cL_holds 157 = .ok (.aload_n 3, 1) := by decide +kernel
theorem dL_holds_158 : decode cL_holds 158 = .ok (.iload 7, 2) := by decide +kernel
theorem dL_holds_160 : decode cL_holds 160 = .ok (.bipush 23, 2) := by decide +kernel
theorem dL_holds_162 : decode cL_holds 162 = .ok (.if_icmp .ge 7, 3) := by decide +kernel
theorem dL_holds_165 : decode cL_holds 165 = .ok (.iconst 0, 1) := by decide +kernel
theorem dL_holds_166 : decode cL_holds 166 = .ok (.goto 26, 3) := by decide +kernel
theorem dL_holds_169 : decode cL_holds 169 = .ok (.iload 7, 2) := by decide +kernel
theorem dL_holds_171 : decode cL_holds 171 = .ok (.bipush 23, 2) := by decide +kernel
theorem dL_holds_173 : decode cL_holds 173 = .ok (.if_icmp .ne 7, 3) := by decide +kernel
theorem dL_holds_176 : decode cL_holds 176 = .ok (.iconst 1, 1) := by decide +kernel
theorem dL_holds_177 : decode cL_holds 177 = .ok (.goto 15, 3) := by decide +kernel
theorem dL_holds_180 : decode cL_holds 180 = .ok (.iload 7, 2) := by decide +kernel
theorem dL_holds_182 : decode cL_holds 182 = .ok (.bipush 27, 2) := by decide +kernel
theorem dL_holds_184 : decode cL_holds 184 = .ok (.if_icmp .ge 7, 3) := by decide +kernel
theorem dL_holds_187 : decode cL_holds 187 = .ok (.iconst 2, 1) := by decide +kernel
theorem dL_holds_188 : decode cL_holds 188 = .ok (.goto 4, 3) := by decide +kernel
theorem dL_holds_191 : decode cL_holds 191 = .ok (.iconst 3, 1) := by decide +kernel
theorem dL_holds_192 : decode cL_holds 192 = .ok (.iload 8, 2) := by decide +kernel
theorem dL_holds_194 : decode cL_holds 194 = .ok (.invokestatic 146, 3) := by decide +kernel
theorem dL_holds_197 : decode cL_holds 197 = .ok (.istore 5, 2) := by decide +kernel
theorem dL_holds_199 : decode cL_holds 199 = .ok (.iload 5, 2) := by decide +kernel
theorem dL_holds_201 : decode cL_holds 201 = .ok (.ifCond .eq 30, 3) := by decide +kernel
theorem dL_holds_204 : decode cL_holds 204 = .ok (.aload_n 3, 1) := by decide +kernel
theorem dL_holds_205 : decode cL_holds 205 = .ok (.bipush 12, 2) := by decide +kernel
theorem dL_holds_207 : decode cL_holds 207 = .ok (.iaload, 1) := by decide +kernel
theorem dL_holds_208 : decode cL_holds 208 = .ok (.ifCond .eq 19, 3) := by decide +kernel
theorem dL_holds_211 : decode cL_holds 211 = .ok (.aload_n 1, 1) := by decide +kernel
theorem dL_holds_212 : decode cL_holds 212 = .ok (.aload_n 2, 1) := by decide +kernel
theorem dL_holds_213 : decode cL_holds 213 = .ok (.aload_n 3, 1) := by decide +kernel
theorem dL_holds_214 : decode cL_holds 214 = .ok (.aload 4, 2) := by decide +kernel
theorem dL_holds_216 : decode cL_holds 216 = .ok (.iload 8, 2) := by decide +kernel
theorem dL_holds_218 : decode cL_holds 218 = .ok (.bipush 7, 2) := by decide +kernel
theorem dL_holds_220 : decode cL_holds 220 = .ok (.idiv, 1) := by decide +kernel
theorem dL_holds_221 : decode cL_holds 221 = .ok (.invokestatic 149, 3) := by decide +kernel
theorem dL_holds_224 : decode cL_holds 224 = .ok (.ifCond .eq 7, 3) := by decide +kernel
theorem dL_holds_227 : decode cL_holds 227 = .ok (.iconst 1, 1) := by decide +kernel
theorem dL_holds_228 : decode cL_holds 228 = .ok (.goto 4, 3) := by decide +kernel
theorem dL_holds_231 : decode cL_holds 231 = .ok (.iconst 0, 1) := by decide +kernel
theorem dL_holds_232 : decode cL_holds 232 = .ok (.istore 5, 2) := by decide +kernel
theorem dL_holds_234 : decode cL_holds 234 = .ok (.iinc 6 1, 3) := by decide +kernel
theorem dL_holds_237 : decode cL_holds 237 = .ok (.goto (-199), 3) := by decide +kernel
theorem dL_holds_240 : decode cL_holds 240 = .ok (.iload 5, 2) := by decide +kernel
theorem dL_holds_242 : decode cL_holds 242 = .ok (.ireturn, 1) := by decide +kernel
theorem dL_isHeld_0 : decode cL_isHeld 0 = .ok (.aload_n 0, 1) := by decide +kernel
theorem dL_isHeld_1 : decode cL_isHeld 1 = .ok (.invokestatic 153, 3) := by decide +kernel
theorem dL_isHeld_4 : decode cL_isHeld 4 = .ok (.ireturn, 1) := by decide +kernel
theorem dL_isHeld_5 : decode cL_isHeld 5 = .ok (.astore_n 1, 1) := by decide +kernel
theorem dL_isHeld_6 : decode cL_isHeld 6 = .ok (.iconst 0, 1) := by decide +kernel
theorem dL_isHeld_7 : decode cL_isHeld 7 = .ok (.ireturn, 1) := by decide +kernel
theorem dL_isHeld_8 : decode cL_isHeld 8 = .ok (.astore_n 1, 1) := by decide +kernel
theorem dL_isHeld_9 : decode cL_isHeld 9 = .ok (.iconst 0, 1) := by decide +kernel
theorem dL_isHeld_10 : decode cL_isHeld 10 = .ok (.ireturn, 1) := by decide +kernel
theorem dL_isHeld_11 : decode cL_isHeld 11 = .ok (.astore_n 1, 1) := by decide +kernel
theorem dL_isHeld_12 : decode cL_isHeld 12 = .ok (.iconst 0, 1) := by decide +kernel
theorem dL_isHeld_13 : decode cL_isHeld 13 = .ok (.ireturn, 1) := by decide +kernel
