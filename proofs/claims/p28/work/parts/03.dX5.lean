theorem dX5_init_0 : decode cX5_init 0 = .ok (.aload_n 0, 1) := by decide +kernel
theorem dX5_init_1 : decode cX5_init 1 = .ok (.invokespecial 3, 3) := by decide +kernel
theorem dX5_init_4 : decode cX5_init 4 = .ok (.aload_n 0, 1) := by decide +kernel
theorem dX5_init_5 : decode cX5_init 5 = .ok (.iconst 4, 1) := by decide +kernel
theorem dX5_init_6 : decode cX5_init 6 = .ok (.newarray .int, 2) := by decide +kernel
theorem dX5_init_8 : decode cX5_init 8 = .ok (.putfield 9, 3) := by decide +kernel
theorem dX5_init_11 : decode cX5_init 11 = .ok (.aload_n 0, 1) := by decide +kernel
theorem dX5_init_12 : decode cX5_init 12 = .ok (.iconst 0, 1) := by decide +kernel
theorem dX5_init_13 : decode cX5_init 13 = .ok (.putfield 13, 3) := by decide +kernel
theorem dX5_init_16 : decode cX5_init 16 = .ok (.aload_n 0, 1) := by decide +kernel
theorem dX5_init_17 : decode cX5_init 17 = .ok (.bipush 6, 2) := by decide +kernel
theorem dX5_init_19 : decode cX5_init 19 = .ok (.anewarray 17, 3) := by decide +kernel
theorem dX5_init_22 : decode cX5_init 22 = .ok (.putfield 19, 3) := by decide +kernel
theorem dX5_init_25 : decode cX5_init 25 = .ok (.aload_n 0, 1) := by decide +kernel
theorem dX5_init_26 : decode cX5_init 26 = .ok (.iconst 0, 1) := by decide +kernel
theorem dX5_init_27 : decode cX5_init 27 = .ok (.putfield 23, 3) := by decide +kernel
theorem dX5_init_30 : decode cX5_init 30 = .ok (.aload_n 0, 1) := by decide +kernel
theorem dX5_init_31 : decode cX5_init 31 = .ok (.new 26, 3) := by decide +kernel
theorem dX5_init_34 : decode cX5_init 34 = .ok (.dup, 1) := by decide +kernel
theorem dX5_init_35 : decode cX5_init 35 = .ok (.invokespecial 28, 3) := by decide +kernel
theorem dX5_init_38 : decode cX5_init 38 = .ok (.putfield 29, 3) := by decide +kernel
theorem dX5_init_41 : decode cX5_init 41 = .ok (.aload_n 0, 1) := by decide +kernel
theorem dX5_init_42 : decode cX5_init 42 = .ok (.iconst 0, 1) := by decide +kernel
theorem dX5_init_43 : decode cX5_init 43 = .ok (.putfield 33, 3) := by decide +kernel
theorem dX5_init_46 : decode cX5_init 46 = .ok (.aload_n 0, 1) := by decide +kernel
theorem dX5_init_47 : decode cX5_init 47 = .ok (.iconst 0, 1) := by decide +kernel
theorem dX5_init_48 : decode cX5_init 48 = .ok (.putfield 36, 3) := by decide +kernel
theorem dX5_init_51 : decode cX5_init 51 = .ok (.aload_n 0, 1) := by decide +kernel
theorem dX5_init_52 : decode cX5_init 52 = .ok (.iconst 4, 1) := by decide +kernel
theorem dX5_init_53 : decode cX5_init 53 = .ok (.anewarray 39, 3) := by decide +kernel
theorem dX5_init_56 : decode cX5_init 56 = .ok (.putfield 41, 3) := by decide +kernel
theorem dX5_init_59 : decode cX5_init 59 = .ok (.aload_n 0, 1) := by decide +kernel
theorem dX5_init_60 : decode cX5_init 60 = .ok (.iconst 0, 1) := by decide +kernel
theorem dX5_init_61 : decode cX5_init 61 = .ok (.putfield 45, 3) := by decide +kernel
theorem dX5_init_64 : decode cX5_init 64 = .ok (.aload_n 0, 1) := by decide +kernel
theorem dX5_init_65 : decode cX5_init 65 = .ok (.bipush 8, 2) := by decide +kernel
theorem dX5_init_67 : decode cX5_init 67 = .ok (.anewarray 48, 3) := by decide +kernel
theorem dX5_init_70 : decode cX5_init 70 = .ok (.putfield 50, 3) := by decide +kernel
theorem dX5_init_73 : decode cX5_init 73 = .ok (.aload_n 0, 1) := by decide +kernel
theorem dX5_init_74 : decode cX5_init 74 = .ok (.iconst 0, 1) := by decide +kernel
theorem dX5_init_75 : decode cX5_init 75 = .ok (.putfield 54, 3) := by decide +kernel
theorem dX5_init_78 : decode cX5_init 78 = .ok (.iconst 0, 1) := by decide +kernel
theorem dX5_init_79 : decode cX5_init 79 = .ok (.istore_n 1, 1) := by decide +kernel
theorem dX5_init_80 : decode cX5_init 80 = .ok (.iload_n 1, 1) := by decide +kernel
theorem dX5_init_81 : decode cX5_init 81 = .ok (.aload_n 0, 1) := by decide +kernel
theorem dX5_init_82 : decode cX5_init 82 = .ok (.getfield 41, 3) := by decide +kernel
theorem dX5_init_85 : decode cX5_init 85 = .ok (.arraylength, 1) := by decide +kernel
theorem dX5_init_86 : decode cX5_init 86 = .ok (.if_icmp .ge 22, 3) := by decide +kernel
theorem dX5_init_89 : decode cX5_init 89 = .ok (.aload_n 0, 1) := by decide +kernel
theorem dX5_init_90 : decode cX5_init 90 = .ok (.getfield 41, 3) := by decide +kernel
theorem dX5_init_93 : decode cX5_init 93 = .ok (.iload_n 1, 1) := by decide +kernel
theorem dX5_init_94 : decode cX5_init 94 = .ok (.new 39, 3) := by decide +kernel
theorem dX5_init_97 : decode cX5_init 97 = .ok (.dup, 1) := by decide +kernel
theorem dX5_init_98 : decode cX5_init 98 = .ok (.invokespecial 57, 3) := by decide +kernel
theorem dX5_init_101 : decode cX5_init 101 = .ok (.aastore, 1) := by decide +kernel
theorem dX5_init_102 : decode cX5_init 102 = .ok (.iinc 1 1, 3) := by decide +kernel
theorem dX5_init_105 : decode cX5_init 105 = .ok (.goto (-25), 3) := by decide +kernel
theorem dX5_init_108 : decode cX5_init 108 = .ok (.return_, 1) := by decide +kernel
theorem dX5_form_0 : decode cX5_form 0 = .ok (.iload_n 1, 1) := by decide +kernel
theorem dX5_form_1 : decode cX5_form 1 = .ok (.iconst 4, 1) := by decide +kernel
theorem dX5_form_2 : decode cX5_form 2 = .ok (.if_icmp .lt 15, 3) := by decide +kernel
theorem dX5_form_5 : decode cX5_form 5 = .ok (.iload_n 1, 1) := by decide +kernel
theorem dX5_form_6 : decode cX5_form 6 = .ok (.bipush 64, 2) := by decide +kernel
theorem dX5_form_8 : decode cX5_form 8 = .ok (.if_icmp .gt 9, 3) := by decide +kernel
theorem dX5_form_11 : decode cX5_form 11 = .ok (.iload_n 1, 1) := by decide +kernel
theorem dX5_form_12 : decode cX5_form 12 = .ok (.iconst 4, 1) := by decide +kernel
theorem dX5_form_13 : decode cX5_form 13 = .ok (.irem, 1) := by decide +kernel
theorem dX5_form_14 : decode cX5_form 14 = .ok (.ifCond .eq 13, 3) := by decide +kernel
theorem dX5_form_17 : decode cX5_form 17 = .ok (.new 58, 3) := by decide +kernel
theorem dX5_form_20 : decode cX5_form 20 = .ok (.dup, 1) := by decide +kernel
theorem dX5_form_21 : decode cX5_form 21 = .ok (.ldc 60, 2) := by decide +kernel
theorem dX5_form_23 : decode cX5_form 23 = .ok (.invokespecial 62, 3) := by decide +kernel
theorem dX5_form_26 : decode cX5_form 26 = .ok (.athrow, 1) := by decide +kernel
theorem dX5_form_27 : decode cX5_form 27 = .ok (.aload_n 0, 1) := by decide +kernel
theorem dX5_form_28 : decode cX5_form 28 = .ok (.getfield 13, 3) := by decide +kernel
theorem dX5_form_31 : decode cX5_form 31 = .ok (.aload_n 0, 1) := by decide +kernel
theorem dX5_form_32 : decode cX5_form 32 = .ok (.getfield 9, 3) := by decide +kernel
theorem dX5_form_35 : decode cX5_form 35 = .ok (.arraylength, 1) := by decide +kernel
theorem dX5_form_36 : decode cX5_form 36 = .ok (.if_icmp .lt 13, 3) := by decide +kernel
theorem dX5_form_39 : decode cX5_form 39 = .ok (.new 65, 3) := by decide +kernel
theorem dX5_form_42 : decode cX5_form 42 = .ok (.dup, 1) := by decide +kernel
theorem dX5_form_43 : decode cX5_form 43 = .ok (.ldc 67, 2) := by decide +kernel
theorem dX5_form_45 : decode cX5_form 45 = .ok (.invokespecial 69, 3) := by decide +kernel
theorem dX5_form_48 : decode cX5_form 48 = .ok (.athrow, 1) := by decide +kernel
theorem dX5_form_49 : decode cX5_form 49 = .ok (.aload_n 0, 1) := by decide +kernel
theorem dX5_form_50 : decode cX5_form 50 = .ok (.getfield 9, 3) := by decide +kernel
theorem dX5_form_53 : decode cX5_form 53 = .ok (.aload_n 0, 1) := by decide +kernel
theorem dX5_form_54 : decode cX5_form 54 = .ok (.getfield 13, 3) := by decide +kernel
theorem dX5_form_57 : decode cX5_form 57 = .ok (.iload_n 1, 1) := by decide +kernel
theorem dX5_form_58 : decode cX5_form 58 = .ok (.iastore, 1) := by decide +kernel
theorem dX5_form_59 : decode cX5_form 59 = .ok (.aload_n 0, 1) := by decide +kernel
theorem dX5_form_60 : decode cX5_form 60 = .ok (.dup, 1) := by decide +kernel
theorem dX5_form_61 : decode cX5_form 61 = .ok (.getfield 13, 3) := by decide +kernel
theorem dX5_form_64 : decode cX5_form 64 = .ok (.iconst 1, 1) := by decide +kernel
theorem dX5_form_65 : decode cX5_form 65 = .ok (.iadd, 1) := by decide +kernel
theorem dX5_form_66 : decode cX5_form 66 = .ok (.putfield 13, 3) := by decide +kernel
theorem dX5_form_69 : decode cX5_form 69 = .ok (.aload_n 0, 1) := by decide +kernel
theorem dX5_form_70 : decode cX5_form 70 = .ok (.getfield 13, 3) := by decide +kernel
theorem dX5_form_73 : decode cX5_form 73 = .ok (.iconst 1, 1) := by decide +kernel
theorem dX5_form_74 : decode cX5_form 74 = .ok (.isub, 1) := by decide +kernel
theorem dX5_form_75 : decode cX5_form 75 = .ok (.ireturn, 1) := by decide +kernel
theorem dX5_depth_0 : decode cX5_depth 0 = .ok (.aload_n 0, 1) := by decide +kernel
theorem dX5_depth_1 : decode cX5_depth 1 = .ok (.iload_n 1, 1) := by decide +kernel
theorem dX5_depth_2 : decode cX5_depth 2 = .ok (.invokevirtual 70, 3) := by decide +kernel
theorem dX5_depth_5 : decode cX5_depth 5 = .ok (.istore_n 3, 1) := by decide +kernel
theorem dX5_depth_6 : decode cX5_depth 6 = .ok (.iload_n 2, 1) := by decide +kernel
theorem dX5_depth_7 : decode cX5_depth 7 = .ok (.iconst 1, 1) := by decide +kernel
theorem dX5_depth_8 : decode cX5_depth 8 = .ok (.if_icmp .lt 8, 3) := by decide +kernel
theorem dX5_depth_11 : decode cX5_depth 11 = .ok (.iload_n 2, 1) := by decide +kernel
theorem dX5_depth_12 : decode cX5_depth 12 = .ok (.iload_n 3, 1) := by decide +kernel
theorem dX5_depth_13 : decode cX5_depth 13 = .ok (.if_icmp .le 13, 3) := by decide +kernel
theorem dX5_depth_16 : decode cX5_depth 16 = .ok (.new 74, 3) := by decide +kernel
theorem dX5_depth_19 : decode cX5_depth 19 = .ok (.dup, 1) := by decide +kernel
theorem dX5_depth_20 : decode cX5_depth 20 = .ok (.ldc 76, 2) := by decide +kernel
theorem dX5_depth_22 : decode cX5_depth 22 = .ok (.invokespecial 78, 3) := by decide +kernel
theorem dX5_depth_25 : decode cX5_depth 25 = .ok (.athrow, 1) := by decide +kernel
theorem dX5_depth_26 : decode cX5_depth 26 = .ok (.iconst 0, 1) := by decide +kernel
theorem dX5_depth_27 : decode cX5_depth 27 = .ok (.istore 4, 2) := by decide +kernel
theorem dX5_depth_29 : decode cX5_depth 29 = .ok (.iload_n 3, 1) := by decide +kernel
theorem dX5_depth_30 : decode cX5_depth 30 = .ok (.istore 5, 2) := by decide +kernel
theorem dX5_depth_32 : decode cX5_depth 32 = .ok (.iload 5, 2) := by decide +kernel
theorem dX5_depth_34 : decode cX5_depth 34 = .ok (.ifCond .le 34, 3) := by decide +kernel
theorem dX5_depth_37 : decode cX5_depth 37 = .ok (.iload_n 2, 1) := by decide +kernel
theorem dX5_depth_38 : decode cX5_depth 38 = .ok (.iload 5, 2) := by decide +kernel
theorem dX5_depth_40 : decode cX5_depth 40 = .ok (.irem, 1) := by decide +kernel
theorem dX5_depth_41 : decode cX5_depth 41 = .ok (.ifCond .ne 6, 3) := by decide +kernel
theorem dX5_depth_44 : decode cX5_depth 44 = .ok (.iload 4, 2) := by decide +kernel
theorem dX5_depth_46 : decode cX5_depth 46 = .ok (.ireturn, 1) := by decide +kernel
theorem dX5_depth_47 : decode cX5_depth 47 = .ok (.iload 5, 2) := by decide +kernel
theorem dX5_depth_49 : decode cX5_depth 49 = .ok (.iconst 2, 1) := by decide +kernel
theorem dX5_depth_50 : decode cX5_depth 50 = .ok (.irem, 1) := by decide +kernel
theorem dX5_depth_51 : decode cX5_depth 51 = .ok (.ifCond .eq 5, 3) := by decide +kernel
theorem dX5_depth_54 : decode cX5_depth 54 = .ok (.iconst (-1), 1) := by decide +kernel
theorem dX5_depth_55 : decode cX5_depth 55 = .ok (.ireturn, 1) := by decide +kernel
theorem dX5_depth_56 : decode cX5_depth 56 = .ok (.iinc 4 1, 3) := by decide +kernel
theorem dX5_depth_59 : decode cX5_depth 59 = .ok (.iload 5, 2) := by decide +kernel
theorem dX5_depth_61 : decode cX5_depth 61 = .ok (.iconst 2, 1) := by decide +kernel
theorem dX5_depth_62 : decode cX5_depth 62 = .ok (.idiv, 1) := by decide +kernel
theorem dX5_depth_63 : decode cX5_depth 63 = .ok (.istore 5, 2) := by decide +kernel
theorem dX5_depth_65 : decode cX5_depth 65 = .ok (.goto (-33), 3) := by decide +kernel
theorem dX5_depth_68 : decode cX5_depth 68 = .ok (.iconst (-1), 1) := by decide +kernel
theorem dX5_depth_69 : decode cX5_depth 69 = .ok (.ireturn, 1) := by decide +kernel
theorem dX5_piece_0 : decode cX5_piece 0 = .ok (.aload_n 0, 1) := by decide +kernel
theorem dX5_piece_1 : decode cX5_piece 1 = .ok (.iload_n 1, 1) := by decide +kernel
theorem dX5_piece_2 : decode cX5_piece 2 = .ok (.invokevirtual 70, 3) := by decide +kernel
theorem dX5_piece_5 : decode cX5_piece 5 = .ok (.istore_n 2, 1) := by decide +kernel
theorem dX5_piece_6 : decode cX5_piece 6 = .ok (.aload_n 0, 1) := by decide +kernel
theorem dX5_piece_7 : decode cX5_piece 7 = .ok (.getfield 23, 3) := by decide +kernel
theorem dX5_piece_10 : decode cX5_piece 10 = .ok (.aload_n 0, 1) := by decide +kernel
theorem dX5_piece_11 : decode cX5_piece 11 = .ok (.getfield 19, 3) := by decide +kernel
theorem dX5_piece_14 : decode cX5_piece 14 = .ok (.arraylength, 1) := by decide +kernel
theorem dX5_piece_15 : decode cX5_piece 15 = .ok (.if_icmp .lt 13, 3) := by decide +kernel
theorem dX5_piece_18 : decode cX5_piece 18 = .ok (.new 65, 3) := by decide +kernel
theorem dX5_piece_21 : decode cX5_piece 21 = .ok (.dup, 1) := by decide +kernel
theorem dX5_piece_22 : decode cX5_piece 22 = .ok (.ldc 79, 2) := by decide +kernel
theorem dX5_piece_24 : decode cX5_piece 24 = .ok (.invokespecial 69, 3) := by decide +kernel
theorem dX5_piece_27 : decode cX5_piece 27 = .ok (.athrow, 1) := by decide +kernel
theorem dX5_piece_28 : decode cX5_piece 28 = .ok (.aload_n 0, 1) := by decide +kernel
theorem dX5_piece_29 : decode cX5_piece 29 = .ok (.getfield 19, 3) := by decide +kernel
theorem dX5_piece_32 : decode cX5_piece 32 = .ok (.aload_n 0, 1) := by decide +kernel
theorem dX5_piece_33 : decode cX5_piece 33 = .ok (.getfield 23, 3) := by decide +kernel
theorem dX5_piece_36 : decode cX5_piece 36 = .ok (.new 17, 3) := by decide +kernel
theorem dX5_piece_39 : decode cX5_piece 39 = .ok (.dup, 1) := by decide +kernel
theorem dX5_piece_40 : decode cX5_piece 40 = .ok (.iload_n 2, 1) := by decide +kernel
theorem dX5_piece_41 : decode cX5_piece 41 = .ok (.invokespecial 81, 3) := by decide +kernel
theorem dX5_piece_44 : decode cX5_piece 44 = .ok (.aastore, 1) := by decide +kernel
theorem dX5_piece_45 : decode cX5_piece 45 = .ok (.aload_n 0, 1) := by decide +kernel
theorem dX5_piece_46 : decode cX5_piece 46 = .ok (.dup, 1) := by decide +kernel
theorem dX5_piece_47 : decode cX5_piece 47 = .ok (.getfield 23, 3) := by decide +kernel
theorem dX5_piece_50 : decode cX5_piece 50 = .ok (.iconst 1, 1) := by decide +kernel
theorem dX5_piece_51 : decode cX5_piece 51 = .ok (.iadd, 1) := by decide +kernel
theorem dX5_piece_52 : decode cX5_piece 52 = .ok (.putfield 23, 3) := by decide +kernel
theorem dX5_piece_55 : decode cX5_piece 55 = .ok (.aload_n 0, 1) := by decide +kernel
theorem dX5_piece_56 : decode cX5_piece 56 = .ok (.getfield 23, 3) := by decide +kernel
theorem dX5_piece_59 : decode cX5_piece 59 = .ok (.iconst 1, 1) := by decide +kernel
theorem dX5_piece_60 : decode cX5_piece 60 = .ok (.isub, 1) := by decide +kernel
theorem dX5_piece_61 : decode cX5_piece 61 = .ok (.ireturn, 1) := by decide +kernel
theorem dX5_tone_0 : decode cX5_tone 0 = .ok (.aload_n 0, 1) := by decide +kernel
theorem dX5_tone_1 : decode cX5_tone 1 = .ok (.iload_n 1, 1) := by decide +kernel
theorem dX5_tone_2 : decode cX5_tone 2 = .ok (.invokevirtual 84, 3) := by decide +kernel
theorem dX5_tone_5 : decode cX5_tone 5 = .ok (.getfield 88, 3) := by decide +kernel
theorem dX5_tone_8 : decode cX5_tone 8 = .ok (.astore 4, 2) := by decide +kernel
theorem dX5_tone_10 : decode cX5_tone 10 = .ok (.aload 4, 2) := by decide +kernel
theorem dX5_tone_12 : decode cX5_tone 12 = .ok (.iload_n 2, 1) := by decide +kernel
theorem dX5_tone_13 : decode cX5_tone 13 = .ok (.invokestatic 92, 3) := by decide +kernel
theorem dX5_tone_16 : decode cX5_tone 16 = .ok (.iload_n 3, 1) := by decide +kernel
theorem dX5_tone_17 : decode cX5_tone 17 = .ok (.invokestatic 96, 3) := by decide +kernel
theorem dX5_tone_20 : decode cX5_tone 20 = .ok (.aload 4, 2) := by decide +kernel
theorem dX5_tone_22 : decode cX5_tone 22 = .ok (.iload_n 2, 1) := by decide +kernel
theorem dX5_tone_23 : decode cX5_tone 23 = .ok (.iload_n 3, 1) := by decide +kernel
theorem dX5_tone_24 : decode cX5_tone 24 = .ok (.invokevirtual 99, 3) := by decide +kernel
theorem dX5_tone_27 : decode cX5_tone 27 = .ok (.ireturn, 1) := by decide +kernel
theorem dX5_forbid_0 : decode cX5_forbid 0 = .ok (.aload_n 0, 1) := by decide +kernel
theorem dX5_forbid_1 : decode cX5_forbid 1 = .ok (.iload_n 1, 1) := by decide +kernel
theorem dX5_forbid_2 : decode cX5_forbid 2 = .ok (.invokevirtual 84, 3) := by decide +kernel
theorem dX5_forbid_5 : decode cX5_forbid 5 = .ok (.astore_n 3, 1) := by decide +kernel
theorem dX5_forbid_6 : decode cX5_forbid 6 = .ok (.iload_n 2, 1) := by decide +kernel
theorem dX5_forbid_7 : decode cX5_forbid 7 = .ok (.ifCond .lt 9, 3) := by decide +kernel
theorem dX5_forbid_10 : decode cX5_forbid 10 = .ok (.iload_n 2, 1) := by decide +kernel
theorem dX5_forbid_11 : decode cX5_forbid 11 = .ok (.bipush 31, 2) := by decide +kernel
theorem dX5_forbid_13 : decode cX5_forbid 13 = .ok (.if_icmp .le 13, 3) := by decide +kernel
theorem dX5_forbid_16 : decode cX5_forbid 16 = .ok (.new 58, 3) := by decide +kernel
theorem dX5_forbid_19 : decode cX5_forbid 19 = .ok (.dup, 1) := by decide +kernel
theorem dX5_forbid_20 : decode cX5_forbid 20 = .ok (.ldc 105, 2) := by decide +kernel
theorem dX5_forbid_22 : decode cX5_forbid 22 = .ok (.invokespecial 62, 3) := by decide +kernel
theorem dX5_forbid_25 : decode cX5_forbid 25 = .ok (.athrow, 1) := by decide +kernel
theorem dX5_forbid_26 : decode cX5_forbid 26 = .ok (.aload_n 3, 1) := by decide +kernel
theorem dX5_forbid_27 : decode cX5_forbid 27 = .ok (.getfield 107, 3) := by decide +kernel
theorem dX5_forbid_30 : decode cX5_forbid 30 = .ok (.istore 4, 2) := by decide +kernel
theorem dX5_forbid_32 : decode cX5_forbid 32 = .ok (.aload_n 3, 1) := by decide +kernel
theorem dX5_forbid_33 : decode cX5_forbid 33 = .ok (.iload_n 2, 1) := by decide +kernel
theorem dX5_forbid_34 : decode cX5_forbid 34 = .ok (.putfield 107, 3) := by decide +kernel
theorem dX5_forbid_37 : decode cX5_forbid 37 = .ok (.iload 4, 2) := by decide +kernel
theorem dX5_forbid_39 : decode cX5_forbid 39 = .ok (.ireturn, 1) := by decide +kernel
theorem dX5_sounds_0 : decode cX5_sounds 0 = .ok (.aload_n 0, 1) := by decide +kernel
theorem dX5_sounds_1 : decode cX5_sounds 1 = .ok (.iload_n 1, 1) := by decide +kernel
theorem dX5_sounds_2 : decode cX5_sounds 2 = .ok (.invokevirtual 84, 3) := by decide +kernel
theorem dX5_sounds_5 : decode cX5_sounds 5 = .ok (.getfield 88, 3) := by decide +kernel
theorem dX5_sounds_8 : decode cX5_sounds 8 = .ok (.astore_n 3, 1) := by decide +kernel
theorem dX5_sounds_9 : decode cX5_sounds 9 = .ok (.aload_n 3, 1) := by decide +kernel
theorem dX5_sounds_10 : decode cX5_sounds 10 = .ok (.iload_n 2, 1) := by decide +kernel
theorem dX5_sounds_11 : decode cX5_sounds 11 = .ok (.invokestatic 92, 3) := by decide +kernel
theorem dX5_sounds_14 : decode cX5_sounds 14 = .ok (.aload_n 3, 1) := by decide +kernel
theorem dX5_sounds_15 : decode cX5_sounds 15 = .ok (.iload_n 2, 1) := by decide +kernel
theorem dX5_sounds_16 : decode cX5_sounds 16 = .ok (.invokevirtual 110, 3) := by decide +kernel
theorem dX5_sounds_19 : decode cX5_sounds 19 = .ok (.ireturn, 1) := by decide +kernel
theorem dX5_stroke_0 : decode cX5_stroke 0 = .ok (.aload_n 0, 1) := by decide +kernel
theorem dX5_stroke_1 : decode cX5_stroke 1 = .ok (.iload_n 1, 1) := by decide +kernel
theorem dX5_stroke_2 : decode cX5_stroke 2 = .ok (.iload_n 2, 1) := by decide +kernel
theorem dX5_stroke_3 : decode cX5_stroke 3 = .ok (.iload_n 3, 1) := by decide +kernel
theorem dX5_stroke_4 : decode cX5_stroke 4 = .ok (.iload 4, 2) := by decide +kernel
theorem dX5_stroke_6 : decode cX5_stroke 6 = .ok (.iload 5, 2) := by decide +kernel
theorem dX5_stroke_8 : decode cX5_stroke 8 = .ok (.iconst 0, 1) := by decide +kernel
theorem dX5_stroke_9 : decode cX5_stroke 9 = .ok (.invokevirtual 113, 3) := by decide +kernel
theorem dX5_stroke_12 : decode cX5_stroke 12 = .ok (.ireturn, 1) := by decide +kernel
theorem dX5_strokeAnew_0 : decode cX5_strokeAnew 0 = .ok (.aload_n 0, 1) := by decide +kernel
theorem dX5_strokeAnew_1 : decode cX5_strokeAnew 1 = .ok (.iload_n 1, 1) := by decide +kernel
theorem dX5_strokeAnew_2 : decode cX5_strokeAnew 2 = .ok (.iload_n 2, 1) := by decide +kernel
theorem dX5_strokeAnew_3 : decode cX5_strokeAnew 3 = .ok (.iload_n 3, 1) := by decide +kernel
theorem dX5_strokeAnew_4 : decode cX5_strokeAnew 4 = .ok (.iload 4, 2) := by decide +kernel
theorem dX5_strokeAnew_6 : decode cX5_strokeAnew 6 = .ok (.iload 5, 2) := by decide +kernel
theorem dX5_strokeAnew_8 : decode cX5_strokeAnew 8 = .ok (.iconst 1, 1) := by decide +kernel
theorem dX5_strokeAnew_9 : decode cX5_strokeAnew 9 = .ok (.invokevirtual 113, 3) := by decide +kernel
theorem dX5_strokeAnew_12 : decode cX5_strokeAnew 12 = .ok (.ireturn, 1) := by decide +kernel
theorem dX5_begin_0 : decode cX5_begin 0 = .ok (.aload_n 0, 1) := by decide +kernel
theorem dX5_begin_1 : decode cX5_begin 1 = .ok (.iload_n 1, 1) := by decide +kernel
theorem dX5_begin_2 : decode cX5_begin 2 = .ok (.invokevirtual 84, 3) := by decide +kernel
theorem dX5_begin_5 : decode cX5_begin 5 = .ok (.astore_n 2, 1) := by decide +kernel
theorem dX5_begin_6 : decode cX5_begin 6 = .ok (.aload_n 0, 1) := by decide +kernel
theorem dX5_begin_7 : decode cX5_begin 7 = .ok (.getfield 29, 3) := by decide +kernel
theorem dX5_begin_10 : decode cX5_begin 10 = .ok (.getfield 117, 3) := by decide +kernel
theorem dX5_begin_13 : decode cX5_begin 13 = .ok (.ifCond .eq 13, 3) := by decide +kernel
theorem dX5_begin_16 : decode cX5_begin 16 = .ok (.new 65, 3) := by decide +kernel
theorem dX5_begin_19 : decode cX5_begin 19 = .ok (.dup, 1) := by decide +kernel
theorem dX5_begin_20 : decode cX5_begin 20 = .ok (.ldc 121, 2) := by decide +kernel
theorem dX5_begin_22 : decode cX5_begin 22 = .ok (.invokespecial 69, 3) := by decide +kernel
theorem dX5_begin_25 : decode cX5_begin 25 = .ok (.athrow, 1) := by decide +kernel
theorem dX5_begin_26 : decode cX5_begin 26 = .ok (.aload_n 2, 1) := by decide +kernel
theorem dX5_begin_27 : decode cX5_begin 27 = .ok (.getfield 107, 3) := by decide +kernel
theorem dX5_begin_30 : decode cX5_begin 30 = .ok (.aload_n 0, 1) := by decide +kernel
theorem dX5_begin_31 : decode cX5_begin 31 = .ok (.getfield 36, 3) := by decide +kernel
theorem dX5_begin_34 : decode cX5_begin 34 = .ok (.ishr, 1) := by decide +kernel
theorem dX5_begin_35 : decode cX5_begin 35 = .ok (.iconst 1, 1) := by decide +kernel
theorem dX5_begin_36 : decode cX5_begin 36 = .ok (.iand, 1) := by decide +kernel
theorem dX5_begin_37 : decode cX5_begin 37 = .ok (.ifCond .eq 13, 3) := by decide +kernel
theorem dX5_begin_40 : decode cX5_begin 40 = .ok (.new 65, 3) := by decide +kernel
theorem dX5_begin_43 : decode cX5_begin 43 = .ok (.dup, 1) := by decide +kernel
theorem dX5_begin_44 : decode cX5_begin 44 = .ok (.ldc 123, 2) := by decide +kernel
theorem dX5_begin_46 : decode cX5_begin 46 = .ok (.invokespecial 69, 3) := by decide +kernel
theorem dX5_begin_49 : decode cX5_begin 49 = .ok (.athrow, 1) := by decide +kernel
theorem dX5_begin_50 : decode cX5_begin 50 = .ok (.aload_n 0, 1) := by decide +kernel
theorem dX5_begin_51 : decode cX5_begin 51 = .ok (.getfield 29, 3) := by decide +kernel
theorem dX5_begin_54 : decode cX5_begin 54 = .ok (.iload_n 1, 1) := by decide +kernel
theorem dX5_begin_55 : decode cX5_begin 55 = .ok (.aload_n 2, 1) := by decide +kernel
theorem dX5_begin_56 : decode cX5_begin 56 = .ok (.getfield 88, 3) := by decide +kernel
theorem dX5_begin_59 : decode cX5_begin 59 = .ok (.invokevirtual 125, 3) := by decide +kernel
theorem dX5_begin_62 : decode cX5_begin 62 = .ok (.invokevirtual 129, 3) := by decide +kernel
theorem dX5_begin_65 : decode cX5_begin 65 = .ok (.aload_n 0, 1) := by decide +kernel
theorem dX5_begin_66 : decode cX5_begin 66 = .ok (.dup, 1) := by decide +kernel
theorem dX5_begin_67 : decode cX5_begin 67 = .ok (.getfield 33, 3) := by decide +kernel
theorem dX5_begin_70 : decode cX5_begin 70 = .ok (.iconst 1, 1) := by decide +kernel
theorem dX5_begin_71 : decode cX5_begin 71 = .ok (.iadd, 1) := by decide +kernel
theorem dX5_begin_72 : decode cX5_begin 72 = .ok (.putfield 33, 3) := by decide +kernel
theorem dX5_begin_75 : decode cX5_begin 75 = .ok (.aload_n 0, 1) := by decide +kernel
theorem dX5_begin_76 : decode cX5_begin 76 = .ok (.getfield 33, 3) := by decide +kernel
theorem dX5_begin_79 : decode cX5_begin 79 = .ok (.ireturn, 1) := by decide +kernel
theorem dX5_drum_0 : decode cX5_drum 0 = .ok (.iload_n 1, 1) := by decide +kernel
theorem dX5_drum_1 : decode cX5_drum 1 = .ok (.ifCond .lt 8, 3) := by decide +kernel
theorem dX5_drum_4 : decode cX5_drum 4 = .ok (.iload_n 1, 1) := by decide +kernel
theorem dX5_drum_5 : decode cX5_drum 5 = .ok (.iconst 4, 1) := by decide +kernel
theorem dX5_drum_6 : decode cX5_drum 6 = .ok (.if_icmp .le 13, 3) := by decide +kernel
theorem dX5_drum_9 : decode cX5_drum 9 = .ok (.new 58, 3) := by decide +kernel
theorem dX5_drum_12 : decode cX5_drum 12 = .ok (.dup, 1) := by decide +kernel
theorem dX5_drum_13 : decode cX5_drum 13 = .ok (.ldc 133, 2) := by decide +kernel
theorem dX5_drum_15 : decode cX5_drum 15 = .ok (.invokespecial 62, 3) := by decide +kernel
theorem dX5_drum_18 : decode cX5_drum 18 = .ok (.athrow, 1) := by decide +kernel
theorem dX5_drum_19 : decode cX5_drum 19 = .ok (.aload_n 0, 1) := by decide +kernel
theorem dX5_drum_20 : decode cX5_drum 20 = .ok (.invokevirtual 135, 3) := by decide +kernel
theorem dX5_drum_23 : decode cX5_drum 23 = .ok (.aload_n 0, 1) := by decide +kernel
theorem dX5_drum_24 : decode cX5_drum 24 = .ok (.getfield 29, 3) := by decide +kernel
theorem dX5_drum_27 : decode cX5_drum 27 = .ok (.iload_n 1, 1) := by decide +kernel
theorem dX5_drum_28 : decode cX5_drum 28 = .ok (.invokevirtual 138, 3) := by decide +kernel
theorem dX5_drum_31 : decode cX5_drum 31 = .ok (.aload_n 0, 1) := by decide +kernel
theorem dX5_drum_32 : decode cX5_drum 32 = .ok (.getfield 29, 3) := by decide +kernel
theorem dX5_drum_35 : decode cX5_drum 35 = .ok (.getfield 141, 3) := by decide +kernel
theorem dX5_drum_38 : decode cX5_drum 38 = .ok (.ireturn, 1) := by decide +kernel
theorem dX5_beats_0 : decode cX5_beats 0 = .ok (.iload_n 1, 1) := by decide +kernel
theorem dX5_beats_1 : decode cX5_beats 1 = .ok (.iconst 1, 1) := by decide +kernel
theorem dX5_beats_2 : decode cX5_beats 2 = .ok (.if_icmp .lt 9, 3) := by decide +kernel
theorem dX5_beats_5 : decode cX5_beats 5 = .ok (.iload_n 1, 1) := by decide +kernel
theorem dX5_beats_6 : decode cX5_beats 6 = .ok (.bipush 100, 2) := by decide +kernel
theorem dX5_beats_8 : decode cX5_beats 8 = .ok (.if_icmp .le 13, 3) := by decide +kernel
theorem dX5_beats_11 : decode cX5_beats 11 = .ok (.new 58, 3) := by decide +kernel
theorem dX5_beats_14 : decode cX5_beats 14 = .ok (.dup, 1) := by decide +kernel
theorem dX5_beats_15 : decode cX5_beats 15 = .ok (.ldc 144, 2) := by decide +kernel
theorem dX5_beats_17 : decode cX5_beats 17 = .ok (.invokespecial 62, 3) := by decide +kernel
theorem dX5_beats_20 : decode cX5_beats 20 = .ok (.athrow, 1) := by decide +kernel
theorem dX5_beats_21 : decode cX5_beats 21 = .ok (.aload_n 0, 1) := by decide +kernel
theorem dX5_beats_22 : decode cX5_beats 22 = .ok (.invokevirtual 135, 3) := by decide +kernel
theorem dX5_beats_25 : decode cX5_beats 25 = .ok (.iconst 0, 1) := by decide +kernel
theorem dX5_beats_26 : decode cX5_beats 26 = .ok (.istore_n 2, 1) := by decide +kernel
theorem dX5_beats_27 : decode cX5_beats 27 = .ok (.iload_n 2, 1) := by decide +kernel
theorem dX5_beats_28 : decode cX5_beats 28 = .ok (.iload_n 1, 1) := by decide +kernel
theorem dX5_beats_29 : decode cX5_beats 29 = .ok (.if_icmp .ge 26, 3) := by decide +kernel
theorem dX5_beats_32 : decode cX5_beats 32 = .ok (.aload_n 0, 1) := by decide +kernel
theorem dX5_beats_33 : decode cX5_beats 33 = .ok (.getfield 29, 3) := by decide +kernel
theorem dX5_beats_36 : decode cX5_beats 36 = .ok (.getfield 117, 3) := by decide +kernel
theorem dX5_beats_39 : decode cX5_beats 39 = .ok (.ifCond .eq 16, 3) := by decide +kernel
theorem dX5_beats_42 : decode cX5_beats 42 = .ok (.aload_n 0, 1) := by decide +kernel
theorem dX5_beats_43 : decode cX5_beats 43 = .ok (.getfield 29, 3) := by decide +kernel
theorem dX5_beats_46 : decode cX5_beats 46 = .ok (.invokevirtual 146, 3) := by decide +kernel
theorem dX5_beats_49 : decode cX5_beats 49 = .ok (.iinc 2 1, 3) := by decide +kernel
theorem dX5_beats_52 : decode cX5_beats 52 = .ok (.goto (-25), 3) := by decide +kernel
theorem dX5_beats_55 : decode cX5_beats 55 = .ok (.iload_n 2, 1) := by decide +kernel
theorem dX5_beats_56 : decode cX5_beats 56 = .ok (.ireturn, 1) := by decide +kernel
theorem dX5_now_0 : decode cX5_now 0 = .ok (.iload_n 1, 1) := by decide +kernel
theorem dX5_now_1 : decode cX5_now 1 = .ok (.tableswitch 95 0 5 #[39, 47, 55, 63, 71, 87], 39) := by decide +kernel
theorem dX5_now_40 : decode cX5_now 40 = .ok (.aload_n 0, 1) := by decide +kernel
theorem dX5_now_41 : decode cX5_now 41 = .ok (.getfield 29, 3) := by decide +kernel
theorem dX5_now_44 : decode cX5_now 44 = .ok (.getfield 141, 3) := by decide +kernel
theorem dX5_now_47 : decode cX5_now 47 = .ok (.ireturn, 1) := by decide +kernel
theorem dX5_now_48 : decode cX5_now 48 = .ok (.aload_n 0, 1) := by decide +kernel
theorem dX5_now_49 : decode cX5_now 49 = .ok (.getfield 29, 3) := by decide +kernel
theorem dX5_now_52 : decode cX5_now 52 = .ok (.getfield 149, 3) := by decide +kernel
theorem dX5_now_55 : decode cX5_now 55 = .ok (.ireturn, 1) := by decide +kernel
theorem dX5_now_56 : decode cX5_now 56 = .ok (.aload_n 0, 1) := by decide +kernel
theorem dX5_now_57 : decode cX5_now 57 = .ok (.getfield 29, 3) := by decide +kernel
theorem dX5_now_60 : decode cX5_now 60 = .ok (.getfield 152, 3) := by decide +kernel
theorem dX5_now_63 : decode cX5_now 63 = .ok (.ireturn, 1) := by decide +kernel
theorem dX5_now_64 : decode cX5_now 64 = .ok (.aload_n 0, 1) := by decide +kernel
theorem dX5_now_65 : decode cX5_now 65 = .ok (.getfield 29, 3) := by decide +kernel
theorem dX5_now_68 : decode cX5_now 68 = .ok (.getfield 155, 3) := by decide +kernel
theorem dX5_now_71 : decode cX5_now 71 = .ok (.ireturn, 1) := by decide +kernel
theorem dX5_now_72 : decode cX5_now 72 = .ok (.aload_n 0, 1) := by decide +kernel
theorem dX5_now_73 : decode cX5_now 73 = .ok (.getfield 29, 3) := by decide +kernel
theorem dX5_now_76 : decode cX5_now 76 = .ok (.getfield 117, 3) := by decide +kernel
theorem dX5_now_79 : decode cX5_now 79 = .ok (.ifCond .eq 7, 3) := by decide +kernel
theorem dX5_now_82 : decode cX5_now 82 = .ok (.iconst 1, 1) := by decide +kernel
theorem dX5_now_83 : decode cX5_now 83 = .ok (.goto 4, 3) := by decide +kernel
theorem dX5_now_86 : decode cX5_now 86 = .ok (.iconst 0, 1) := by decide +kernel
theorem dX5_now_87 : decode cX5_now 87 = .ok (.ireturn, 1) := by decide +kernel
theorem dX5_now_88 : decode cX5_now 88 = .ok (.aload_n 0, 1) := by decide +kernel
theorem dX5_now_89 : decode cX5_now 89 = .ok (.getfield 29, 3) := by decide +kernel
theorem dX5_now_92 : decode cX5_now 92 = .ok (.getfield 158, 3) := by decide +kernel
theorem dX5_now_95 : decode cX5_now 95 = .ok (.ireturn, 1) := by decide +kernel
theorem dX5_now_96 : decode cX5_now 96 = .ok (.new 58, 3) := by decide +kernel
theorem dX5_now_99 : decode cX5_now 99 = .ok (.dup, 1) := by decide +kernel
theorem dX5_now_100 : decode cX5_now 100 = .ok (.ldc 161, 2) := by decide +kernel
theorem dX5_now_102 : decode cX5_now 102 = .ok (.invokespecial 62, 3) := by decide +kernel
theorem dX5_now_105 : decode cX5_now 105 = .ok (.athrow, 1) := by decide +kernel
theorem dX5_ticks_0 : decode cX5_ticks 0 = .ok (.aload_n 0, 1) := by decide +kernel
theorem dX5_ticks_1 : decode cX5_ticks 1 = .ok (.getfield 29, 3) := by decide +kernel
theorem dX5_ticks_4 : decode cX5_ticks 4 = .ok (.getfield 163, 3) := by decide +kernel
theorem dX5_ticks_7 : decode cX5_ticks 7 = .ok (.lreturn, 1) := by decide +kernel
theorem dX5_strokes_0 : decode cX5_strokes 0 = .ok (.iload_n 1, 1) := by decide +kernel
theorem dX5_strokes_1 : decode cX5_strokes 1 = .ok (.invokestatic 167, 3) := by decide +kernel
theorem dX5_strokes_4 : decode cX5_strokes 4 = .ok (.aload_n 0, 1) := by decide +kernel
theorem dX5_strokes_5 : decode cX5_strokes 5 = .ok (.getfield 29, 3) := by decide +kernel
theorem dX5_strokes_8 : decode cX5_strokes 8 = .ok (.iload_n 1, 1) := by decide +kernel
theorem dX5_strokes_9 : decode cX5_strokes 9 = .ok (.invokevirtual 170, 3) := by decide +kernel
theorem dX5_strokes_12 : decode cX5_strokes 12 = .ok (.lreturn, 1) := by decide +kernel
theorem dX5_days_0 : decode cX5_days 0 = .ok (.iload_n 1, 1) := by decide +kernel
theorem dX5_days_1 : decode cX5_days 1 = .ok (.iconst 1, 1) := by decide +kernel
theorem dX5_days_2 : decode cX5_days 2 = .ok (.if_icmp .lt 9, 3) := by decide +kernel
theorem dX5_days_5 : decode cX5_days 5 = .ok (.iload_n 1, 1) := by decide +kernel
theorem dX5_days_6 : decode cX5_days 6 = .ok (.bipush 100, 2) := by decide +kernel
theorem dX5_days_8 : decode cX5_days 8 = .ok (.if_icmp .le 13, 3) := by decide +kernel
theorem dX5_days_11 : decode cX5_days 11 = .ok (.new 58, 3) := by decide +kernel
theorem dX5_days_14 : decode cX5_days 14 = .ok (.dup, 1) := by decide +kernel
theorem dX5_days_15 : decode cX5_days 15 = .ok (.ldc 174, 2) := by decide +kernel
theorem dX5_days_17 : decode cX5_days 17 = .ok (.invokespecial 62, 3) := by decide +kernel
theorem dX5_days_20 : decode cX5_days 20 = .ok (.athrow, 1) := by decide +kernel
theorem dX5_days_21 : decode cX5_days 21 = .ok (.aload_n 0, 1) := by decide +kernel
theorem dX5_days_22 : decode cX5_days 22 = .ok (.getfield 29, 3) := by decide +kernel
theorem dX5_days_25 : decode cX5_days 25 = .ok (.getfield 117, 3) := by decide +kernel
theorem dX5_days_28 : decode cX5_days 28 = .ok (.ifCond .eq 13, 3) := by decide +kernel
theorem dX5_days_31 : decode cX5_days 31 = .ok (.new 65, 3) := by decide +kernel
theorem dX5_days_34 : decode cX5_days 34 = .ok (.dup, 1) := by decide +kernel
theorem dX5_days_35 : decode cX5_days 35 = .ok (.ldc 121, 2) := by decide +kernel
theorem dX5_days_37 : decode cX5_days 37 = .ok (.invokespecial 69, 3) := by decide +kernel
theorem dX5_days_40 : decode cX5_days 40 = .ok (.athrow, 1) := by decide +kernel
theorem dX5_days_41 : decode cX5_days 41 = .ok (.aload_n 0, 1) := by decide +kernel
theorem dX5_days_42 : decode cX5_days 42 = .ok (.aload_n 0, 1) := by decide +kernel
theorem dX5_days_43 : decode cX5_days 43 = .ok (.getfield 36, 3) := by decide +kernel
theorem dX5_days_46 : decode cX5_days 46 = .ok (.iload_n 1, 1) := by decide +kernel
theorem dX5_days_47 : decode cX5_days 47 = .ok (.iadd, 1) := by decide +kernel
theorem dX5_days_48 : decode cX5_days 48 = .ok (.iconst 5, 1) := by decide +kernel
theorem dX5_days_49 : decode cX5_days 49 = .ok (.irem, 1) := by decide +kernel
theorem dX5_days_50 : decode cX5_days 50 = .ok (.putfield 36, 3) := by decide +kernel
theorem dX5_days_53 : decode cX5_days 53 = .ok (.aload_n 0, 1) := by decide +kernel
theorem dX5_days_54 : decode cX5_days 54 = .ok (.getfield 36, 3) := by decide +kernel
theorem dX5_days_57 : decode cX5_days 57 = .ok (.ireturn, 1) := by decide +kernel
theorem dX5_pitch_0 : decode cX5_pitch 0 = .ok (.aload_n 0, 1) := by decide +kernel
theorem dX5_pitch_1 : decode cX5_pitch 1 = .ok (.iload_n 1, 1) := by decide +kernel
theorem dX5_pitch_2 : decode cX5_pitch 2 = .ok (.invokevirtual 176, 3) := by decide +kernel
theorem dX5_pitch_5 : decode cX5_pitch 5 = .ok (.astore 4, 2) := by decide +kernel
theorem dX5_pitch_7 : decode cX5_pitch 7 = .ok (.iload_n 2, 1) := by decide +kernel
theorem dX5_pitch_8 : decode cX5_pitch 8 = .ok (.invokestatic 180, 3) := by decide +kernel
theorem dX5_pitch_11 : decode cX5_pitch 11 = .ok (.iload_n 3, 1) := by decide +kernel
theorem dX5_pitch_12 : decode cX5_pitch 12 = .ok (.sipush 5000, 3) := by decide +kernel
theorem dX5_pitch_15 : decode cX5_pitch 15 = .ok (.if_icmp .lt 9, 3) := by decide +kernel
theorem dX5_pitch_18 : decode cX5_pitch 18 = .ok (.iload_n 3, 1) := by decide +kernel
theorem dX5_pitch_19 : decode cX5_pitch 19 = .ok (.ldc 183, 2) := by decide +kernel
theorem dX5_pitch_21 : decode cX5_pitch 21 = .ok (.if_icmp .le 13, 3) := by decide +kernel
theorem dX5_pitch_24 : decode cX5_pitch 24 = .ok (.new 58, 3) := by decide +kernel
theorem dX5_pitch_27 : decode cX5_pitch 27 = .ok (.dup, 1) := by decide +kernel
theorem dX5_pitch_28 : decode cX5_pitch 28 = .ok (.ldc 184, 2) := by decide +kernel
theorem dX5_pitch_30 : decode cX5_pitch 30 = .ok (.invokespecial 62, 3) := by decide +kernel
theorem dX5_pitch_33 : decode cX5_pitch 33 = .ok (.athrow, 1) := by decide +kernel
theorem dX5_pitch_34 : decode cX5_pitch 34 = .ok (.aload 4, 2) := by decide +kernel
theorem dX5_pitch_36 : decode cX5_pitch 36 = .ok (.iload_n 2, 1) := by decide +kernel
theorem dX5_pitch_37 : decode cX5_pitch 37 = .ok (.iload_n 3, 1) := by decide +kernel
theorem dX5_pitch_38 : decode cX5_pitch 38 = .ok (.invokevirtual 186, 3) := by decide +kernel
theorem dX5_pitch_41 : decode cX5_pitch 41 = .ok (.ireturn, 1) := by decide +kernel
theorem dX5_drift_0 : decode cX5_drift 0 = .ok (.aload_n 0, 1) := by decide +kernel
theorem dX5_drift_1 : decode cX5_drift 1 = .ok (.iload_n 1, 1) := by decide +kernel
theorem dX5_drift_2 : decode cX5_drift 2 = .ok (.invokevirtual 176, 3) := by decide +kernel
theorem dX5_drift_5 : decode cX5_drift 5 = .ok (.astore_n 3, 1) := by decide +kernel
theorem dX5_drift_6 : decode cX5_drift 6 = .ok (.iload_n 2, 1) := by decide +kernel
theorem dX5_drift_7 : decode cX5_drift 7 = .ok (.ifCond .lt 9, 3) := by decide +kernel
theorem dX5_drift_10 : decode cX5_drift 10 = .ok (.iload_n 2, 1) := by decide +kernel
theorem dX5_drift_11 : decode cX5_drift 11 = .ok (.bipush 50, 2) := by decide +kernel
theorem dX5_drift_13 : decode cX5_drift 13 = .ok (.if_icmp .le 13, 3) := by decide +kernel
theorem dX5_drift_16 : decode cX5_drift 16 = .ok (.new 58, 3) := by decide +kernel
theorem dX5_drift_19 : decode cX5_drift 19 = .ok (.dup, 1) := by decide +kernel
theorem dX5_drift_20 : decode cX5_drift 20 = .ok (.ldc 189, 2) := by decide +kernel
theorem dX5_drift_22 : decode cX5_drift 22 = .ok (.invokespecial 62, 3) := by decide +kernel
theorem dX5_drift_25 : decode cX5_drift 25 = .ok (.athrow, 1) := by decide +kernel
theorem dX5_drift_26 : decode cX5_drift 26 = .ok (.aload_n 3, 1) := by decide +kernel
theorem dX5_drift_27 : decode cX5_drift 27 = .ok (.getfield 191, 3) := by decide +kernel
theorem dX5_drift_30 : decode cX5_drift 30 = .ok (.istore 4, 2) := by decide +kernel
theorem dX5_drift_32 : decode cX5_drift 32 = .ok (.aload_n 3, 1) := by decide +kernel
theorem dX5_drift_33 : decode cX5_drift 33 = .ok (.iload_n 2, 1) := by decide +kernel
theorem dX5_drift_34 : decode cX5_drift 34 = .ok (.putfield 191, 3) := by decide +kernel
theorem dX5_drift_37 : decode cX5_drift 37 = .ok (.iload 4, 2) := by decide +kernel
theorem dX5_drift_39 : decode cX5_drift 39 = .ok (.ireturn, 1) := by decide +kernel
theorem dX5_years_0 : decode cX5_years 0 = .ok (.iload_n 1, 1) := by decide +kernel
theorem dX5_years_1 : decode cX5_years 1 = .ok (.iconst 1, 1) := by decide +kernel
theorem dX5_years_2 : decode cX5_years 2 = .ok (.if_icmp .lt 9, 3) := by decide +kernel
theorem dX5_years_5 : decode cX5_years 5 = .ok (.iload_n 1, 1) := by decide +kernel
theorem dX5_years_6 : decode cX5_years 6 = .ok (.bipush 30, 2) := by decide +kernel
theorem dX5_years_8 : decode cX5_years 8 = .ok (.if_icmp .le 13, 3) := by decide +kernel
theorem dX5_years_11 : decode cX5_years 11 = .ok (.new 58, 3) := by decide +kernel
theorem dX5_years_14 : decode cX5_years 14 = .ok (.dup, 1) := by decide +kernel
theorem dX5_years_15 : decode cX5_years 15 = .ok (.ldc 194, 2) := by decide +kernel
theorem dX5_years_17 : decode cX5_years 17 = .ok (.invokespecial 62, 3) := by decide +kernel
theorem dX5_years_20 : decode cX5_years 20 = .ok (.athrow, 1) := by decide +kernel
theorem dX5_years_21 : decode cX5_years 21 = .ok (.aload_n 0, 1) := by decide +kernel
theorem dX5_years_22 : decode cX5_years 22 = .ok (.getfield 45, 3) := by decide +kernel
theorem dX5_years_25 : decode cX5_years 25 = .ok (.iload_n 1, 1) := by decide +kernel
theorem dX5_years_26 : decode cX5_years 26 = .ok (.iadd, 1) := by decide +kernel
theorem dX5_years_27 : decode cX5_years 27 = .ok (.sipush 300, 3) := by decide +kernel
theorem dX5_years_30 : decode cX5_years 30 = .ok (.if_icmp .le 13, 3) := by decide +kernel
theorem dX5_years_33 : decode cX5_years 33 = .ok (.new 65, 3) := by decide +kernel
theorem dX5_years_36 : decode cX5_years 36 = .ok (.dup, 1) := by decide +kernel
theorem dX5_years_37 : decode cX5_years 37 = .ok (.ldc 196, 2) := by decide +kernel
theorem dX5_years_39 : decode cX5_years 39 = .ok (.invokespecial 69, 3) := by decide +kernel
theorem dX5_years_42 : decode cX5_years 42 = .ok (.athrow, 1) := by decide +kernel
theorem dX5_years_43 : decode cX5_years 43 = .ok (.iconst 0, 1) := by decide +kernel
theorem dX5_years_44 : decode cX5_years 44 = .ok (.istore_n 2, 1) := by decide +kernel
theorem dX5_years_45 : decode cX5_years 45 = .ok (.iload_n 2, 1) := by decide +kernel
theorem dX5_years_46 : decode cX5_years 46 = .ok (.iconst 4, 1) := by decide +kernel
theorem dX5_years_47 : decode cX5_years 47 = .ok (.if_icmp .ge 18, 3) := by decide +kernel
theorem dX5_years_50 : decode cX5_years 50 = .ok (.aload_n 0, 1) := by decide +kernel
theorem dX5_years_51 : decode cX5_years 51 = .ok (.iload_n 2, 1) := by decide +kernel
theorem dX5_years_52 : decode cX5_years 52 = .ok (.invokevirtual 176, 3) := by decide +kernel
theorem dX5_years_55 : decode cX5_years 55 = .ok (.iload_n 1, 1) := by decide +kernel
theorem dX5_years_56 : decode cX5_years 56 = .ok (.invokevirtual 198, 3) := by decide +kernel
theorem dX5_years_59 : decode cX5_years 59 = .ok (.iinc 2 1, 3) := by decide +kernel
theorem dX5_years_62 : decode cX5_years 62 = .ok (.goto (-17), 3) := by decide +kernel
theorem dX5_years_65 : decode cX5_years 65 = .ok (.aload_n 0, 1) := by decide +kernel
theorem dX5_years_66 : decode cX5_years 66 = .ok (.dup, 1) := by decide +kernel
theorem dX5_years_67 : decode cX5_years 67 = .ok (.getfield 45, 3) := by decide +kernel
theorem dX5_years_70 : decode cX5_years 70 = .ok (.iload_n 1, 1) := by decide +kernel
theorem dX5_years_71 : decode cX5_years 71 = .ok (.iadd, 1) := by decide +kernel
theorem dX5_years_72 : decode cX5_years 72 = .ok (.putfield 45, 3) := by decide +kernel
theorem dX5_years_75 : decode cX5_years 75 = .ok (.aload_n 0, 1) := by decide +kernel
theorem dX5_years_76 : decode cX5_years 76 = .ok (.getfield 45, 3) := by decide +kernel
theorem dX5_years_79 : decode cX5_years 79 = .ok (.ireturn, 1) := by decide +kernel
theorem dX5_tune_0 : decode cX5_tune 0 = .ok (.aload_n 0, 1) := by decide +kernel
theorem dX5_tune_1 : decode cX5_tune 1 = .ok (.iload_n 1, 1) := by decide +kernel
theorem dX5_tune_2 : decode cX5_tune 2 = .ok (.invokevirtual 176, 3) := by decide +kernel
theorem dX5_tune_5 : decode cX5_tune 5 = .ok (.astore_n 3, 1) := by decide +kernel
theorem dX5_tune_6 : decode cX5_tune 6 = .ok (.aload_n 0, 1) := by decide +kernel
theorem dX5_tune_7 : decode cX5_tune 7 = .ok (.iload_n 2, 1) := by decide +kernel
theorem dX5_tune_8 : decode cX5_tune 8 = .ok (.invokevirtual 176, 3) := by decide +kernel
theorem dX5_tune_11 : decode cX5_tune 11 = .ok (.astore 4, 2) := by decide +kernel
theorem dX5_tune_13 : decode cX5_tune 13 = .ok (.iload_n 1, 1) := by decide +kernel
theorem dX5_tune_14 : decode cX5_tune 14 = .ok (.iload_n 2, 1) := by decide +kernel
theorem dX5_tune_15 : decode cX5_tune 15 = .ok (.if_icmp .ne 13, 3) := by decide +kernel
theorem dX5_tune_18 : decode cX5_tune 18 = .ok (.new 58, 3) := by decide +kernel
theorem dX5_tune_21 : decode cX5_tune 21 = .ok (.dup, 1) := by decide +kernel
theorem dX5_tune_22 : decode cX5_tune 22 = .ok (.ldc 201, 2) := by decide +kernel
theorem dX5_tune_24 : decode cX5_tune 24 = .ok (.invokespecial 62, 3) := by decide +kernel
theorem dX5_tune_27 : decode cX5_tune 27 = .ok (.athrow, 1) := by decide +kernel
theorem dX5_tune_28 : decode cX5_tune 28 = .ok (.aload_n 3, 1) := by decide +kernel
theorem dX5_tune_29 : decode cX5_tune 29 = .ok (.aload 4, 2) := by decide +kernel
theorem dX5_tune_31 : decode cX5_tune 31 = .ok (.iconst 1, 1) := by decide +kernel
theorem dX5_tune_32 : decode cX5_tune 32 = .ok (.invokevirtual 203, 3) := by decide +kernel
theorem dX5_tune_35 : decode cX5_tune 35 = .ok (.invokevirtual 206, 3) := by decide +kernel
theorem dX5_tune_38 : decode cX5_tune 38 = .ok (.aload_n 3, 1) := by decide +kernel
theorem dX5_tune_39 : decode cX5_tune 39 = .ok (.iconst 1, 1) := by decide +kernel
theorem dX5_tune_40 : decode cX5_tune 40 = .ok (.invokevirtual 203, 3) := by decide +kernel
theorem dX5_tune_43 : decode cX5_tune 43 = .ok (.ireturn, 1) := by decide +kernel
theorem dX5_beat_0 : decode cX5_beat 0 = .ok (.aload_n 0, 1) := by decide +kernel
theorem dX5_beat_1 : decode cX5_beat 1 = .ok (.iload_n 1, 1) := by decide +kernel
theorem dX5_beat_2 : decode cX5_beat 2 = .ok (.invokevirtual 176, 3) := by decide +kernel
theorem dX5_beat_5 : decode cX5_beat 5 = .ok (.astore 4, 2) := by decide +kernel
theorem dX5_beat_7 : decode cX5_beat 7 = .ok (.aload_n 0, 1) := by decide +kernel
theorem dX5_beat_8 : decode cX5_beat 8 = .ok (.iload_n 2, 1) := by decide +kernel
theorem dX5_beat_9 : decode cX5_beat 9 = .ok (.invokevirtual 176, 3) := by decide +kernel
theorem dX5_beat_12 : decode cX5_beat 12 = .ok (.astore 5, 2) := by decide +kernel
theorem dX5_beat_14 : decode cX5_beat 14 = .ok (.iload_n 3, 1) := by decide +kernel
theorem dX5_beat_15 : decode cX5_beat 15 = .ok (.invokestatic 180, 3) := by decide +kernel
theorem dX5_beat_18 : decode cX5_beat 18 = .ok (.aload 4, 2) := by decide +kernel
theorem dX5_beat_20 : decode cX5_beat 20 = .ok (.iload_n 3, 1) := by decide +kernel
theorem dX5_beat_21 : decode cX5_beat 21 = .ok (.invokevirtual 203, 3) := by decide +kernel
theorem dX5_beat_24 : decode cX5_beat 24 = .ok (.aload 5, 2) := by decide +kernel
theorem dX5_beat_26 : decode cX5_beat 26 = .ok (.iload_n 3, 1) := by decide +kernel
theorem dX5_beat_27 : decode cX5_beat 27 = .ok (.invokevirtual 203, 3) := by decide +kernel
theorem dX5_beat_30 : decode cX5_beat 30 = .ok (.isub, 1) := by decide +kernel
theorem dX5_beat_31 : decode cX5_beat 31 = .ok (.invokestatic 209, 3) := by decide +kernel
theorem dX5_beat_34 : decode cX5_beat 34 = .ok (.ireturn, 1) := by decide +kernel
theorem dX5_player_0 : decode cX5_player 0 = .ok (.iload_n 1, 1) := by decide +kernel
theorem dX5_player_1 : decode cX5_player 1 = .ok (.ifCond .lt 9, 3) := by decide +kernel
theorem dX5_player_4 : decode cX5_player 4 = .ok (.iload_n 1, 1) := by decide +kernel
theorem dX5_player_5 : decode cX5_player 5 = .ok (.bipush 15, 2) := by decide +kernel
theorem dX5_player_7 : decode cX5_player 7 = .ok (.if_icmp .le 13, 3) := by decide +kernel
theorem dX5_player_10 : decode cX5_player 10 = .ok (.new 58, 3) := by decide +kernel
theorem dX5_player_13 : decode cX5_player 13 = .ok (.dup, 1) := by decide +kernel
theorem dX5_player_14 : decode cX5_player 14 = .ok (.ldc 214, 2) := by decide +kernel
theorem dX5_player_16 : decode cX5_player 16 = .ok (.invokespecial 62, 3) := by decide +kernel
theorem dX5_player_19 : decode cX5_player 19 = .ok (.athrow, 1) := by decide +kernel
theorem dX5_player_20 : decode cX5_player 20 = .ok (.aload_n 0, 1) := by decide +kernel
theorem dX5_player_21 : decode cX5_player 21 = .ok (.getfield 54, 3) := by decide +kernel
theorem dX5_player_24 : decode cX5_player 24 = .ok (.aload_n 0, 1) := by decide +kernel
theorem dX5_player_25 : decode cX5_player 25 = .ok (.getfield 50, 3) := by decide +kernel
theorem dX5_player_28 : decode cX5_player 28 = .ok (.arraylength, 1) := by decide +kernel
theorem dX5_player_29 : decode cX5_player 29 = .ok (.if_icmp .lt 13, 3) := by decide +kernel
theorem dX5_player_32 : decode cX5_player 32 = .ok (.new 65, 3) := by decide +kernel
theorem dX5_player_35 : decode cX5_player 35 = .ok (.dup, 1) := by decide +kernel
theorem dX5_player_36 : decode cX5_player 36 = .ok (.ldc 216, 2) := by decide +kernel
theorem dX5_player_38 : decode cX5_player 38 = .ok (.invokespecial 69, 3) := by decide +kernel
theorem dX5_player_41 : decode cX5_player 41 = .ok (.athrow, 1) := by decide +kernel
theorem dX5_player_42 : decode cX5_player 42 = .ok (.aload_n 0, 1) := by decide +kernel
theorem dX5_player_43 : decode cX5_player 43 = .ok (.getfield 50, 3) := by decide +kernel
theorem dX5_player_46 : decode cX5_player 46 = .ok (.aload_n 0, 1) := by decide +kernel
theorem dX5_player_47 : decode cX5_player 47 = .ok (.getfield 54, 3) := by decide +kernel
theorem dX5_player_50 : decode cX5_player 50 = .ok (.new 48, 3) := by decide +kernel
theorem dX5_player_53 : decode cX5_player 53 = .ok (.dup, 1) := by decide +kernel
theorem dX5_player_54 : decode cX5_player 54 = .ok (.iload_n 1, 1) := by decide +kernel
theorem dX5_player_55 : decode cX5_player 55 = .ok (.invokespecial 218, 3) := by decide +kernel
theorem dX5_player_58 : decode cX5_player 58 = .ok (.aastore, 1) := by decide +kernel
theorem dX5_player_59 : decode cX5_player 59 = .ok (.aload_n 0, 1) := by decide +kernel
theorem dX5_player_60 : decode cX5_player 60 = .ok (.dup, 1) := by decide +kernel
theorem dX5_player_61 : decode cX5_player 61 = .ok (.getfield 54, 3) := by decide +kernel
theorem dX5_player_64 : decode cX5_player 64 = .ok (.iconst 1, 1) := by decide +kernel
theorem dX5_player_65 : decode cX5_player 65 = .ok (.iadd, 1) := by decide +kernel
theorem dX5_player_66 : decode cX5_player 66 = .ok (.putfield 54, 3) := by decide +kernel
theorem dX5_player_69 : decode cX5_player 69 = .ok (.aload_n 0, 1) := by decide +kernel
theorem dX5_player_70 : decode cX5_player 70 = .ok (.getfield 54, 3) := by decide +kernel
theorem dX5_player_73 : decode cX5_player 73 = .ok (.iconst 1, 1) := by decide +kernel
theorem dX5_player_74 : decode cX5_player 74 = .ok (.isub, 1) := by decide +kernel
theorem dX5_player_75 : decode cX5_player 75 = .ok (.ireturn, 1) := by decide +kernel
theorem dX5_learn_0 : decode cX5_learn 0 = .ok (.aload_n 0, 1) := by decide +kernel
theorem dX5_learn_1 : decode cX5_learn 1 = .ok (.iload_n 1, 1) := by decide +kernel
theorem dX5_learn_2 : decode cX5_learn 2 = .ok (.invokevirtual 219, 3) := by decide +kernel
theorem dX5_learn_5 : decode cX5_learn 5 = .ok (.astore 4, 2) := by decide +kernel
theorem dX5_learn_7 : decode cX5_learn 7 = .ok (.aload_n 0, 1) := by decide +kernel
theorem dX5_learn_8 : decode cX5_learn 8 = .ok (.iload_n 3, 1) := by decide +kernel
theorem dX5_learn_9 : decode cX5_learn 9 = .ok (.iload_n 2, 1) := by decide +kernel
theorem dX5_learn_10 : decode cX5_learn 10 = .ok (.invokevirtual 223, 3) := by decide +kernel
theorem dX5_learn_13 : decode cX5_learn 13 = .ok (.astore 5, 2) := by decide +kernel
theorem dX5_learn_15 : decode cX5_learn 15 = .ok (.iload_n 3, 1) := by decide +kernel
theorem dX5_learn_16 : decode cX5_learn 16 = .ok (.iload_n 1, 1) := by decide +kernel
theorem dX5_learn_17 : decode cX5_learn 17 = .ok (.if_icmp .ne 13, 3) := by decide +kernel
theorem dX5_learn_20 : decode cX5_learn 20 = .ok (.new 58, 3) := by decide +kernel
theorem dX5_learn_23 : decode cX5_learn 23 = .ok (.dup, 1) := by decide +kernel
theorem dX5_learn_24 : decode cX5_learn 24 = .ok (.ldc 227, 2) := by decide +kernel
theorem dX5_learn_26 : decode cX5_learn 26 = .ok (.invokespecial 62, 3) := by decide +kernel
theorem dX5_learn_29 : decode cX5_learn 29 = .ok (.athrow, 1) := by decide +kernel
theorem dX5_learn_30 : decode cX5_learn 30 = .ok (.aload 5, 2) := by decide +kernel
theorem dX5_learn_32 : decode cX5_learn 32 = .ok (.ifnonnull 13, 3) := by decide +kernel
theorem dX5_learn_35 : decode cX5_learn 35 = .ok (.new 65, 3) := by decide +kernel
theorem dX5_learn_38 : decode cX5_learn 38 = .ok (.dup, 1) := by decide +kernel
theorem dX5_learn_39 : decode cX5_learn 39 = .ok (.ldc 229, 2) := by decide +kernel
theorem dX5_learn_41 : decode cX5_learn 41 = .ok (.invokespecial 69, 3) := by decide +kernel
theorem dX5_learn_44 : decode cX5_learn 44 = .ok (.athrow, 1) := by decide +kernel
theorem dX5_learn_45 : decode cX5_learn 45 = .ok (.aload 4, 2) := by decide +kernel
theorem dX5_learn_47 : decode cX5_learn 47 = .ok (.iload_n 2, 1) := by decide +kernel
theorem dX5_learn_48 : decode cX5_learn 48 = .ok (.aload 5, 2) := by decide +kernel
theorem dX5_learn_50 : decode cX5_learn 50 = .ok (.invokevirtual 231, 3) := by decide +kernel
theorem dX5_learn_53 : decode cX5_learn 53 = .ok (.aload_n 0, 1) := by decide +kernel
theorem dX5_learn_54 : decode cX5_learn 54 = .ok (.iload_n 2, 1) := by decide +kernel
theorem dX5_learn_55 : decode cX5_learn 55 = .ok (.invokevirtual 235, 3) := by decide +kernel
theorem dX5_learn_58 : decode cX5_learn 58 = .ok (.ireturn, 1) := by decide +kernel
theorem dX5_slip_0 : decode cX5_slip 0 = .ok (.aload_n 0, 1) := by decide +kernel
theorem dX5_slip_1 : decode cX5_slip 1 = .ok (.iload_n 1, 1) := by decide +kernel
theorem dX5_slip_2 : decode cX5_slip 2 = .ok (.invokevirtual 219, 3) := by decide +kernel
theorem dX5_slip_5 : decode cX5_slip 5 = .ok (.astore 5, 2) := by decide +kernel
theorem dX5_slip_7 : decode cX5_slip 7 = .ok (.aload_n 0, 1) := by decide +kernel
theorem dX5_slip_8 : decode cX5_slip 8 = .ok (.iload_n 2, 1) := by decide +kernel
theorem dX5_slip_9 : decode cX5_slip 9 = .ok (.invokevirtual 84, 3) := by decide +kernel
theorem dX5_slip_12 : decode cX5_slip 12 = .ok (.getfield 88, 3) := by decide +kernel
theorem dX5_slip_15 : decode cX5_slip 15 = .ok (.iload_n 3, 1) := by decide +kernel
theorem dX5_slip_16 : decode cX5_slip 16 = .ok (.invokestatic 92, 3) := by decide +kernel
theorem dX5_slip_19 : decode cX5_slip 19 = .ok (.iload 4, 2) := by decide +kernel
theorem dX5_slip_21 : decode cX5_slip 21 = .ok (.invokestatic 96, 3) := by decide +kernel
theorem dX5_slip_24 : decode cX5_slip 24 = .ok (.aload 5, 2) := by decide +kernel
theorem dX5_slip_26 : decode cX5_slip 26 = .ok (.iload_n 2, 1) := by decide +kernel
theorem dX5_slip_27 : decode cX5_slip 27 = .ok (.invokevirtual 238, 3) := by decide +kernel
theorem dX5_slip_30 : decode cX5_slip 30 = .ok (.astore 6, 2) := by decide +kernel
theorem dX5_slip_32 : decode cX5_slip 32 = .ok (.aload 6, 2) := by decide +kernel
theorem dX5_slip_34 : decode cX5_slip 34 = .ok (.ifnonnull 13, 3) := by decide +kernel
theorem dX5_slip_37 : decode cX5_slip 37 = .ok (.new 65, 3) := by decide +kernel
theorem dX5_slip_40 : decode cX5_slip 40 = .ok (.dup, 1) := by decide +kernel
theorem dX5_slip_41 : decode cX5_slip 41 = .ok (.ldc 242, 2) := by decide +kernel
theorem dX5_slip_43 : decode cX5_slip 43 = .ok (.invokespecial 69, 3) := by decide +kernel
theorem dX5_slip_46 : decode cX5_slip 46 = .ok (.athrow, 1) := by decide +kernel
theorem dX5_slip_47 : decode cX5_slip 47 = .ok (.aload 6, 2) := by decide +kernel
theorem dX5_slip_49 : decode cX5_slip 49 = .ok (.iload_n 3, 1) := by decide +kernel
theorem dX5_slip_50 : decode cX5_slip 50 = .ok (.iload 4, 2) := by decide +kernel
theorem dX5_slip_52 : decode cX5_slip 52 = .ok (.invokevirtual 99, 3) := by decide +kernel
theorem dX5_slip_55 : decode cX5_slip 55 = .ok (.ireturn, 1) := by decide +kernel
theorem dX5_unlike_0 : decode cX5_unlike 0 = .ok (.aload_n 0, 1) := by decide +kernel
theorem dX5_unlike_1 : decode cX5_unlike 1 = .ok (.iload_n 1, 1) := by decide +kernel
theorem dX5_unlike_2 : decode cX5_unlike 2 = .ok (.invokevirtual 219, 3) := by decide +kernel
theorem dX5_unlike_5 : decode cX5_unlike 5 = .ok (.astore 4, 2) := by decide +kernel
theorem dX5_unlike_7 : decode cX5_unlike 7 = .ok (.aload_n 0, 1) := by decide +kernel
theorem dX5_unlike_8 : decode cX5_unlike 8 = .ok (.iload_n 2, 1) := by decide +kernel
theorem dX5_unlike_9 : decode cX5_unlike 9 = .ok (.iload_n 3, 1) := by decide +kernel
theorem dX5_unlike_10 : decode cX5_unlike 10 = .ok (.invokevirtual 223, 3) := by decide +kernel
theorem dX5_unlike_13 : decode cX5_unlike 13 = .ok (.astore 5, 2) := by decide +kernel
theorem dX5_unlike_15 : decode cX5_unlike 15 = .ok (.aload 4, 2) := by decide +kernel
theorem dX5_unlike_17 : decode cX5_unlike 17 = .ok (.iload_n 3, 1) := by decide +kernel
theorem dX5_unlike_18 : decode cX5_unlike 18 = .ok (.invokevirtual 238, 3) := by decide +kernel
theorem dX5_unlike_21 : decode cX5_unlike 21 = .ok (.astore 6, 2) := by decide +kernel
theorem dX5_unlike_23 : decode cX5_unlike 23 = .ok (.aload 6, 2) := by decide +kernel
theorem dX5_unlike_25 : decode cX5_unlike 25 = .ok (.ifnull 8, 3) := by decide +kernel
theorem dX5_unlike_28 : decode cX5_unlike 28 = .ok (.aload 5, 2) := by decide +kernel
theorem dX5_unlike_30 : decode cX5_unlike 30 = .ok (.ifnonnull 5, 3) := by decide +kernel
theorem dX5_unlike_33 : decode cX5_unlike 33 = .ok (.iconst (-1), 1) := by decide +kernel
theorem dX5_unlike_34 : decode cX5_unlike 34 = .ok (.ireturn, 1) := by decide +kernel
theorem dX5_unlike_35 : decode cX5_unlike 35 = .ok (.aload 6, 2) := by decide +kernel
theorem dX5_unlike_37 : decode cX5_unlike 37 = .ok (.aload 5, 2) := by decide +kernel
theorem dX5_unlike_39 : decode cX5_unlike 39 = .ok (.invokevirtual 244, 3) := by decide +kernel
theorem dX5_unlike_42 : decode cX5_unlike 42 = .ok (.ireturn, 1) := by decide +kernel
theorem dX5_covered_0 : decode cX5_covered 0 = .ok (.aload_n 0, 1) := by decide +kernel
theorem dX5_covered_1 : decode cX5_covered 1 = .ok (.iload_n 1, 1) := by decide +kernel
theorem dX5_covered_2 : decode cX5_covered 2 = .ok (.invokevirtual 84, 3) := by decide +kernel
theorem dX5_covered_5 : decode cX5_covered 5 = .ok (.pop, 1) := by decide +kernel
theorem dX5_covered_6 : decode cX5_covered 6 = .ok (.iconst 1, 1) := by decide +kernel
theorem dX5_covered_7 : decode cX5_covered 7 = .ok (.istore_n 2, 1) := by decide +kernel
theorem dX5_covered_8 : decode cX5_covered 8 = .ok (.iconst 0, 1) := by decide +kernel
theorem dX5_covered_9 : decode cX5_covered 9 = .ok (.istore_n 3, 1) := by decide +kernel
theorem dX5_covered_10 : decode cX5_covered 10 = .ok (.iload_n 3, 1) := by decide +kernel
theorem dX5_covered_11 : decode cX5_covered 11 = .ok (.aload_n 0, 1) := by decide +kernel
theorem dX5_covered_12 : decode cX5_covered 12 = .ok (.getfield 54, 3) := by decide +kernel
theorem dX5_covered_15 : decode cX5_covered 15 = .ok (.if_icmp .ge 35, 3) := by decide +kernel
theorem dX5_covered_18 : decode cX5_covered 18 = .ok (.aload_n 0, 1) := by decide +kernel
theorem dX5_covered_19 : decode cX5_covered 19 = .ok (.iload_n 3, 1) := by decide +kernel
theorem dX5_covered_20 : decode cX5_covered 20 = .ok (.invokevirtual 219, 3) := by decide +kernel
theorem dX5_covered_23 : decode cX5_covered 23 = .ok (.astore 4, 2) := by decide +kernel
theorem dX5_covered_25 : decode cX5_covered 25 = .ok (.aload 4, 2) := by decide +kernel
theorem dX5_covered_27 : decode cX5_covered 27 = .ok (.iload_n 1, 1) := by decide +kernel
theorem dX5_covered_28 : decode cX5_covered 28 = .ok (.invokevirtual 238, 3) := by decide +kernel
theorem dX5_covered_31 : decode cX5_covered 31 = .ok (.ifnull 13, 3) := by decide +kernel
theorem dX5_covered_34 : decode cX5_covered 34 = .ok (.iload_n 2, 1) := by decide +kernel
theorem dX5_covered_35 : decode cX5_covered 35 = .ok (.aload 4, 2) := by decide +kernel
theorem dX5_covered_37 : decode cX5_covered 37 = .ok (.getfield 248, 3) := by decide +kernel
theorem dX5_covered_40 : decode cX5_covered 40 = .ok (.invokestatic 251, 3) := by decide +kernel
theorem dX5_covered_43 : decode cX5_covered 43 = .ok (.istore_n 2, 1) := by decide +kernel
theorem dX5_covered_44 : decode cX5_covered 44 = .ok (.iinc 3 1, 3) := by decide +kernel
theorem dX5_covered_47 : decode cX5_covered 47 = .ok (.goto (-37), 3) := by decide +kernel
theorem dX5_covered_50 : decode cX5_covered 50 = .ok (.iload_n 2, 1) := by decide +kernel
theorem dX5_covered_51 : decode cX5_covered 51 = .ok (.invokestatic 254, 3) := by decide +kernel
theorem dX5_covered_54 : decode cX5_covered 54 = .ok (.ireturn, 1) := by decide +kernel
theorem dX5_lengthOfForm_0 : decode cX5_lengthOfForm 0 = .ok (.iload_n 1, 1) := by decide +kernel
theorem dX5_lengthOfForm_1 : decode cX5_lengthOfForm 1 = .ok (.ifCond .lt 20, 3) := by decide +kernel
theorem dX5_lengthOfForm_4 : decode cX5_lengthOfForm 4 = .ok (.iload_n 1, 1) := by decide +kernel
theorem dX5_lengthOfForm_5 : decode cX5_lengthOfForm 5 = .ok (.aload_n 0, 1) := by decide +kernel
theorem dX5_lengthOfForm_6 : decode cX5_lengthOfForm 6 = .ok (.getfield 13, 3) := by decide +kernel
theorem dX5_lengthOfForm_9 : decode cX5_lengthOfForm 9 = .ok (.if_icmp .ge 12, 3) := by decide +kernel
theorem dX5_lengthOfForm_12 : decode cX5_lengthOfForm 12 = .ok (.iload_n 1, 1) := by decide +kernel
theorem dX5_lengthOfForm_13 : decode cX5_lengthOfForm 13 = .ok (.aload_n 0, 1) := by decide +kernel
theorem dX5_lengthOfForm_14 : decode cX5_lengthOfForm 14 = .ok (.getfield 9, 3) := by decide +kernel
theorem dX5_lengthOfForm_17 : decode cX5_lengthOfForm 17 = .ok (.arraylength, 1) := by decide +kernel
theorem dX5_lengthOfForm_18 : decode cX5_lengthOfForm 18 = .ok (.if_icmp .lt 14, 3) := by decide +kernel
theorem dX5_lengthOfForm_21 : decode cX5_lengthOfForm 21 = .ok (.new 74, 3) := by decide +kernel
theorem dX5_lengthOfForm_24 : decode cX5_lengthOfForm 24 = .ok (.dup, 1) := by decide +kernel
theorem dX5_lengthOfForm_25 : decode cX5_lengthOfForm 25 = .ok (.ldc_w 257, 3) := by decide +kernel
theorem dX5_lengthOfForm_28 : decode cX5_lengthOfForm 28 = .ok (.invokespecial 78, 3) := by decide +kernel
theorem dX5_lengthOfForm_31 : decode cX5_lengthOfForm 31 = .ok (.athrow, 1) := by decide +kernel
theorem dX5_lengthOfForm_32 : decode cX5_lengthOfForm 32 = .ok (.aload_n 0, 1) := by decide +kernel
theorem dX5_lengthOfForm_33 : decode cX5_lengthOfForm 33 = .ok (.getfield 9, 3) := by decide +kernel
theorem dX5_lengthOfForm_36 : decode cX5_lengthOfForm 36 = .ok (.iload_n 1, 1) := by decide +kernel
theorem dX5_lengthOfForm_37 : decode cX5_lengthOfForm 37 = .ok (.iaload, 1) := by decide +kernel
theorem dX5_lengthOfForm_38 : decode cX5_lengthOfForm 38 = .ok (.ireturn, 1) := by decide +kernel
theorem dX5_pieceAt_0 : decode cX5_pieceAt 0 = .ok (.iload_n 1, 1) := by decide +kernel
theorem dX5_pieceAt_1 : decode cX5_pieceAt 1 = .ok (.ifCond .lt 21, 3) := by decide +kernel
theorem dX5_pieceAt_4 : decode cX5_pieceAt 4 = .ok (.iload_n 1, 1) := by decide +kernel
theorem dX5_pieceAt_5 : decode cX5_pieceAt 5 = .ok (.aload_n 0, 1) := by decide +kernel
theorem dX5_pieceAt_6 : decode cX5_pieceAt 6 = .ok (.getfield 19, 3) := by decide +kernel
theorem dX5_pieceAt_9 : decode cX5_pieceAt 9 = .ok (.arraylength, 1) := by decide +kernel
theorem dX5_pieceAt_10 : decode cX5_pieceAt 10 = .ok (.if_icmp .ge 12, 3) := by decide +kernel
theorem dX5_pieceAt_13 : decode cX5_pieceAt 13 = .ok (.aload_n 0, 1) := by decide +kernel
theorem dX5_pieceAt_14 : decode cX5_pieceAt 14 = .ok (.getfield 19, 3) := by decide +kernel
theorem dX5_pieceAt_17 : decode cX5_pieceAt 17 = .ok (.iload_n 1, 1) := by decide +kernel
theorem dX5_pieceAt_18 : decode cX5_pieceAt 18 = .ok (.aaload, 1) := by decide +kernel
theorem dX5_pieceAt_19 : decode cX5_pieceAt 19 = .ok (.goto 4, 3) := by decide +kernel
theorem dX5_pieceAt_22 : decode cX5_pieceAt 22 = .ok (.aconst_null, 1) := by decide +kernel
theorem dX5_pieceAt_23 : decode cX5_pieceAt 23 = .ok (.astore_n 2, 1) := by decide +kernel
theorem dX5_pieceAt_24 : decode cX5_pieceAt 24 = .ok (.aload_n 2, 1) := by decide +kernel
theorem dX5_pieceAt_25 : decode cX5_pieceAt 25 = .ok (.ifnonnull 14, 3) := by decide +kernel
theorem dX5_pieceAt_28 : decode cX5_pieceAt 28 = .ok (.new 74, 3) := by decide +kernel
theorem dX5_pieceAt_31 : decode cX5_pieceAt 31 = .ok (.dup, 1) := by decide +kernel
theorem dX5_pieceAt_32 : decode cX5_pieceAt 32 = .ok (.ldc_w 259, 3) := by decide +kernel
theorem dX5_pieceAt_35 : decode cX5_pieceAt 35 = .ok (.invokespecial 78, 3) := by decide +kernel
theorem dX5_pieceAt_38 : decode cX5_pieceAt 38 = .ok (.athrow, 1) := by decide +kernel
theorem dX5_pieceAt_39 : decode cX5_pieceAt 39 = .ok (.aload_n 2, 1) := by decide +kernel
theorem dX5_pieceAt_40 : decode cX5_pieceAt 40 = .ok (.areturn, 1) := by decide +kernel
theorem dX5_setAt_0 : decode cX5_setAt 0 = .ok (.iload_n 1, 1) := by decide +kernel
theorem dX5_setAt_1 : decode cX5_setAt 1 = .ok (.ifCond .lt 21, 3) := by decide +kernel
theorem dX5_setAt_4 : decode cX5_setAt 4 = .ok (.iload_n 1, 1) := by decide +kernel
theorem dX5_setAt_5 : decode cX5_setAt 5 = .ok (.aload_n 0, 1) := by decide +kernel
theorem dX5_setAt_6 : decode cX5_setAt 6 = .ok (.getfield 41, 3) := by decide +kernel
theorem dX5_setAt_9 : decode cX5_setAt 9 = .ok (.arraylength, 1) := by decide +kernel
theorem dX5_setAt_10 : decode cX5_setAt 10 = .ok (.if_icmp .ge 12, 3) := by decide +kernel
theorem dX5_setAt_13 : decode cX5_setAt 13 = .ok (.aload_n 0, 1) := by decide +kernel
theorem dX5_setAt_14 : decode cX5_setAt 14 = .ok (.getfield 41, 3) := by decide +kernel
theorem dX5_setAt_17 : decode cX5_setAt 17 = .ok (.iload_n 1, 1) := by decide +kernel
theorem dX5_setAt_18 : decode cX5_setAt 18 = .ok (.aaload, 1) := by decide +kernel
theorem dX5_setAt_19 : decode cX5_setAt 19 = .ok (.goto 4, 3) := by decide +kernel
theorem dX5_setAt_22 : decode cX5_setAt 22 = .ok (.aconst_null, 1) := by decide +kernel
theorem dX5_setAt_23 : decode cX5_setAt 23 = .ok (.astore_n 2, 1) := by decide +kernel
theorem dX5_setAt_24 : decode cX5_setAt 24 = .ok (.aload_n 2, 1) := by decide +kernel
theorem dX5_setAt_25 : decode cX5_setAt 25 = .ok (.ifnonnull 14, 3) := by decide +kernel
theorem dX5_setAt_28 : decode cX5_setAt 28 = .ok (.new 74, 3) := by decide +kernel
theorem dX5_setAt_31 : decode cX5_setAt 31 = .ok (.dup, 1) := by decide +kernel
theorem dX5_setAt_32 : decode cX5_setAt 32 = .ok (.ldc_w 261, 3) := by decide +kernel
theorem dX5_setAt_35 : decode cX5_setAt 35 = .ok (.invokespecial 78, 3) := by decide +kernel
theorem dX5_setAt_38 : decode cX5_setAt 38 = .ok (.athrow, 1) := by decide +kernel
theorem dX5_setAt_39 : decode cX5_setAt 39 = .ok (.aload_n 2, 1) := by decide +kernel
theorem dX5_setAt_40 : decode cX5_setAt 40 = .ok (.areturn, 1) := by decide +kernel
theorem dX5_playerAt_0 : decode cX5_playerAt 0 = .ok (.iload_n 1, 1) := by decide +kernel
theorem dX5_playerAt_1 : decode cX5_playerAt 1 = .ok (.ifCond .lt 21, 3) := by decide +kernel
theorem dX5_playerAt_4 : decode cX5_playerAt 4 = .ok (.iload_n 1, 1) := by decide +kernel
theorem dX5_playerAt_5 : decode cX5_playerAt 5 = .ok (.aload_n 0, 1) := by decide +kernel
theorem dX5_playerAt_6 : decode cX5_playerAt 6 = .ok (.getfield 50, 3) := by decide +kernel
theorem dX5_playerAt_9 : decode cX5_playerAt 9 = .ok (.arraylength, 1) := by decide +kernel
theorem dX5_playerAt_10 : decode cX5_playerAt 10 = .ok (.if_icmp .ge 12, 3) := by decide +kernel
theorem dX5_playerAt_13 : decode cX5_playerAt 13 = .ok (.aload_n 0, 1) := by decide +kernel
theorem dX5_playerAt_14 : decode cX5_playerAt 14 = .ok (.getfield 50, 3) := by decide +kernel
theorem dX5_playerAt_17 : decode cX5_playerAt 17 = .ok (.iload_n 1, 1) := by decide +kernel
theorem dX5_playerAt_18 : decode cX5_playerAt 18 = .ok (.aaload, 1) := by decide +kernel
theorem dX5_playerAt_19 : decode cX5_playerAt 19 = .ok (.goto 4, 3) := by decide +kernel
theorem dX5_playerAt_22 : decode cX5_playerAt 22 = .ok (.aconst_null, 1) := by decide +kernel
theorem dX5_playerAt_23 : decode cX5_playerAt 23 = .ok (.astore_n 2, 1) := by decide +kernel
theorem dX5_playerAt_24 : decode cX5_playerAt 24 = .ok (.aload_n 2, 1) := by decide +kernel
theorem dX5_playerAt_25 : decode cX5_playerAt 25 = .ok (.ifnonnull 14, 3) := by decide +kernel
theorem dX5_playerAt_28 : decode cX5_playerAt 28 = .ok (.new 74, 3) := by decide +kernel
theorem dX5_playerAt_31 : decode cX5_playerAt 31 = .ok (.dup, 1) := by decide +kernel
theorem dX5_playerAt_32 : decode cX5_playerAt 32 = .ok (.ldc_w 263, 3) := by decide +kernel
theorem dX5_playerAt_35 : decode cX5_playerAt 35 = .ok (.invokespecial 78, 3) := by decide +kernel
theorem dX5_playerAt_38 : decode cX5_playerAt 38 = .ok (.athrow, 1) := by decide +kernel
theorem dX5_playerAt_39 : decode cX5_playerAt 39 = .ok (.aload_n 2, 1) := by decide +kernel
theorem dX5_playerAt_40 : decode cX5_playerAt 40 = .ok (.areturn, 1) := by decide +kernel
theorem dX5_melodyOf_0 : decode cX5_melodyOf 0 = .ok (.aload_n 0, 1) := by decide +kernel
theorem dX5_melodyOf_1 : decode cX5_melodyOf 1 = .ok (.iload_n 2, 1) := by decide +kernel
theorem dX5_melodyOf_2 : decode cX5_melodyOf 2 = .ok (.invokevirtual 84, 3) := by decide +kernel
theorem dX5_melodyOf_5 : decode cX5_melodyOf 5 = .ok (.astore_n 3, 1) := by decide +kernel
theorem dX5_melodyOf_6 : decode cX5_melodyOf 6 = .ok (.iload_n 1, 1) := by decide +kernel
theorem dX5_melodyOf_7 : decode cX5_melodyOf 7 = .ok (.iconst (-1), 1) := by decide +kernel
theorem dX5_melodyOf_8 : decode cX5_melodyOf 8 = .ok (.if_icmp .ne 10, 3) := by decide +kernel
theorem dX5_melodyOf_11 : decode cX5_melodyOf 11 = .ok (.aload_n 3, 1) := by decide +kernel
theorem dX5_melodyOf_12 : decode cX5_melodyOf 12 = .ok (.getfield 88, 3) := by decide +kernel
theorem dX5_melodyOf_15 : decode cX5_melodyOf 15 = .ok (.goto 12, 3) := by decide +kernel
theorem dX5_melodyOf_18 : decode cX5_melodyOf 18 = .ok (.aload_n 0, 1) := by decide +kernel
theorem dX5_melodyOf_19 : decode cX5_melodyOf 19 = .ok (.iload_n 1, 1) := by decide +kernel
theorem dX5_melodyOf_20 : decode cX5_melodyOf 20 = .ok (.invokevirtual 219, 3) := by decide +kernel
theorem dX5_melodyOf_23 : decode cX5_melodyOf 23 = .ok (.iload_n 2, 1) := by decide +kernel
theorem dX5_melodyOf_24 : decode cX5_melodyOf 24 = .ok (.invokevirtual 238, 3) := by decide +kernel
theorem dX5_melodyOf_27 : decode cX5_melodyOf 27 = .ok (.areturn, 1) := by decide +kernel
theorem dX5_knowersOf_0 : decode cX5_knowersOf 0 = .ok (.iconst 0, 1) := by decide +kernel
theorem dX5_knowersOf_1 : decode cX5_knowersOf 1 = .ok (.istore_n 2, 1) := by decide +kernel
theorem dX5_knowersOf_2 : decode cX5_knowersOf 2 = .ok (.iconst 0, 1) := by decide +kernel
theorem dX5_knowersOf_3 : decode cX5_knowersOf 3 = .ok (.istore_n 3, 1) := by decide +kernel
theorem dX5_knowersOf_4 : decode cX5_knowersOf 4 = .ok (.iload_n 3, 1) := by decide +kernel
theorem dX5_knowersOf_5 : decode cX5_knowersOf 5 = .ok (.aload_n 0, 1) := by decide +kernel
theorem dX5_knowersOf_6 : decode cX5_knowersOf 6 = .ok (.getfield 54, 3) := by decide +kernel
theorem dX5_knowersOf_9 : decode cX5_knowersOf 9 = .ok (.if_icmp .ge 24, 3) := by decide +kernel
theorem dX5_knowersOf_12 : decode cX5_knowersOf 12 = .ok (.aload_n 0, 1) := by decide +kernel
theorem dX5_knowersOf_13 : decode cX5_knowersOf 13 = .ok (.iload_n 3, 1) := by decide +kernel
theorem dX5_knowersOf_14 : decode cX5_knowersOf 14 = .ok (.invokevirtual 219, 3) := by decide +kernel
theorem dX5_knowersOf_17 : decode cX5_knowersOf 17 = .ok (.iload_n 1, 1) := by decide +kernel
theorem dX5_knowersOf_18 : decode cX5_knowersOf 18 = .ok (.invokevirtual 238, 3) := by decide +kernel
theorem dX5_knowersOf_21 : decode cX5_knowersOf 21 = .ok (.ifnull 6, 3) := by decide +kernel
theorem dX5_knowersOf_24 : decode cX5_knowersOf 24 = .ok (.iinc 2 1, 3) := by decide +kernel
theorem dX5_knowersOf_27 : decode cX5_knowersOf 27 = .ok (.iinc 3 1, 3) := by decide +kernel
theorem dX5_knowersOf_30 : decode cX5_knowersOf 30 = .ok (.goto (-26), 3) := by decide +kernel
theorem dX5_knowersOf_33 : decode cX5_knowersOf 33 = .ok (.iload_n 2, 1) := by decide +kernel
theorem dX5_knowersOf_34 : decode cX5_knowersOf 34 = .ok (.ireturn, 1) := by decide +kernel
theorem dX5_refuseNoPlace_0 : decode cX5_refuseNoPlace 0 = .ok (.aload_n 0, 1) := by decide +kernel
theorem dX5_refuseNoPlace_1 : decode cX5_refuseNoPlace 1 = .ok (.iload_n 1, 1) := by decide +kernel
theorem dX5_refuseNoPlace_2 : decode cX5_refuseNoPlace 2 = .ok (.invokevirtual 265, 3) := by decide +kernel
theorem dX5_refuseNoPlace_5 : decode cX5_refuseNoPlace 5 = .ok (.ifCond .ne 13, 3) := by decide +kernel
theorem dX5_refuseNoPlace_8 : decode cX5_refuseNoPlace 8 = .ok (.new 74, 3) := by decide +kernel
theorem dX5_refuseNoPlace_11 : decode cX5_refuseNoPlace 11 = .ok (.dup, 1) := by decide +kernel
theorem dX5_refuseNoPlace_12 : decode cX5_refuseNoPlace 12 = .ok (.ldc 76, 2) := by decide +kernel
theorem dX5_refuseNoPlace_14 : decode cX5_refuseNoPlace 14 = .ok (.invokespecial 78, 3) := by decide +kernel
theorem dX5_refuseNoPlace_17 : decode cX5_refuseNoPlace 17 = .ok (.athrow, 1) := by decide +kernel
theorem dX5_refuseNoPlace_18 : decode cX5_refuseNoPlace 18 = .ok (.return_, 1) := by decide +kernel
theorem dX5_refuseNoPart_0 : decode cX5_refuseNoPart 0 = .ok (.iload_n 0, 1) := by decide +kernel
theorem dX5_refuseNoPart_1 : decode cX5_refuseNoPart 1 = .ok (.ifCond .lt 8, 3) := by decide +kernel
theorem dX5_refuseNoPart_4 : decode cX5_refuseNoPart 4 = .ok (.iload_n 0, 1) := by decide +kernel
theorem dX5_refuseNoPart_5 : decode cX5_refuseNoPart 5 = .ok (.iconst 3, 1) := by decide +kernel
theorem dX5_refuseNoPart_6 : decode cX5_refuseNoPart 6 = .ok (.if_icmp .le 14, 3) := by decide +kernel
theorem dX5_refuseNoPart_9 : decode cX5_refuseNoPart 9 = .ok (.new 74, 3) := by decide +kernel
theorem dX5_refuseNoPart_12 : decode cX5_refuseNoPart 12 = .ok (.dup, 1) := by decide +kernel
theorem dX5_refuseNoPart_13 : decode cX5_refuseNoPart 13 = .ok (.ldc_w 269, 3) := by decide +kernel
theorem dX5_refuseNoPart_16 : decode cX5_refuseNoPart 16 = .ok (.invokespecial 78, 3) := by decide +kernel
theorem dX5_refuseNoPart_19 : decode cX5_refuseNoPart 19 = .ok (.athrow, 1) := by decide +kernel
theorem dX5_refuseNoPart_20 : decode cX5_refuseNoPart 20 = .ok (.return_, 1) := by decide +kernel
theorem dX5_refuseNoTone_0 : decode cX5_refuseNoTone 0 = .ok (.iload_n 0, 1) := by decide +kernel
theorem dX5_refuseNoTone_1 : decode cX5_refuseNoTone 1 = .ok (.iconst 1, 1) := by decide +kernel
theorem dX5_refuseNoTone_2 : decode cX5_refuseNoTone 2 = .ok (.if_icmp .lt 9, 3) := by decide +kernel
theorem dX5_refuseNoTone_5 : decode cX5_refuseNoTone 5 = .ok (.iload_n 0, 1) := by decide +kernel
theorem dX5_refuseNoTone_6 : decode cX5_refuseNoTone 6 = .ok (.bipush 7, 2) := by decide +kernel
theorem dX5_refuseNoTone_8 : decode cX5_refuseNoTone 8 = .ok (.if_icmp .le 14, 3) := by decide +kernel
theorem dX5_refuseNoTone_11 : decode cX5_refuseNoTone 11 = .ok (.new 74, 3) := by decide +kernel
theorem dX5_refuseNoTone_14 : decode cX5_refuseNoTone 14 = .ok (.dup, 1) := by decide +kernel
theorem dX5_refuseNoTone_15 : decode cX5_refuseNoTone 15 = .ok (.ldc_w 271, 3) := by decide +kernel
theorem dX5_refuseNoTone_18 : decode cX5_refuseNoTone 18 = .ok (.invokespecial 78, 3) := by decide +kernel
theorem dX5_refuseNoTone_21 : decode cX5_refuseNoTone 21 = .ok (.athrow, 1) := by decide +kernel
theorem dX5_refuseNoTone_22 : decode cX5_refuseNoTone 22 = .ok (.return_, 1) := by decide +kernel
theorem dX5_refuseNoToneOrRest_0 : decode cX5_refuseNoToneOrRest 0 = .ok (.iload_n 0, 1) := by decide +kernel
theorem dX5_refuseNoToneOrRest_1 : decode cX5_refuseNoToneOrRest 1 = .ok (.ifCond .lt 9, 3) := by decide +kernel
theorem dX5_refuseNoToneOrRest_4 : decode cX5_refuseNoToneOrRest 4 = .ok (.iload_n 0, 1) := by decide +kernel
theorem dX5_refuseNoToneOrRest_5 : decode cX5_refuseNoToneOrRest 5 = .ok (.bipush 7, 2) := by decide +kernel
theorem dX5_refuseNoToneOrRest_7 : decode cX5_refuseNoToneOrRest 7 = .ok (.if_icmp .le 14, 3) := by decide +kernel
theorem dX5_refuseNoToneOrRest_10 : decode cX5_refuseNoToneOrRest 10 = .ok (.new 58, 3) := by decide +kernel
theorem dX5_refuseNoToneOrRest_13 : decode cX5_refuseNoToneOrRest 13 = .ok (.dup, 1) := by decide +kernel
theorem dX5_refuseNoToneOrRest_14 : decode cX5_refuseNoToneOrRest 14 = .ok (.ldc_w 273, 3) := by decide +kernel
theorem dX5_refuseNoToneOrRest_17 : decode cX5_refuseNoToneOrRest 17 = .ok (.invokespecial 62, 3) := by decide +kernel
theorem dX5_refuseNoToneOrRest_20 : decode cX5_refuseNoToneOrRest 20 = .ok (.athrow, 1) := by decide +kernel
theorem dX5_refuseNoToneOrRest_21 : decode cX5_refuseNoToneOrRest 21 = .ok (.return_, 1) := by decide +kernel
theorem dX5_refuseNoStroke_0 : decode cX5_refuseNoStroke 0 = .ok (.iload_n 1, 1) := by decide +kernel
theorem dX5_refuseNoStroke_1 : decode cX5_refuseNoStroke 1 = .ok (.invokestatic 167, 3) := by decide +kernel
theorem dX5_refuseNoStroke_4 : decode cX5_refuseNoStroke 4 = .ok (.aload_n 0, 1) := by decide +kernel
theorem dX5_refuseNoStroke_5 : decode cX5_refuseNoStroke 5 = .ok (.iload_n 2, 1) := by decide +kernel
theorem dX5_refuseNoStroke_6 : decode cX5_refuseNoStroke 6 = .ok (.invokestatic 92, 3) := by decide +kernel
theorem dX5_refuseNoStroke_9 : decode cX5_refuseNoStroke 9 = .ok (.iload_n 3, 1) := by decide +kernel
theorem dX5_refuseNoStroke_10 : decode cX5_refuseNoStroke 10 = .ok (.ifCond .lt 8, 3) := by decide +kernel
theorem dX5_refuseNoStroke_13 : decode cX5_refuseNoStroke 13 = .ok (.iload_n 3, 1) := by decide +kernel
theorem dX5_refuseNoStroke_14 : decode cX5_refuseNoStroke 14 = .ok (.iconst 3, 1) := by decide +kernel
theorem dX5_refuseNoStroke_15 : decode cX5_refuseNoStroke 15 = .ok (.if_icmp .le 14, 3) := by decide +kernel
theorem dX5_refuseNoStroke_18 : decode cX5_refuseNoStroke 18 = .ok (.new 58, 3) := by decide +kernel
theorem dX5_refuseNoStroke_21 : decode cX5_refuseNoStroke 21 = .ok (.dup, 1) := by decide +kernel
theorem dX5_refuseNoStroke_22 : decode cX5_refuseNoStroke 22 = .ok (.ldc_w 275, 3) := by decide +kernel
theorem dX5_refuseNoStroke_25 : decode cX5_refuseNoStroke 25 = .ok (.invokespecial 62, 3) := by decide +kernel
theorem dX5_refuseNoStroke_28 : decode cX5_refuseNoStroke 28 = .ok (.athrow, 1) := by decide +kernel
theorem dX5_refuseNoStroke_29 : decode cX5_refuseNoStroke 29 = .ok (.iload 4, 2) := by decide +kernel
theorem dX5_refuseNoStroke_31 : decode cX5_refuseNoStroke 31 = .ok (.ifCond .lt 13, 3) := by decide +kernel
theorem dX5_refuseNoStroke_34 : decode cX5_refuseNoStroke 34 = .ok (.iload 4, 2) := by decide +kernel
theorem dX5_refuseNoStroke_36 : decode cX5_refuseNoStroke 36 = .ok (.iload_n 1, 1) := by decide +kernel
theorem dX5_refuseNoStroke_37 : decode cX5_refuseNoStroke 37 = .ok (.iload_n 3, 1) := by decide +kernel
theorem dX5_refuseNoStroke_38 : decode cX5_refuseNoStroke 38 = .ok (.invokestatic 277, 3) := by decide +kernel
theorem dX5_refuseNoStroke_41 : decode cX5_refuseNoStroke 41 = .ok (.if_icmp .lt 14, 3) := by decide +kernel
theorem dX5_refuseNoStroke_44 : decode cX5_refuseNoStroke 44 = .ok (.new 58, 3) := by decide +kernel
theorem dX5_refuseNoStroke_47 : decode cX5_refuseNoStroke 47 = .ok (.dup, 1) := by decide +kernel
theorem dX5_refuseNoStroke_48 : decode cX5_refuseNoStroke 48 = .ok (.ldc_w 280, 3) := by decide +kernel
theorem dX5_refuseNoStroke_51 : decode cX5_refuseNoStroke 51 = .ok (.invokespecial 62, 3) := by decide +kernel
theorem dX5_refuseNoStroke_54 : decode cX5_refuseNoStroke 54 = .ok (.athrow, 1) := by decide +kernel
theorem dX5_refuseNoStroke_55 : decode cX5_refuseNoStroke 55 = .ok (.return_, 1) := by decide +kernel
theorem dX5_refuseSilence_0 : decode cX5_refuseSilence 0 = .ok (.aload_n 0, 1) := by decide +kernel
theorem dX5_refuseSilence_1 : decode cX5_refuseSilence 1 = .ok (.getfield 29, 3) := by decide +kernel
theorem dX5_refuseSilence_4 : decode cX5_refuseSilence 4 = .ok (.getfield 117, 3) := by decide +kernel
theorem dX5_refuseSilence_7 : decode cX5_refuseSilence 7 = .ok (.ifCond .ne 14, 3) := by decide +kernel
theorem dX5_refuseSilence_10 : decode cX5_refuseSilence 10 = .ok (.new 65, 3) := by decide +kernel
theorem dX5_refuseSilence_13 : decode cX5_refuseSilence 13 = .ok (.dup, 1) := by decide +kernel
theorem dX5_refuseSilence_14 : decode cX5_refuseSilence 14 = .ok (.ldc_w 282, 3) := by decide +kernel
theorem dX5_refuseSilence_17 : decode cX5_refuseSilence 17 = .ok (.invokespecial 69, 3) := by decide +kernel
theorem dX5_refuseSilence_20 : decode cX5_refuseSilence 20 = .ok (.athrow, 1) := by decide +kernel
theorem dX5_refuseSilence_21 : decode cX5_refuseSilence 21 = .ok (.return_, 1) := by decide +kernel
theorem dX5_toneOfStroke_0 : decode cX5_toneOfStroke 0 = .ok (.aload_n 0, 1) := by decide +kernel
theorem dX5_toneOfStroke_1 : decode cX5_toneOfStroke 1 = .ok (.iload_n 1, 1) := by decide +kernel
theorem dX5_toneOfStroke_2 : decode cX5_toneOfStroke 2 = .ok (.invokevirtual 84, 3) := by decide +kernel
theorem dX5_toneOfStroke_5 : decode cX5_toneOfStroke 5 = .ok (.getfield 88, 3) := by decide +kernel
theorem dX5_toneOfStroke_8 : decode cX5_toneOfStroke 8 = .ok (.astore 7, 2) := by decide +kernel
theorem dX5_toneOfStroke_10 : decode cX5_toneOfStroke 10 = .ok (.aload 7, 2) := by decide +kernel
theorem dX5_toneOfStroke_12 : decode cX5_toneOfStroke 12 = .ok (.iload_n 2, 1) := by decide +kernel
theorem dX5_toneOfStroke_13 : decode cX5_toneOfStroke 13 = .ok (.iload_n 3, 1) := by decide +kernel
theorem dX5_toneOfStroke_14 : decode cX5_toneOfStroke 14 = .ok (.iload 4, 2) := by decide +kernel
theorem dX5_toneOfStroke_16 : decode cX5_toneOfStroke 16 = .ok (.iload 5, 2) := by decide +kernel
theorem dX5_toneOfStroke_18 : decode cX5_toneOfStroke 18 = .ok (.invokestatic 284, 3) := by decide +kernel
theorem dX5_toneOfStroke_21 : decode cX5_toneOfStroke 21 = .ok (.iload_n 2, 1) := by decide +kernel
theorem dX5_toneOfStroke_22 : decode cX5_toneOfStroke 22 = .ok (.iload 4, 2) := by decide +kernel
theorem dX5_toneOfStroke_24 : decode cX5_toneOfStroke 24 = .ok (.invokestatic 277, 3) := by decide +kernel
theorem dX5_toneOfStroke_27 : decode cX5_toneOfStroke 27 = .ok (.istore 8, 2) := by decide +kernel
theorem dX5_toneOfStroke_29 : decode cX5_toneOfStroke 29 = .ok (.iload_n 3, 1) := by decide +kernel
theorem dX5_toneOfStroke_30 : decode cX5_toneOfStroke 30 = .ok (.iconst 2, 1) := by decide +kernel
theorem dX5_toneOfStroke_31 : decode cX5_toneOfStroke 31 = .ok (.irem, 1) := by decide +kernel
theorem dX5_toneOfStroke_32 : decode cX5_toneOfStroke 32 = .ok (.ifCond .ne 9, 3) := by decide +kernel
theorem dX5_toneOfStroke_35 : decode cX5_toneOfStroke 35 = .ok (.iload_n 3, 1) := by decide +kernel
theorem dX5_toneOfStroke_36 : decode cX5_toneOfStroke 36 = .ok (.iconst 1, 1) := by decide +kernel
theorem dX5_toneOfStroke_37 : decode cX5_toneOfStroke 37 = .ok (.isub, 1) := by decide +kernel
theorem dX5_toneOfStroke_38 : decode cX5_toneOfStroke 38 = .ok (.goto 4, 3) := by decide +kernel
theorem dX5_toneOfStroke_41 : decode cX5_toneOfStroke 41 = .ok (.iload_n 3, 1) := by decide +kernel
theorem dX5_toneOfStroke_42 : decode cX5_toneOfStroke 42 = .ok (.istore 9, 2) := by decide +kernel
theorem dX5_toneOfStroke_44 : decode cX5_toneOfStroke 44 = .ok (.aload 7, 2) := by decide +kernel
theorem dX5_toneOfStroke_46 : decode cX5_toneOfStroke 46 = .ok (.iload 9, 2) := by decide +kernel
theorem dX5_toneOfStroke_48 : decode cX5_toneOfStroke 48 = .ok (.invokevirtual 110, 3) := by decide +kernel
theorem dX5_toneOfStroke_51 : decode cX5_toneOfStroke 51 = .ok (.istore 10, 2) := by decide +kernel
theorem dX5_toneOfStroke_53 : decode cX5_toneOfStroke 53 = .ok (.aload 7, 2) := by decide +kernel
theorem dX5_toneOfStroke_55 : decode cX5_toneOfStroke 55 = .ok (.iload 9, 2) := by decide +kernel
theorem dX5_toneOfStroke_57 : decode cX5_toneOfStroke 57 = .ok (.iconst 1, 1) := by decide +kernel
theorem dX5_toneOfStroke_58 : decode cX5_toneOfStroke 58 = .ok (.iadd, 1) := by decide +kernel
theorem dX5_toneOfStroke_59 : decode cX5_toneOfStroke 59 = .ok (.invokevirtual 110, 3) := by decide +kernel
theorem dX5_toneOfStroke_62 : decode cX5_toneOfStroke 62 = .ok (.istore 11, 2) := by decide +kernel
theorem dX5_toneOfStroke_64 : decode cX5_toneOfStroke 64 = .ok (.iload_n 3, 1) := by decide +kernel
theorem dX5_toneOfStroke_65 : decode cX5_toneOfStroke 65 = .ok (.iload 9, 2) := by decide +kernel
theorem dX5_toneOfStroke_67 : decode cX5_toneOfStroke 67 = .ok (.if_icmp .ne 8, 3) := by decide +kernel
theorem dX5_toneOfStroke_70 : decode cX5_toneOfStroke 70 = .ok (.iload 5, 2) := by decide +kernel
theorem dX5_toneOfStroke_72 : decode cX5_toneOfStroke 72 = .ok (.goto 8, 3) := by decide +kernel
theorem dX5_toneOfStroke_75 : decode cX5_toneOfStroke 75 = .ok (.iload 8, 2) := by decide +kernel
theorem dX5_toneOfStroke_77 : decode cX5_toneOfStroke 77 = .ok (.iload 5, 2) := by decide +kernel
theorem dX5_toneOfStroke_79 : decode cX5_toneOfStroke 79 = .ok (.iadd, 1) := by decide +kernel
theorem dX5_toneOfStroke_80 : decode cX5_toneOfStroke 80 = .ok (.istore 12, 2) := by decide +kernel
theorem dX5_toneOfStroke_82 : decode cX5_toneOfStroke 82 = .ok (.iload 6, 2) := by decide +kernel
theorem dX5_toneOfStroke_84 : decode cX5_toneOfStroke 84 = .ok (.ifCond .eq 18, 3) := by decide +kernel
theorem dX5_toneOfStroke_87 : decode cX5_toneOfStroke 87 = .ok (.iload_n 2, 1) := by decide +kernel
theorem dX5_toneOfStroke_88 : decode cX5_toneOfStroke 88 = .ok (.iload 8, 2) := by decide +kernel
theorem dX5_toneOfStroke_90 : decode cX5_toneOfStroke 90 = .ok (.iload 12, 2) := by decide +kernel
theorem dX5_toneOfStroke_92 : decode cX5_toneOfStroke 92 = .ok (.iload 10, 2) := by decide +kernel
theorem dX5_toneOfStroke_94 : decode cX5_toneOfStroke 94 = .ok (.iload 11, 2) := by decide +kernel
theorem dX5_toneOfStroke_96 : decode cX5_toneOfStroke 96 = .ok (.invokestatic 288, 3) := by decide +kernel
theorem dX5_toneOfStroke_99 : decode cX5_toneOfStroke 99 = .ok (.goto 15, 3) := by decide +kernel
theorem dX5_toneOfStroke_102 : decode cX5_toneOfStroke 102 = .ok (.iload_n 2, 1) := by decide +kernel
theorem dX5_toneOfStroke_103 : decode cX5_toneOfStroke 103 = .ok (.iload 8, 2) := by decide +kernel
theorem dX5_toneOfStroke_105 : decode cX5_toneOfStroke 105 = .ok (.iload 12, 2) := by decide +kernel
theorem dX5_toneOfStroke_107 : decode cX5_toneOfStroke 107 = .ok (.iload 10, 2) := by decide +kernel
theorem dX5_toneOfStroke_109 : decode cX5_toneOfStroke 109 = .ok (.iload 11, 2) := by decide +kernel
theorem dX5_toneOfStroke_111 : decode cX5_toneOfStroke 111 = .ok (.invokestatic 292, 3) := by decide +kernel
theorem dX5_toneOfStroke_114 : decode cX5_toneOfStroke 114 = .ok (.ireturn, 1) := by decide +kernel
theorem dX5_densityOf_0 : decode cX5_densityOf 0 = .ok (.iload_n 0, 1) := by decide +kernel
theorem dX5_densityOf_1 : decode cX5_densityOf 1 = .ok (.tableswitch 35 1 3 #[27, 31, 27], 27) := by decide +kernel
theorem dX5_densityOf_28 : decode cX5_densityOf 28 = .ok (.iconst 2, 1) := by decide +kernel
theorem dX5_densityOf_29 : decode cX5_densityOf 29 = .ok (.iload_n 1, 1) := by decide +kernel
theorem dX5_densityOf_30 : decode cX5_densityOf 30 = .ok (.ishl, 1) := by decide +kernel
theorem dX5_densityOf_31 : decode cX5_densityOf 31 = .ok (.ireturn, 1) := by decide +kernel
theorem dX5_densityOf_32 : decode cX5_densityOf 32 = .ok (.iconst 1, 1) := by decide +kernel
theorem dX5_densityOf_33 : decode cX5_densityOf 33 = .ok (.iload_n 1, 1) := by decide +kernel
theorem dX5_densityOf_34 : decode cX5_densityOf 34 = .ok (.ishl, 1) := by decide +kernel
theorem dX5_densityOf_35 : decode cX5_densityOf 35 = .ok (.ireturn, 1) := by decide +kernel
theorem dX5_densityOf_36 : decode cX5_densityOf 36 = .ok (.iconst 1, 1) := by decide +kernel
theorem dX5_densityOf_37 : decode cX5_densityOf 37 = .ok (.ireturn, 1) := by decide +kernel
theorem dX5_strokeAt_0 : decode cX5_strokeAt 0 = .ok (.iload_n 0, 1) := by decide +kernel
theorem dX5_strokeAt_1 : decode cX5_strokeAt 1 = .ok (.lookupswitch 69 #[(1, 27), (3, 41)], 27) := by decide +kernel
theorem dX5_strokeAt_28 : decode cX5_strokeAt 28 = .ok (.iload_n 2, 1) := by decide +kernel
theorem dX5_strokeAt_29 : decode cX5_strokeAt 29 = .ok (.iconst 4, 1) := by decide +kernel
theorem dX5_strokeAt_30 : decode cX5_strokeAt 30 = .ok (.irem, 1) := by decide +kernel
theorem dX5_strokeAt_31 : decode cX5_strokeAt 31 = .ok (.iconst 2, 1) := by decide +kernel
theorem dX5_strokeAt_32 : decode cX5_strokeAt 32 = .ok (.if_icmp .ge 7, 3) := by decide +kernel
theorem dX5_strokeAt_35 : decode cX5_strokeAt 35 = .ok (.iload_n 3, 1) := by decide +kernel
theorem dX5_strokeAt_36 : decode cX5_strokeAt 36 = .ok (.goto 5, 3) := by decide +kernel
theorem dX5_strokeAt_39 : decode cX5_strokeAt 39 = .ok (.iload 4, 2) := by decide +kernel
theorem dX5_strokeAt_41 : decode cX5_strokeAt 41 = .ok (.ireturn, 1) := by decide +kernel
theorem dX5_strokeAt_42 : decode cX5_strokeAt 42 = .ok (.iload_n 3, 1) := by decide +kernel
theorem dX5_strokeAt_43 : decode cX5_strokeAt 43 = .ok (.ifCond .eq 8, 3) := by decide +kernel
theorem dX5_strokeAt_46 : decode cX5_strokeAt 46 = .ok (.iload 4, 2) := by decide +kernel
theorem dX5_strokeAt_48 : decode cX5_strokeAt 48 = .ok (.ifCond .ne 13, 3) := by decide +kernel
theorem dX5_strokeAt_51 : decode cX5_strokeAt 51 = .ok (.iload_n 2, 1) := by decide +kernel
theorem dX5_strokeAt_52 : decode cX5_strokeAt 52 = .ok (.iload_n 3, 1) := by decide +kernel
theorem dX5_strokeAt_53 : decode cX5_strokeAt 53 = .ok (.iload 4, 2) := by decide +kernel
theorem dX5_strokeAt_55 : decode cX5_strokeAt 55 = .ok (.invokestatic 295, 3) := by decide +kernel
theorem dX5_strokeAt_58 : decode cX5_strokeAt 58 = .ok (.goto 11, 3) := by decide +kernel
theorem dX5_strokeAt_61 : decode cX5_strokeAt 61 = .ok (.iload_n 1, 1) := by decide +kernel
theorem dX5_strokeAt_62 : decode cX5_strokeAt 62 = .ok (.iload_n 2, 1) := by decide +kernel
theorem dX5_strokeAt_63 : decode cX5_strokeAt 63 = .ok (.iload_n 3, 1) := by decide +kernel
theorem dX5_strokeAt_64 : decode cX5_strokeAt 64 = .ok (.iload 4, 2) := by decide +kernel
theorem dX5_strokeAt_66 : decode cX5_strokeAt 66 = .ok (.invokestatic 299, 3) := by decide +kernel
theorem dX5_strokeAt_69 : decode cX5_strokeAt 69 = .ok (.ireturn, 1) := by decide +kernel
theorem dX5_strokeAt_70 : decode cX5_strokeAt 70 = .ok (.iload_n 2, 1) := by decide +kernel
theorem dX5_strokeAt_71 : decode cX5_strokeAt 71 = .ok (.iload_n 3, 1) := by decide +kernel
theorem dX5_strokeAt_72 : decode cX5_strokeAt 72 = .ok (.iload 4, 2) := by decide +kernel
theorem dX5_strokeAt_74 : decode cX5_strokeAt 74 = .ok (.invokestatic 295, 3) := by decide +kernel
theorem dX5_strokeAt_77 : decode cX5_strokeAt 77 = .ok (.ireturn, 1) := by decide +kernel
theorem dX5_turnAt_0 : decode cX5_turnAt 0 = .ok (.iload_n 0, 1) := by decide +kernel
theorem dX5_turnAt_1 : decode cX5_turnAt 1 = .ok (.iconst 2, 1) := by decide +kernel
theorem dX5_turnAt_2 : decode cX5_turnAt 2 = .ok (.irem, 1) := by decide +kernel
theorem dX5_turnAt_3 : decode cX5_turnAt 3 = .ok (.ifCond .ne 7, 3) := by decide +kernel
theorem dX5_turnAt_6 : decode cX5_turnAt 6 = .ok (.iload_n 1, 1) := by decide +kernel
theorem dX5_turnAt_7 : decode cX5_turnAt 7 = .ok (.goto 4, 3) := by decide +kernel
theorem dX5_turnAt_10 : decode cX5_turnAt 10 = .ok (.iload_n 2, 1) := by decide +kernel
theorem dX5_turnAt_11 : decode cX5_turnAt 11 = .ok (.ireturn, 1) := by decide +kernel
theorem dX5_walkAt_0 : decode cX5_walkAt 0 = .ok (.iload_n 1, 1) := by decide +kernel
theorem dX5_walkAt_1 : decode cX5_walkAt 1 = .ok (.iload_n 3, 1) := by decide +kernel
theorem dX5_walkAt_2 : decode cX5_walkAt 2 = .ok (.iload_n 2, 1) := by decide +kernel
theorem dX5_walkAt_3 : decode cX5_walkAt 3 = .ok (.isub, 1) := by decide +kernel
theorem dX5_walkAt_4 : decode cX5_walkAt 4 = .ok (.invokestatic 209, 3) := by decide +kernel
theorem dX5_walkAt_7 : decode cX5_walkAt 7 = .ok (.if_icmp .lt 7, 3) := by decide +kernel
theorem dX5_walkAt_10 : decode cX5_walkAt 10 = .ok (.iconst 1, 1) := by decide +kernel
theorem dX5_walkAt_11 : decode cX5_walkAt 11 = .ok (.goto 4, 3) := by decide +kernel
theorem dX5_walkAt_14 : decode cX5_walkAt 14 = .ok (.iconst 0, 1) := by decide +kernel
theorem dX5_walkAt_15 : decode cX5_walkAt 15 = .ok (.istore 4, 2) := by decide +kernel
theorem dX5_walkAt_17 : decode cX5_walkAt 17 = .ok (.iload_n 1, 1) := by decide +kernel
theorem dX5_walkAt_18 : decode cX5_walkAt 18 = .ok (.iconst 2, 1) := by decide +kernel
theorem dX5_walkAt_19 : decode cX5_walkAt 19 = .ok (.iload_n 0, 1) := by decide +kernel
theorem dX5_walkAt_20 : decode cX5_walkAt 20 = .ok (.imul, 1) := by decide +kernel
theorem dX5_walkAt_21 : decode cX5_walkAt 21 = .ok (.iconst 1, 1) := by decide +kernel
theorem dX5_walkAt_22 : decode cX5_walkAt 22 = .ok (.isub, 1) := by decide +kernel
theorem dX5_walkAt_23 : decode cX5_walkAt 23 = .ok (.if_icmp .ne 7, 3) := by decide +kernel
theorem dX5_walkAt_26 : decode cX5_walkAt 26 = .ok (.iconst 1, 1) := by decide +kernel
theorem dX5_walkAt_27 : decode cX5_walkAt 27 = .ok (.goto 4, 3) := by decide +kernel
theorem dX5_walkAt_30 : decode cX5_walkAt 30 = .ok (.iconst 0, 1) := by decide +kernel
theorem dX5_walkAt_31 : decode cX5_walkAt 31 = .ok (.istore 5, 2) := by decide +kernel
theorem dX5_walkAt_33 : decode cX5_walkAt 33 = .ok (.iload 4, 2) := by decide +kernel
theorem dX5_walkAt_35 : decode cX5_walkAt 35 = .ok (.ifCond .ne 8, 3) := by decide +kernel
theorem dX5_walkAt_38 : decode cX5_walkAt 38 = .ok (.iload 5, 2) := by decide +kernel
theorem dX5_walkAt_40 : decode cX5_walkAt 40 = .ok (.ifCond .eq 5, 3) := by decide +kernel
theorem dX5_walkAt_43 : decode cX5_walkAt 43 = .ok (.iload_n 3, 1) := by decide +kernel
theorem dX5_walkAt_44 : decode cX5_walkAt 44 = .ok (.ireturn, 1) := by decide +kernel
theorem dX5_walkAt_45 : decode cX5_walkAt 45 = .ok (.iload_n 2, 1) := by decide +kernel
theorem dX5_walkAt_46 : decode cX5_walkAt 46 = .ok (.iload_n 3, 1) := by decide +kernel
theorem dX5_walkAt_47 : decode cX5_walkAt 47 = .ok (.if_icmp .ge 9, 3) := by decide +kernel
theorem dX5_walkAt_50 : decode cX5_walkAt 50 = .ok (.iload_n 2, 1) := by decide +kernel
theorem dX5_walkAt_51 : decode cX5_walkAt 51 = .ok (.iload_n 1, 1) := by decide +kernel
theorem dX5_walkAt_52 : decode cX5_walkAt 52 = .ok (.iadd, 1) := by decide +kernel
theorem dX5_walkAt_53 : decode cX5_walkAt 53 = .ok (.goto 6, 3) := by decide +kernel
theorem dX5_walkAt_56 : decode cX5_walkAt 56 = .ok (.iload_n 2, 1) := by decide +kernel
theorem dX5_walkAt_57 : decode cX5_walkAt 57 = .ok (.iload_n 1, 1) := by decide +kernel
theorem dX5_walkAt_58 : decode cX5_walkAt 58 = .ok (.isub, 1) := by decide +kernel
theorem dX5_walkAt_59 : decode cX5_walkAt 59 = .ok (.ireturn, 1) := by decide +kernel
theorem dX5_strokeByStroke_0 : decode cX5_strokeByStroke 0 = .ok (.iload_n 3, 1) := by decide +kernel
theorem dX5_strokeByStroke_1 : decode cX5_strokeByStroke 1 = .ok (.istore 5, 2) := by decide +kernel
theorem dX5_strokeByStroke_3 : decode cX5_strokeByStroke 3 = .ok (.iconst 1, 1) := by decide +kernel
theorem dX5_strokeByStroke_4 : decode cX5_strokeByStroke 4 = .ok (.istore 6, 2) := by decide +kernel
theorem dX5_strokeByStroke_6 : decode cX5_strokeByStroke 6 = .ok (.iload 6, 2) := by decide +kernel
theorem dX5_strokeByStroke_8 : decode cX5_strokeByStroke 8 = .ok (.iload_n 2, 1) := by decide +kernel
theorem dX5_strokeByStroke_9 : decode cX5_strokeByStroke 9 = .ok (.if_icmp .gt 23, 3) := by decide +kernel
theorem dX5_strokeByStroke_12 : decode cX5_strokeByStroke 12 = .ok (.iload 5, 2) := by decide +kernel
theorem dX5_strokeByStroke_14 : decode cX5_strokeByStroke 14 = .ok (.iload_n 0, 1) := by decide +kernel
theorem dX5_strokeByStroke_15 : decode cX5_strokeByStroke 15 = .ok (.iload_n 1, 1) := by decide +kernel
theorem dX5_strokeByStroke_16 : decode cX5_strokeByStroke 16 = .ok (.iload 6, 2) := by decide +kernel
theorem dX5_strokeByStroke_18 : decode cX5_strokeByStroke 18 = .ok (.iload_n 3, 1) := by decide +kernel
theorem dX5_strokeByStroke_19 : decode cX5_strokeByStroke 19 = .ok (.iload 4, 2) := by decide +kernel
theorem dX5_strokeByStroke_21 : decode cX5_strokeByStroke 21 = .ok (.invokestatic 303, 3) := by decide +kernel
theorem dX5_strokeByStroke_24 : decode cX5_strokeByStroke 24 = .ok (.istore 5, 2) := by decide +kernel
theorem dX5_strokeByStroke_26 : decode cX5_strokeByStroke 26 = .ok (.iinc 6 1, 3) := by decide +kernel
theorem dX5_strokeByStroke_29 : decode cX5_strokeByStroke 29 = .ok (.goto (-23), 3) := by decide +kernel
theorem dX5_strokeByStroke_32 : decode cX5_strokeByStroke 32 = .ok (.iload 5, 2) := by decide +kernel
theorem dX5_strokeByStroke_34 : decode cX5_strokeByStroke 34 = .ok (.ireturn, 1) := by decide +kernel
theorem dX5_strokeBehind_0 : decode cX5_strokeBehind 0 = .ok (.iload 4, 2) := by decide +kernel
theorem dX5_strokeBehind_2 : decode cX5_strokeBehind 2 = .ok (.iload 5, 2) := by decide +kernel
theorem dX5_strokeBehind_4 : decode cX5_strokeBehind 4 = .ok (.iadd, 1) := by decide +kernel
theorem dX5_strokeBehind_5 : decode cX5_strokeBehind 5 = .ok (.iload_n 0, 1) := by decide +kernel
theorem dX5_strokeBehind_6 : decode cX5_strokeBehind 6 = .ok (.isub, 1) := by decide +kernel
theorem dX5_strokeBehind_7 : decode cX5_strokeBehind 7 = .ok (.istore 6, 2) := by decide +kernel
theorem dX5_strokeBehind_9 : decode cX5_strokeBehind 9 = .ok (.iload_n 1, 1) := by decide +kernel
theorem dX5_strokeBehind_10 : decode cX5_strokeBehind 10 = .ok (.lookupswitch 63 #[(1, 26), (3, 39)], 26) := by decide +kernel
theorem dX5_strokeBehind_36 : decode cX5_strokeBehind 36 = .ok (.iload_n 3, 1) := by decide +kernel
theorem dX5_strokeBehind_37 : decode cX5_strokeBehind 37 = .ok (.iconst 2, 1) := by decide +kernel
theorem dX5_strokeBehind_38 : decode cX5_strokeBehind 38 = .ok (.irem, 1) := by decide +kernel
theorem dX5_strokeBehind_39 : decode cX5_strokeBehind 39 = .ok (.ifCond .ne 8, 3) := by decide +kernel
theorem dX5_strokeBehind_42 : decode cX5_strokeBehind 42 = .ok (.iload 6, 2) := by decide +kernel
theorem dX5_strokeBehind_44 : decode cX5_strokeBehind 44 = .ok (.goto 4, 3) := by decide +kernel
theorem dX5_strokeBehind_47 : decode cX5_strokeBehind 47 = .ok (.iload_n 0, 1) := by decide +kernel
theorem dX5_strokeBehind_48 : decode cX5_strokeBehind 48 = .ok (.ireturn, 1) := by decide +kernel
theorem dX5_strokeBehind_49 : decode cX5_strokeBehind 49 = .ok (.iload 4, 2) := by decide +kernel
theorem dX5_strokeBehind_51 : decode cX5_strokeBehind 51 = .ok (.ifCond .eq 8, 3) := by decide +kernel
theorem dX5_strokeBehind_54 : decode cX5_strokeBehind 54 = .ok (.iload 5, 2) := by decide +kernel
theorem dX5_strokeBehind_56 : decode cX5_strokeBehind 56 = .ok (.ifCond .ne 8, 3) := by decide +kernel
theorem dX5_strokeBehind_59 : decode cX5_strokeBehind 59 = .ok (.iload 6, 2) := by decide +kernel
theorem dX5_strokeBehind_61 : decode cX5_strokeBehind 61 = .ok (.goto 11, 3) := by decide +kernel
theorem dX5_strokeBehind_64 : decode cX5_strokeBehind 64 = .ok (.iload_n 0, 1) := by decide +kernel
theorem dX5_strokeBehind_65 : decode cX5_strokeBehind 65 = .ok (.iload_n 2, 1) := by decide +kernel
theorem dX5_strokeBehind_66 : decode cX5_strokeBehind 66 = .ok (.iload_n 3, 1) := by decide +kernel
theorem dX5_strokeBehind_67 : decode cX5_strokeBehind 67 = .ok (.iload 5, 2) := by decide +kernel
theorem dX5_strokeBehind_69 : decode cX5_strokeBehind 69 = .ok (.invokestatic 307, 3) := by decide +kernel
theorem dX5_strokeBehind_72 : decode cX5_strokeBehind 72 = .ok (.ireturn, 1) := by decide +kernel
theorem dX5_strokeBehind_73 : decode cX5_strokeBehind 73 = .ok (.iload 6, 2) := by decide +kernel
theorem dX5_strokeBehind_75 : decode cX5_strokeBehind 75 = .ok (.ireturn, 1) := by decide +kernel
theorem dX5_walkBehind_0 : decode cX5_walkBehind 0 = .ok (.iload_n 0, 1) := by decide +kernel
theorem dX5_walkBehind_1 : decode cX5_walkBehind 1 = .ok (.iload_n 3, 1) := by decide +kernel
theorem dX5_walkBehind_2 : decode cX5_walkBehind 2 = .ok (.if_icmp .eq 12, 3) := by decide +kernel
theorem dX5_walkBehind_5 : decode cX5_walkBehind 5 = .ok (.iload_n 2, 1) := by decide +kernel
theorem dX5_walkBehind_6 : decode cX5_walkBehind 6 = .ok (.iconst 2, 1) := by decide +kernel
theorem dX5_walkBehind_7 : decode cX5_walkBehind 7 = .ok (.iload_n 1, 1) := by decide +kernel
theorem dX5_walkBehind_8 : decode cX5_walkBehind 8 = .ok (.imul, 1) := by decide +kernel
theorem dX5_walkBehind_9 : decode cX5_walkBehind 9 = .ok (.iconst 1, 1) := by decide +kernel
theorem dX5_walkBehind_10 : decode cX5_walkBehind 10 = .ok (.isub, 1) := by decide +kernel
theorem dX5_walkBehind_11 : decode cX5_walkBehind 11 = .ok (.if_icmp .ne 5, 3) := by decide +kernel
theorem dX5_walkBehind_14 : decode cX5_walkBehind 14 = .ok (.iload_n 3, 1) := by decide +kernel
theorem dX5_walkBehind_15 : decode cX5_walkBehind 15 = .ok (.ireturn, 1) := by decide +kernel
theorem dX5_walkBehind_16 : decode cX5_walkBehind 16 = .ok (.iload_n 0, 1) := by decide +kernel
theorem dX5_walkBehind_17 : decode cX5_walkBehind 17 = .ok (.iload_n 3, 1) := by decide +kernel
theorem dX5_walkBehind_18 : decode cX5_walkBehind 18 = .ok (.if_icmp .ge 9, 3) := by decide +kernel
theorem dX5_walkBehind_21 : decode cX5_walkBehind 21 = .ok (.iload_n 0, 1) := by decide +kernel
theorem dX5_walkBehind_22 : decode cX5_walkBehind 22 = .ok (.iconst 1, 1) := by decide +kernel
theorem dX5_walkBehind_23 : decode cX5_walkBehind 23 = .ok (.iadd, 1) := by decide +kernel
theorem dX5_walkBehind_24 : decode cX5_walkBehind 24 = .ok (.goto 6, 3) := by decide +kernel
theorem dX5_walkBehind_27 : decode cX5_walkBehind 27 = .ok (.iload_n 0, 1) := by decide +kernel
theorem dX5_walkBehind_28 : decode cX5_walkBehind 28 = .ok (.iconst 1, 1) := by decide +kernel
theorem dX5_walkBehind_29 : decode cX5_walkBehind 29 = .ok (.isub, 1) := by decide +kernel
theorem dX5_walkBehind_30 : decode cX5_walkBehind 30 = .ok (.ireturn, 1) := by decide +kernel
theorem dX5_withOnePlayerMore_0 : decode cX5_withOnePlayerMore 0 = .ok (.iload_n 0, 1) := by decide +kernel
theorem dX5_withOnePlayerMore_1 : decode cX5_withOnePlayerMore 1 = .ok (.istore_n 2, 1) := by decide +kernel
theorem dX5_withOnePlayerMore_2 : decode cX5_withOnePlayerMore 2 = .ok (.iconst 0, 1) := by decide +kernel
theorem dX5_withOnePlayerMore_3 : decode cX5_withOnePlayerMore 3 = .ok (.istore_n 3, 1) := by decide +kernel
theorem dX5_withOnePlayerMore_4 : decode cX5_withOnePlayerMore 4 = .ok (.iload_n 3, 1) := by decide +kernel
theorem dX5_withOnePlayerMore_5 : decode cX5_withOnePlayerMore 5 = .ok (.bipush 15, 2) := by decide +kernel
theorem dX5_withOnePlayerMore_7 : decode cX5_withOnePlayerMore 7 = .ok (.if_icmp .gt 52, 3) := by decide +kernel
theorem dX5_withOnePlayerMore_10 : decode cX5_withOnePlayerMore 10 = .ok (.iload_n 0, 1) := by decide +kernel
theorem dX5_withOnePlayerMore_11 : decode cX5_withOnePlayerMore 11 = .ok (.iload_n 3, 1) := by decide +kernel
theorem dX5_withOnePlayerMore_12 : decode cX5_withOnePlayerMore 12 = .ok (.ishr, 1) := by decide +kernel
theorem dX5_withOnePlayerMore_13 : decode cX5_withOnePlayerMore 13 = .ok (.iconst 1, 1) := by decide +kernel
theorem dX5_withOnePlayerMore_14 : decode cX5_withOnePlayerMore 14 = .ok (.iand, 1) := by decide +kernel
theorem dX5_withOnePlayerMore_15 : decode cX5_withOnePlayerMore 15 = .ok (.ifCond .eq 38, 3) := by decide +kernel
theorem dX5_withOnePlayerMore_18 : decode cX5_withOnePlayerMore 18 = .ok (.iconst 0, 1) := by decide +kernel
theorem dX5_withOnePlayerMore_19 : decode cX5_withOnePlayerMore 19 = .ok (.istore 4, 2) := by decide +kernel
theorem dX5_withOnePlayerMore_21 : decode cX5_withOnePlayerMore 21 = .ok (.iload 4, 2) := by decide +kernel
theorem dX5_withOnePlayerMore_23 : decode cX5_withOnePlayerMore 23 = .ok (.iconst 4, 1) := by decide +kernel
theorem dX5_withOnePlayerMore_24 : decode cX5_withOnePlayerMore 24 = .ok (.if_icmp .ge 29, 3) := by decide +kernel
theorem dX5_withOnePlayerMore_27 : decode cX5_withOnePlayerMore 27 = .ok (.iload_n 1, 1) := by decide +kernel
theorem dX5_withOnePlayerMore_28 : decode cX5_withOnePlayerMore 28 = .ok (.iload 4, 2) := by decide +kernel
theorem dX5_withOnePlayerMore_30 : decode cX5_withOnePlayerMore 30 = .ok (.ishr, 1) := by decide +kernel
theorem dX5_withOnePlayerMore_31 : decode cX5_withOnePlayerMore 31 = .ok (.iconst 1, 1) := by decide +kernel
theorem dX5_withOnePlayerMore_32 : decode cX5_withOnePlayerMore 32 = .ok (.iand, 1) := by decide +kernel
theorem dX5_withOnePlayerMore_33 : decode cX5_withOnePlayerMore 33 = .ok (.ifCond .eq 14, 3) := by decide +kernel
theorem dX5_withOnePlayerMore_36 : decode cX5_withOnePlayerMore 36 = .ok (.iload_n 2, 1) := by decide +kernel
theorem dX5_withOnePlayerMore_37 : decode cX5_withOnePlayerMore 37 = .ok (.iconst 1, 1) := by decide +kernel
theorem dX5_withOnePlayerMore_38 : decode cX5_withOnePlayerMore 38 = .ok (.iload_n 3, 1) := by decide +kernel
theorem dX5_withOnePlayerMore_39 : decode cX5_withOnePlayerMore 39 = .ok (.iconst 1, 1) := by decide +kernel
theorem dX5_withOnePlayerMore_40 : decode cX5_withOnePlayerMore 40 = .ok (.iload 4, 2) := by decide +kernel
theorem dX5_withOnePlayerMore_42 : decode cX5_withOnePlayerMore 42 = .ok (.ishl, 1) := by decide +kernel
theorem dX5_withOnePlayerMore_43 : decode cX5_withOnePlayerMore 43 = .ok (.ior, 1) := by decide +kernel
theorem dX5_withOnePlayerMore_44 : decode cX5_withOnePlayerMore 44 = .ok (.ishl, 1) := by decide +kernel
theorem dX5_withOnePlayerMore_45 : decode cX5_withOnePlayerMore 45 = .ok (.ior, 1) := by decide +kernel
theorem dX5_withOnePlayerMore_46 : decode cX5_withOnePlayerMore 46 = .ok (.istore_n 2, 1) := by decide +kernel
theorem dX5_withOnePlayerMore_47 : decode cX5_withOnePlayerMore 47 = .ok (.iinc 4 1, 3) := by decide +kernel
theorem dX5_withOnePlayerMore_50 : decode cX5_withOnePlayerMore 50 = .ok (.goto (-29), 3) := by decide +kernel
theorem dX5_withOnePlayerMore_53 : decode cX5_withOnePlayerMore 53 = .ok (.iinc 3 1, 3) := by decide +kernel
theorem dX5_withOnePlayerMore_56 : decode cX5_withOnePlayerMore 56 = .ok (.goto (-52), 3) := by decide +kernel
theorem dX5_withOnePlayerMore_59 : decode cX5_withOnePlayerMore 59 = .ok (.iload_n 2, 1) := by decide +kernel
theorem dX5_withOnePlayerMore_60 : decode cX5_withOnePlayerMore 60 = .ok (.ireturn, 1) := by decide +kernel
theorem dX5_mostParts_0 : decode cX5_mostParts 0 = .ok (.iconst 0, 1) := by decide +kernel
theorem dX5_mostParts_1 : decode cX5_mostParts 1 = .ok (.istore_n 1, 1) := by decide +kernel
theorem dX5_mostParts_2 : decode cX5_mostParts 2 = .ok (.iconst 0, 1) := by decide +kernel
theorem dX5_mostParts_3 : decode cX5_mostParts 3 = .ok (.istore_n 2, 1) := by decide +kernel
theorem dX5_mostParts_4 : decode cX5_mostParts 4 = .ok (.iload_n 2, 1) := by decide +kernel
theorem dX5_mostParts_5 : decode cX5_mostParts 5 = .ok (.bipush 15, 2) := by decide +kernel
theorem dX5_mostParts_7 : decode cX5_mostParts 7 = .ok (.if_icmp .gt 26, 3) := by decide +kernel
theorem dX5_mostParts_10 : decode cX5_mostParts 10 = .ok (.iload_n 0, 1) := by decide +kernel
theorem dX5_mostParts_11 : decode cX5_mostParts 11 = .ok (.iload_n 2, 1) := by decide +kernel
theorem dX5_mostParts_12 : decode cX5_mostParts 12 = .ok (.ishr, 1) := by decide +kernel
theorem dX5_mostParts_13 : decode cX5_mostParts 13 = .ok (.iconst 1, 1) := by decide +kernel
theorem dX5_mostParts_14 : decode cX5_mostParts 14 = .ok (.iand, 1) := by decide +kernel
theorem dX5_mostParts_15 : decode cX5_mostParts 15 = .ok (.ifCond .eq 12, 3) := by decide +kernel
theorem dX5_mostParts_18 : decode cX5_mostParts 18 = .ok (.iload_n 1, 1) := by decide +kernel
theorem dX5_mostParts_19 : decode cX5_mostParts 19 = .ok (.iload_n 2, 1) := by decide +kernel
theorem dX5_mostParts_20 : decode cX5_mostParts 20 = .ok (.invokestatic 310, 3) := by decide +kernel
theorem dX5_mostParts_23 : decode cX5_mostParts 23 = .ok (.invokestatic 315, 3) := by decide +kernel
theorem dX5_mostParts_26 : decode cX5_mostParts 26 = .ok (.istore_n 1, 1) := by decide +kernel
theorem dX5_mostParts_27 : decode cX5_mostParts 27 = .ok (.iinc 2 1, 3) := by decide +kernel
theorem dX5_mostParts_30 : decode cX5_mostParts 30 = .ok (.goto (-26), 3) := by decide +kernel
theorem dX5_mostParts_33 : decode cX5_mostParts 33 = .ok (.iload_n 1, 1) := by decide +kernel
theorem dX5_mostParts_34 : decode cX5_mostParts 34 = .ok (.ireturn, 1) := by decide +kernel
