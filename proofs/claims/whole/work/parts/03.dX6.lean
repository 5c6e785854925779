theorem dX6_init_0 : decode cX6_init 0 = .ok (.aload_n 0, 1) := by decide +kernel
theorem dX6_init_1 : decode cX6_init 1 = .ok (.invokespecial 1, 3) := by decide +kernel
theorem dX6_init_4 : decode cX6_init 4 = .ok (.aload_n 0, 1) := by decide +kernel
theorem dX6_init_5 : decode cX6_init 5 = .ok (.iconst 4, 1) := by decide +kernel
theorem dX6_init_6 : decode cX6_init 6 = .ok (.newarray .int, 2) := by decide +kernel
theorem dX6_init_8 : decode cX6_init 8 = .ok (.putfield 7, 3) := by decide +kernel
theorem dX6_init_11 : decode cX6_init 11 = .ok (.aload_n 0, 1) := by decide +kernel
theorem dX6_init_12 : decode cX6_init 12 = .ok (.bipush 6, 2) := by decide +kernel
theorem dX6_init_14 : decode cX6_init 14 = .ok (.newarray .int, 2) := by decide +kernel
theorem dX6_init_16 : decode cX6_init 16 = .ok (.putfield 13, 3) := by decide +kernel
theorem dX6_init_19 : decode cX6_init 19 = .ok (.aload_n 0, 1) := by decide +kernel
theorem dX6_init_20 : decode cX6_init 20 = .ok (.bipush 6, 2) := by decide +kernel
theorem dX6_init_22 : decode cX6_init 22 = .ok (.newarray .int, 2) := by decide +kernel
theorem dX6_init_24 : decode cX6_init 24 = .ok (.putfield 16, 3) := by decide +kernel
theorem dX6_init_27 : decode cX6_init 27 = .ok (.aload_n 0, 1) := by decide +kernel
theorem dX6_init_28 : decode cX6_init 28 = .ok (.sipush 390, 3) := by decide +kernel
theorem dX6_init_31 : decode cX6_init 31 = .ok (.newarray .int, 2) := by decide +kernel
theorem dX6_init_33 : decode cX6_init 33 = .ok (.putfield 19, 3) := by decide +kernel
theorem dX6_init_36 : decode cX6_init 36 = .ok (.aload_n 0, 1) := by decide +kernel
theorem dX6_init_37 : decode cX6_init 37 = .ok (.iconst (-1), 1) := by decide +kernel
theorem dX6_init_38 : decode cX6_init 38 = .ok (.putfield 22, 3) := by decide +kernel
theorem dX6_init_41 : decode cX6_init 41 = .ok (.aload_n 0, 1) := by decide +kernel
theorem dX6_init_42 : decode cX6_init 42 = .ok (.iconst 4, 1) := by decide +kernel
theorem dX6_init_43 : decode cX6_init 43 = .ok (.newarray .long, 2) := by decide +kernel
theorem dX6_init_45 : decode cX6_init 45 = .ok (.putfield 26, 3) := by decide +kernel
theorem dX6_init_48 : decode cX6_init 48 = .ok (.aload_n 0, 1) := by decide +kernel
theorem dX6_init_49 : decode cX6_init 49 = .ok (.bipush 32, 2) := by decide +kernel
theorem dX6_init_51 : decode cX6_init 51 = .ok (.newarray .int, 2) := by decide +kernel
theorem dX6_init_53 : decode cX6_init 53 = .ok (.putfield 30, 3) := by decide +kernel
theorem dX6_init_56 : decode cX6_init 56 = .ok (.aload_n 0, 1) := by decide +kernel
theorem dX6_init_57 : decode cX6_init 57 = .ok (.iconst 4, 1) := by decide +kernel
theorem dX6_init_58 : decode cX6_init 58 = .ok (.newarray .int, 2) := by decide +kernel
theorem dX6_init_60 : decode cX6_init 60 = .ok (.putfield 33, 3) := by decide +kernel
theorem dX6_init_63 : decode cX6_init 63 = .ok (.aload_n 0, 1) := by decide +kernel
theorem dX6_init_64 : decode cX6_init 64 = .ok (.bipush 8, 2) := by decide +kernel
theorem dX6_init_66 : decode cX6_init 66 = .ok (.newarray .int, 2) := by decide +kernel
theorem dX6_init_68 : decode cX6_init 68 = .ok (.putfield 36, 3) := by decide +kernel
theorem dX6_init_71 : decode cX6_init 71 = .ok (.aload_n 0, 1) := by decide +kernel
theorem dX6_init_72 : decode cX6_init 72 = .ok (.bipush 48, 2) := by decide +kernel
theorem dX6_init_74 : decode cX6_init 74 = .ok (.newarray .boolean, 2) := by decide +kernel
theorem dX6_init_76 : decode cX6_init 76 = .ok (.putfield 39, 3) := by decide +kernel
theorem dX6_init_79 : decode cX6_init 79 = .ok (.aload_n 0, 1) := by decide +kernel
theorem dX6_init_80 : decode cX6_init 80 = .ok (.sipush 3120, 3) := by decide +kernel
theorem dX6_init_83 : decode cX6_init 83 = .ok (.newarray .int, 2) := by decide +kernel
theorem dX6_init_85 : decode cX6_init 85 = .ok (.putfield 43, 3) := by decide +kernel
theorem dX6_init_88 : decode cX6_init 88 = .ok (.iconst 0, 1) := by decide +kernel
theorem dX6_init_89 : decode cX6_init 89 = .ok (.istore_n 1, 1) := by decide +kernel
theorem dX6_init_90 : decode cX6_init 90 = .ok (.iload_n 1, 1) := by decide +kernel
theorem dX6_init_91 : decode cX6_init 91 = .ok (.bipush 32, 2) := by decide +kernel
theorem dX6_init_93 : decode cX6_init 93 = .ok (.if_icmp .ge 17, 3) := by decide +kernel
theorem dX6_init_96 : decode cX6_init 96 = .ok (.aload_n 0, 1) := by decide +kernel
theorem dX6_init_97 : decode cX6_init 97 = .ok (.getfield 30, 3) := by decide +kernel
theorem dX6_init_100 : decode cX6_init 100 = .ok (.iload_n 1, 1) := by decide +kernel
theorem dX6_init_101 : decode cX6_init 101 = .ok (.ldc 46, 2) := by decide +kernel
theorem dX6_init_103 : decode cX6_init 103 = .ok (.iastore, 1) := by decide +kernel
theorem dX6_init_104 : decode cX6_init 104 = .ok (.iinc 1 1, 3) := by decide +kernel
theorem dX6_init_107 : decode cX6_init 107 = .ok (.goto (-17), 3) := by decide +kernel
theorem dX6_init_110 : decode cX6_init 110 = .ok (.return_, 1) := by decide +kernel
theorem dX6_thrown_0 : decode cX6_thrown 0 = .ok (.aload_n 0, 1) := by decide +kernel
theorem dX6_thrown_1 : decode cX6_thrown 1 = .ok (.getfield 47, 3) := by decide +kernel
theorem dX6_thrown_4 : decode cX6_thrown 4 = .ok (.ireturn, 1) := by decide +kernel
theorem dX6_in_0 : decode cX6_in 0 = .ok (.iload_n 0, 1) := by decide +kernel
theorem dX6_in_1 : decode cX6_in 1 = .ok (.iload_n 1, 1) := by decide +kernel
theorem dX6_in_2 : decode cX6_in 2 = .ok (.if_icmp .lt 12, 3) := by decide +kernel
theorem dX6_in_5 : decode cX6_in 5 = .ok (.iload_n 0, 1) := by decide +kernel
theorem dX6_in_6 : decode cX6_in 6 = .ok (.iload_n 2, 1) := by decide +kernel
theorem dX6_in_7 : decode cX6_in 7 = .ok (.if_icmp .gt 7, 3) := by decide +kernel
theorem dX6_in_10 : decode cX6_in 10 = .ok (.iconst 1, 1) := by decide +kernel
theorem dX6_in_11 : decode cX6_in 11 = .ok (.goto 4, 3) := by decide +kernel
theorem dX6_in_14 : decode cX6_in 14 = .ok (.iconst 0, 1) := by decide +kernel
theorem dX6_in_15 : decode cX6_in 15 = .ok (.ireturn, 1) := by decide +kernel
theorem dX6_goes_0 : decode cX6_goes 0 = .ok (.aload_n 0, 1) := by decide +kernel
theorem dX6_goes_1 : decode cX6_goes 1 = .ok (.iload_n 1, 1) := by decide +kernel
theorem dX6_goes_2 : decode cX6_goes 2 = .ok (.ifCond .ne 7, 3) := by decide +kernel
theorem dX6_goes_5 : decode cX6_goes 5 = .ok (.iconst 1, 1) := by decide +kernel
theorem dX6_goes_6 : decode cX6_goes 6 = .ok (.goto 20, 3) := by decide +kernel
theorem dX6_goes_9 : decode cX6_goes 9 = .ok (.iload_n 2, 1) := by decide +kernel
theorem dX6_goes_10 : decode cX6_goes 10 = .ok (.ifCond .ne 7, 3) := by decide +kernel
theorem dX6_goes_13 : decode cX6_goes 13 = .ok (.iconst 2, 1) := by decide +kernel
theorem dX6_goes_14 : decode cX6_goes 14 = .ok (.goto 12, 3) := by decide +kernel
theorem dX6_goes_17 : decode cX6_goes 17 = .ok (.iload_n 3, 1) := by decide +kernel
theorem dX6_goes_18 : decode cX6_goes 18 = .ok (.ifCond .eq 7, 3) := by decide +kernel
theorem dX6_goes_21 : decode cX6_goes 21 = .ok (.iconst 0, 1) := by decide +kernel
theorem dX6_goes_22 : decode cX6_goes 22 = .ok (.goto 4, 3) := by decide +kernel
theorem dX6_goes_25 : decode cX6_goes 25 = .ok (.iconst 3, 1) := by decide +kernel
theorem dX6_goes_26 : decode cX6_goes 26 = .ok (.putfield 47, 3) := by decide +kernel
theorem dX6_goes_29 : decode cX6_goes 29 = .ok (.aload_n 0, 1) := by decide +kernel
theorem dX6_goes_30 : decode cX6_goes 30 = .ok (.getfield 47, 3) := by decide +kernel
theorem dX6_goes_33 : decode cX6_goes 33 = .ok (.ifCond .ne 7, 3) := by decide +kernel
theorem dX6_goes_36 : decode cX6_goes 36 = .ok (.iconst 1, 1) := by decide +kernel
theorem dX6_goes_37 : decode cX6_goes 37 = .ok (.goto 4, 3) := by decide +kernel
theorem dX6_goes_40 : decode cX6_goes 40 = .ok (.iconst 0, 1) := by decide +kernel
theorem dX6_goes_41 : decode cX6_goes 41 = .ok (.ireturn, 1) := by decide +kernel
theorem dX6_isForm_0 : decode cX6_isForm 0 = .ok (.iload_n 1, 1) := by decide +kernel
theorem dX6_isForm_1 : decode cX6_isForm 1 = .ok (.iconst 0, 1) := by decide +kernel
theorem dX6_isForm_2 : decode cX6_isForm 2 = .ok (.aload_n 0, 1) := by decide +kernel
theorem dX6_isForm_3 : decode cX6_isForm 3 = .ok (.getfield 50, 3) := by decide +kernel
theorem dX6_isForm_6 : decode cX6_isForm 6 = .ok (.iconst 1, 1) := by decide +kernel
theorem dX6_isForm_7 : decode cX6_isForm 7 = .ok (.isub, 1) := by decide +kernel
theorem dX6_isForm_8 : decode cX6_isForm 8 = .ok (.invokestatic 53, 3) := by decide +kernel
theorem dX6_isForm_11 : decode cX6_isForm 11 = .ok (.ireturn, 1) := by decide +kernel
theorem dX6_isPiece_0 : decode cX6_isPiece 0 = .ok (.iload_n 1, 1) := by decide +kernel
theorem dX6_isPiece_1 : decode cX6_isPiece 1 = .ok (.iconst 0, 1) := by decide +kernel
theorem dX6_isPiece_2 : decode cX6_isPiece 2 = .ok (.aload_n 0, 1) := by decide +kernel
theorem dX6_isPiece_3 : decode cX6_isPiece 3 = .ok (.getfield 57, 3) := by decide +kernel
theorem dX6_isPiece_6 : decode cX6_isPiece 6 = .ok (.iconst 1, 1) := by decide +kernel
theorem dX6_isPiece_7 : decode cX6_isPiece 7 = .ok (.isub, 1) := by decide +kernel
theorem dX6_isPiece_8 : decode cX6_isPiece 8 = .ok (.invokestatic 53, 3) := by decide +kernel
theorem dX6_isPiece_11 : decode cX6_isPiece 11 = .ok (.ireturn, 1) := by decide +kernel
theorem dX6_lengthOf_0 : decode cX6_lengthOf 0 = .ok (.aload_n 0, 1) := by decide +kernel
theorem dX6_lengthOf_1 : decode cX6_lengthOf 1 = .ok (.getfield 7, 3) := by decide +kernel
theorem dX6_lengthOf_4 : decode cX6_lengthOf 4 = .ok (.aload_n 0, 1) := by decide +kernel
theorem dX6_lengthOf_5 : decode cX6_lengthOf 5 = .ok (.getfield 13, 3) := by decide +kernel
theorem dX6_lengthOf_8 : decode cX6_lengthOf 8 = .ok (.iload_n 1, 1) := by decide +kernel
theorem dX6_lengthOf_9 : decode cX6_lengthOf 9 = .ok (.iaload, 1) := by decide +kernel
theorem dX6_lengthOf_10 : decode cX6_lengthOf 10 = .ok (.iaload, 1) := by decide +kernel
theorem dX6_lengthOf_11 : decode cX6_lengthOf 11 = .ok (.ireturn, 1) := by decide +kernel
theorem dX6_isPlace_0 : decode cX6_isPlace 0 = .ok (.aload_n 0, 1) := by decide +kernel
theorem dX6_isPlace_1 : decode cX6_isPlace 1 = .ok (.iload_n 1, 1) := by decide +kernel
theorem dX6_isPlace_2 : decode cX6_isPlace 2 = .ok (.invokevirtual 60, 3) := by decide +kernel
theorem dX6_isPlace_5 : decode cX6_isPlace 5 = .ok (.ifCond .eq 20, 3) := by decide +kernel
theorem dX6_isPlace_8 : decode cX6_isPlace 8 = .ok (.iload_n 2, 1) := by decide +kernel
theorem dX6_isPlace_9 : decode cX6_isPlace 9 = .ok (.iconst 1, 1) := by decide +kernel
theorem dX6_isPlace_10 : decode cX6_isPlace 10 = .ok (.aload_n 0, 1) := by decide +kernel
theorem dX6_isPlace_11 : decode cX6_isPlace 11 = .ok (.iload_n 1, 1) := by decide +kernel
theorem dX6_isPlace_12 : decode cX6_isPlace 12 = .ok (.invokevirtual 64, 3) := by decide +kernel
theorem dX6_isPlace_15 : decode cX6_isPlace 15 = .ok (.invokestatic 53, 3) := by decide +kernel
theorem dX6_isPlace_18 : decode cX6_isPlace 18 = .ok (.ifCond .eq 7, 3) := by decide +kernel
theorem dX6_isPlace_21 : decode cX6_isPlace 21 = .ok (.iconst 1, 1) := by decide +kernel
theorem dX6_isPlace_22 : decode cX6_isPlace 22 = .ok (.goto 4, 3) := by decide +kernel
theorem dX6_isPlace_25 : decode cX6_isPlace 25 = .ok (.iconst 0, 1) := by decide +kernel
theorem dX6_isPlace_26 : decode cX6_isPlace 26 = .ok (.ireturn, 1) := by decide +kernel
theorem dX6_isPart_0 : decode cX6_isPart 0 = .ok (.iload_n 0, 1) := by decide +kernel
theorem dX6_isPart_1 : decode cX6_isPart 1 = .ok (.iconst 0, 1) := by decide +kernel
theorem dX6_isPart_2 : decode cX6_isPart 2 = .ok (.iconst 3, 1) := by decide +kernel
theorem dX6_isPart_3 : decode cX6_isPart 3 = .ok (.invokestatic 53, 3) := by decide +kernel
theorem dX6_isPart_6 : decode cX6_isPart 6 = .ok (.ireturn, 1) := by decide +kernel
theorem dX6_isPlayer_0 : decode cX6_isPlayer 0 = .ok (.iload_n 1, 1) := by decide +kernel
theorem dX6_isPlayer_1 : decode cX6_isPlayer 1 = .ok (.iconst 0, 1) := by decide +kernel
theorem dX6_isPlayer_2 : decode cX6_isPlayer 2 = .ok (.aload_n 0, 1) := by decide +kernel
theorem dX6_isPlayer_3 : decode cX6_isPlayer 3 = .ok (.getfield 68, 3) := by decide +kernel
theorem dX6_isPlayer_6 : decode cX6_isPlayer 6 = .ok (.iconst 1, 1) := by decide +kernel
theorem dX6_isPlayer_7 : decode cX6_isPlayer 7 = .ok (.isub, 1) := by decide +kernel
theorem dX6_isPlayer_8 : decode cX6_isPlayer 8 = .ok (.invokestatic 53, 3) := by decide +kernel
theorem dX6_isPlayer_11 : decode cX6_isPlayer 11 = .ok (.ireturn, 1) := by decide +kernel
theorem dX6_lesser_0 : decode cX6_lesser 0 = .ok (.iload_n 0, 1) := by decide +kernel
theorem dX6_lesser_1 : decode cX6_lesser 1 = .ok (.iload_n 1, 1) := by decide +kernel
theorem dX6_lesser_2 : decode cX6_lesser 2 = .ok (.if_icmp .ge 7, 3) := by decide +kernel
theorem dX6_lesser_5 : decode cX6_lesser 5 = .ok (.iload_n 0, 1) := by decide +kernel
theorem dX6_lesser_6 : decode cX6_lesser 6 = .ok (.goto 4, 3) := by decide +kernel
theorem dX6_lesser_9 : decode cX6_lesser 9 = .ok (.iload_n 1, 1) := by decide +kernel
theorem dX6_lesser_10 : decode cX6_lesser 10 = .ok (.ireturn, 1) := by decide +kernel
theorem dX6_form_0 : decode cX6_form 0 = .ok (.aload_n 0, 1) := by decide +kernel
theorem dX6_form_1 : decode cX6_form 1 = .ok (.iload_n 1, 1) := by decide +kernel
theorem dX6_form_2 : decode cX6_form 2 = .ok (.iconst 4, 1) := by decide +kernel
theorem dX6_form_3 : decode cX6_form 3 = .ok (.bipush 64, 2) := by decide +kernel
theorem dX6_form_5 : decode cX6_form 5 = .ok (.invokestatic 53, 3) := by decide +kernel
theorem dX6_form_8 : decode cX6_form 8 = .ok (.ifCond .eq 13, 3) := by decide +kernel
theorem dX6_form_11 : decode cX6_form 11 = .ok (.iload_n 1, 1) := by decide +kernel
theorem dX6_form_12 : decode cX6_form 12 = .ok (.iconst 4, 1) := by decide +kernel
theorem dX6_form_13 : decode cX6_form 13 = .ok (.irem, 1) := by decide +kernel
theorem dX6_form_14 : decode cX6_form 14 = .ok (.ifCond .ne 7, 3) := by decide +kernel
theorem dX6_form_17 : decode cX6_form 17 = .ok (.iconst 1, 1) := by decide +kernel
theorem dX6_form_18 : decode cX6_form 18 = .ok (.goto 4, 3) := by decide +kernel
theorem dX6_form_21 : decode cX6_form 21 = .ok (.iconst 0, 1) := by decide +kernel
theorem dX6_form_22 : decode cX6_form 22 = .ok (.aload_n 0, 1) := by decide +kernel
theorem dX6_form_23 : decode cX6_form 23 = .ok (.getfield 50, 3) := by decide +kernel
theorem dX6_form_26 : decode cX6_form 26 = .ok (.iconst 4, 1) := by decide +kernel
theorem dX6_form_27 : decode cX6_form 27 = .ok (.if_icmp .ge 7, 3) := by decide +kernel
theorem dX6_form_30 : decode cX6_form 30 = .ok (.iconst 1, 1) := by decide +kernel
theorem dX6_form_31 : decode cX6_form 31 = .ok (.goto 4, 3) := by decide +kernel
theorem dX6_form_34 : decode cX6_form 34 = .ok (.iconst 0, 1) := by decide +kernel
theorem dX6_form_35 : decode cX6_form 35 = .ok (.iconst 1, 1) := by decide +kernel
theorem dX6_form_36 : decode cX6_form 36 = .ok (.invokevirtual 71, 3) := by decide +kernel
theorem dX6_form_39 : decode cX6_form 39 = .ok (.ifCond .ne 5, 3) := by decide +kernel
theorem dX6_form_42 : decode cX6_form 42 = .ok (.iconst 0, 1) := by decide +kernel
theorem dX6_form_43 : decode cX6_form 43 = .ok (.ireturn, 1) := by decide +kernel
theorem dX6_form_44 : decode cX6_form 44 = .ok (.aload_n 0, 1) := by decide +kernel
theorem dX6_form_45 : decode cX6_form 45 = .ok (.getfield 7, 3) := by decide +kernel
theorem dX6_form_48 : decode cX6_form 48 = .ok (.aload_n 0, 1) := by decide +kernel
theorem dX6_form_49 : decode cX6_form 49 = .ok (.getfield 50, 3) := by decide +kernel
theorem dX6_form_52 : decode cX6_form 52 = .ok (.iload_n 1, 1) := by decide +kernel
theorem dX6_form_53 : decode cX6_form 53 = .ok (.iastore, 1) := by decide +kernel
theorem dX6_form_54 : decode cX6_form 54 = .ok (.aload_n 0, 1) := by decide +kernel
theorem dX6_form_55 : decode cX6_form 55 = .ok (.dup, 1) := by decide +kernel
theorem dX6_form_56 : decode cX6_form 56 = .ok (.getfield 50, 3) := by decide +kernel
theorem dX6_form_59 : decode cX6_form 59 = .ok (.iconst 1, 1) := by decide +kernel
theorem dX6_form_60 : decode cX6_form 60 = .ok (.iadd, 1) := by decide +kernel
theorem dX6_form_61 : decode cX6_form 61 = .ok (.putfield 50, 3) := by decide +kernel
theorem dX6_form_64 : decode cX6_form 64 = .ok (.aload_n 0, 1) := by decide +kernel
theorem dX6_form_65 : decode cX6_form 65 = .ok (.getfield 50, 3) := by decide +kernel
theorem dX6_form_68 : decode cX6_form 68 = .ok (.iconst 1, 1) := by decide +kernel
theorem dX6_form_69 : decode cX6_form 69 = .ok (.isub, 1) := by decide +kernel
theorem dX6_form_70 : decode cX6_form 70 = .ok (.ireturn, 1) := by decide +kernel
theorem dX6_depth_0 : decode cX6_depth 0 = .ok (.aload_n 0, 1) := by decide +kernel
theorem dX6_depth_1 : decode cX6_depth 1 = .ok (.aload_n 0, 1) := by decide +kernel
theorem dX6_depth_2 : decode cX6_depth 2 = .ok (.iload_n 1, 1) := by decide +kernel
theorem dX6_depth_3 : decode cX6_depth 3 = .ok (.invokevirtual 75, 3) := by decide +kernel
theorem dX6_depth_6 : decode cX6_depth 6 = .ok (.ifCond .eq 33, 3) := by decide +kernel
theorem dX6_depth_9 : decode cX6_depth 9 = .ok (.iload_n 2, 1) := by decide +kernel
theorem dX6_depth_10 : decode cX6_depth 10 = .ok (.iconst 1, 1) := by decide +kernel
theorem dX6_depth_11 : decode cX6_depth 11 = .ok (.aload_n 0, 1) := by decide +kernel
theorem dX6_depth_12 : decode cX6_depth 12 = .ok (.getfield 7, 3) := by decide +kernel
theorem dX6_depth_15 : decode cX6_depth 15 = .ok (.aload_n 0, 1) := by decide +kernel
theorem dX6_depth_16 : decode cX6_depth 16 = .ok (.iload_n 1, 1) := by decide +kernel
theorem dX6_depth_17 : decode cX6_depth 17 = .ok (.invokevirtual 75, 3) := by decide +kernel
theorem dX6_depth_20 : decode cX6_depth 20 = .ok (.ifCond .eq 7, 3) := by decide +kernel
theorem dX6_depth_23 : decode cX6_depth 23 = .ok (.iload_n 1, 1) := by decide +kernel
theorem dX6_depth_24 : decode cX6_depth 24 = .ok (.goto 4, 3) := by decide +kernel
theorem dX6_depth_27 : decode cX6_depth 27 = .ok (.iconst 0, 1) := by decide +kernel
theorem dX6_depth_28 : decode cX6_depth 28 = .ok (.iaload, 1) := by decide +kernel
theorem dX6_depth_29 : decode cX6_depth 29 = .ok (.invokestatic 53, 3) := by decide +kernel
theorem dX6_depth_32 : decode cX6_depth 32 = .ok (.ifCond .eq 7, 3) := by decide +kernel
theorem dX6_depth_35 : decode cX6_depth 35 = .ok (.iconst 1, 1) := by decide +kernel
theorem dX6_depth_36 : decode cX6_depth 36 = .ok (.goto 4, 3) := by decide +kernel
theorem dX6_depth_39 : decode cX6_depth 39 = .ok (.iconst 0, 1) := by decide +kernel
theorem dX6_depth_40 : decode cX6_depth 40 = .ok (.iconst 1, 1) := by decide +kernel
theorem dX6_depth_41 : decode cX6_depth 41 = .ok (.iconst 1, 1) := by decide +kernel
theorem dX6_depth_42 : decode cX6_depth 42 = .ok (.invokevirtual 71, 3) := by decide +kernel
theorem dX6_depth_45 : decode cX6_depth 45 = .ok (.ifCond .ne 5, 3) := by decide +kernel
theorem dX6_depth_48 : decode cX6_depth 48 = .ok (.iconst 0, 1) := by decide +kernel
theorem dX6_depth_49 : decode cX6_depth 49 = .ok (.ireturn, 1) := by decide +kernel
theorem dX6_depth_50 : decode cX6_depth 50 = .ok (.iconst 0, 1) := by decide +kernel
theorem dX6_depth_51 : decode cX6_depth 51 = .ok (.istore_n 3, 1) := by decide +kernel
theorem dX6_depth_52 : decode cX6_depth 52 = .ok (.aload_n 0, 1) := by decide +kernel
theorem dX6_depth_53 : decode cX6_depth 53 = .ok (.getfield 7, 3) := by decide +kernel
theorem dX6_depth_56 : decode cX6_depth 56 = .ok (.iload_n 1, 1) := by decide +kernel
theorem dX6_depth_57 : decode cX6_depth 57 = .ok (.iaload, 1) := by decide +kernel
theorem dX6_depth_58 : decode cX6_depth 58 = .ok (.istore 4, 2) := by decide +kernel
theorem dX6_depth_60 : decode cX6_depth 60 = .ok (.iload_n 2, 1) := by decide +kernel
theorem dX6_depth_61 : decode cX6_depth 61 = .ok (.iload 4, 2) := by decide +kernel
theorem dX6_depth_63 : decode cX6_depth 63 = .ok (.irem, 1) := by decide +kernel
theorem dX6_depth_64 : decode cX6_depth 64 = .ok (.ifCond .eq 22, 3) := by decide +kernel
theorem dX6_depth_67 : decode cX6_depth 67 = .ok (.iload 4, 2) := by decide +kernel
theorem dX6_depth_69 : decode cX6_depth 69 = .ok (.iconst 2, 1) := by decide +kernel
theorem dX6_depth_70 : decode cX6_depth 70 = .ok (.irem, 1) := by decide +kernel
theorem dX6_depth_71 : decode cX6_depth 71 = .ok (.ifCond .ne 15, 3) := by decide +kernel
theorem dX6_depth_74 : decode cX6_depth 74 = .ok (.iload 4, 2) := by decide +kernel
theorem dX6_depth_76 : decode cX6_depth 76 = .ok (.iconst 2, 1) := by decide +kernel
theorem dX6_depth_77 : decode cX6_depth 77 = .ok (.idiv, 1) := by decide +kernel
theorem dX6_depth_78 : decode cX6_depth 78 = .ok (.istore 4, 2) := by decide +kernel
theorem dX6_depth_80 : decode cX6_depth 80 = .ok (.iinc 3 1, 3) := by decide +kernel
theorem dX6_depth_83 : decode cX6_depth 83 = .ok (.goto (-23), 3) := by decide +kernel
theorem dX6_depth_86 : decode cX6_depth 86 = .ok (.iload_n 2, 1) := by decide +kernel
theorem dX6_depth_87 : decode cX6_depth 87 = .ok (.iload 4, 2) := by decide +kernel
theorem dX6_depth_89 : decode cX6_depth 89 = .ok (.irem, 1) := by decide +kernel
theorem dX6_depth_90 : decode cX6_depth 90 = .ok (.ifCond .ne 7, 3) := by decide +kernel
theorem dX6_depth_93 : decode cX6_depth 93 = .ok (.iload_n 3, 1) := by decide +kernel
theorem dX6_depth_94 : decode cX6_depth 94 = .ok (.goto 4, 3) := by decide +kernel
theorem dX6_depth_97 : decode cX6_depth 97 = .ok (.iconst (-1), 1) := by decide +kernel
theorem dX6_depth_98 : decode cX6_depth 98 = .ok (.ireturn, 1) := by decide +kernel
theorem dX6_piece_0 : decode cX6_piece 0 = .ok (.aload_n 0, 1) := by decide +kernel
theorem dX6_piece_1 : decode cX6_piece 1 = .ok (.aload_n 0, 1) := by decide +kernel
theorem dX6_piece_2 : decode cX6_piece 2 = .ok (.iload_n 1, 1) := by decide +kernel
theorem dX6_piece_3 : decode cX6_piece 3 = .ok (.invokevirtual 75, 3) := by decide +kernel
theorem dX6_piece_6 : decode cX6_piece 6 = .ok (.aload_n 0, 1) := by decide +kernel
theorem dX6_piece_7 : decode cX6_piece 7 = .ok (.getfield 57, 3) := by decide +kernel
theorem dX6_piece_10 : decode cX6_piece 10 = .ok (.bipush 6, 2) := by decide +kernel
theorem dX6_piece_12 : decode cX6_piece 12 = .ok (.if_icmp .ge 7, 3) := by decide +kernel
theorem dX6_piece_15 : decode cX6_piece 15 = .ok (.iconst 1, 1) := by decide +kernel
theorem dX6_piece_16 : decode cX6_piece 16 = .ok (.goto 4, 3) := by decide +kernel
theorem dX6_piece_19 : decode cX6_piece 19 = .ok (.iconst 0, 1) := by decide +kernel
theorem dX6_piece_20 : decode cX6_piece 20 = .ok (.iconst 1, 1) := by decide +kernel
theorem dX6_piece_21 : decode cX6_piece 21 = .ok (.invokevirtual 71, 3) := by decide +kernel
theorem dX6_piece_24 : decode cX6_piece 24 = .ok (.ifCond .ne 5, 3) := by decide +kernel
theorem dX6_piece_27 : decode cX6_piece 27 = .ok (.iconst 0, 1) := by decide +kernel
theorem dX6_piece_28 : decode cX6_piece 28 = .ok (.ireturn, 1) := by decide +kernel
theorem dX6_piece_29 : decode cX6_piece 29 = .ok (.aload_n 0, 1) := by decide +kernel
theorem dX6_piece_30 : decode cX6_piece 30 = .ok (.getfield 13, 3) := by decide +kernel
theorem dX6_piece_33 : decode cX6_piece 33 = .ok (.aload_n 0, 1) := by decide +kernel
theorem dX6_piece_34 : decode cX6_piece 34 = .ok (.getfield 57, 3) := by decide +kernel
theorem dX6_piece_37 : decode cX6_piece 37 = .ok (.iload_n 1, 1) := by decide +kernel
theorem dX6_piece_38 : decode cX6_piece 38 = .ok (.iastore, 1) := by decide +kernel
theorem dX6_piece_39 : decode cX6_piece 39 = .ok (.aload_n 0, 1) := by decide +kernel
theorem dX6_piece_40 : decode cX6_piece 40 = .ok (.dup, 1) := by decide +kernel
theorem dX6_piece_41 : decode cX6_piece 41 = .ok (.getfield 57, 3) := by decide +kernel
theorem dX6_piece_44 : decode cX6_piece 44 = .ok (.iconst 1, 1) := by decide +kernel
theorem dX6_piece_45 : decode cX6_piece 45 = .ok (.iadd, 1) := by decide +kernel
theorem dX6_piece_46 : decode cX6_piece 46 = .ok (.putfield 57, 3) := by decide +kernel
theorem dX6_piece_49 : decode cX6_piece 49 = .ok (.aload_n 0, 1) := by decide +kernel
theorem dX6_piece_50 : decode cX6_piece 50 = .ok (.getfield 57, 3) := by decide +kernel
theorem dX6_piece_53 : decode cX6_piece 53 = .ok (.iconst 1, 1) := by decide +kernel
theorem dX6_piece_54 : decode cX6_piece 54 = .ok (.isub, 1) := by decide +kernel
theorem dX6_piece_55 : decode cX6_piece 55 = .ok (.ireturn, 1) := by decide +kernel
theorem dX6_tone_0 : decode cX6_tone 0 = .ok (.aload_n 0, 1) := by decide +kernel
theorem dX6_tone_1 : decode cX6_tone 1 = .ok (.aload_n 0, 1) := by decide +kernel
theorem dX6_tone_2 : decode cX6_tone 2 = .ok (.iload_n 1, 1) := by decide +kernel
theorem dX6_tone_3 : decode cX6_tone 3 = .ok (.iload_n 2, 1) := by decide +kernel
theorem dX6_tone_4 : decode cX6_tone 4 = .ok (.invokevirtual 78, 3) := by decide +kernel
theorem dX6_tone_7 : decode cX6_tone 7 = .ok (.iload_n 3, 1) := by decide +kernel
theorem dX6_tone_8 : decode cX6_tone 8 = .ok (.iconst 0, 1) := by decide +kernel
theorem dX6_tone_9 : decode cX6_tone 9 = .ok (.bipush 7, 2) := by decide +kernel
theorem dX6_tone_11 : decode cX6_tone 11 = .ok (.invokestatic 53, 3) := by decide +kernel
theorem dX6_tone_14 : decode cX6_tone 14 = .ok (.iconst 1, 1) := by decide +kernel
theorem dX6_tone_15 : decode cX6_tone 15 = .ok (.invokevirtual 71, 3) := by decide +kernel
theorem dX6_tone_18 : decode cX6_tone 18 = .ok (.ifCond .ne 5, 3) := by decide +kernel
theorem dX6_tone_21 : decode cX6_tone 21 = .ok (.iconst 0, 1) := by decide +kernel
theorem dX6_tone_22 : decode cX6_tone 22 = .ok (.ireturn, 1) := by decide +kernel
theorem dX6_tone_23 : decode cX6_tone 23 = .ok (.aload_n 0, 1) := by decide +kernel
theorem dX6_tone_24 : decode cX6_tone 24 = .ok (.getfield 19, 3) := by decide +kernel
theorem dX6_tone_27 : decode cX6_tone 27 = .ok (.bipush 65, 2) := by decide +kernel
theorem dX6_tone_29 : decode cX6_tone 29 = .ok (.iload_n 1, 1) := by decide +kernel
theorem dX6_tone_30 : decode cX6_tone 30 = .ok (.imul, 1) := by decide +kernel
theorem dX6_tone_31 : decode cX6_tone 31 = .ok (.iload_n 2, 1) := by decide +kernel
theorem dX6_tone_32 : decode cX6_tone 32 = .ok (.iadd, 1) := by decide +kernel
theorem dX6_tone_33 : decode cX6_tone 33 = .ok (.iaload, 1) := by decide +kernel
theorem dX6_tone_34 : decode cX6_tone 34 = .ok (.istore 4, 2) := by decide +kernel
theorem dX6_tone_36 : decode cX6_tone 36 = .ok (.aload_n 0, 1) := by decide +kernel
theorem dX6_tone_37 : decode cX6_tone 37 = .ok (.getfield 19, 3) := by decide +kernel
theorem dX6_tone_40 : decode cX6_tone 40 = .ok (.bipush 65, 2) := by decide +kernel
theorem dX6_tone_42 : decode cX6_tone 42 = .ok (.iload_n 1, 1) := by decide +kernel
theorem dX6_tone_43 : decode cX6_tone 43 = .ok (.imul, 1) := by decide +kernel
theorem dX6_tone_44 : decode cX6_tone 44 = .ok (.iload_n 2, 1) := by decide +kernel
theorem dX6_tone_45 : decode cX6_tone 45 = .ok (.iadd, 1) := by decide +kernel
theorem dX6_tone_46 : decode cX6_tone 46 = .ok (.iload_n 3, 1) := by decide +kernel
theorem dX6_tone_47 : decode cX6_tone 47 = .ok (.iastore, 1) := by decide +kernel
theorem dX6_tone_48 : decode cX6_tone 48 = .ok (.iload 4, 2) := by decide +kernel
theorem dX6_tone_50 : decode cX6_tone 50 = .ok (.ireturn, 1) := by decide +kernel
theorem dX6_forbid_0 : decode cX6_forbid 0 = .ok (.aload_n 0, 1) := by decide +kernel
theorem dX6_forbid_1 : decode cX6_forbid 1 = .ok (.aload_n 0, 1) := by decide +kernel
theorem dX6_forbid_2 : decode cX6_forbid 2 = .ok (.iload_n 1, 1) := by decide +kernel
theorem dX6_forbid_3 : decode cX6_forbid 3 = .ok (.invokevirtual 60, 3) := by decide +kernel
theorem dX6_forbid_6 : decode cX6_forbid 6 = .ok (.iload_n 2, 1) := by decide +kernel
theorem dX6_forbid_7 : decode cX6_forbid 7 = .ok (.iconst 0, 1) := by decide +kernel
theorem dX6_forbid_8 : decode cX6_forbid 8 = .ok (.bipush 31, 2) := by decide +kernel
theorem dX6_forbid_10 : decode cX6_forbid 10 = .ok (.invokestatic 53, 3) := by decide +kernel
theorem dX6_forbid_13 : decode cX6_forbid 13 = .ok (.iconst 1, 1) := by decide +kernel
theorem dX6_forbid_14 : decode cX6_forbid 14 = .ok (.invokevirtual 71, 3) := by decide +kernel
theorem dX6_forbid_17 : decode cX6_forbid 17 = .ok (.ifCond .ne 5, 3) := by decide +kernel
theorem dX6_forbid_20 : decode cX6_forbid 20 = .ok (.iconst 0, 1) := by decide +kernel
theorem dX6_forbid_21 : decode cX6_forbid 21 = .ok (.ireturn, 1) := by decide +kernel
theorem dX6_forbid_22 : decode cX6_forbid 22 = .ok (.aload_n 0, 1) := by decide +kernel
theorem dX6_forbid_23 : decode cX6_forbid 23 = .ok (.getfield 16, 3) := by decide +kernel
theorem dX6_forbid_26 : decode cX6_forbid 26 = .ok (.iload_n 1, 1) := by decide +kernel
theorem dX6_forbid_27 : decode cX6_forbid 27 = .ok (.iaload, 1) := by decide +kernel
theorem dX6_forbid_28 : decode cX6_forbid 28 = .ok (.istore_n 3, 1) := by decide +kernel
theorem dX6_forbid_29 : decode cX6_forbid 29 = .ok (.aload_n 0, 1) := by decide +kernel
theorem dX6_forbid_30 : decode cX6_forbid 30 = .ok (.getfield 16, 3) := by decide +kernel
theorem dX6_forbid_33 : decode cX6_forbid 33 = .ok (.iload_n 1, 1) := by decide +kernel
theorem dX6_forbid_34 : decode cX6_forbid 34 = .ok (.iload_n 2, 1) := by decide +kernel
theorem dX6_forbid_35 : decode cX6_forbid 35 = .ok (.iastore, 1) := by decide +kernel
theorem dX6_forbid_36 : decode cX6_forbid 36 = .ok (.iload_n 3, 1) := by decide +kernel
theorem dX6_forbid_37 : decode cX6_forbid 37 = .ok (.ireturn, 1) := by decide +kernel
theorem dX6_soundOf_0 : decode cX6_soundOf 0 = .ok (.iload_n 2, 1) := by decide +kernel
theorem dX6_soundOf_1 : decode cX6_soundOf 1 = .ok (.istore_n 3, 1) := by decide +kernel
theorem dX6_soundOf_2 : decode cX6_soundOf 2 = .ok (.iconst 0, 1) := by decide +kernel
theorem dX6_soundOf_3 : decode cX6_soundOf 3 = .ok (.istore 4, 2) := by decide +kernel
theorem dX6_soundOf_5 : decode cX6_soundOf 5 = .ok (.iload 4, 2) := by decide +kernel
theorem dX6_soundOf_7 : decode cX6_soundOf 7 = .ok (.aload_n 0, 1) := by decide +kernel
theorem dX6_soundOf_8 : decode cX6_soundOf 8 = .ok (.iload_n 1, 1) := by decide +kernel
theorem dX6_soundOf_9 : decode cX6_soundOf 9 = .ok (.invokevirtual 64, 3) := by decide +kernel
theorem dX6_soundOf_12 : decode cX6_soundOf 12 = .ok (.if_icmp .ge 40, 3) := by decide +kernel
theorem dX6_soundOf_15 : decode cX6_soundOf 15 = .ok (.aload_n 0, 1) := by decide +kernel
theorem dX6_soundOf_16 : decode cX6_soundOf 16 = .ok (.getfield 19, 3) := by decide +kernel
theorem dX6_soundOf_19 : decode cX6_soundOf 19 = .ok (.bipush 65, 2) := by decide +kernel
theorem dX6_soundOf_21 : decode cX6_soundOf 21 = .ok (.iload_n 1, 1) := by decide +kernel
theorem dX6_soundOf_22 : decode cX6_soundOf 22 = .ok (.imul, 1) := by decide +kernel
theorem dX6_soundOf_23 : decode cX6_soundOf 23 = .ok (.iload_n 3, 1) := by decide +kernel
theorem dX6_soundOf_24 : decode cX6_soundOf 24 = .ok (.iadd, 1) := by decide +kernel
theorem dX6_soundOf_25 : decode cX6_soundOf 25 = .ok (.iaload, 1) := by decide +kernel
theorem dX6_soundOf_26 : decode cX6_soundOf 26 = .ok (.ifCond .ne 26, 3) := by decide +kernel
theorem dX6_soundOf_29 : decode cX6_soundOf 29 = .ok (.iload_n 3, 1) := by decide +kernel
theorem dX6_soundOf_30 : decode cX6_soundOf 30 = .ok (.iconst 1, 1) := by decide +kernel
theorem dX6_soundOf_31 : decode cX6_soundOf 31 = .ok (.if_icmp .ne 11, 3) := by decide +kernel
theorem dX6_soundOf_34 : decode cX6_soundOf 34 = .ok (.aload_n 0, 1) := by decide +kernel
theorem dX6_soundOf_35 : decode cX6_soundOf 35 = .ok (.iload_n 1, 1) := by decide +kernel
theorem dX6_soundOf_36 : decode cX6_soundOf 36 = .ok (.invokevirtual 64, 3) := by decide +kernel
theorem dX6_soundOf_39 : decode cX6_soundOf 39 = .ok (.goto 6, 3) := by decide +kernel
theorem dX6_soundOf_42 : decode cX6_soundOf 42 = .ok (.iload_n 3, 1) := by decide +kernel
theorem dX6_soundOf_43 : decode cX6_soundOf 43 = .ok (.iconst 1, 1) := by decide +kernel
theorem dX6_soundOf_44 : decode cX6_soundOf 44 = .ok (.isub, 1) := by decide +kernel
theorem dX6_soundOf_45 : decode cX6_soundOf 45 = .ok (.istore_n 3, 1) := by decide +kernel
theorem dX6_soundOf_46 : decode cX6_soundOf 46 = .ok (.iinc 4 1, 3) := by decide +kernel
theorem dX6_soundOf_49 : decode cX6_soundOf 49 = .ok (.goto (-44), 3) := by decide +kernel
theorem dX6_soundOf_52 : decode cX6_soundOf 52 = .ok (.aload_n 0, 1) := by decide +kernel
theorem dX6_soundOf_53 : decode cX6_soundOf 53 = .ok (.getfield 19, 3) := by decide +kernel
theorem dX6_soundOf_56 : decode cX6_soundOf 56 = .ok (.bipush 65, 2) := by decide +kernel
theorem dX6_soundOf_58 : decode cX6_soundOf 58 = .ok (.iload_n 1, 1) := by decide +kernel
theorem dX6_soundOf_59 : decode cX6_soundOf 59 = .ok (.imul, 1) := by decide +kernel
theorem dX6_soundOf_60 : decode cX6_soundOf 60 = .ok (.iload_n 3, 1) := by decide +kernel
theorem dX6_soundOf_61 : decode cX6_soundOf 61 = .ok (.iadd, 1) := by decide +kernel
theorem dX6_soundOf_62 : decode cX6_soundOf 62 = .ok (.iaload, 1) := by decide +kernel
theorem dX6_soundOf_63 : decode cX6_soundOf 63 = .ok (.ireturn, 1) := by decide +kernel
theorem dX6_sounds_0 : decode cX6_sounds 0 = .ok (.aload_n 0, 1) := by decide +kernel
theorem dX6_sounds_1 : decode cX6_sounds 1 = .ok (.aload_n 0, 1) := by decide +kernel
theorem dX6_sounds_2 : decode cX6_sounds 2 = .ok (.iload_n 1, 1) := by decide +kernel
theorem dX6_sounds_3 : decode cX6_sounds 3 = .ok (.iload_n 2, 1) := by decide +kernel
theorem dX6_sounds_4 : decode cX6_sounds 4 = .ok (.invokevirtual 78, 3) := by decide +kernel
theorem dX6_sounds_7 : decode cX6_sounds 7 = .ok (.iconst 1, 1) := by decide +kernel
theorem dX6_sounds_8 : decode cX6_sounds 8 = .ok (.iconst 1, 1) := by decide +kernel
theorem dX6_sounds_9 : decode cX6_sounds 9 = .ok (.invokevirtual 71, 3) := by decide +kernel
theorem dX6_sounds_12 : decode cX6_sounds 12 = .ok (.ifCond .eq 12, 3) := by decide +kernel
theorem dX6_sounds_15 : decode cX6_sounds 15 = .ok (.aload_n 0, 1) := by decide +kernel
theorem dX6_sounds_16 : decode cX6_sounds 16 = .ok (.iload_n 1, 1) := by decide +kernel
theorem dX6_sounds_17 : decode cX6_sounds 17 = .ok (.iload_n 2, 1) := by decide +kernel
theorem dX6_sounds_18 : decode cX6_sounds 18 = .ok (.invokevirtual 82, 3) := by decide +kernel
theorem dX6_sounds_21 : decode cX6_sounds 21 = .ok (.goto 4, 3) := by decide +kernel
theorem dX6_sounds_24 : decode cX6_sounds 24 = .ok (.iconst 0, 1) := by decide +kernel
theorem dX6_sounds_25 : decode cX6_sounds 25 = .ok (.ireturn, 1) := by decide +kernel
theorem dX6_density_0 : decode cX6_density 0 = .ok (.iload_n 0, 1) := by decide +kernel
theorem dX6_density_1 : decode cX6_density 1 = .ok (.ifCond .ne 7, 3) := by decide +kernel
theorem dX6_density_4 : decode cX6_density 4 = .ok (.iconst 1, 1) := by decide +kernel
theorem dX6_density_5 : decode cX6_density 5 = .ok (.goto 17, 3) := by decide +kernel
theorem dX6_density_8 : decode cX6_density 8 = .ok (.iload_n 0, 1) := by decide +kernel
theorem dX6_density_9 : decode cX6_density 9 = .ok (.iconst 2, 1) := by decide +kernel
theorem dX6_density_10 : decode cX6_density 10 = .ok (.if_icmp .ne 9, 3) := by decide +kernel
theorem dX6_density_13 : decode cX6_density 13 = .ok (.iconst 1, 1) := by decide +kernel
theorem dX6_density_14 : decode cX6_density 14 = .ok (.iload_n 1, 1) := by decide +kernel
theorem dX6_density_15 : decode cX6_density 15 = .ok (.ishl, 1) := by decide +kernel
theorem dX6_density_16 : decode cX6_density 16 = .ok (.goto 6, 3) := by decide +kernel
theorem dX6_density_19 : decode cX6_density 19 = .ok (.iconst 2, 1) := by decide +kernel
theorem dX6_density_20 : decode cX6_density 20 = .ok (.iload_n 1, 1) := by decide +kernel
theorem dX6_density_21 : decode cX6_density 21 = .ok (.ishl, 1) := by decide +kernel
theorem dX6_density_22 : decode cX6_density 22 = .ok (.ireturn, 1) := by decide +kernel
theorem dX6_strikes_0 : decode cX6_strikes 0 = .ok (.iload_n 0, 1) := by decide +kernel
theorem dX6_strikes_1 : decode cX6_strikes 1 = .ok (.ifCond .ne 14, 3) := by decide +kernel
theorem dX6_strikes_4 : decode cX6_strikes 4 = .ok (.iload_n 2, 1) := by decide +kernel
theorem dX6_strikes_5 : decode cX6_strikes 5 = .ok (.ifCond .ne 7, 3) := by decide +kernel
theorem dX6_strikes_8 : decode cX6_strikes 8 = .ok (.iload_n 3, 1) := by decide +kernel
theorem dX6_strikes_9 : decode cX6_strikes 9 = .ok (.goto 5, 3) := by decide +kernel
theorem dX6_strikes_12 : decode cX6_strikes 12 = .ok (.iload 4, 2) := by decide +kernel
theorem dX6_strikes_14 : decode cX6_strikes 14 = .ok (.ireturn, 1) := by decide +kernel
theorem dX6_strikes_15 : decode cX6_strikes 15 = .ok (.iload_n 0, 1) := by decide +kernel
theorem dX6_strikes_16 : decode cX6_strikes 16 = .ok (.iconst 1, 1) := by decide +kernel
theorem dX6_strikes_17 : decode cX6_strikes 17 = .ok (.if_icmp .ne 17, 3) := by decide +kernel
theorem dX6_strikes_20 : decode cX6_strikes 20 = .ok (.iload_n 2, 1) := by decide +kernel
theorem dX6_strikes_21 : decode cX6_strikes 21 = .ok (.iconst 4, 1) := by decide +kernel
theorem dX6_strikes_22 : decode cX6_strikes 22 = .ok (.irem, 1) := by decide +kernel
theorem dX6_strikes_23 : decode cX6_strikes 23 = .ok (.iconst 2, 1) := by decide +kernel
theorem dX6_strikes_24 : decode cX6_strikes 24 = .ok (.if_icmp .ge 7, 3) := by decide +kernel
theorem dX6_strikes_27 : decode cX6_strikes 27 = .ok (.iload_n 3, 1) := by decide +kernel
theorem dX6_strikes_28 : decode cX6_strikes 28 = .ok (.goto 5, 3) := by decide +kernel
theorem dX6_strikes_31 : decode cX6_strikes 31 = .ok (.iload 4, 2) := by decide +kernel
theorem dX6_strikes_33 : decode cX6_strikes 33 = .ok (.ireturn, 1) := by decide +kernel
theorem dX6_strikes_34 : decode cX6_strikes 34 = .ok (.iload_n 0, 1) := by decide +kernel
theorem dX6_strikes_35 : decode cX6_strikes 35 = .ok (.iconst 2, 1) := by decide +kernel
theorem dX6_strikes_36 : decode cX6_strikes 36 = .ok (.if_icmp .eq 12, 3) := by decide +kernel
theorem dX6_strikes_39 : decode cX6_strikes 39 = .ok (.iload_n 3, 1) := by decide +kernel
theorem dX6_strikes_40 : decode cX6_strikes 40 = .ok (.ifCond .eq 8, 3) := by decide +kernel
theorem dX6_strikes_43 : decode cX6_strikes 43 = .ok (.iload 4, 2) := by decide +kernel
theorem dX6_strikes_45 : decode cX6_strikes 45 = .ok (.ifCond .ne 16, 3) := by decide +kernel
theorem dX6_strikes_48 : decode cX6_strikes 48 = .ok (.iload_n 2, 1) := by decide +kernel
theorem dX6_strikes_49 : decode cX6_strikes 49 = .ok (.iconst 2, 1) := by decide +kernel
theorem dX6_strikes_50 : decode cX6_strikes 50 = .ok (.irem, 1) := by decide +kernel
theorem dX6_strikes_51 : decode cX6_strikes 51 = .ok (.ifCond .ne 7, 3) := by decide +kernel
theorem dX6_strikes_54 : decode cX6_strikes 54 = .ok (.iload_n 3, 1) := by decide +kernel
theorem dX6_strikes_55 : decode cX6_strikes 55 = .ok (.goto 5, 3) := by decide +kernel
theorem dX6_strikes_58 : decode cX6_strikes 58 = .ok (.iload 4, 2) := by decide +kernel
theorem dX6_strikes_60 : decode cX6_strikes 60 = .ok (.ireturn, 1) := by decide +kernel
theorem dX6_strikes_61 : decode cX6_strikes 61 = .ok (.iload_n 2, 1) := by decide +kernel
theorem dX6_strikes_62 : decode cX6_strikes 62 = .ok (.iconst 2, 1) := by decide +kernel
theorem dX6_strikes_63 : decode cX6_strikes 63 = .ok (.iload_n 1, 1) := by decide +kernel
theorem dX6_strikes_64 : decode cX6_strikes 64 = .ok (.imul, 1) := by decide +kernel
theorem dX6_strikes_65 : decode cX6_strikes 65 = .ok (.iconst 1, 1) := by decide +kernel
theorem dX6_strikes_66 : decode cX6_strikes 66 = .ok (.isub, 1) := by decide +kernel
theorem dX6_strikes_67 : decode cX6_strikes 67 = .ok (.if_icmp .ne 6, 3) := by decide +kernel
theorem dX6_strikes_70 : decode cX6_strikes 70 = .ok (.iload 4, 2) := by decide +kernel
theorem dX6_strikes_72 : decode cX6_strikes 72 = .ok (.ireturn, 1) := by decide +kernel
theorem dX6_strikes_73 : decode cX6_strikes 73 = .ok (.iload_n 3, 1) := by decide +kernel
theorem dX6_strikes_74 : decode cX6_strikes 74 = .ok (.iload 4, 2) := by decide +kernel
theorem dX6_strikes_76 : decode cX6_strikes 76 = .ok (.if_icmp .ge 14, 3) := by decide +kernel
theorem dX6_strikes_79 : decode cX6_strikes 79 = .ok (.iload_n 3, 1) := by decide +kernel
theorem dX6_strikes_80 : decode cX6_strikes 80 = .ok (.iload_n 2, 1) := by decide +kernel
theorem dX6_strikes_81 : decode cX6_strikes 81 = .ok (.iadd, 1) := by decide +kernel
theorem dX6_strikes_82 : decode cX6_strikes 82 = .ok (.iload 4, 2) := by decide +kernel
theorem dX6_strikes_84 : decode cX6_strikes 84 = .ok (.invokestatic 86, 3) := by decide +kernel
theorem dX6_strikes_87 : decode cX6_strikes 87 = .ok (.goto 19, 3) := by decide +kernel
theorem dX6_strikes_90 : decode cX6_strikes 90 = .ok (.iload 4, 2) := by decide +kernel
theorem dX6_strikes_92 : decode cX6_strikes 92 = .ok (.iload_n 3, 1) := by decide +kernel
theorem dX6_strikes_93 : decode cX6_strikes 93 = .ok (.iload_n 2, 1) := by decide +kernel
theorem dX6_strikes_94 : decode cX6_strikes 94 = .ok (.isub, 1) := by decide +kernel
theorem dX6_strikes_95 : decode cX6_strikes 95 = .ok (.if_icmp .le 8, 3) := by decide +kernel
theorem dX6_strikes_98 : decode cX6_strikes 98 = .ok (.iload 4, 2) := by decide +kernel
theorem dX6_strikes_100 : decode cX6_strikes 100 = .ok (.goto 6, 3) := by decide +kernel
theorem dX6_strikes_103 : decode cX6_strikes 103 = .ok (.iload_n 3, 1) := by decide +kernel
theorem dX6_strikes_104 : decode cX6_strikes 104 = .ok (.iload_n 2, 1) := by decide +kernel
theorem dX6_strikes_105 : decode cX6_strikes 105 = .ok (.isub, 1) := by decide +kernel
theorem dX6_strikes_106 : decode cX6_strikes 106 = .ok (.ireturn, 1) := by decide +kernel
theorem dX6_stroke_0 : decode cX6_stroke 0 = .ok (.aload_n 0, 1) := by decide +kernel
theorem dX6_stroke_1 : decode cX6_stroke 1 = .ok (.iload_n 1, 1) := by decide +kernel
theorem dX6_stroke_2 : decode cX6_stroke 2 = .ok (.iload_n 3, 1) := by decide +kernel
theorem dX6_stroke_3 : decode cX6_stroke 3 = .ok (.invokevirtual 78, 3) := by decide +kernel
theorem dX6_stroke_6 : decode cX6_stroke 6 = .ok (.ifCond .eq 14, 3) := by decide +kernel
theorem dX6_stroke_9 : decode cX6_stroke 9 = .ok (.iload_n 2, 1) := by decide +kernel
theorem dX6_stroke_10 : decode cX6_stroke 10 = .ok (.invokestatic 89, 3) := by decide +kernel
theorem dX6_stroke_13 : decode cX6_stroke 13 = .ok (.ifCond .eq 7, 3) := by decide +kernel
theorem dX6_stroke_16 : decode cX6_stroke 16 = .ok (.iconst 1, 1) := by decide +kernel
theorem dX6_stroke_17 : decode cX6_stroke 17 = .ok (.goto 4, 3) := by decide +kernel
theorem dX6_stroke_20 : decode cX6_stroke 20 = .ok (.iconst 0, 1) := by decide +kernel
theorem dX6_stroke_21 : decode cX6_stroke 21 = .ok (.istore 6, 2) := by decide +kernel
theorem dX6_stroke_23 : decode cX6_stroke 23 = .ok (.iload 6, 2) := by decide +kernel
theorem dX6_stroke_25 : decode cX6_stroke 25 = .ok (.ifCond .eq 34, 3) := by decide +kernel
theorem dX6_stroke_28 : decode cX6_stroke 28 = .ok (.iload 4, 2) := by decide +kernel
theorem dX6_stroke_30 : decode cX6_stroke 30 = .ok (.iconst 0, 1) := by decide +kernel
theorem dX6_stroke_31 : decode cX6_stroke 31 = .ok (.iconst 3, 1) := by decide +kernel
theorem dX6_stroke_32 : decode cX6_stroke 32 = .ok (.invokestatic 53, 3) := by decide +kernel
theorem dX6_stroke_35 : decode cX6_stroke 35 = .ok (.ifCond .eq 24, 3) := by decide +kernel
theorem dX6_stroke_38 : decode cX6_stroke 38 = .ok (.iload 5, 2) := by decide +kernel
theorem dX6_stroke_40 : decode cX6_stroke 40 = .ok (.iconst 0, 1) := by decide +kernel
theorem dX6_stroke_41 : decode cX6_stroke 41 = .ok (.iload_n 2, 1) := by decide +kernel
theorem dX6_stroke_42 : decode cX6_stroke 42 = .ok (.iload 4, 2) := by decide +kernel
theorem dX6_stroke_44 : decode cX6_stroke 44 = .ok (.invokestatic 92, 3) := by decide +kernel
theorem dX6_stroke_47 : decode cX6_stroke 47 = .ok (.iconst 1, 1) := by decide +kernel
theorem dX6_stroke_48 : decode cX6_stroke 48 = .ok (.isub, 1) := by decide +kernel
theorem dX6_stroke_49 : decode cX6_stroke 49 = .ok (.invokestatic 53, 3) := by decide +kernel
theorem dX6_stroke_52 : decode cX6_stroke 52 = .ok (.ifCond .eq 7, 3) := by decide +kernel
theorem dX6_stroke_55 : decode cX6_stroke 55 = .ok (.iconst 1, 1) := by decide +kernel
theorem dX6_stroke_56 : decode cX6_stroke 56 = .ok (.goto 4, 3) := by decide +kernel
theorem dX6_stroke_59 : decode cX6_stroke 59 = .ok (.iconst 0, 1) := by decide +kernel
theorem dX6_stroke_60 : decode cX6_stroke 60 = .ok (.istore 7, 2) := by decide +kernel
theorem dX6_stroke_62 : decode cX6_stroke 62 = .ok (.aload_n 0, 1) := by decide +kernel
theorem dX6_stroke_63 : decode cX6_stroke 63 = .ok (.iload 6, 2) := by decide +kernel
theorem dX6_stroke_65 : decode cX6_stroke 65 = .ok (.iload 7, 2) := by decide +kernel
theorem dX6_stroke_67 : decode cX6_stroke 67 = .ok (.iconst 1, 1) := by decide +kernel
theorem dX6_stroke_68 : decode cX6_stroke 68 = .ok (.invokevirtual 71, 3) := by decide +kernel
theorem dX6_stroke_71 : decode cX6_stroke 71 = .ok (.ifCond .ne 5, 3) := by decide +kernel
theorem dX6_stroke_74 : decode cX6_stroke 74 = .ok (.iconst 0, 1) := by decide +kernel
theorem dX6_stroke_75 : decode cX6_stroke 75 = .ok (.ireturn, 1) := by decide +kernel
theorem dX6_stroke_76 : decode cX6_stroke 76 = .ok (.iload_n 3, 1) := by decide +kernel
theorem dX6_stroke_77 : decode cX6_stroke 77 = .ok (.iconst 1, 1) := by decide +kernel
theorem dX6_stroke_78 : decode cX6_stroke 78 = .ok (.isub, 1) := by decide +kernel
theorem dX6_stroke_79 : decode cX6_stroke 79 = .ok (.iload_n 3, 1) := by decide +kernel
theorem dX6_stroke_80 : decode cX6_stroke 80 = .ok (.iconst 2, 1) := by decide +kernel
theorem dX6_stroke_81 : decode cX6_stroke 81 = .ok (.irem, 1) := by decide +kernel
theorem dX6_stroke_82 : decode cX6_stroke 82 = .ok (.iadd, 1) := by decide +kernel
theorem dX6_stroke_83 : decode cX6_stroke 83 = .ok (.istore 8, 2) := by decide +kernel
theorem dX6_stroke_85 : decode cX6_stroke 85 = .ok (.aload_n 0, 1) := by decide +kernel
theorem dX6_stroke_86 : decode cX6_stroke 86 = .ok (.iload_n 1, 1) := by decide +kernel
theorem dX6_stroke_87 : decode cX6_stroke 87 = .ok (.iload 8, 2) := by decide +kernel
theorem dX6_stroke_89 : decode cX6_stroke 89 = .ok (.invokevirtual 82, 3) := by decide +kernel
theorem dX6_stroke_92 : decode cX6_stroke 92 = .ok (.istore 9, 2) := by decide +kernel
theorem dX6_stroke_94 : decode cX6_stroke 94 = .ok (.aload_n 0, 1) := by decide +kernel
theorem dX6_stroke_95 : decode cX6_stroke 95 = .ok (.iload_n 1, 1) := by decide +kernel
theorem dX6_stroke_96 : decode cX6_stroke 96 = .ok (.iload 8, 2) := by decide +kernel
theorem dX6_stroke_98 : decode cX6_stroke 98 = .ok (.iconst 1, 1) := by decide +kernel
theorem dX6_stroke_99 : decode cX6_stroke 99 = .ok (.iadd, 1) := by decide +kernel
theorem dX6_stroke_100 : decode cX6_stroke 100 = .ok (.invokevirtual 82, 3) := by decide +kernel
theorem dX6_stroke_103 : decode cX6_stroke 103 = .ok (.istore 10, 2) := by decide +kernel
theorem dX6_stroke_105 : decode cX6_stroke 105 = .ok (.iload_n 2, 1) := by decide +kernel
theorem dX6_stroke_106 : decode cX6_stroke 106 = .ok (.iload 4, 2) := by decide +kernel
theorem dX6_stroke_108 : decode cX6_stroke 108 = .ok (.invokestatic 92, 3) := by decide +kernel
theorem dX6_stroke_111 : decode cX6_stroke 111 = .ok (.istore 11, 2) := by decide +kernel
theorem dX6_stroke_113 : decode cX6_stroke 113 = .ok (.iload_n 2, 1) := by decide +kernel
theorem dX6_stroke_114 : decode cX6_stroke 114 = .ok (.iload 11, 2) := by decide +kernel
theorem dX6_stroke_116 : decode cX6_stroke 116 = .ok (.iload_n 3, 1) := by decide +kernel
theorem dX6_stroke_117 : decode cX6_stroke 117 = .ok (.iload 8, 2) := by decide +kernel
theorem dX6_stroke_119 : decode cX6_stroke 119 = .ok (.if_icmp .ne 8, 3) := by decide +kernel
theorem dX6_stroke_122 : decode cX6_stroke 122 = .ok (.iload 5, 2) := by decide +kernel
theorem dX6_stroke_124 : decode cX6_stroke 124 = .ok (.goto 8, 3) := by decide +kernel
theorem dX6_stroke_127 : decode cX6_stroke 127 = .ok (.iload 11, 2) := by decide +kernel
theorem dX6_stroke_129 : decode cX6_stroke 129 = .ok (.iload 5, 2) := by decide +kernel
theorem dX6_stroke_131 : decode cX6_stroke 131 = .ok (.iadd, 1) := by decide +kernel
theorem dX6_stroke_132 : decode cX6_stroke 132 = .ok (.iload 9, 2) := by decide +kernel
theorem dX6_stroke_134 : decode cX6_stroke 134 = .ok (.iload 10, 2) := by decide +kernel
theorem dX6_stroke_136 : decode cX6_stroke 136 = .ok (.invokestatic 95, 3) := by decide +kernel
theorem dX6_stroke_139 : decode cX6_stroke 139 = .ok (.ireturn, 1) := by decide +kernel
theorem dX6_strokeAnew_0 : decode cX6_strokeAnew 0 = .ok (.aload_n 0, 1) := by decide +kernel
theorem dX6_strokeAnew_1 : decode cX6_strokeAnew 1 = .ok (.iload_n 1, 1) := by decide +kernel
theorem dX6_strokeAnew_2 : decode cX6_strokeAnew 2 = .ok (.iload_n 2, 1) := by decide +kernel
theorem dX6_strokeAnew_3 : decode cX6_strokeAnew 3 = .ok (.iload_n 3, 1) := by decide +kernel
theorem dX6_strokeAnew_4 : decode cX6_strokeAnew 4 = .ok (.iload 4, 2) := by decide +kernel
theorem dX6_strokeAnew_6 : decode cX6_strokeAnew 6 = .ok (.iload 5, 2) := by decide +kernel
theorem dX6_strokeAnew_8 : decode cX6_strokeAnew 8 = .ok (.invokevirtual 99, 3) := by decide +kernel
theorem dX6_strokeAnew_11 : decode cX6_strokeAnew 11 = .ok (.ireturn, 1) := by decide +kernel
theorem dX6_begin_0 : decode cX6_begin 0 = .ok (.aload_n 0, 1) := by decide +kernel
theorem dX6_begin_1 : decode cX6_begin 1 = .ok (.iload_n 1, 1) := by decide +kernel
theorem dX6_begin_2 : decode cX6_begin 2 = .ok (.invokevirtual 60, 3) := by decide +kernel
theorem dX6_begin_5 : decode cX6_begin 5 = .ok (.istore_n 2, 1) := by decide +kernel
theorem dX6_begin_6 : decode cX6_begin 6 = .ok (.aload_n 0, 1) := by decide +kernel
theorem dX6_begin_7 : decode cX6_begin 7 = .ok (.iload_n 2, 1) := by decide +kernel
theorem dX6_begin_8 : decode cX6_begin 8 = .ok (.iload_n 2, 1) := by decide +kernel
theorem dX6_begin_9 : decode cX6_begin 9 = .ok (.ifCond .eq 30, 3) := by decide +kernel
theorem dX6_begin_12 : decode cX6_begin 12 = .ok (.aload_n 0, 1) := by decide +kernel
theorem dX6_begin_13 : decode cX6_begin 13 = .ok (.getfield 102, 3) := by decide +kernel
theorem dX6_begin_16 : decode cX6_begin 16 = .ok (.ifCond .ne 23, 3) := by decide +kernel
theorem dX6_begin_19 : decode cX6_begin 19 = .ok (.aload_n 0, 1) := by decide +kernel
theorem dX6_begin_20 : decode cX6_begin 20 = .ok (.getfield 16, 3) := by decide +kernel
theorem dX6_begin_23 : decode cX6_begin 23 = .ok (.iload_n 1, 1) := by decide +kernel
theorem dX6_begin_24 : decode cX6_begin 24 = .ok (.iaload, 1) := by decide +kernel
theorem dX6_begin_25 : decode cX6_begin 25 = .ok (.aload_n 0, 1) := by decide +kernel
theorem dX6_begin_26 : decode cX6_begin 26 = .ok (.getfield 106, 3) := by decide +kernel
theorem dX6_begin_29 : decode cX6_begin 29 = .ok (.ishr, 1) := by decide +kernel
theorem dX6_begin_30 : decode cX6_begin 30 = .ok (.iconst 1, 1) := by decide +kernel
theorem dX6_begin_31 : decode cX6_begin 31 = .ok (.iand, 1) := by decide +kernel
theorem dX6_begin_32 : decode cX6_begin 32 = .ok (.ifCond .ne 7, 3) := by decide +kernel
theorem dX6_begin_35 : decode cX6_begin 35 = .ok (.iconst 1, 1) := by decide +kernel
theorem dX6_begin_36 : decode cX6_begin 36 = .ok (.goto 4, 3) := by decide +kernel
theorem dX6_begin_39 : decode cX6_begin 39 = .ok (.iconst 0, 1) := by decide +kernel
theorem dX6_begin_40 : decode cX6_begin 40 = .ok (.iconst 1, 1) := by decide +kernel
theorem dX6_begin_41 : decode cX6_begin 41 = .ok (.invokevirtual 71, 3) := by decide +kernel
theorem dX6_begin_44 : decode cX6_begin 44 = .ok (.ifCond .ne 5, 3) := by decide +kernel
theorem dX6_begin_47 : decode cX6_begin 47 = .ok (.iconst 0, 1) := by decide +kernel
theorem dX6_begin_48 : decode cX6_begin 48 = .ok (.ireturn, 1) := by decide +kernel
theorem dX6_begin_49 : decode cX6_begin 49 = .ok (.aload_n 0, 1) := by decide +kernel
theorem dX6_begin_50 : decode cX6_begin 50 = .ok (.iconst 1, 1) := by decide +kernel
theorem dX6_begin_51 : decode cX6_begin 51 = .ok (.putfield 102, 3) := by decide +kernel
theorem dX6_begin_54 : decode cX6_begin 54 = .ok (.aload_n 0, 1) := by decide +kernel
theorem dX6_begin_55 : decode cX6_begin 55 = .ok (.iload_n 1, 1) := by decide +kernel
theorem dX6_begin_56 : decode cX6_begin 56 = .ok (.putfield 22, 3) := by decide +kernel
theorem dX6_begin_59 : decode cX6_begin 59 = .ok (.aload_n 0, 1) := by decide +kernel
theorem dX6_begin_60 : decode cX6_begin 60 = .ok (.iconst 0, 1) := by decide +kernel
theorem dX6_begin_61 : decode cX6_begin 61 = .ok (.putfield 109, 3) := by decide +kernel
theorem dX6_begin_64 : decode cX6_begin 64 = .ok (.aload_n 0, 1) := by decide +kernel
theorem dX6_begin_65 : decode cX6_begin 65 = .ok (.bipush 20, 2) := by decide +kernel
theorem dX6_begin_67 : decode cX6_begin 67 = .ok (.putfield 112, 3) := by decide +kernel
theorem dX6_begin_70 : decode cX6_begin 70 = .ok (.aload_n 0, 1) := by decide +kernel
theorem dX6_begin_71 : decode cX6_begin 71 = .ok (.iconst 0, 1) := by decide +kernel
theorem dX6_begin_72 : decode cX6_begin 72 = .ok (.putfield 115, 3) := by decide +kernel
theorem dX6_begin_75 : decode cX6_begin 75 = .ok (.aload_n 0, 1) := by decide +kernel
theorem dX6_begin_76 : decode cX6_begin 76 = .ok (.iconst 0, 1) := by decide +kernel
theorem dX6_begin_77 : decode cX6_begin 77 = .ok (.putfield 118, 3) := by decide +kernel
theorem dX6_begin_80 : decode cX6_begin 80 = .ok (.aload_n 0, 1) := by decide +kernel
theorem dX6_begin_81 : decode cX6_begin 81 = .ok (.iconst 0, 1) := by decide +kernel
theorem dX6_begin_82 : decode cX6_begin 82 = .ok (.putfield 121, 3) := by decide +kernel
theorem dX6_begin_85 : decode cX6_begin 85 = .ok (.aload_n 0, 1) := by decide +kernel
theorem dX6_begin_86 : decode cX6_begin 86 = .ok (.iconst 0, 1) := by decide +kernel
theorem dX6_begin_87 : decode cX6_begin 87 = .ok (.putfield 124, 3) := by decide +kernel
theorem dX6_begin_90 : decode cX6_begin 90 = .ok (.aload_n 0, 1) := by decide +kernel
theorem dX6_begin_91 : decode cX6_begin 91 = .ok (.dup, 1) := by decide +kernel
theorem dX6_begin_92 : decode cX6_begin 92 = .ok (.getfield 127, 3) := by decide +kernel
theorem dX6_begin_95 : decode cX6_begin 95 = .ok (.iconst 1, 1) := by decide +kernel
theorem dX6_begin_96 : decode cX6_begin 96 = .ok (.iadd, 1) := by decide +kernel
theorem dX6_begin_97 : decode cX6_begin 97 = .ok (.putfield 127, 3) := by decide +kernel
theorem dX6_begin_100 : decode cX6_begin 100 = .ok (.aload_n 0, 1) := by decide +kernel
theorem dX6_begin_101 : decode cX6_begin 101 = .ok (.getfield 127, 3) := by decide +kernel
theorem dX6_begin_104 : decode cX6_begin 104 = .ok (.ireturn, 1) := by decide +kernel
theorem dX6_drum_0 : decode cX6_drum 0 = .ok (.aload_n 0, 1) := by decide +kernel
theorem dX6_drum_1 : decode cX6_drum 1 = .ok (.iload_n 1, 1) := by decide +kernel
theorem dX6_drum_2 : decode cX6_drum 2 = .ok (.iconst 0, 1) := by decide +kernel
theorem dX6_drum_3 : decode cX6_drum 3 = .ok (.iconst 4, 1) := by decide +kernel
theorem dX6_drum_4 : decode cX6_drum 4 = .ok (.invokestatic 53, 3) := by decide +kernel
theorem dX6_drum_7 : decode cX6_drum 7 = .ok (.aload_n 0, 1) := by decide +kernel
theorem dX6_drum_8 : decode cX6_drum 8 = .ok (.getfield 102, 3) := by decide +kernel
theorem dX6_drum_11 : decode cX6_drum 11 = .ok (.iconst 1, 1) := by decide +kernel
theorem dX6_drum_12 : decode cX6_drum 12 = .ok (.invokevirtual 71, 3) := by decide +kernel
theorem dX6_drum_15 : decode cX6_drum 15 = .ok (.ifCond .ne 5, 3) := by decide +kernel
theorem dX6_drum_18 : decode cX6_drum 18 = .ok (.iconst 0, 1) := by decide +kernel
theorem dX6_drum_19 : decode cX6_drum 19 = .ok (.ireturn, 1) := by decide +kernel
theorem dX6_drum_20 : decode cX6_drum 20 = .ok (.iload_n 1, 1) := by decide +kernel
theorem dX6_drum_21 : decode cX6_drum 21 = .ok (.iconst 4, 1) := by decide +kernel
theorem dX6_drum_22 : decode cX6_drum 22 = .ok (.if_icmp .ne 11, 3) := by decide +kernel
theorem dX6_drum_25 : decode cX6_drum 25 = .ok (.aload_n 0, 1) := by decide +kernel
theorem dX6_drum_26 : decode cX6_drum 26 = .ok (.iconst 0, 1) := by decide +kernel
theorem dX6_drum_27 : decode cX6_drum 27 = .ok (.putfield 102, 3) := by decide +kernel
theorem dX6_drum_30 : decode cX6_drum 30 = .ok (.goto 61, 3) := by decide +kernel
theorem dX6_drum_33 : decode cX6_drum 33 = .ok (.iload_n 1, 1) := by decide +kernel
theorem dX6_drum_34 : decode cX6_drum 34 = .ok (.iconst 3, 1) := by decide +kernel
theorem dX6_drum_35 : decode cX6_drum 35 = .ok (.if_icmp .ne 51, 3) := by decide +kernel
theorem dX6_drum_38 : decode cX6_drum 38 = .ok (.aload_n 0, 1) := by decide +kernel
theorem dX6_drum_39 : decode cX6_drum 39 = .ok (.aload_n 0, 1) := by decide +kernel
theorem dX6_drum_40 : decode cX6_drum 40 = .ok (.getfield 124, 3) := by decide +kernel
theorem dX6_drum_43 : decode cX6_drum 43 = .ok (.ifCond .le 10, 3) := by decide +kernel
theorem dX6_drum_46 : decode cX6_drum 46 = .ok (.aload_n 0, 1) := by decide +kernel
theorem dX6_drum_47 : decode cX6_drum 47 = .ok (.getfield 124, 3) := by decide +kernel
theorem dX6_drum_50 : decode cX6_drum 50 = .ok (.goto 30, 3) := by decide +kernel
theorem dX6_drum_53 : decode cX6_drum 53 = .ok (.aload_n 0, 1) := by decide +kernel
theorem dX6_drum_54 : decode cX6_drum 54 = .ok (.getfield 118, 3) := by decide +kernel
theorem dX6_drum_57 : decode cX6_drum 57 = .ok (.iconst 2, 1) := by decide +kernel
theorem dX6_drum_58 : decode cX6_drum 58 = .ok (.aload_n 0, 1) := by decide +kernel
theorem dX6_drum_59 : decode cX6_drum 59 = .ok (.getfield 109, 3) := by decide +kernel
theorem dX6_drum_62 : decode cX6_drum 62 = .ok (.imul, 1) := by decide +kernel
theorem dX6_drum_63 : decode cX6_drum 63 = .ok (.aload_n 0, 1) := by decide +kernel
theorem dX6_drum_64 : decode cX6_drum 64 = .ok (.aload_n 0, 1) := by decide +kernel
theorem dX6_drum_65 : decode cX6_drum 65 = .ok (.getfield 22, 3) := by decide +kernel
theorem dX6_drum_68 : decode cX6_drum 68 = .ok (.invokevirtual 64, 3) := by decide +kernel
theorem dX6_drum_71 : decode cX6_drum 71 = .ok (.if_icmp .gt 7, 3) := by decide +kernel
theorem dX6_drum_74 : decode cX6_drum 74 = .ok (.iconst 1, 1) := by decide +kernel
theorem dX6_drum_75 : decode cX6_drum 75 = .ok (.goto 4, 3) := by decide +kernel
theorem dX6_drum_78 : decode cX6_drum 78 = .ok (.iconst 2, 1) := by decide +kernel
theorem dX6_drum_79 : decode cX6_drum 79 = .ok (.iadd, 1) := by decide +kernel
theorem dX6_drum_80 : decode cX6_drum 80 = .ok (.putfield 124, 3) := by decide +kernel
theorem dX6_drum_83 : decode cX6_drum 83 = .ok (.goto 8, 3) := by decide +kernel
theorem dX6_drum_86 : decode cX6_drum 86 = .ok (.aload_n 0, 1) := by decide +kernel
theorem dX6_drum_87 : decode cX6_drum 87 = .ok (.iload_n 1, 1) := by decide +kernel
theorem dX6_drum_88 : decode cX6_drum 88 = .ok (.putfield 121, 3) := by decide +kernel
theorem dX6_drum_91 : decode cX6_drum 91 = .ok (.aload_n 0, 1) := by decide +kernel
theorem dX6_drum_92 : decode cX6_drum 92 = .ok (.getfield 109, 3) := by decide +kernel
theorem dX6_drum_95 : decode cX6_drum 95 = .ok (.ireturn, 1) := by decide +kernel
theorem dX6_playsBeat_0 : decode cX6_playsBeat 0 = .ok (.aload_n 0, 1) := by decide +kernel
theorem dX6_playsBeat_1 : decode cX6_playsBeat 1 = .ok (.aload_n 0, 1) := by decide +kernel
theorem dX6_playsBeat_2 : decode cX6_playsBeat 2 = .ok (.getfield 109, 3) := by decide +kernel
theorem dX6_playsBeat_5 : decode cX6_playsBeat 5 = .ok (.aload_n 0, 1) := by decide +kernel
theorem dX6_playsBeat_6 : decode cX6_playsBeat 6 = .ok (.aload_n 0, 1) := by decide +kernel
theorem dX6_playsBeat_7 : decode cX6_playsBeat 7 = .ok (.getfield 22, 3) := by decide +kernel
theorem dX6_playsBeat_10 : decode cX6_playsBeat 10 = .ok (.invokevirtual 64, 3) := by decide +kernel
theorem dX6_playsBeat_13 : decode cX6_playsBeat 13 = .ok (.if_icmp .ne 7, 3) := by decide +kernel
theorem dX6_playsBeat_16 : decode cX6_playsBeat 16 = .ok (.iconst 1, 1) := by decide +kernel
theorem dX6_playsBeat_17 : decode cX6_playsBeat 17 = .ok (.goto 9, 3) := by decide +kernel
theorem dX6_playsBeat_20 : decode cX6_playsBeat 20 = .ok (.aload_n 0, 1) := by decide +kernel
theorem dX6_playsBeat_21 : decode cX6_playsBeat 21 = .ok (.getfield 109, 3) := by decide +kernel
theorem dX6_playsBeat_24 : decode cX6_playsBeat 24 = .ok (.iconst 1, 1) := by decide +kernel
theorem dX6_playsBeat_25 : decode cX6_playsBeat 25 = .ok (.iadd, 1) := by decide +kernel
theorem dX6_playsBeat_26 : decode cX6_playsBeat 26 = .ok (.putfield 109, 3) := by decide +kernel
theorem dX6_playsBeat_29 : decode cX6_playsBeat 29 = .ok (.aload_n 0, 1) := by decide +kernel
theorem dX6_playsBeat_30 : decode cX6_playsBeat 30 = .ok (.dup, 1) := by decide +kernel
theorem dX6_playsBeat_31 : decode cX6_playsBeat 31 = .ok (.getfield 130, 3) := by decide +kernel
theorem dX6_playsBeat_34 : decode cX6_playsBeat 34 = .ok (.aload_n 0, 1) := by decide +kernel
theorem dX6_playsBeat_35 : decode cX6_playsBeat 35 = .ok (.getfield 112, 3) := by decide +kernel
theorem dX6_playsBeat_38 : decode cX6_playsBeat 38 = .ok (.i2l, 1) := by decide +kernel
theorem dX6_playsBeat_39 : decode cX6_playsBeat 39 = .ok (.ladd, 1) := by decide +kernel
theorem dX6_playsBeat_40 : decode cX6_playsBeat 40 = .ok (.putfield 130, 3) := by decide +kernel
theorem dX6_playsBeat_43 : decode cX6_playsBeat 43 = .ok (.iconst 0, 1) := by decide +kernel
theorem dX6_playsBeat_44 : decode cX6_playsBeat 44 = .ok (.istore_n 1, 1) := by decide +kernel
theorem dX6_playsBeat_45 : decode cX6_playsBeat 45 = .ok (.iload_n 1, 1) := by decide +kernel
theorem dX6_playsBeat_46 : decode cX6_playsBeat 46 = .ok (.iconst 4, 1) := by decide +kernel
theorem dX6_playsBeat_47 : decode cX6_playsBeat 47 = .ok (.if_icmp .ge 27, 3) := by decide +kernel
theorem dX6_playsBeat_50 : decode cX6_playsBeat 50 = .ok (.aload_n 0, 1) := by decide +kernel
theorem dX6_playsBeat_51 : decode cX6_playsBeat 51 = .ok (.getfield 26, 3) := by decide +kernel
theorem dX6_playsBeat_54 : decode cX6_playsBeat 54 = .ok (.iload_n 1, 1) := by decide +kernel
theorem dX6_playsBeat_55 : decode cX6_playsBeat 55 = .ok (.dup2, 1) := by decide +kernel
theorem dX6_playsBeat_56 : decode cX6_playsBeat 56 = .ok (.laload, 1) := by decide +kernel
theorem dX6_playsBeat_57 : decode cX6_playsBeat 57 = .ok (.iload_n 1, 1) := by decide +kernel
theorem dX6_playsBeat_58 : decode cX6_playsBeat 58 = .ok (.aload_n 0, 1) := by decide +kernel
theorem dX6_playsBeat_59 : decode cX6_playsBeat 59 = .ok (.getfield 115, 3) := by decide +kernel
theorem dX6_playsBeat_62 : decode cX6_playsBeat 62 = .ok (.invokestatic 92, 3) := by decide +kernel
theorem dX6_playsBeat_65 : decode cX6_playsBeat 65 = .ok (.i2l, 1) := by decide +kernel
theorem dX6_playsBeat_66 : decode cX6_playsBeat 66 = .ok (.ladd, 1) := by decide +kernel
theorem dX6_playsBeat_67 : decode cX6_playsBeat 67 = .ok (.lastore, 1) := by decide +kernel
theorem dX6_playsBeat_68 : decode cX6_playsBeat 68 = .ok (.iinc 1 1, 3) := by decide +kernel
theorem dX6_playsBeat_71 : decode cX6_playsBeat 71 = .ok (.goto (-26), 3) := by decide +kernel
theorem dX6_playsBeat_74 : decode cX6_playsBeat 74 = .ok (.aload_n 0, 1) := by decide +kernel
theorem dX6_playsBeat_75 : decode cX6_playsBeat 75 = .ok (.getfield 112, 3) := by decide +kernel
theorem dX6_playsBeat_78 : decode cX6_playsBeat 78 = .ok (.aload_n 0, 1) := by decide +kernel
theorem dX6_playsBeat_79 : decode cX6_playsBeat 79 = .ok (.getfield 121, 3) := by decide +kernel
theorem dX6_playsBeat_82 : decode cX6_playsBeat 82 = .ok (.ifCond .ne 7, 3) := by decide +kernel
theorem dX6_playsBeat_85 : decode cX6_playsBeat 85 = .ok (.iconst 0, 1) := by decide +kernel
theorem dX6_playsBeat_86 : decode cX6_playsBeat 86 = .ok (.goto 17, 3) := by decide +kernel
theorem dX6_playsBeat_89 : decode cX6_playsBeat 89 = .ok (.aload_n 0, 1) := by decide +kernel
theorem dX6_playsBeat_90 : decode cX6_playsBeat 90 = .ok (.getfield 121, 3) := by decide +kernel
theorem dX6_playsBeat_93 : decode cX6_playsBeat 93 = .ok (.iconst 1, 1) := by decide +kernel
theorem dX6_playsBeat_94 : decode cX6_playsBeat 94 = .ok (.if_icmp .ne 7, 3) := by decide +kernel
theorem dX6_playsBeat_97 : decode cX6_playsBeat 97 = .ok (.iconst 2, 1) := by decide +kernel
theorem dX6_playsBeat_98 : decode cX6_playsBeat 98 = .ok (.goto 5, 3) := by decide +kernel
theorem dX6_playsBeat_101 : decode cX6_playsBeat 101 = .ok (.bipush (-2), 2) := by decide +kernel
theorem dX6_playsBeat_103 : decode cX6_playsBeat 103 = .ok (.iadd, 1) := by decide +kernel
theorem dX6_playsBeat_104 : decode cX6_playsBeat 104 = .ok (.istore_n 1, 1) := by decide +kernel
theorem dX6_playsBeat_105 : decode cX6_playsBeat 105 = .ok (.aload_n 0, 1) := by decide +kernel
theorem dX6_playsBeat_106 : decode cX6_playsBeat 106 = .ok (.iload_n 1, 1) := by decide +kernel
theorem dX6_playsBeat_107 : decode cX6_playsBeat 107 = .ok (.sipush 160, 3) := by decide +kernel
theorem dX6_playsBeat_110 : decode cX6_playsBeat 110 = .ok (.if_icmp .le 9, 3) := by decide +kernel
theorem dX6_playsBeat_113 : decode cX6_playsBeat 113 = .ok (.sipush 160, 3) := by decide +kernel
theorem dX6_playsBeat_116 : decode cX6_playsBeat 116 = .ok (.goto 15, 3) := by decide +kernel
theorem dX6_playsBeat_119 : decode cX6_playsBeat 119 = .ok (.iload_n 1, 1) := by decide +kernel
theorem dX6_playsBeat_120 : decode cX6_playsBeat 120 = .ok (.bipush 10, 2) := by decide +kernel
theorem dX6_playsBeat_122 : decode cX6_playsBeat 122 = .ok (.if_icmp .ge 8, 3) := by decide +kernel
theorem dX6_playsBeat_125 : decode cX6_playsBeat 125 = .ok (.bipush 10, 2) := by decide +kernel
theorem dX6_playsBeat_127 : decode cX6_playsBeat 127 = .ok (.goto 4, 3) := by decide +kernel
theorem dX6_playsBeat_130 : decode cX6_playsBeat 130 = .ok (.iload_n 1, 1) := by decide +kernel
theorem dX6_playsBeat_131 : decode cX6_playsBeat 131 = .ok (.putfield 112, 3) := by decide +kernel
theorem dX6_playsBeat_134 : decode cX6_playsBeat 134 = .ok (.aload_n 0, 1) := by decide +kernel
theorem dX6_playsBeat_135 : decode cX6_playsBeat 135 = .ok (.getfield 109, 3) := by decide +kernel
theorem dX6_playsBeat_138 : decode cX6_playsBeat 138 = .ok (.aload_n 0, 1) := by decide +kernel
theorem dX6_playsBeat_139 : decode cX6_playsBeat 139 = .ok (.aload_n 0, 1) := by decide +kernel
theorem dX6_playsBeat_140 : decode cX6_playsBeat 140 = .ok (.getfield 22, 3) := by decide +kernel
theorem dX6_playsBeat_143 : decode cX6_playsBeat 143 = .ok (.invokevirtual 64, 3) := by decide +kernel
theorem dX6_playsBeat_146 : decode cX6_playsBeat 146 = .ok (.if_icmp .ne 78, 3) := by decide +kernel
theorem dX6_playsBeat_149 : decode cX6_playsBeat 149 = .ok (.aload_n 0, 1) := by decide +kernel
theorem dX6_playsBeat_150 : decode cX6_playsBeat 150 = .ok (.aload_n 0, 1) := by decide +kernel
theorem dX6_playsBeat_151 : decode cX6_playsBeat 151 = .ok (.getfield 112, 3) := by decide +kernel
theorem dX6_playsBeat_154 : decode cX6_playsBeat 154 = .ok (.sipush 160, 3) := by decide +kernel
theorem dX6_playsBeat_157 : decode cX6_playsBeat 157 = .ok (.if_icmp .lt 7, 3) := by decide +kernel
theorem dX6_playsBeat_160 : decode cX6_playsBeat 160 = .ok (.iconst 3, 1) := by decide +kernel
theorem dX6_playsBeat_161 : decode cX6_playsBeat 161 = .ok (.goto 30, 3) := by decide +kernel
theorem dX6_playsBeat_164 : decode cX6_playsBeat 164 = .ok (.aload_n 0, 1) := by decide +kernel
theorem dX6_playsBeat_165 : decode cX6_playsBeat 165 = .ok (.getfield 112, 3) := by decide +kernel
theorem dX6_playsBeat_168 : decode cX6_playsBeat 168 = .ok (.bipush 80, 2) := by decide +kernel
theorem dX6_playsBeat_170 : decode cX6_playsBeat 170 = .ok (.if_icmp .lt 7, 3) := by decide +kernel
theorem dX6_playsBeat_173 : decode cX6_playsBeat 173 = .ok (.iconst 2, 1) := by decide +kernel
theorem dX6_playsBeat_174 : decode cX6_playsBeat 174 = .ok (.goto 17, 3) := by decide +kernel
theorem dX6_playsBeat_177 : decode cX6_playsBeat 177 = .ok (.aload_n 0, 1) := by decide +kernel
theorem dX6_playsBeat_178 : decode cX6_playsBeat 178 = .ok (.getfield 112, 3) := by decide +kernel
theorem dX6_playsBeat_181 : decode cX6_playsBeat 181 = .ok (.bipush 40, 2) := by decide +kernel
theorem dX6_playsBeat_183 : decode cX6_playsBeat 183 = .ok (.if_icmp .lt 7, 3) := by decide +kernel
theorem dX6_playsBeat_186 : decode cX6_playsBeat 186 = .ok (.iconst 1, 1) := by decide +kernel
theorem dX6_playsBeat_187 : decode cX6_playsBeat 187 = .ok (.goto 4, 3) := by decide +kernel
theorem dX6_playsBeat_190 : decode cX6_playsBeat 190 = .ok (.iconst 0, 1) := by decide +kernel
theorem dX6_playsBeat_191 : decode cX6_playsBeat 191 = .ok (.putfield 115, 3) := by decide +kernel
theorem dX6_playsBeat_194 : decode cX6_playsBeat 194 = .ok (.aload_n 0, 1) := by decide +kernel
theorem dX6_playsBeat_195 : decode cX6_playsBeat 195 = .ok (.dup, 1) := by decide +kernel
theorem dX6_playsBeat_196 : decode cX6_playsBeat 196 = .ok (.getfield 118, 3) := by decide +kernel
theorem dX6_playsBeat_199 : decode cX6_playsBeat 199 = .ok (.iconst 1, 1) := by decide +kernel
theorem dX6_playsBeat_200 : decode cX6_playsBeat 200 = .ok (.iadd, 1) := by decide +kernel
theorem dX6_playsBeat_201 : decode cX6_playsBeat 201 = .ok (.putfield 118, 3) := by decide +kernel
theorem dX6_playsBeat_204 : decode cX6_playsBeat 204 = .ok (.aload_n 0, 1) := by decide +kernel
theorem dX6_playsBeat_205 : decode cX6_playsBeat 205 = .ok (.aload_n 0, 1) := by decide +kernel
theorem dX6_playsBeat_206 : decode cX6_playsBeat 206 = .ok (.getfield 118, 3) := by decide +kernel
theorem dX6_playsBeat_209 : decode cX6_playsBeat 209 = .ok (.aload_n 0, 1) := by decide +kernel
theorem dX6_playsBeat_210 : decode cX6_playsBeat 210 = .ok (.getfield 124, 3) := by decide +kernel
theorem dX6_playsBeat_213 : decode cX6_playsBeat 213 = .ok (.if_icmp .eq 7, 3) := by decide +kernel
theorem dX6_playsBeat_216 : decode cX6_playsBeat 216 = .ok (.iconst 1, 1) := by decide +kernel
theorem dX6_playsBeat_217 : decode cX6_playsBeat 217 = .ok (.goto 4, 3) := by decide +kernel
theorem dX6_playsBeat_220 : decode cX6_playsBeat 220 = .ok (.iconst 0, 1) := by decide +kernel
theorem dX6_playsBeat_221 : decode cX6_playsBeat 221 = .ok (.putfield 102, 3) := by decide +kernel
theorem dX6_playsBeat_224 : decode cX6_playsBeat 224 = .ok (.return_, 1) := by decide +kernel
theorem dX6_beats_0 : decode cX6_beats 0 = .ok (.aload_n 0, 1) := by decide +kernel
theorem dX6_beats_1 : decode cX6_beats 1 = .ok (.iload_n 1, 1) := by decide +kernel
theorem dX6_beats_2 : decode cX6_beats 2 = .ok (.iconst 1, 1) := by decide +kernel
theorem dX6_beats_3 : decode cX6_beats 3 = .ok (.bipush 100, 2) := by decide +kernel
theorem dX6_beats_5 : decode cX6_beats 5 = .ok (.invokestatic 53, 3) := by decide +kernel
theorem dX6_beats_8 : decode cX6_beats 8 = .ok (.aload_n 0, 1) := by decide +kernel
theorem dX6_beats_9 : decode cX6_beats 9 = .ok (.getfield 102, 3) := by decide +kernel
theorem dX6_beats_12 : decode cX6_beats 12 = .ok (.iconst 1, 1) := by decide +kernel
theorem dX6_beats_13 : decode cX6_beats 13 = .ok (.invokevirtual 71, 3) := by decide +kernel
theorem dX6_beats_16 : decode cX6_beats 16 = .ok (.ifCond .ne 5, 3) := by decide +kernel
theorem dX6_beats_19 : decode cX6_beats 19 = .ok (.iconst 0, 1) := by decide +kernel
theorem dX6_beats_20 : decode cX6_beats 20 = .ok (.ireturn, 1) := by decide +kernel
theorem dX6_beats_21 : decode cX6_beats 21 = .ok (.iconst 0, 1) := by decide +kernel
theorem dX6_beats_22 : decode cX6_beats 22 = .ok (.istore_n 2, 1) := by decide +kernel
theorem dX6_beats_23 : decode cX6_beats 23 = .ok (.iload_n 2, 1) := by decide +kernel
theorem dX6_beats_24 : decode cX6_beats 24 = .ok (.iload_n 1, 1) := by decide +kernel
theorem dX6_beats_25 : decode cX6_beats 25 = .ok (.if_icmp .ge 20, 3) := by decide +kernel
theorem dX6_beats_28 : decode cX6_beats 28 = .ok (.aload_n 0, 1) := by decide +kernel
theorem dX6_beats_29 : decode cX6_beats 29 = .ok (.getfield 102, 3) := by decide +kernel
theorem dX6_beats_32 : decode cX6_beats 32 = .ok (.ifCond .eq 13, 3) := by decide +kernel
theorem dX6_beats_35 : decode cX6_beats 35 = .ok (.aload_n 0, 1) := by decide +kernel
theorem dX6_beats_36 : decode cX6_beats 36 = .ok (.invokevirtual 134, 3) := by decide +kernel
theorem dX6_beats_39 : decode cX6_beats 39 = .ok (.iinc 2 1, 3) := by decide +kernel
theorem dX6_beats_42 : decode cX6_beats 42 = .ok (.goto (-19), 3) := by decide +kernel
theorem dX6_beats_45 : decode cX6_beats 45 = .ok (.iload_n 2, 1) := by decide +kernel
theorem dX6_beats_46 : decode cX6_beats 46 = .ok (.ireturn, 1) := by decide +kernel
theorem dX6_now_0 : decode cX6_now 0 = .ok (.aload_n 0, 1) := by decide +kernel
theorem dX6_now_1 : decode cX6_now 1 = .ok (.iload_n 1, 1) := by decide +kernel
theorem dX6_now_2 : decode cX6_now 2 = .ok (.iconst 0, 1) := by decide +kernel
theorem dX6_now_3 : decode cX6_now 3 = .ok (.iconst 5, 1) := by decide +kernel
theorem dX6_now_4 : decode cX6_now 4 = .ok (.invokestatic 53, 3) := by decide +kernel
theorem dX6_now_7 : decode cX6_now 7 = .ok (.iconst 1, 1) := by decide +kernel
theorem dX6_now_8 : decode cX6_now 8 = .ok (.iconst 1, 1) := by decide +kernel
theorem dX6_now_9 : decode cX6_now 9 = .ok (.invokevirtual 71, 3) := by decide +kernel
theorem dX6_now_12 : decode cX6_now 12 = .ok (.ifCond .ne 5, 3) := by decide +kernel
theorem dX6_now_15 : decode cX6_now 15 = .ok (.iconst 0, 1) := by decide +kernel
theorem dX6_now_16 : decode cX6_now 16 = .ok (.ireturn, 1) := by decide +kernel
theorem dX6_now_17 : decode cX6_now 17 = .ok (.iload_n 1, 1) := by decide +kernel
theorem dX6_now_18 : decode cX6_now 18 = .ok (.ifCond .ne 10, 3) := by decide +kernel
theorem dX6_now_21 : decode cX6_now 21 = .ok (.aload_n 0, 1) := by decide +kernel
theorem dX6_now_22 : decode cX6_now 22 = .ok (.getfield 109, 3) := by decide +kernel
theorem dX6_now_25 : decode cX6_now 25 = .ok (.goto 63, 3) := by decide +kernel
theorem dX6_now_28 : decode cX6_now 28 = .ok (.iload_n 1, 1) := by decide +kernel
theorem dX6_now_29 : decode cX6_now 29 = .ok (.iconst 1, 1) := by decide +kernel
theorem dX6_now_30 : decode cX6_now 30 = .ok (.if_icmp .ne 10, 3) := by decide +kernel
theorem dX6_now_33 : decode cX6_now 33 = .ok (.aload_n 0, 1) := by decide +kernel
theorem dX6_now_34 : decode cX6_now 34 = .ok (.getfield 112, 3) := by decide +kernel
theorem dX6_now_37 : decode cX6_now 37 = .ok (.goto 51, 3) := by decide +kernel
theorem dX6_now_40 : decode cX6_now 40 = .ok (.iload_n 1, 1) := by decide +kernel
theorem dX6_now_41 : decode cX6_now 41 = .ok (.iconst 2, 1) := by decide +kernel
theorem dX6_now_42 : decode cX6_now 42 = .ok (.if_icmp .ne 10, 3) := by decide +kernel
theorem dX6_now_45 : decode cX6_now 45 = .ok (.aload_n 0, 1) := by decide +kernel
theorem dX6_now_46 : decode cX6_now 46 = .ok (.getfield 115, 3) := by decide +kernel
theorem dX6_now_49 : decode cX6_now 49 = .ok (.goto 39, 3) := by decide +kernel
theorem dX6_now_52 : decode cX6_now 52 = .ok (.iload_n 1, 1) := by decide +kernel
theorem dX6_now_53 : decode cX6_now 53 = .ok (.iconst 3, 1) := by decide +kernel
theorem dX6_now_54 : decode cX6_now 54 = .ok (.if_icmp .ne 10, 3) := by decide +kernel
theorem dX6_now_57 : decode cX6_now 57 = .ok (.aload_n 0, 1) := by decide +kernel
theorem dX6_now_58 : decode cX6_now 58 = .ok (.getfield 118, 3) := by decide +kernel
theorem dX6_now_61 : decode cX6_now 61 = .ok (.goto 27, 3) := by decide +kernel
theorem dX6_now_64 : decode cX6_now 64 = .ok (.iload_n 1, 1) := by decide +kernel
theorem dX6_now_65 : decode cX6_now 65 = .ok (.iconst 4, 1) := by decide +kernel
theorem dX6_now_66 : decode cX6_now 66 = .ok (.if_icmp .ne 18, 3) := by decide +kernel
theorem dX6_now_69 : decode cX6_now 69 = .ok (.aload_n 0, 1) := by decide +kernel
theorem dX6_now_70 : decode cX6_now 70 = .ok (.getfield 102, 3) := by decide +kernel
theorem dX6_now_73 : decode cX6_now 73 = .ok (.ifCond .eq 7, 3) := by decide +kernel
theorem dX6_now_76 : decode cX6_now 76 = .ok (.iconst 1, 1) := by decide +kernel
theorem dX6_now_77 : decode cX6_now 77 = .ok (.goto 11, 3) := by decide +kernel
theorem dX6_now_80 : decode cX6_now 80 = .ok (.iconst 0, 1) := by decide +kernel
theorem dX6_now_81 : decode cX6_now 81 = .ok (.goto 7, 3) := by decide +kernel
theorem dX6_now_84 : decode cX6_now 84 = .ok (.aload_n 0, 1) := by decide +kernel
theorem dX6_now_85 : decode cX6_now 85 = .ok (.getfield 22, 3) := by decide +kernel
theorem dX6_now_88 : decode cX6_now 88 = .ok (.ireturn, 1) := by decide +kernel
theorem dX6_ticks_0 : decode cX6_ticks 0 = .ok (.aload_n 0, 1) := by decide +kernel
theorem dX6_ticks_1 : decode cX6_ticks 1 = .ok (.iconst 0, 1) := by decide +kernel
theorem dX6_ticks_2 : decode cX6_ticks 2 = .ok (.putfield 47, 3) := by decide +kernel
theorem dX6_ticks_5 : decode cX6_ticks 5 = .ok (.aload_n 0, 1) := by decide +kernel
theorem dX6_ticks_6 : decode cX6_ticks 6 = .ok (.getfield 130, 3) := by decide +kernel
theorem dX6_ticks_9 : decode cX6_ticks 9 = .ok (.lreturn, 1) := by decide +kernel
theorem dX6_strokes_0 : decode cX6_strokes 0 = .ok (.aload_n 0, 1) := by decide +kernel
theorem dX6_strokes_1 : decode cX6_strokes 1 = .ok (.iload_n 1, 1) := by decide +kernel
theorem dX6_strokes_2 : decode cX6_strokes 2 = .ok (.invokestatic 89, 3) := by decide +kernel
theorem dX6_strokes_5 : decode cX6_strokes 5 = .ok (.iconst 1, 1) := by decide +kernel
theorem dX6_strokes_6 : decode cX6_strokes 6 = .ok (.iconst 1, 1) := by decide +kernel
theorem dX6_strokes_7 : decode cX6_strokes 7 = .ok (.invokevirtual 71, 3) := by decide +kernel
theorem dX6_strokes_10 : decode cX6_strokes 10 = .ok (.ifCond .eq 12, 3) := by decide +kernel
theorem dX6_strokes_13 : decode cX6_strokes 13 = .ok (.aload_n 0, 1) := by decide +kernel
theorem dX6_strokes_14 : decode cX6_strokes 14 = .ok (.getfield 26, 3) := by decide +kernel
theorem dX6_strokes_17 : decode cX6_strokes 17 = .ok (.iload_n 1, 1) := by decide +kernel
theorem dX6_strokes_18 : decode cX6_strokes 18 = .ok (.laload, 1) := by decide +kernel
theorem dX6_strokes_19 : decode cX6_strokes 19 = .ok (.goto 4, 3) := by decide +kernel
theorem dX6_strokes_22 : decode cX6_strokes 22 = .ok (.lconst 0, 1) := by decide +kernel
theorem dX6_strokes_23 : decode cX6_strokes 23 = .ok (.lreturn, 1) := by decide +kernel
theorem dX6_days_0 : decode cX6_days 0 = .ok (.aload_n 0, 1) := by decide +kernel
theorem dX6_days_1 : decode cX6_days 1 = .ok (.iload_n 1, 1) := by decide +kernel
theorem dX6_days_2 : decode cX6_days 2 = .ok (.iconst 1, 1) := by decide +kernel
theorem dX6_days_3 : decode cX6_days 3 = .ok (.bipush 100, 2) := by decide +kernel
theorem dX6_days_5 : decode cX6_days 5 = .ok (.invokestatic 53, 3) := by decide +kernel
theorem dX6_days_8 : decode cX6_days 8 = .ok (.aload_n 0, 1) := by decide +kernel
theorem dX6_days_9 : decode cX6_days 9 = .ok (.getfield 102, 3) := by decide +kernel
theorem dX6_days_12 : decode cX6_days 12 = .ok (.ifCond .ne 7, 3) := by decide +kernel
theorem dX6_days_15 : decode cX6_days 15 = .ok (.iconst 1, 1) := by decide +kernel
theorem dX6_days_16 : decode cX6_days 16 = .ok (.goto 4, 3) := by decide +kernel
theorem dX6_days_19 : decode cX6_days 19 = .ok (.iconst 0, 1) := by decide +kernel
theorem dX6_days_20 : decode cX6_days 20 = .ok (.iconst 1, 1) := by decide +kernel
theorem dX6_days_21 : decode cX6_days 21 = .ok (.invokevirtual 71, 3) := by decide +kernel
theorem dX6_days_24 : decode cX6_days 24 = .ok (.ifCond .ne 5, 3) := by decide +kernel
theorem dX6_days_27 : decode cX6_days 27 = .ok (.iconst 0, 1) := by decide +kernel
theorem dX6_days_28 : decode cX6_days 28 = .ok (.ireturn, 1) := by decide +kernel
theorem dX6_days_29 : decode cX6_days 29 = .ok (.aload_n 0, 1) := by decide +kernel
theorem dX6_days_30 : decode cX6_days 30 = .ok (.aload_n 0, 1) := by decide +kernel
theorem dX6_days_31 : decode cX6_days 31 = .ok (.getfield 106, 3) := by decide +kernel
theorem dX6_days_34 : decode cX6_days 34 = .ok (.iload_n 1, 1) := by decide +kernel
theorem dX6_days_35 : decode cX6_days 35 = .ok (.iadd, 1) := by decide +kernel
theorem dX6_days_36 : decode cX6_days 36 = .ok (.iconst 5, 1) := by decide +kernel
theorem dX6_days_37 : decode cX6_days 37 = .ok (.irem, 1) := by decide +kernel
theorem dX6_days_38 : decode cX6_days 38 = .ok (.putfield 106, 3) := by decide +kernel
theorem dX6_days_41 : decode cX6_days 41 = .ok (.aload_n 0, 1) := by decide +kernel
theorem dX6_days_42 : decode cX6_days 42 = .ok (.getfield 106, 3) := by decide +kernel
theorem dX6_days_45 : decode cX6_days 45 = .ok (.ireturn, 1) := by decide +kernel
theorem dX6_isSet_0 : decode cX6_isSet 0 = .ok (.iload_n 0, 1) := by decide +kernel
theorem dX6_isSet_1 : decode cX6_isSet 1 = .ok (.iconst 0, 1) := by decide +kernel
theorem dX6_isSet_2 : decode cX6_isSet 2 = .ok (.iconst 3, 1) := by decide +kernel
theorem dX6_isSet_3 : decode cX6_isSet 3 = .ok (.invokestatic 53, 3) := by decide +kernel
theorem dX6_isSet_6 : decode cX6_isSet 6 = .ok (.ireturn, 1) := by decide +kernel
theorem dX6_pitch_0 : decode cX6_pitch 0 = .ok (.aload_n 0, 1) := by decide +kernel
theorem dX6_pitch_1 : decode cX6_pitch 1 = .ok (.iload_n 1, 1) := by decide +kernel
theorem dX6_pitch_2 : decode cX6_pitch 2 = .ok (.invokestatic 137, 3) := by decide +kernel
theorem dX6_pitch_5 : decode cX6_pitch 5 = .ok (.ifCond .eq 17, 3) := by decide +kernel
theorem dX6_pitch_8 : decode cX6_pitch 8 = .ok (.iload_n 2, 1) := by decide +kernel
theorem dX6_pitch_9 : decode cX6_pitch 9 = .ok (.iconst 1, 1) := by decide +kernel
theorem dX6_pitch_10 : decode cX6_pitch 10 = .ok (.bipush 7, 2) := by decide +kernel
theorem dX6_pitch_12 : decode cX6_pitch 12 = .ok (.invokestatic 53, 3) := by decide +kernel
theorem dX6_pitch_15 : decode cX6_pitch 15 = .ok (.ifCond .eq 7, 3) := by decide +kernel
theorem dX6_pitch_18 : decode cX6_pitch 18 = .ok (.iconst 1, 1) := by decide +kernel
theorem dX6_pitch_19 : decode cX6_pitch 19 = .ok (.goto 4, 3) := by decide +kernel
theorem dX6_pitch_22 : decode cX6_pitch 22 = .ok (.iconst 0, 1) := by decide +kernel
theorem dX6_pitch_23 : decode cX6_pitch 23 = .ok (.iload_n 3, 1) := by decide +kernel
theorem dX6_pitch_24 : decode cX6_pitch 24 = .ok (.sipush 5000, 3) := by decide +kernel
theorem dX6_pitch_27 : decode cX6_pitch 27 = .ok (.ldc 140, 2) := by decide +kernel
theorem dX6_pitch_29 : decode cX6_pitch 29 = .ok (.invokestatic 53, 3) := by decide +kernel
theorem dX6_pitch_32 : decode cX6_pitch 32 = .ok (.iconst 1, 1) := by decide +kernel
theorem dX6_pitch_33 : decode cX6_pitch 33 = .ok (.invokevirtual 71, 3) := by decide +kernel
theorem dX6_pitch_36 : decode cX6_pitch 36 = .ok (.ifCond .ne 5, 3) := by decide +kernel
theorem dX6_pitch_39 : decode cX6_pitch 39 = .ok (.iconst 0, 1) := by decide +kernel
theorem dX6_pitch_40 : decode cX6_pitch 40 = .ok (.ireturn, 1) := by decide +kernel
theorem dX6_pitch_41 : decode cX6_pitch 41 = .ok (.aload_n 0, 1) := by decide +kernel
theorem dX6_pitch_42 : decode cX6_pitch 42 = .ok (.getfield 30, 3) := by decide +kernel
theorem dX6_pitch_45 : decode cX6_pitch 45 = .ok (.bipush 8, 2) := by decide +kernel
theorem dX6_pitch_47 : decode cX6_pitch 47 = .ok (.iload_n 1, 1) := by decide +kernel
theorem dX6_pitch_48 : decode cX6_pitch 48 = .ok (.imul, 1) := by decide +kernel
theorem dX6_pitch_49 : decode cX6_pitch 49 = .ok (.iload_n 2, 1) := by decide +kernel
theorem dX6_pitch_50 : decode cX6_pitch 50 = .ok (.iadd, 1) := by decide +kernel
theorem dX6_pitch_51 : decode cX6_pitch 51 = .ok (.iaload, 1) := by decide +kernel
theorem dX6_pitch_52 : decode cX6_pitch 52 = .ok (.istore 4, 2) := by decide +kernel
theorem dX6_pitch_54 : decode cX6_pitch 54 = .ok (.aload_n 0, 1) := by decide +kernel
theorem dX6_pitch_55 : decode cX6_pitch 55 = .ok (.getfield 30, 3) := by decide +kernel
theorem dX6_pitch_58 : decode cX6_pitch 58 = .ok (.bipush 8, 2) := by decide +kernel
theorem dX6_pitch_60 : decode cX6_pitch 60 = .ok (.iload_n 1, 1) := by decide +kernel
theorem dX6_pitch_61 : decode cX6_pitch 61 = .ok (.imul, 1) := by decide +kernel
theorem dX6_pitch_62 : decode cX6_pitch 62 = .ok (.iload_n 2, 1) := by decide +kernel
theorem dX6_pitch_63 : decode cX6_pitch 63 = .ok (.iadd, 1) := by decide +kernel
theorem dX6_pitch_64 : decode cX6_pitch 64 = .ok (.iload_n 3, 1) := by decide +kernel
theorem dX6_pitch_65 : decode cX6_pitch 65 = .ok (.iastore, 1) := by decide +kernel
theorem dX6_pitch_66 : decode cX6_pitch 66 = .ok (.iload 4, 2) := by decide +kernel
theorem dX6_pitch_68 : decode cX6_pitch 68 = .ok (.ireturn, 1) := by decide +kernel
theorem dX6_drift_0 : decode cX6_drift 0 = .ok (.aload_n 0, 1) := by decide +kernel
theorem dX6_drift_1 : decode cX6_drift 1 = .ok (.iload_n 1, 1) := by decide +kernel
theorem dX6_drift_2 : decode cX6_drift 2 = .ok (.invokestatic 137, 3) := by decide +kernel
theorem dX6_drift_5 : decode cX6_drift 5 = .ok (.iload_n 2, 1) := by decide +kernel
theorem dX6_drift_6 : decode cX6_drift 6 = .ok (.iconst 0, 1) := by decide +kernel
theorem dX6_drift_7 : decode cX6_drift 7 = .ok (.bipush 50, 2) := by decide +kernel
theorem dX6_drift_9 : decode cX6_drift 9 = .ok (.invokestatic 53, 3) := by decide +kernel
theorem dX6_drift_12 : decode cX6_drift 12 = .ok (.iconst 1, 1) := by decide +kernel
theorem dX6_drift_13 : decode cX6_drift 13 = .ok (.invokevirtual 71, 3) := by decide +kernel
theorem dX6_drift_16 : decode cX6_drift 16 = .ok (.ifCond .ne 5, 3) := by decide +kernel
theorem dX6_drift_19 : decode cX6_drift 19 = .ok (.iconst 0, 1) := by decide +kernel
theorem dX6_drift_20 : decode cX6_drift 20 = .ok (.ireturn, 1) := by decide +kernel
theorem dX6_drift_21 : decode cX6_drift 21 = .ok (.aload_n 0, 1) := by decide +kernel
theorem dX6_drift_22 : decode cX6_drift 22 = .ok (.getfield 33, 3) := by decide +kernel
theorem dX6_drift_25 : decode cX6_drift 25 = .ok (.iload_n 1, 1) := by decide +kernel
theorem dX6_drift_26 : decode cX6_drift 26 = .ok (.iaload, 1) := by decide +kernel
theorem dX6_drift_27 : decode cX6_drift 27 = .ok (.istore_n 3, 1) := by decide +kernel
theorem dX6_drift_28 : decode cX6_drift 28 = .ok (.aload_n 0, 1) := by decide +kernel
theorem dX6_drift_29 : decode cX6_drift 29 = .ok (.getfield 33, 3) := by decide +kernel
theorem dX6_drift_32 : decode cX6_drift 32 = .ok (.iload_n 1, 1) := by decide +kernel
theorem dX6_drift_33 : decode cX6_drift 33 = .ok (.iload_n 2, 1) := by decide +kernel
theorem dX6_drift_34 : decode cX6_drift 34 = .ok (.iastore, 1) := by decide +kernel
theorem dX6_drift_35 : decode cX6_drift 35 = .ok (.iload_n 3, 1) := by decide +kernel
theorem dX6_drift_36 : decode cX6_drift 36 = .ok (.ireturn, 1) := by decide +kernel
theorem dX6_years_0 : decode cX6_years 0 = .ok (.iload_n 1, 1) := by decide +kernel
theorem dX6_years_1 : decode cX6_years 1 = .ok (.iconst 1, 1) := by decide +kernel
theorem dX6_years_2 : decode cX6_years 2 = .ok (.bipush 30, 2) := by decide +kernel
theorem dX6_years_4 : decode cX6_years 4 = .ok (.invokestatic 53, 3) := by decide +kernel
theorem dX6_years_7 : decode cX6_years 7 = .ok (.istore_n 2, 1) := by decide +kernel
theorem dX6_years_8 : decode cX6_years 8 = .ok (.aload_n 0, 1) := by decide +kernel
theorem dX6_years_9 : decode cX6_years 9 = .ok (.iload_n 2, 1) := by decide +kernel
theorem dX6_years_10 : decode cX6_years 10 = .ok (.iload_n 2, 1) := by decide +kernel
theorem dX6_years_11 : decode cX6_years 11 = .ok (.ifCond .eq 19, 3) := by decide +kernel
theorem dX6_years_14 : decode cX6_years 14 = .ok (.aload_n 0, 1) := by decide +kernel
theorem dX6_years_15 : decode cX6_years 15 = .ok (.getfield 141, 3) := by decide +kernel
theorem dX6_years_18 : decode cX6_years 18 = .ok (.iload_n 1, 1) := by decide +kernel
theorem dX6_years_19 : decode cX6_years 19 = .ok (.iadd, 1) := by decide +kernel
theorem dX6_years_20 : decode cX6_years 20 = .ok (.sipush 300, 3) := by decide +kernel
theorem dX6_years_23 : decode cX6_years 23 = .ok (.if_icmp .gt 7, 3) := by decide +kernel
theorem dX6_years_26 : decode cX6_years 26 = .ok (.iconst 1, 1) := by decide +kernel
theorem dX6_years_27 : decode cX6_years 27 = .ok (.goto 4, 3) := by decide +kernel
theorem dX6_years_30 : decode cX6_years 30 = .ok (.iconst 0, 1) := by decide +kernel
theorem dX6_years_31 : decode cX6_years 31 = .ok (.iconst 1, 1) := by decide +kernel
theorem dX6_years_32 : decode cX6_years 32 = .ok (.invokevirtual 71, 3) := by decide +kernel
theorem dX6_years_35 : decode cX6_years 35 = .ok (.ifCond .ne 5, 3) := by decide +kernel
theorem dX6_years_38 : decode cX6_years 38 = .ok (.iconst 0, 1) := by decide +kernel
theorem dX6_years_39 : decode cX6_years 39 = .ok (.ireturn, 1) := by decide +kernel
theorem dX6_years_40 : decode cX6_years 40 = .ok (.iconst 0, 1) := by decide +kernel
theorem dX6_years_41 : decode cX6_years 41 = .ok (.istore_n 3, 1) := by decide +kernel
theorem dX6_years_42 : decode cX6_years 42 = .ok (.iload_n 3, 1) := by decide +kernel
theorem dX6_years_43 : decode cX6_years 43 = .ok (.iload_n 1, 1) := by decide +kernel
theorem dX6_years_44 : decode cX6_years 44 = .ok (.if_icmp .ge 80, 3) := by decide +kernel
theorem dX6_years_47 : decode cX6_years 47 = .ok (.iconst 0, 1) := by decide +kernel
theorem dX6_years_48 : decode cX6_years 48 = .ok (.istore 4, 2) := by decide +kernel
theorem dX6_years_50 : decode cX6_years 50 = .ok (.iload 4, 2) := by decide +kernel
theorem dX6_years_52 : decode cX6_years 52 = .ok (.bipush 32, 2) := by decide +kernel
theorem dX6_years_54 : decode cX6_years 54 = .ok (.if_icmp .ge 64, 3) := by decide +kernel
theorem dX6_years_57 : decode cX6_years 57 = .ok (.aload_n 0, 1) := by decide +kernel
theorem dX6_years_58 : decode cX6_years 58 = .ok (.getfield 30, 3) := by decide +kernel
theorem dX6_years_61 : decode cX6_years 61 = .ok (.iload 4, 2) := by decide +kernel
theorem dX6_years_63 : decode cX6_years 63 = .ok (.iaload, 1) := by decide +kernel
theorem dX6_years_64 : decode cX6_years 64 = .ok (.aload_n 0, 1) := by decide +kernel
theorem dX6_years_65 : decode cX6_years 65 = .ok (.getfield 30, 3) := by decide +kernel
theorem dX6_years_68 : decode cX6_years 68 = .ok (.iload 4, 2) := by decide +kernel
theorem dX6_years_70 : decode cX6_years 70 = .ok (.iaload, 1) := by decide +kernel
theorem dX6_years_71 : decode cX6_years 71 = .ok (.aload_n 0, 1) := by decide +kernel
theorem dX6_years_72 : decode cX6_years 72 = .ok (.getfield 33, 3) := by decide +kernel
theorem dX6_years_75 : decode cX6_years 75 = .ok (.iload 4, 2) := by decide +kernel
theorem dX6_years_77 : decode cX6_years 77 = .ok (.bipush 8, 2) := by decide +kernel
theorem dX6_years_79 : decode cX6_years 79 = .ok (.idiv, 1) := by decide +kernel
theorem dX6_years_80 : decode cX6_years 80 = .ok (.iaload, 1) := by decide +kernel
theorem dX6_years_81 : decode cX6_years 81 = .ok (.imul, 1) := by decide +kernel
theorem dX6_years_82 : decode cX6_years 82 = .ok (.sipush 10000, 3) := by decide +kernel
theorem dX6_years_85 : decode cX6_years 85 = .ok (.idiv, 1) := by decide +kernel
theorem dX6_years_86 : decode cX6_years 86 = .ok (.isub, 1) := by decide +kernel
theorem dX6_years_87 : decode cX6_years 87 = .ok (.istore 5, 2) := by decide +kernel
theorem dX6_years_89 : decode cX6_years 89 = .ok (.aload_n 0, 1) := by decide +kernel
theorem dX6_years_90 : decode cX6_years 90 = .ok (.getfield 30, 3) := by decide +kernel
theorem dX6_years_93 : decode cX6_years 93 = .ok (.iload 4, 2) := by decide +kernel
theorem dX6_years_95 : decode cX6_years 95 = .ok (.iload 5, 2) := by decide +kernel
theorem dX6_years_97 : decode cX6_years 97 = .ok (.sipush 5000, 3) := by decide +kernel
theorem dX6_years_100 : decode cX6_years 100 = .ok (.if_icmp .ge 9, 3) := by decide +kernel
theorem dX6_years_103 : decode cX6_years 103 = .ok (.sipush 5000, 3) := by decide +kernel
theorem dX6_years_106 : decode cX6_years 106 = .ok (.goto 5, 3) := by decide +kernel
theorem dX6_years_109 : decode cX6_years 109 = .ok (.iload 5, 2) := by decide +kernel
theorem dX6_years_111 : decode cX6_years 111 = .ok (.iastore, 1) := by decide +kernel
theorem dX6_years_112 : decode cX6_years 112 = .ok (.iinc 4 1, 3) := by decide +kernel
theorem dX6_years_115 : decode cX6_years 115 = .ok (.goto (-65), 3) := by decide +kernel
theorem dX6_years_118 : decode cX6_years 118 = .ok (.iinc 3 1, 3) := by decide +kernel
theorem dX6_years_121 : decode cX6_years 121 = .ok (.goto (-79), 3) := by decide +kernel
theorem dX6_years_124 : decode cX6_years 124 = .ok (.aload_n 0, 1) := by decide +kernel
theorem dX6_years_125 : decode cX6_years 125 = .ok (.dup, 1) := by decide +kernel
theorem dX6_years_126 : decode cX6_years 126 = .ok (.getfield 141, 3) := by decide +kernel
theorem dX6_years_129 : decode cX6_years 129 = .ok (.iload_n 1, 1) := by decide +kernel
theorem dX6_years_130 : decode cX6_years 130 = .ok (.iadd, 1) := by decide +kernel
theorem dX6_years_131 : decode cX6_years 131 = .ok (.putfield 141, 3) := by decide +kernel
theorem dX6_years_134 : decode cX6_years 134 = .ok (.aload_n 0, 1) := by decide +kernel
theorem dX6_years_135 : decode cX6_years 135 = .ok (.getfield 141, 3) := by decide +kernel
theorem dX6_years_138 : decode cX6_years 138 = .ok (.ireturn, 1) := by decide +kernel
theorem dX6_tune_0 : decode cX6_tune 0 = .ok (.aload_n 0, 1) := by decide +kernel
theorem dX6_tune_1 : decode cX6_tune 1 = .ok (.iload_n 1, 1) := by decide +kernel
theorem dX6_tune_2 : decode cX6_tune 2 = .ok (.invokestatic 137, 3) := by decide +kernel
theorem dX6_tune_5 : decode cX6_tune 5 = .ok (.ifCond .eq 14, 3) := by decide +kernel
theorem dX6_tune_8 : decode cX6_tune 8 = .ok (.iload_n 2, 1) := by decide +kernel
theorem dX6_tune_9 : decode cX6_tune 9 = .ok (.invokestatic 137, 3) := by decide +kernel
theorem dX6_tune_12 : decode cX6_tune 12 = .ok (.ifCond .eq 7, 3) := by decide +kernel
theorem dX6_tune_15 : decode cX6_tune 15 = .ok (.iconst 1, 1) := by decide +kernel
theorem dX6_tune_16 : decode cX6_tune 16 = .ok (.goto 4, 3) := by decide +kernel
theorem dX6_tune_19 : decode cX6_tune 19 = .ok (.iconst 0, 1) := by decide +kernel
theorem dX6_tune_20 : decode cX6_tune 20 = .ok (.iload_n 1, 1) := by decide +kernel
theorem dX6_tune_21 : decode cX6_tune 21 = .ok (.iload_n 2, 1) := by decide +kernel
theorem dX6_tune_22 : decode cX6_tune 22 = .ok (.if_icmp .eq 7, 3) := by decide +kernel
theorem dX6_tune_25 : decode cX6_tune 25 = .ok (.iconst 1, 1) := by decide +kernel
theorem dX6_tune_26 : decode cX6_tune 26 = .ok (.goto 4, 3) := by decide +kernel
theorem dX6_tune_29 : decode cX6_tune 29 = .ok (.iconst 0, 1) := by decide +kernel
theorem dX6_tune_30 : decode cX6_tune 30 = .ok (.iconst 1, 1) := by decide +kernel
theorem dX6_tune_31 : decode cX6_tune 31 = .ok (.invokevirtual 71, 3) := by decide +kernel
theorem dX6_tune_34 : decode cX6_tune 34 = .ok (.ifCond .ne 5, 3) := by decide +kernel
theorem dX6_tune_37 : decode cX6_tune 37 = .ok (.iconst 0, 1) := by decide +kernel
theorem dX6_tune_38 : decode cX6_tune 38 = .ok (.ireturn, 1) := by decide +kernel
theorem dX6_tune_39 : decode cX6_tune 39 = .ok (.aload_n 0, 1) := by decide +kernel
theorem dX6_tune_40 : decode cX6_tune 40 = .ok (.getfield 30, 3) := by decide +kernel
theorem dX6_tune_43 : decode cX6_tune 43 = .ok (.bipush 8, 2) := by decide +kernel
theorem dX6_tune_45 : decode cX6_tune 45 = .ok (.iload_n 1, 1) := by decide +kernel
theorem dX6_tune_46 : decode cX6_tune 46 = .ok (.imul, 1) := by decide +kernel
theorem dX6_tune_47 : decode cX6_tune 47 = .ok (.iconst 1, 1) := by decide +kernel
theorem dX6_tune_48 : decode cX6_tune 48 = .ok (.iadd, 1) := by decide +kernel
theorem dX6_tune_49 : decode cX6_tune 49 = .ok (.iaload, 1) := by decide +kernel
theorem dX6_tune_50 : decode cX6_tune 50 = .ok (.i2l, 1) := by decide +kernel
theorem dX6_tune_51 : decode cX6_tune 51 = .ok (.lstore_n 3, 1) := by decide +kernel
theorem dX6_tune_52 : decode cX6_tune 52 = .ok (.aload_n 0, 1) := by decide +kernel
theorem dX6_tune_53 : decode cX6_tune 53 = .ok (.getfield 30, 3) := by decide +kernel
theorem dX6_tune_56 : decode cX6_tune 56 = .ok (.bipush 8, 2) := by decide +kernel
theorem dX6_tune_58 : decode cX6_tune 58 = .ok (.iload_n 2, 1) := by decide +kernel
theorem dX6_tune_59 : decode cX6_tune 59 = .ok (.imul, 1) := by decide +kernel
theorem dX6_tune_60 : decode cX6_tune 60 = .ok (.iconst 1, 1) := by decide +kernel
theorem dX6_tune_61 : decode cX6_tune 61 = .ok (.iadd, 1) := by decide +kernel
theorem dX6_tune_62 : decode cX6_tune 62 = .ok (.iaload, 1) := by decide +kernel
theorem dX6_tune_63 : decode cX6_tune 63 = .ok (.i2l, 1) := by decide +kernel
theorem dX6_tune_64 : decode cX6_tune 64 = .ok (.lstore 5, 2) := by decide +kernel
theorem dX6_tune_66 : decode cX6_tune 66 = .ok (.iconst 1, 1) := by decide +kernel
theorem dX6_tune_67 : decode cX6_tune 67 = .ok (.istore 7, 2) := by decide +kernel
theorem dX6_tune_69 : decode cX6_tune 69 = .ok (.iload 7, 2) := by decide +kernel
theorem dX6_tune_71 : decode cX6_tune 71 = .ok (.bipush 7, 2) := by decide +kernel
theorem dX6_tune_73 : decode cX6_tune 73 = .ok (.if_icmp .gt 73, 3) := by decide +kernel
theorem dX6_tune_76 : decode cX6_tune 76 = .ok (.aload_n 0, 1) := by decide +kernel
theorem dX6_tune_77 : decode cX6_tune 77 = .ok (.getfield 30, 3) := by decide +kernel
theorem dX6_tune_80 : decode cX6_tune 80 = .ok (.bipush 8, 2) := by decide +kernel
theorem dX6_tune_82 : decode cX6_tune 82 = .ok (.iload_n 1, 1) := by decide +kernel
theorem dX6_tune_83 : decode cX6_tune 83 = .ok (.imul, 1) := by decide +kernel
theorem dX6_tune_84 : decode cX6_tune 84 = .ok (.iload 7, 2) := by decide +kernel
theorem dX6_tune_86 : decode cX6_tune 86 = .ok (.iadd, 1) := by decide +kernel
theorem dX6_tune_87 : decode cX6_tune 87 = .ok (.iaload, 1) := by decide +kernel
theorem dX6_tune_88 : decode cX6_tune 88 = .ok (.i2l, 1) := by decide +kernel
theorem dX6_tune_89 : decode cX6_tune 89 = .ok (.lload 5, 2) := by decide +kernel
theorem dX6_tune_91 : decode cX6_tune 91 = .ok (.lmul, 1) := by decide +kernel
theorem dX6_tune_92 : decode cX6_tune 92 = .ok (.lload_n 3, 1) := by decide +kernel
theorem dX6_tune_93 : decode cX6_tune 93 = .ok (.ldiv, 1) := by decide +kernel
theorem dX6_tune_94 : decode cX6_tune 94 = .ok (.lstore 8, 2) := by decide +kernel
theorem dX6_tune_96 : decode cX6_tune 96 = .ok (.aload_n 0, 1) := by decide +kernel
theorem dX6_tune_97 : decode cX6_tune 97 = .ok (.getfield 30, 3) := by decide +kernel
theorem dX6_tune_100 : decode cX6_tune 100 = .ok (.bipush 8, 2) := by decide +kernel
theorem dX6_tune_102 : decode cX6_tune 102 = .ok (.iload_n 1, 1) := by decide +kernel
theorem dX6_tune_103 : decode cX6_tune 103 = .ok (.imul, 1) := by decide +kernel
theorem dX6_tune_104 : decode cX6_tune 104 = .ok (.iload 7, 2) := by decide +kernel
theorem dX6_tune_106 : decode cX6_tune 106 = .ok (.iadd, 1) := by decide +kernel
theorem dX6_tune_107 : decode cX6_tune 107 = .ok (.lload 8, 2) := by decide +kernel
theorem dX6_tune_109 : decode cX6_tune 109 = .ok (.ldc2_w 144, 3) := by decide +kernel
theorem dX6_tune_112 : decode cX6_tune 112 = .ok (.lcmp, 1) := by decide +kernel
theorem dX6_tune_113 : decode cX6_tune 113 = .ok (.ifCond .ge 9, 3) := by decide +kernel
theorem dX6_tune_116 : decode cX6_tune 116 = .ok (.sipush 5000, 3) := by decide +kernel
theorem dX6_tune_119 : decode cX6_tune 119 = .ok (.goto 20, 3) := by decide +kernel
theorem dX6_tune_122 : decode cX6_tune 122 = .ok (.lload 8, 2) := by decide +kernel
theorem dX6_tune_124 : decode cX6_tune 124 = .ok (.ldc2_w 146, 3) := by decide +kernel
theorem dX6_tune_127 : decode cX6_tune 127 = .ok (.lcmp, 1) := by decide +kernel
theorem dX6_tune_128 : decode cX6_tune 128 = .ok (.ifCond .le 8, 3) := by decide +kernel
theorem dX6_tune_131 : decode cX6_tune 131 = .ok (.ldc 140, 2) := by decide +kernel
theorem dX6_tune_133 : decode cX6_tune 133 = .ok (.goto 6, 3) := by decide +kernel
theorem dX6_tune_136 : decode cX6_tune 136 = .ok (.lload 8, 2) := by decide +kernel
theorem dX6_tune_138 : decode cX6_tune 138 = .ok (.l2i, 1) := by decide +kernel
theorem dX6_tune_139 : decode cX6_tune 139 = .ok (.iastore, 1) := by decide +kernel
theorem dX6_tune_140 : decode cX6_tune 140 = .ok (.iinc 7 1, 3) := by decide +kernel
theorem dX6_tune_143 : decode cX6_tune 143 = .ok (.goto (-74), 3) := by decide +kernel
theorem dX6_tune_146 : decode cX6_tune 146 = .ok (.aload_n 0, 1) := by decide +kernel
theorem dX6_tune_147 : decode cX6_tune 147 = .ok (.getfield 30, 3) := by decide +kernel
theorem dX6_tune_150 : decode cX6_tune 150 = .ok (.bipush 8, 2) := by decide +kernel
theorem dX6_tune_152 : decode cX6_tune 152 = .ok (.iload_n 1, 1) := by decide +kernel
theorem dX6_tune_153 : decode cX6_tune 153 = .ok (.imul, 1) := by decide +kernel
theorem dX6_tune_154 : decode cX6_tune 154 = .ok (.iconst 1, 1) := by decide +kernel
theorem dX6_tune_155 : decode cX6_tune 155 = .ok (.iadd, 1) := by decide +kernel
theorem dX6_tune_156 : decode cX6_tune 156 = .ok (.iaload, 1) := by decide +kernel
theorem dX6_tune_157 : decode cX6_tune 157 = .ok (.ireturn, 1) := by decide +kernel
theorem dX6_beat_0 : decode cX6_beat 0 = .ok (.aload_n 0, 1) := by decide +kernel
theorem dX6_beat_1 : decode cX6_beat 1 = .ok (.iload_n 1, 1) := by decide +kernel
theorem dX6_beat_2 : decode cX6_beat 2 = .ok (.invokestatic 137, 3) := by decide +kernel
theorem dX6_beat_5 : decode cX6_beat 5 = .ok (.ifCond .eq 24, 3) := by decide +kernel
theorem dX6_beat_8 : decode cX6_beat 8 = .ok (.iload_n 2, 1) := by decide +kernel
theorem dX6_beat_9 : decode cX6_beat 9 = .ok (.invokestatic 137, 3) := by decide +kernel
theorem dX6_beat_12 : decode cX6_beat 12 = .ok (.ifCond .eq 17, 3) := by decide +kernel
theorem dX6_beat_15 : decode cX6_beat 15 = .ok (.iload_n 3, 1) := by decide +kernel
theorem dX6_beat_16 : decode cX6_beat 16 = .ok (.iconst 1, 1) := by decide +kernel
theorem dX6_beat_17 : decode cX6_beat 17 = .ok (.bipush 7, 2) := by decide +kernel
theorem dX6_beat_19 : decode cX6_beat 19 = .ok (.invokestatic 53, 3) := by decide +kernel
theorem dX6_beat_22 : decode cX6_beat 22 = .ok (.ifCond .eq 7, 3) := by decide +kernel
theorem dX6_beat_25 : decode cX6_beat 25 = .ok (.iconst 1, 1) := by decide +kernel
theorem dX6_beat_26 : decode cX6_beat 26 = .ok (.goto 4, 3) := by decide +kernel
theorem dX6_beat_29 : decode cX6_beat 29 = .ok (.iconst 0, 1) := by decide +kernel
theorem dX6_beat_30 : decode cX6_beat 30 = .ok (.iconst 1, 1) := by decide +kernel
theorem dX6_beat_31 : decode cX6_beat 31 = .ok (.iconst 1, 1) := by decide +kernel
theorem dX6_beat_32 : decode cX6_beat 32 = .ok (.invokevirtual 71, 3) := by decide +kernel
theorem dX6_beat_35 : decode cX6_beat 35 = .ok (.ifCond .ne 5, 3) := by decide +kernel
theorem dX6_beat_38 : decode cX6_beat 38 = .ok (.iconst 0, 1) := by decide +kernel
theorem dX6_beat_39 : decode cX6_beat 39 = .ok (.ireturn, 1) := by decide +kernel
theorem dX6_beat_40 : decode cX6_beat 40 = .ok (.aload_n 0, 1) := by decide +kernel
theorem dX6_beat_41 : decode cX6_beat 41 = .ok (.getfield 30, 3) := by decide +kernel
theorem dX6_beat_44 : decode cX6_beat 44 = .ok (.bipush 8, 2) := by decide +kernel
theorem dX6_beat_46 : decode cX6_beat 46 = .ok (.iload_n 1, 1) := by decide +kernel
theorem dX6_beat_47 : decode cX6_beat 47 = .ok (.imul, 1) := by decide +kernel
theorem dX6_beat_48 : decode cX6_beat 48 = .ok (.iload_n 3, 1) := by decide +kernel
theorem dX6_beat_49 : decode cX6_beat 49 = .ok (.iadd, 1) := by decide +kernel
theorem dX6_beat_50 : decode cX6_beat 50 = .ok (.iaload, 1) := by decide +kernel
theorem dX6_beat_51 : decode cX6_beat 51 = .ok (.aload_n 0, 1) := by decide +kernel
theorem dX6_beat_52 : decode cX6_beat 52 = .ok (.getfield 30, 3) := by decide +kernel
theorem dX6_beat_55 : decode cX6_beat 55 = .ok (.bipush 8, 2) := by decide +kernel
theorem dX6_beat_57 : decode cX6_beat 57 = .ok (.iload_n 2, 1) := by decide +kernel
theorem dX6_beat_58 : decode cX6_beat 58 = .ok (.imul, 1) := by decide +kernel
theorem dX6_beat_59 : decode cX6_beat 59 = .ok (.iload_n 3, 1) := by decide +kernel
theorem dX6_beat_60 : decode cX6_beat 60 = .ok (.iadd, 1) := by decide +kernel
theorem dX6_beat_61 : decode cX6_beat 61 = .ok (.iaload, 1) := by decide +kernel
theorem dX6_beat_62 : decode cX6_beat 62 = .ok (.isub, 1) := by decide +kernel
theorem dX6_beat_63 : decode cX6_beat 63 = .ok (.istore 4, 2) := by decide +kernel
theorem dX6_beat_65 : decode cX6_beat 65 = .ok (.iload 4, 2) := by decide +kernel
theorem dX6_beat_67 : decode cX6_beat 67 = .ok (.ifCond .ge 9, 3) := by decide +kernel
theorem dX6_beat_70 : decode cX6_beat 70 = .ok (.iload 4, 2) := by decide +kernel
theorem dX6_beat_72 : decode cX6_beat 72 = .ok (.ineg, 1) := by decide +kernel
theorem dX6_beat_73 : decode cX6_beat 73 = .ok (.goto 5, 3) := by decide +kernel
theorem dX6_beat_76 : decode cX6_beat 76 = .ok (.iload 4, 2) := by decide +kernel
theorem dX6_beat_78 : decode cX6_beat 78 = .ok (.ireturn, 1) := by decide +kernel
theorem dX6_player_0 : decode cX6_player 0 = .ok (.aload_n 0, 1) := by decide +kernel
theorem dX6_player_1 : decode cX6_player 1 = .ok (.iload_n 1, 1) := by decide +kernel
theorem dX6_player_2 : decode cX6_player 2 = .ok (.iconst 0, 1) := by decide +kernel
theorem dX6_player_3 : decode cX6_player 3 = .ok (.bipush 15, 2) := by decide +kernel
theorem dX6_player_5 : decode cX6_player 5 = .ok (.invokestatic 53, 3) := by decide +kernel
theorem dX6_player_8 : decode cX6_player 8 = .ok (.aload_n 0, 1) := by decide +kernel
theorem dX6_player_9 : decode cX6_player 9 = .ok (.getfield 68, 3) := by decide +kernel
theorem dX6_player_12 : decode cX6_player 12 = .ok (.bipush 8, 2) := by decide +kernel
theorem dX6_player_14 : decode cX6_player 14 = .ok (.if_icmp .ge 7, 3) := by decide +kernel
theorem dX6_player_17 : decode cX6_player 17 = .ok (.iconst 1, 1) := by decide +kernel
theorem dX6_player_18 : decode cX6_player 18 = .ok (.goto 4, 3) := by decide +kernel
theorem dX6_player_21 : decode cX6_player 21 = .ok (.iconst 0, 1) := by decide +kernel
theorem dX6_player_22 : decode cX6_player 22 = .ok (.iconst 1, 1) := by decide +kernel
theorem dX6_player_23 : decode cX6_player 23 = .ok (.invokevirtual 71, 3) := by decide +kernel
theorem dX6_player_26 : decode cX6_player 26 = .ok (.ifCond .ne 5, 3) := by decide +kernel
theorem dX6_player_29 : decode cX6_player 29 = .ok (.iconst 0, 1) := by decide +kernel
theorem dX6_player_30 : decode cX6_player 30 = .ok (.ireturn, 1) := by decide +kernel
theorem dX6_player_31 : decode cX6_player 31 = .ok (.aload_n 0, 1) := by decide +kernel
theorem dX6_player_32 : decode cX6_player 32 = .ok (.getfield 36, 3) := by decide +kernel
theorem dX6_player_35 : decode cX6_player 35 = .ok (.aload_n 0, 1) := by decide +kernel
theorem dX6_player_36 : decode cX6_player 36 = .ok (.getfield 68, 3) := by decide +kernel
theorem dX6_player_39 : decode cX6_player 39 = .ok (.iload_n 1, 1) := by decide +kernel
theorem dX6_player_40 : decode cX6_player 40 = .ok (.iastore, 1) := by decide +kernel
theorem dX6_player_41 : decode cX6_player 41 = .ok (.aload_n 0, 1) := by decide +kernel
theorem dX6_player_42 : decode cX6_player 42 = .ok (.dup, 1) := by decide +kernel
theorem dX6_player_43 : decode cX6_player 43 = .ok (.getfield 68, 3) := by decide +kernel
theorem dX6_player_46 : decode cX6_player 46 = .ok (.iconst 1, 1) := by decide +kernel
theorem dX6_player_47 : decode cX6_player 47 = .ok (.iadd, 1) := by decide +kernel
theorem dX6_player_48 : decode cX6_player 48 = .ok (.putfield 68, 3) := by decide +kernel
theorem dX6_player_51 : decode cX6_player 51 = .ok (.aload_n 0, 1) := by decide +kernel
theorem dX6_player_52 : decode cX6_player 52 = .ok (.getfield 68, 3) := by decide +kernel
theorem dX6_player_55 : decode cX6_player 55 = .ok (.iconst 1, 1) := by decide +kernel
theorem dX6_player_56 : decode cX6_player 56 = .ok (.isub, 1) := by decide +kernel
theorem dX6_player_57 : decode cX6_player 57 = .ok (.ireturn, 1) := by decide +kernel
theorem dX6_knowsIt_0 : decode cX6_knowsIt 0 = .ok (.iload_n 1, 1) := by decide +kernel
theorem dX6_knowsIt_1 : decode cX6_knowsIt 1 = .ok (.iconst (-1), 1) := by decide +kernel
theorem dX6_knowsIt_2 : decode cX6_knowsIt 2 = .ok (.if_icmp .eq 17, 3) := by decide +kernel
theorem dX6_knowsIt_5 : decode cX6_knowsIt 5 = .ok (.aload_n 0, 1) := by decide +kernel
theorem dX6_knowsIt_6 : decode cX6_knowsIt 6 = .ok (.getfield 39, 3) := by decide +kernel
theorem dX6_knowsIt_9 : decode cX6_knowsIt 9 = .ok (.bipush 6, 2) := by decide +kernel
theorem dX6_knowsIt_11 : decode cX6_knowsIt 11 = .ok (.iload_n 1, 1) := by decide +kernel
theorem dX6_knowsIt_12 : decode cX6_knowsIt 12 = .ok (.imul, 1) := by decide +kernel
theorem dX6_knowsIt_13 : decode cX6_knowsIt 13 = .ok (.iload_n 2, 1) := by decide +kernel
theorem dX6_knowsIt_14 : decode cX6_knowsIt 14 = .ok (.iadd, 1) := by decide +kernel
theorem dX6_knowsIt_15 : decode cX6_knowsIt 15 = .ok (.baload, 1) := by decide +kernel
theorem dX6_knowsIt_16 : decode cX6_knowsIt 16 = .ok (.ifCond .eq 7, 3) := by decide +kernel
theorem dX6_knowsIt_19 : decode cX6_knowsIt 19 = .ok (.iconst 1, 1) := by decide +kernel
theorem dX6_knowsIt_20 : decode cX6_knowsIt 20 = .ok (.goto 4, 3) := by decide +kernel
theorem dX6_knowsIt_23 : decode cX6_knowsIt 23 = .ok (.iconst 0, 1) := by decide +kernel
theorem dX6_knowsIt_24 : decode cX6_knowsIt 24 = .ok (.ireturn, 1) := by decide +kernel
theorem dX6_toneOf_0 : decode cX6_toneOf 0 = .ok (.iload_n 1, 1) := by decide +kernel
theorem dX6_toneOf_1 : decode cX6_toneOf 1 = .ok (.iconst (-1), 1) := by decide +kernel
theorem dX6_toneOf_2 : decode cX6_toneOf 2 = .ok (.if_icmp .ne 17, 3) := by decide +kernel
theorem dX6_toneOf_5 : decode cX6_toneOf 5 = .ok (.aload_n 0, 1) := by decide +kernel
theorem dX6_toneOf_6 : decode cX6_toneOf 6 = .ok (.getfield 19, 3) := by decide +kernel
theorem dX6_toneOf_9 : decode cX6_toneOf 9 = .ok (.bipush 65, 2) := by decide +kernel
theorem dX6_toneOf_11 : decode cX6_toneOf 11 = .ok (.iload_n 2, 1) := by decide +kernel
theorem dX6_toneOf_12 : decode cX6_toneOf 12 = .ok (.imul, 1) := by decide +kernel
theorem dX6_toneOf_13 : decode cX6_toneOf 13 = .ok (.iload_n 3, 1) := by decide +kernel
theorem dX6_toneOf_14 : decode cX6_toneOf 14 = .ok (.iadd, 1) := by decide +kernel
theorem dX6_toneOf_15 : decode cX6_toneOf 15 = .ok (.iaload, 1) := by decide +kernel
theorem dX6_toneOf_16 : decode cX6_toneOf 16 = .ok (.goto 19, 3) := by decide +kernel
theorem dX6_toneOf_19 : decode cX6_toneOf 19 = .ok (.aload_n 0, 1) := by decide +kernel
theorem dX6_toneOf_20 : decode cX6_toneOf 20 = .ok (.getfield 43, 3) := by decide +kernel
theorem dX6_toneOf_23 : decode cX6_toneOf 23 = .ok (.bipush 65, 2) := by decide +kernel
theorem dX6_toneOf_25 : decode cX6_toneOf 25 = .ok (.bipush 6, 2) := by decide +kernel
theorem dX6_toneOf_27 : decode cX6_toneOf 27 = .ok (.iload_n 1, 1) := by decide +kernel
theorem dX6_toneOf_28 : decode cX6_toneOf 28 = .ok (.imul, 1) := by decide +kernel
theorem dX6_toneOf_29 : decode cX6_toneOf 29 = .ok (.iload_n 2, 1) := by decide +kernel
theorem dX6_toneOf_30 : decode cX6_toneOf 30 = .ok (.iadd, 1) := by decide +kernel
theorem dX6_toneOf_31 : decode cX6_toneOf 31 = .ok (.imul, 1) := by decide +kernel
theorem dX6_toneOf_32 : decode cX6_toneOf 32 = .ok (.iload_n 3, 1) := by decide +kernel
theorem dX6_toneOf_33 : decode cX6_toneOf 33 = .ok (.iadd, 1) := by decide +kernel
theorem dX6_toneOf_34 : decode cX6_toneOf 34 = .ok (.iaload, 1) := by decide +kernel
theorem dX6_toneOf_35 : decode cX6_toneOf 35 = .ok (.ireturn, 1) := by decide +kernel
theorem dX6_learn_0 : decode cX6_learn 0 = .ok (.aload_n 0, 1) := by decide +kernel
theorem dX6_learn_1 : decode cX6_learn 1 = .ok (.iload_n 1, 1) := by decide +kernel
theorem dX6_learn_2 : decode cX6_learn 2 = .ok (.invokevirtual 148, 3) := by decide +kernel
theorem dX6_learn_5 : decode cX6_learn 5 = .ok (.ifCond .eq 28, 3) := by decide +kernel
theorem dX6_learn_8 : decode cX6_learn 8 = .ok (.aload_n 0, 1) := by decide +kernel
theorem dX6_learn_9 : decode cX6_learn 9 = .ok (.iload_n 2, 1) := by decide +kernel
theorem dX6_learn_10 : decode cX6_learn 10 = .ok (.invokevirtual 60, 3) := by decide +kernel
theorem dX6_learn_13 : decode cX6_learn 13 = .ok (.ifCond .eq 20, 3) := by decide +kernel
theorem dX6_learn_16 : decode cX6_learn 16 = .ok (.iload_n 3, 1) := by decide +kernel
theorem dX6_learn_17 : decode cX6_learn 17 = .ok (.iconst (-1), 1) := by decide +kernel
theorem dX6_learn_18 : decode cX6_learn 18 = .ok (.if_icmp .eq 11, 3) := by decide +kernel
theorem dX6_learn_21 : decode cX6_learn 21 = .ok (.aload_n 0, 1) := by decide +kernel
theorem dX6_learn_22 : decode cX6_learn 22 = .ok (.iload_n 3, 1) := by decide +kernel
theorem dX6_learn_23 : decode cX6_learn 23 = .ok (.invokevirtual 148, 3) := by decide +kernel
theorem dX6_learn_26 : decode cX6_learn 26 = .ok (.ifCond .eq 7, 3) := by decide +kernel
theorem dX6_learn_29 : decode cX6_learn 29 = .ok (.iconst 1, 1) := by decide +kernel
theorem dX6_learn_30 : decode cX6_learn 30 = .ok (.goto 4, 3) := by decide +kernel
theorem dX6_learn_33 : decode cX6_learn 33 = .ok (.iconst 0, 1) := by decide +kernel
theorem dX6_learn_34 : decode cX6_learn 34 = .ok (.istore 4, 2) := by decide +kernel
theorem dX6_learn_36 : decode cX6_learn 36 = .ok (.aload_n 0, 1) := by decide +kernel
theorem dX6_learn_37 : decode cX6_learn 37 = .ok (.iload 4, 2) := by decide +kernel
theorem dX6_learn_39 : decode cX6_learn 39 = .ok (.iload_n 3, 1) := by decide +kernel
theorem dX6_learn_40 : decode cX6_learn 40 = .ok (.iload_n 1, 1) := by decide +kernel
theorem dX6_learn_41 : decode cX6_learn 41 = .ok (.if_icmp .eq 7, 3) := by decide +kernel
theorem dX6_learn_44 : decode cX6_learn 44 = .ok (.iconst 1, 1) := by decide +kernel
theorem dX6_learn_45 : decode cX6_learn 45 = .ok (.goto 4, 3) := by decide +kernel
theorem dX6_learn_48 : decode cX6_learn 48 = .ok (.iconst 0, 1) := by decide +kernel
theorem dX6_learn_49 : decode cX6_learn 49 = .ok (.iload 4, 2) := by decide +kernel
theorem dX6_learn_51 : decode cX6_learn 51 = .ok (.ifCond .eq 16, 3) := by decide +kernel
theorem dX6_learn_54 : decode cX6_learn 54 = .ok (.aload_n 0, 1) := by decide +kernel
theorem dX6_learn_55 : decode cX6_learn 55 = .ok (.iload_n 3, 1) := by decide +kernel
theorem dX6_learn_56 : decode cX6_learn 56 = .ok (.iload_n 2, 1) := by decide +kernel
theorem dX6_learn_57 : decode cX6_learn 57 = .ok (.invokevirtual 151, 3) := by decide +kernel
theorem dX6_learn_60 : decode cX6_learn 60 = .ok (.ifCond .eq 7, 3) := by decide +kernel
theorem dX6_learn_63 : decode cX6_learn 63 = .ok (.iconst 1, 1) := by decide +kernel
theorem dX6_learn_64 : decode cX6_learn 64 = .ok (.goto 4, 3) := by decide +kernel
theorem dX6_learn_67 : decode cX6_learn 67 = .ok (.iconst 0, 1) := by decide +kernel
theorem dX6_learn_68 : decode cX6_learn 68 = .ok (.invokevirtual 71, 3) := by decide +kernel
theorem dX6_learn_71 : decode cX6_learn 71 = .ok (.ifCond .ne 5, 3) := by decide +kernel
theorem dX6_learn_74 : decode cX6_learn 74 = .ok (.iconst 0, 1) := by decide +kernel
theorem dX6_learn_75 : decode cX6_learn 75 = .ok (.ireturn, 1) := by decide +kernel
theorem dX6_learn_76 : decode cX6_learn 76 = .ok (.iconst 1, 1) := by decide +kernel
theorem dX6_learn_77 : decode cX6_learn 77 = .ok (.istore 5, 2) := by decide +kernel
theorem dX6_learn_79 : decode cX6_learn 79 = .ok (.iload 5, 2) := by decide +kernel
theorem dX6_learn_81 : decode cX6_learn 81 = .ok (.aload_n 0, 1) := by decide +kernel
theorem dX6_learn_82 : decode cX6_learn 82 = .ok (.iload_n 2, 1) := by decide +kernel
theorem dX6_learn_83 : decode cX6_learn 83 = .ok (.invokevirtual 64, 3) := by decide +kernel
theorem dX6_learn_86 : decode cX6_learn 86 = .ok (.if_icmp .gt 34, 3) := by decide +kernel
theorem dX6_learn_89 : decode cX6_learn 89 = .ok (.aload_n 0, 1) := by decide +kernel
theorem dX6_learn_90 : decode cX6_learn 90 = .ok (.getfield 43, 3) := by decide +kernel
theorem dX6_learn_93 : decode cX6_learn 93 = .ok (.bipush 65, 2) := by decide +kernel
theorem dX6_learn_95 : decode cX6_learn 95 = .ok (.bipush 6, 2) := by decide +kernel
theorem dX6_learn_97 : decode cX6_learn 97 = .ok (.iload_n 1, 1) := by decide +kernel
theorem dX6_learn_98 : decode cX6_learn 98 = .ok (.imul, 1) := by decide +kernel
theorem dX6_learn_99 : decode cX6_learn 99 = .ok (.iload_n 2, 1) := by decide +kernel
theorem dX6_learn_100 : decode cX6_learn 100 = .ok (.iadd, 1) := by decide +kernel
theorem dX6_learn_101 : decode cX6_learn 101 = .ok (.imul, 1) := by decide +kernel
theorem dX6_learn_102 : decode cX6_learn 102 = .ok (.iload 5, 2) := by decide +kernel
theorem dX6_learn_104 : decode cX6_learn 104 = .ok (.iadd, 1) := by decide +kernel
theorem dX6_learn_105 : decode cX6_learn 105 = .ok (.aload_n 0, 1) := by decide +kernel
theorem dX6_learn_106 : decode cX6_learn 106 = .ok (.iload_n 3, 1) := by decide +kernel
theorem dX6_learn_107 : decode cX6_learn 107 = .ok (.iload_n 2, 1) := by decide +kernel
theorem dX6_learn_108 : decode cX6_learn 108 = .ok (.iload 5, 2) := by decide +kernel
theorem dX6_learn_110 : decode cX6_learn 110 = .ok (.invokevirtual 154, 3) := by decide +kernel
theorem dX6_learn_113 : decode cX6_learn 113 = .ok (.iastore, 1) := by decide +kernel
theorem dX6_learn_114 : decode cX6_learn 114 = .ok (.iinc 5 1, 3) := by decide +kernel
theorem dX6_learn_117 : decode cX6_learn 117 = .ok (.goto (-38), 3) := by decide +kernel
theorem dX6_learn_120 : decode cX6_learn 120 = .ok (.aload_n 0, 1) := by decide +kernel
theorem dX6_learn_121 : decode cX6_learn 121 = .ok (.getfield 39, 3) := by decide +kernel
theorem dX6_learn_124 : decode cX6_learn 124 = .ok (.bipush 6, 2) := by decide +kernel
theorem dX6_learn_126 : decode cX6_learn 126 = .ok (.iload_n 1, 1) := by decide +kernel
theorem dX6_learn_127 : decode cX6_learn 127 = .ok (.imul, 1) := by decide +kernel
theorem dX6_learn_128 : decode cX6_learn 128 = .ok (.iload_n 2, 1) := by decide +kernel
theorem dX6_learn_129 : decode cX6_learn 129 = .ok (.iadd, 1) := by decide +kernel
theorem dX6_learn_130 : decode cX6_learn 130 = .ok (.iconst 1, 1) := by decide +kernel
theorem dX6_learn_131 : decode cX6_learn 131 = .ok (.bastore, 1) := by decide +kernel
theorem dX6_learn_132 : decode cX6_learn 132 = .ok (.iconst 0, 1) := by decide +kernel
theorem dX6_learn_133 : decode cX6_learn 133 = .ok (.istore 5, 2) := by decide +kernel
theorem dX6_learn_135 : decode cX6_learn 135 = .ok (.iconst 0, 1) := by decide +kernel
theorem dX6_learn_136 : decode cX6_learn 136 = .ok (.istore 6, 2) := by decide +kernel
theorem dX6_learn_138 : decode cX6_learn 138 = .ok (.iload 6, 2) := by decide +kernel
theorem dX6_learn_140 : decode cX6_learn 140 = .ok (.aload_n 0, 1) := by decide +kernel
theorem dX6_learn_141 : decode cX6_learn 141 = .ok (.getfield 68, 3) := by decide +kernel
theorem dX6_learn_144 : decode cX6_learn 144 = .ok (.if_icmp .ge 34, 3) := by decide +kernel
theorem dX6_learn_147 : decode cX6_learn 147 = .ok (.iload 5, 2) := by decide +kernel
theorem dX6_learn_149 : decode cX6_learn 149 = .ok (.aload_n 0, 1) := by decide +kernel
theorem dX6_learn_150 : decode cX6_learn 150 = .ok (.getfield 39, 3) := by decide +kernel
theorem dX6_learn_153 : decode cX6_learn 153 = .ok (.bipush 6, 2) := by decide +kernel
theorem dX6_learn_155 : decode cX6_learn 155 = .ok (.iload 6, 2) := by decide +kernel
theorem dX6_learn_157 : decode cX6_learn 157 = .ok (.imul, 1) := by decide +kernel
theorem dX6_learn_158 : decode cX6_learn 158 = .ok (.iload_n 2, 1) := by decide +kernel
theorem dX6_learn_159 : decode cX6_learn 159 = .ok (.iadd, 1) := by decide +kernel
theorem dX6_learn_160 : decode cX6_learn 160 = .ok (.baload, 1) := by decide +kernel
theorem dX6_learn_161 : decode cX6_learn 161 = .ok (.ifCond .eq 7, 3) := by decide +kernel
theorem dX6_learn_164 : decode cX6_learn 164 = .ok (.iconst 1, 1) := by decide +kernel
theorem dX6_learn_165 : decode cX6_learn 165 = .ok (.goto 4, 3) := by decide +kernel
theorem dX6_learn_168 : decode cX6_learn 168 = .ok (.iconst 0, 1) := by decide +kernel
theorem dX6_learn_169 : decode cX6_learn 169 = .ok (.iadd, 1) := by decide +kernel
theorem dX6_learn_170 : decode cX6_learn 170 = .ok (.istore 5, 2) := by decide +kernel
theorem dX6_learn_172 : decode cX6_learn 172 = .ok (.iinc 6 1, 3) := by decide +kernel
theorem dX6_learn_175 : decode cX6_learn 175 = .ok (.goto (-37), 3) := by decide +kernel
theorem dX6_learn_178 : decode cX6_learn 178 = .ok (.iload 5, 2) := by decide +kernel
theorem dX6_learn_180 : decode cX6_learn 180 = .ok (.ireturn, 1) := by decide +kernel
theorem dX6_slip_0 : decode cX6_slip 0 = .ok (.aload_n 0, 1) := by decide +kernel
theorem dX6_slip_1 : decode cX6_slip 1 = .ok (.iload_n 1, 1) := by decide +kernel
theorem dX6_slip_2 : decode cX6_slip 2 = .ok (.invokevirtual 148, 3) := by decide +kernel
theorem dX6_slip_5 : decode cX6_slip 5 = .ok (.ifCond .eq 16, 3) := by decide +kernel
theorem dX6_slip_8 : decode cX6_slip 8 = .ok (.aload_n 0, 1) := by decide +kernel
theorem dX6_slip_9 : decode cX6_slip 9 = .ok (.iload_n 2, 1) := by decide +kernel
theorem dX6_slip_10 : decode cX6_slip 10 = .ok (.iload_n 3, 1) := by decide +kernel
theorem dX6_slip_11 : decode cX6_slip 11 = .ok (.invokevirtual 78, 3) := by decide +kernel
theorem dX6_slip_14 : decode cX6_slip 14 = .ok (.ifCond .eq 7, 3) := by decide +kernel
theorem dX6_slip_17 : decode cX6_slip 17 = .ok (.iconst 1, 1) := by decide +kernel
theorem dX6_slip_18 : decode cX6_slip 18 = .ok (.goto 4, 3) := by decide +kernel
theorem dX6_slip_21 : decode cX6_slip 21 = .ok (.iconst 0, 1) := by decide +kernel
theorem dX6_slip_22 : decode cX6_slip 22 = .ok (.istore 5, 2) := by decide +kernel
theorem dX6_slip_24 : decode cX6_slip 24 = .ok (.aload_n 0, 1) := by decide +kernel
theorem dX6_slip_25 : decode cX6_slip 25 = .ok (.iload 5, 2) := by decide +kernel
theorem dX6_slip_27 : decode cX6_slip 27 = .ok (.iload 4, 2) := by decide +kernel
theorem dX6_slip_29 : decode cX6_slip 29 = .ok (.iconst 0, 1) := by decide +kernel
theorem dX6_slip_30 : decode cX6_slip 30 = .ok (.bipush 7, 2) := by decide +kernel
theorem dX6_slip_32 : decode cX6_slip 32 = .ok (.invokestatic 53, 3) := by decide +kernel
theorem dX6_slip_35 : decode cX6_slip 35 = .ok (.iload 5, 2) := by decide +kernel
theorem dX6_slip_37 : decode cX6_slip 37 = .ok (.ifCond .eq 16, 3) := by decide +kernel
theorem dX6_slip_40 : decode cX6_slip 40 = .ok (.aload_n 0, 1) := by decide +kernel
theorem dX6_slip_41 : decode cX6_slip 41 = .ok (.iload_n 1, 1) := by decide +kernel
theorem dX6_slip_42 : decode cX6_slip 42 = .ok (.iload_n 2, 1) := by decide +kernel
theorem dX6_slip_43 : decode cX6_slip 43 = .ok (.invokevirtual 151, 3) := by decide +kernel
theorem dX6_slip_46 : decode cX6_slip 46 = .ok (.ifCond .eq 7, 3) := by decide +kernel
theorem dX6_slip_49 : decode cX6_slip 49 = .ok (.iconst 1, 1) := by decide +kernel
theorem dX6_slip_50 : decode cX6_slip 50 = .ok (.goto 4, 3) := by decide +kernel
theorem dX6_slip_53 : decode cX6_slip 53 = .ok (.iconst 0, 1) := by decide +kernel
theorem dX6_slip_54 : decode cX6_slip 54 = .ok (.invokevirtual 71, 3) := by decide +kernel
theorem dX6_slip_57 : decode cX6_slip 57 = .ok (.ifCond .ne 5, 3) := by decide +kernel
theorem dX6_slip_60 : decode cX6_slip 60 = .ok (.iconst 0, 1) := by decide +kernel
theorem dX6_slip_61 : decode cX6_slip 61 = .ok (.ireturn, 1) := by decide +kernel
theorem dX6_slip_62 : decode cX6_slip 62 = .ok (.bipush 65, 2) := by decide +kernel
theorem dX6_slip_64 : decode cX6_slip 64 = .ok (.bipush 6, 2) := by decide +kernel
theorem dX6_slip_66 : decode cX6_slip 66 = .ok (.iload_n 1, 1) := by decide +kernel
theorem dX6_slip_67 : decode cX6_slip 67 = .ok (.imul, 1) := by decide +kernel
theorem dX6_slip_68 : decode cX6_slip 68 = .ok (.iload_n 2, 1) := by decide +kernel
theorem dX6_slip_69 : decode cX6_slip 69 = .ok (.iadd, 1) := by decide +kernel
theorem dX6_slip_70 : decode cX6_slip 70 = .ok (.imul, 1) := by decide +kernel
theorem dX6_slip_71 : decode cX6_slip 71 = .ok (.iload_n 3, 1) := by decide +kernel
theorem dX6_slip_72 : decode cX6_slip 72 = .ok (.iadd, 1) := by decide +kernel
theorem dX6_slip_73 : decode cX6_slip 73 = .ok (.istore 6, 2) := by decide +kernel
theorem dX6_slip_75 : decode cX6_slip 75 = .ok (.aload_n 0, 1) := by decide +kernel
theorem dX6_slip_76 : decode cX6_slip 76 = .ok (.getfield 43, 3) := by decide +kernel
theorem dX6_slip_79 : decode cX6_slip 79 = .ok (.iload 6, 2) := by decide +kernel
theorem dX6_slip_81 : decode cX6_slip 81 = .ok (.iaload, 1) := by decide +kernel
theorem dX6_slip_82 : decode cX6_slip 82 = .ok (.istore 7, 2) := by decide +kernel
theorem dX6_slip_84 : decode cX6_slip 84 = .ok (.aload_n 0, 1) := by decide +kernel
theorem dX6_slip_85 : decode cX6_slip 85 = .ok (.getfield 43, 3) := by decide +kernel
theorem dX6_slip_88 : decode cX6_slip 88 = .ok (.iload 6, 2) := by decide +kernel
theorem dX6_slip_90 : decode cX6_slip 90 = .ok (.iload 4, 2) := by decide +kernel
theorem dX6_slip_92 : decode cX6_slip 92 = .ok (.iastore, 1) := by decide +kernel
theorem dX6_slip_93 : decode cX6_slip 93 = .ok (.iload 7, 2) := by decide +kernel
theorem dX6_slip_95 : decode cX6_slip 95 = .ok (.ireturn, 1) := by decide +kernel
theorem dX6_unlike_0 : decode cX6_unlike 0 = .ok (.aload_n 0, 1) := by decide +kernel
theorem dX6_unlike_1 : decode cX6_unlike 1 = .ok (.iload_n 1, 1) := by decide +kernel
theorem dX6_unlike_2 : decode cX6_unlike 2 = .ok (.invokevirtual 148, 3) := by decide +kernel
theorem dX6_unlike_5 : decode cX6_unlike 5 = .ok (.ifCond .eq 28, 3) := by decide +kernel
theorem dX6_unlike_8 : decode cX6_unlike 8 = .ok (.iload_n 2, 1) := by decide +kernel
theorem dX6_unlike_9 : decode cX6_unlike 9 = .ok (.iconst (-1), 1) := by decide +kernel
theorem dX6_unlike_10 : decode cX6_unlike 10 = .ok (.if_icmp .eq 11, 3) := by decide +kernel
theorem dX6_unlike_13 : decode cX6_unlike 13 = .ok (.aload_n 0, 1) := by decide +kernel
theorem dX6_unlike_14 : decode cX6_unlike 14 = .ok (.iload_n 2, 1) := by decide +kernel
theorem dX6_unlike_15 : decode cX6_unlike 15 = .ok (.invokevirtual 148, 3) := by decide +kernel
theorem dX6_unlike_18 : decode cX6_unlike 18 = .ok (.ifCond .eq 15, 3) := by decide +kernel
theorem dX6_unlike_21 : decode cX6_unlike 21 = .ok (.aload_n 0, 1) := by decide +kernel
theorem dX6_unlike_22 : decode cX6_unlike 22 = .ok (.iload_n 3, 1) := by decide +kernel
theorem dX6_unlike_23 : decode cX6_unlike 23 = .ok (.invokevirtual 60, 3) := by decide +kernel
theorem dX6_unlike_26 : decode cX6_unlike 26 = .ok (.ifCond .eq 7, 3) := by decide +kernel
theorem dX6_unlike_29 : decode cX6_unlike 29 = .ok (.iconst 1, 1) := by decide +kernel
theorem dX6_unlike_30 : decode cX6_unlike 30 = .ok (.goto 4, 3) := by decide +kernel
theorem dX6_unlike_33 : decode cX6_unlike 33 = .ok (.iconst 0, 1) := by decide +kernel
theorem dX6_unlike_34 : decode cX6_unlike 34 = .ok (.istore 4, 2) := by decide +kernel
theorem dX6_unlike_36 : decode cX6_unlike 36 = .ok (.aload_n 0, 1) := by decide +kernel
theorem dX6_unlike_37 : decode cX6_unlike 37 = .ok (.iload 4, 2) := by decide +kernel
theorem dX6_unlike_39 : decode cX6_unlike 39 = .ok (.iconst 1, 1) := by decide +kernel
theorem dX6_unlike_40 : decode cX6_unlike 40 = .ok (.iconst 1, 1) := by decide +kernel
theorem dX6_unlike_41 : decode cX6_unlike 41 = .ok (.invokevirtual 71, 3) := by decide +kernel
theorem dX6_unlike_44 : decode cX6_unlike 44 = .ok (.ifCond .ne 5, 3) := by decide +kernel
theorem dX6_unlike_47 : decode cX6_unlike 47 = .ok (.iconst 0, 1) := by decide +kernel
theorem dX6_unlike_48 : decode cX6_unlike 48 = .ok (.ireturn, 1) := by decide +kernel
theorem dX6_unlike_49 : decode cX6_unlike 49 = .ok (.aload_n 0, 1) := by decide +kernel
theorem dX6_unlike_50 : decode cX6_unlike 50 = .ok (.iload_n 1, 1) := by decide +kernel
theorem dX6_unlike_51 : decode cX6_unlike 51 = .ok (.iload_n 3, 1) := by decide +kernel
theorem dX6_unlike_52 : decode cX6_unlike 52 = .ok (.invokevirtual 151, 3) := by decide +kernel
theorem dX6_unlike_55 : decode cX6_unlike 55 = .ok (.ifCond .eq 12, 3) := by decide +kernel
theorem dX6_unlike_58 : decode cX6_unlike 58 = .ok (.aload_n 0, 1) := by decide +kernel
theorem dX6_unlike_59 : decode cX6_unlike 59 = .ok (.iload_n 2, 1) := by decide +kernel
theorem dX6_unlike_60 : decode cX6_unlike 60 = .ok (.iload_n 3, 1) := by decide +kernel
theorem dX6_unlike_61 : decode cX6_unlike 61 = .ok (.invokevirtual 151, 3) := by decide +kernel
theorem dX6_unlike_64 : decode cX6_unlike 64 = .ok (.ifCond .ne 5, 3) := by decide +kernel
theorem dX6_unlike_67 : decode cX6_unlike 67 = .ok (.iconst (-1), 1) := by decide +kernel
theorem dX6_unlike_68 : decode cX6_unlike 68 = .ok (.ireturn, 1) := by decide +kernel
theorem dX6_unlike_69 : decode cX6_unlike 69 = .ok (.iconst 0, 1) := by decide +kernel
theorem dX6_unlike_70 : decode cX6_unlike 70 = .ok (.istore 5, 2) := by decide +kernel
theorem dX6_unlike_72 : decode cX6_unlike 72 = .ok (.iconst 1, 1) := by decide +kernel
theorem dX6_unlike_73 : decode cX6_unlike 73 = .ok (.istore 6, 2) := by decide +kernel
theorem dX6_unlike_75 : decode cX6_unlike 75 = .ok (.iload 6, 2) := by decide +kernel
theorem dX6_unlike_77 : decode cX6_unlike 77 = .ok (.aload_n 0, 1) := by decide +kernel
theorem dX6_unlike_78 : decode cX6_unlike 78 = .ok (.iload_n 3, 1) := by decide +kernel
theorem dX6_unlike_79 : decode cX6_unlike 79 = .ok (.invokevirtual 64, 3) := by decide +kernel
theorem dX6_unlike_82 : decode cX6_unlike 82 = .ok (.if_icmp .gt 38, 3) := by decide +kernel
theorem dX6_unlike_85 : decode cX6_unlike 85 = .ok (.iload 5, 2) := by decide +kernel
theorem dX6_unlike_87 : decode cX6_unlike 87 = .ok (.aload_n 0, 1) := by decide +kernel
theorem dX6_unlike_88 : decode cX6_unlike 88 = .ok (.iload_n 1, 1) := by decide +kernel
theorem dX6_unlike_89 : decode cX6_unlike 89 = .ok (.iload_n 3, 1) := by decide +kernel
theorem dX6_unlike_90 : decode cX6_unlike 90 = .ok (.iload 6, 2) := by decide +kernel
theorem dX6_unlike_92 : decode cX6_unlike 92 = .ok (.invokevirtual 154, 3) := by decide +kernel
theorem dX6_unlike_95 : decode cX6_unlike 95 = .ok (.aload_n 0, 1) := by decide +kernel
theorem dX6_unlike_96 : decode cX6_unlike 96 = .ok (.iload_n 2, 1) := by decide +kernel
theorem dX6_unlike_97 : decode cX6_unlike 97 = .ok (.iload_n 3, 1) := by decide +kernel
theorem dX6_unlike_98 : decode cX6_unlike 98 = .ok (.iload 6, 2) := by decide +kernel
theorem dX6_unlike_100 : decode cX6_unlike 100 = .ok (.invokevirtual 154, 3) := by decide +kernel
theorem dX6_unlike_103 : decode cX6_unlike 103 = .ok (.if_icmp .ne 7, 3) := by decide +kernel
theorem dX6_unlike_106 : decode cX6_unlike 106 = .ok (.iconst 0, 1) := by decide +kernel
theorem dX6_unlike_107 : decode cX6_unlike 107 = .ok (.goto 4, 3) := by decide +kernel
theorem dX6_unlike_110 : decode cX6_unlike 110 = .ok (.iconst 1, 1) := by decide +kernel
theorem dX6_unlike_111 : decode cX6_unlike 111 = .ok (.iadd, 1) := by decide +kernel
theorem dX6_unlike_112 : decode cX6_unlike 112 = .ok (.istore 5, 2) := by decide +kernel
theorem dX6_unlike_114 : decode cX6_unlike 114 = .ok (.iinc 6 1, 3) := by decide +kernel
theorem dX6_unlike_117 : decode cX6_unlike 117 = .ok (.goto (-42), 3) := by decide +kernel
theorem dX6_unlike_120 : decode cX6_unlike 120 = .ok (.iload 5, 2) := by decide +kernel
theorem dX6_unlike_122 : decode cX6_unlike 122 = .ok (.ireturn, 1) := by decide +kernel
theorem dX6_covered_0 : decode cX6_covered 0 = .ok (.aload_n 0, 1) := by decide +kernel
theorem dX6_covered_1 : decode cX6_covered 1 = .ok (.aload_n 0, 1) := by decide +kernel
theorem dX6_covered_2 : decode cX6_covered 2 = .ok (.iload_n 1, 1) := by decide +kernel
theorem dX6_covered_3 : decode cX6_covered 3 = .ok (.invokevirtual 60, 3) := by decide +kernel
theorem dX6_covered_6 : decode cX6_covered 6 = .ok (.iconst 1, 1) := by decide +kernel
theorem dX6_covered_7 : decode cX6_covered 7 = .ok (.iconst 1, 1) := by decide +kernel
theorem dX6_covered_8 : decode cX6_covered 8 = .ok (.invokevirtual 71, 3) := by decide +kernel
theorem dX6_covered_11 : decode cX6_covered 11 = .ok (.ifCond .ne 5, 3) := by decide +kernel
theorem dX6_covered_14 : decode cX6_covered 14 = .ok (.iconst 0, 1) := by decide +kernel
theorem dX6_covered_15 : decode cX6_covered 15 = .ok (.ireturn, 1) := by decide +kernel
theorem dX6_covered_16 : decode cX6_covered 16 = .ok (.iconst 1, 1) := by decide +kernel
theorem dX6_covered_17 : decode cX6_covered 17 = .ok (.istore_n 2, 1) := by decide +kernel
theorem dX6_covered_18 : decode cX6_covered 18 = .ok (.iconst 0, 1) := by decide +kernel
theorem dX6_covered_19 : decode cX6_covered 19 = .ok (.istore_n 3, 1) := by decide +kernel
theorem dX6_covered_20 : decode cX6_covered 20 = .ok (.iload_n 3, 1) := by decide +kernel
theorem dX6_covered_21 : decode cX6_covered 21 = .ok (.aload_n 0, 1) := by decide +kernel
theorem dX6_covered_22 : decode cX6_covered 22 = .ok (.getfield 68, 3) := by decide +kernel
theorem dX6_covered_25 : decode cX6_covered 25 = .ok (.if_icmp .ge 103, 3) := by decide +kernel
theorem dX6_covered_28 : decode cX6_covered 28 = .ok (.iload_n 2, 1) := by decide +kernel
theorem dX6_covered_29 : decode cX6_covered 29 = .ok (.istore 4, 2) := by decide +kernel
theorem dX6_covered_31 : decode cX6_covered 31 = .ok (.iconst 0, 1) := by decide +kernel
theorem dX6_covered_32 : decode cX6_covered 32 = .ok (.istore 5, 2) := by decide +kernel
theorem dX6_covered_34 : decode cX6_covered 34 = .ok (.iload 5, 2) := by decide +kernel
theorem dX6_covered_36 : decode cX6_covered 36 = .ok (.bipush 16, 2) := by decide +kernel
theorem dX6_covered_38 : decode cX6_covered 38 = .ok (.if_icmp .ge 81, 3) := by decide +kernel
theorem dX6_covered_41 : decode cX6_covered 41 = .ok (.aload_n 0, 1) := by decide +kernel
theorem dX6_covered_42 : decode cX6_covered 42 = .ok (.getfield 39, 3) := by decide +kernel
theorem dX6_covered_45 : decode cX6_covered 45 = .ok (.bipush 6, 2) := by decide +kernel
theorem dX6_covered_47 : decode cX6_covered 47 = .ok (.iload_n 3, 1) := by decide +kernel
theorem dX6_covered_48 : decode cX6_covered 48 = .ok (.imul, 1) := by decide +kernel
theorem dX6_covered_49 : decode cX6_covered 49 = .ok (.iload_n 1, 1) := by decide +kernel
theorem dX6_covered_50 : decode cX6_covered 50 = .ok (.iadd, 1) := by decide +kernel
theorem dX6_covered_51 : decode cX6_covered 51 = .ok (.baload, 1) := by decide +kernel
theorem dX6_covered_52 : decode cX6_covered 52 = .ok (.ifCond .eq 67, 3) := by decide +kernel
theorem dX6_covered_55 : decode cX6_covered 55 = .ok (.iconst 0, 1) := by decide +kernel
theorem dX6_covered_56 : decode cX6_covered 56 = .ok (.istore 6, 2) := by decide +kernel
theorem dX6_covered_58 : decode cX6_covered 58 = .ok (.iload 6, 2) := by decide +kernel
theorem dX6_covered_60 : decode cX6_covered 60 = .ok (.iconst 4, 1) := by decide +kernel
theorem dX6_covered_61 : decode cX6_covered 61 = .ok (.if_icmp .ge 52, 3) := by decide +kernel
theorem dX6_covered_64 : decode cX6_covered 64 = .ok (.iload_n 2, 1) := by decide +kernel
theorem dX6_covered_65 : decode cX6_covered 65 = .ok (.iload 5, 2) := by decide +kernel
theorem dX6_covered_67 : decode cX6_covered 67 = .ok (.ishr, 1) := by decide +kernel
theorem dX6_covered_68 : decode cX6_covered 68 = .ok (.iconst 1, 1) := by decide +kernel
theorem dX6_covered_69 : decode cX6_covered 69 = .ok (.iand, 1) := by decide +kernel
theorem dX6_covered_70 : decode cX6_covered 70 = .ok (.iconst 1, 1) := by decide +kernel
theorem dX6_covered_71 : decode cX6_covered 71 = .ok (.if_icmp .ne 42, 3) := by decide +kernel
theorem dX6_covered_74 : decode cX6_covered 74 = .ok (.iload 4, 2) := by decide +kernel
theorem dX6_covered_76 : decode cX6_covered 76 = .ok (.aload_n 0, 1) := by decide +kernel
theorem dX6_covered_77 : decode cX6_covered 77 = .ok (.getfield 36, 3) := by decide +kernel
theorem dX6_covered_80 : decode cX6_covered 80 = .ok (.iload_n 3, 1) := by decide +kernel
theorem dX6_covered_81 : decode cX6_covered 81 = .ok (.iaload, 1) := by decide +kernel
theorem dX6_covered_82 : decode cX6_covered 82 = .ok (.iload 6, 2) := by decide +kernel
theorem dX6_covered_84 : decode cX6_covered 84 = .ok (.ishr, 1) := by decide +kernel
theorem dX6_covered_85 : decode cX6_covered 85 = .ok (.iconst 1, 1) := by decide +kernel
theorem dX6_covered_86 : decode cX6_covered 86 = .ok (.iand, 1) := by decide +kernel
theorem dX6_covered_87 : decode cX6_covered 87 = .ok (.iconst 1, 1) := by decide +kernel
theorem dX6_covered_88 : decode cX6_covered 88 = .ok (.if_icmp .ne 15, 3) := by decide +kernel
theorem dX6_covered_91 : decode cX6_covered 91 = .ok (.iconst 1, 1) := by decide +kernel
theorem dX6_covered_92 : decode cX6_covered 92 = .ok (.iload 5, 2) := by decide +kernel
theorem dX6_covered_94 : decode cX6_covered 94 = .ok (.iconst 1, 1) := by decide +kernel
theorem dX6_covered_95 : decode cX6_covered 95 = .ok (.iload 6, 2) := by decide +kernel
theorem dX6_covered_97 : decode cX6_covered 97 = .ok (.ishl, 1) := by decide +kernel
theorem dX6_covered_98 : decode cX6_covered 98 = .ok (.ior, 1) := by decide +kernel
theorem dX6_covered_99 : decode cX6_covered 99 = .ok (.ishl, 1) := by decide +kernel
theorem dX6_covered_100 : decode cX6_covered 100 = .ok (.goto 4, 3) := by decide +kernel
theorem dX6_covered_103 : decode cX6_covered 103 = .ok (.iconst 0, 1) := by decide +kernel
theorem dX6_covered_104 : decode cX6_covered 104 = .ok (.ior, 1) := by decide +kernel
theorem dX6_covered_105 : decode cX6_covered 105 = .ok (.istore 4, 2) := by decide +kernel
theorem dX6_covered_107 : decode cX6_covered 107 = .ok (.iinc 6 1, 3) := by decide +kernel
theorem dX6_covered_110 : decode cX6_covered 110 = .ok (.goto (-52), 3) := by decide +kernel
theorem dX6_covered_113 : decode cX6_covered 113 = .ok (.iinc 5 1, 3) := by decide +kernel
theorem dX6_covered_116 : decode cX6_covered 116 = .ok (.goto (-82), 3) := by decide +kernel
theorem dX6_covered_119 : decode cX6_covered 119 = .ok (.iload 4, 2) := by decide +kernel
theorem dX6_covered_121 : decode cX6_covered 121 = .ok (.istore_n 2, 1) := by decide +kernel
theorem dX6_covered_122 : decode cX6_covered 122 = .ok (.iinc 3 1, 3) := by decide +kernel
theorem dX6_covered_125 : decode cX6_covered 125 = .ok (.goto (-105), 3) := by decide +kernel
theorem dX6_covered_128 : decode cX6_covered 128 = .ok (.iconst 0, 1) := by decide +kernel
theorem dX6_covered_129 : decode cX6_covered 129 = .ok (.istore_n 3, 1) := by decide +kernel
theorem dX6_covered_130 : decode cX6_covered 130 = .ok (.iconst 0, 1) := by decide +kernel
theorem dX6_covered_131 : decode cX6_covered 131 = .ok (.istore 4, 2) := by decide +kernel
theorem dX6_covered_133 : decode cX6_covered 133 = .ok (.iload 4, 2) := by decide +kernel
theorem dX6_covered_135 : decode cX6_covered 135 = .ok (.bipush 16, 2) := by decide +kernel
theorem dX6_covered_137 : decode cX6_covered 137 = .ok (.if_icmp .ge 59, 3) := by decide +kernel
theorem dX6_covered_140 : decode cX6_covered 140 = .ok (.iload 4, 2) := by decide +kernel
theorem dX6_covered_142 : decode cX6_covered 142 = .ok (.iconst 1, 1) := by decide +kernel
theorem dX6_covered_143 : decode cX6_covered 143 = .ok (.iand, 1) := by decide +kernel
theorem dX6_covered_144 : decode cX6_covered 144 = .ok (.iload 4, 2) := by decide +kernel
theorem dX6_covered_146 : decode cX6_covered 146 = .ok (.iconst 1, 1) := by decide +kernel
theorem dX6_covered_147 : decode cX6_covered 147 = .ok (.ishr, 1) := by decide +kernel
theorem dX6_covered_148 : decode cX6_covered 148 = .ok (.iconst 1, 1) := by decide +kernel
theorem dX6_covered_149 : decode cX6_covered 149 = .ok (.iand, 1) := by decide +kernel
theorem dX6_covered_150 : decode cX6_covered 150 = .ok (.iadd, 1) := by decide +kernel
theorem dX6_covered_151 : decode cX6_covered 151 = .ok (.iload 4, 2) := by decide +kernel
theorem dX6_covered_153 : decode cX6_covered 153 = .ok (.iconst 2, 1) := by decide +kernel
theorem dX6_covered_154 : decode cX6_covered 154 = .ok (.ishr, 1) := by decide +kernel
theorem dX6_covered_155 : decode cX6_covered 155 = .ok (.iconst 1, 1) := by decide +kernel
theorem dX6_covered_156 : decode cX6_covered 156 = .ok (.iand, 1) := by decide +kernel
theorem dX6_covered_157 : decode cX6_covered 157 = .ok (.iadd, 1) := by decide +kernel
theorem dX6_covered_158 : decode cX6_covered 158 = .ok (.iload 4, 2) := by decide +kernel
theorem dX6_covered_160 : decode cX6_covered 160 = .ok (.iconst 3, 1) := by decide +kernel
theorem dX6_covered_161 : decode cX6_covered 161 = .ok (.ishr, 1) := by decide +kernel
theorem dX6_covered_162 : decode cX6_covered 162 = .ok (.iconst 1, 1) := by decide +kernel
theorem dX6_covered_163 : decode cX6_covered 163 = .ok (.iand, 1) := by decide +kernel
theorem dX6_covered_164 : decode cX6_covered 164 = .ok (.iadd, 1) := by decide +kernel
theorem dX6_covered_165 : decode cX6_covered 165 = .ok (.istore 5, 2) := by decide +kernel
theorem dX6_covered_167 : decode cX6_covered 167 = .ok (.iload_n 2, 1) := by decide +kernel
theorem dX6_covered_168 : decode cX6_covered 168 = .ok (.iload 4, 2) := by decide +kernel
theorem dX6_covered_170 : decode cX6_covered 170 = .ok (.ishr, 1) := by decide +kernel
theorem dX6_covered_171 : decode cX6_covered 171 = .ok (.iconst 1, 1) := by decide +kernel
theorem dX6_covered_172 : decode cX6_covered 172 = .ok (.iand, 1) := by decide +kernel
theorem dX6_covered_173 : decode cX6_covered 173 = .ok (.iconst 1, 1) := by decide +kernel
theorem dX6_covered_174 : decode cX6_covered 174 = .ok (.if_icmp .ne 14, 3) := by decide +kernel
theorem dX6_covered_177 : decode cX6_covered 177 = .ok (.iload 5, 2) := by decide +kernel
theorem dX6_covered_179 : decode cX6_covered 179 = .ok (.iload_n 3, 1) := by decide +kernel
theorem dX6_covered_180 : decode cX6_covered 180 = .ok (.if_icmp .le 8, 3) := by decide +kernel
theorem dX6_covered_183 : decode cX6_covered 183 = .ok (.iload 5, 2) := by decide +kernel
theorem dX6_covered_185 : decode cX6_covered 185 = .ok (.goto 4, 3) := by decide +kernel
theorem dX6_covered_188 : decode cX6_covered 188 = .ok (.iload_n 3, 1) := by decide +kernel
theorem dX6_covered_189 : decode cX6_covered 189 = .ok (.istore_n 3, 1) := by decide +kernel
theorem dX6_covered_190 : decode cX6_covered 190 = .ok (.iinc 4 1, 3) := by decide +kernel
theorem dX6_covered_193 : decode cX6_covered 193 = .ok (.goto (-60), 3) := by decide +kernel
theorem dX6_covered_196 : decode cX6_covered 196 = .ok (.iload_n 3, 1) := by decide +kernel
theorem dX6_covered_197 : decode cX6_covered 197 = .ok (.ireturn, 1) := by decide +kernel
