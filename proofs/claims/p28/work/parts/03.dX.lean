theorem dX0_init_0 : decode cX0_init 0 = .ok (.aload_n 0, 1) := by decide +kernel
theorem dX0_init_1 : decode cX0_init 1 = .ok (.invokespecial 3, 3) := by decide +kernel
theorem dX0_init_4 : decode cX0_init 4 = .ok (.aload_n 0, 1) := by decide +kernel
theorem dX0_init_5 : decode cX0_init 5 = .ok (.bipush 7, 2) := by decide +kernel
theorem dX0_init_7 : decode cX0_init 7 = .ok (.newarray .int, 2) := by decide +kernel
theorem dX0_init_9 : decode cX0_init 9 = .ok (.putfield 9, 3) := by decide +kernel
theorem dX0_init_12 : decode cX0_init 12 = .ok (.aload_n 0, 1) := by decide +kernel
theorem dX0_init_13 : decode cX0_init 13 = .ok (.iconst 0, 1) := by decide +kernel
theorem dX0_init_14 : decode cX0_init 14 = .ok (.putfield 15, 3) := by decide +kernel
theorem dX0_init_17 : decode cX0_init 17 = .ok (.iconst 0, 1) := by decide +kernel
theorem dX0_init_18 : decode cX0_init 18 = .ok (.istore_n 1, 1) := by decide +kernel
theorem dX0_init_19 : decode cX0_init 19 = .ok (.iload_n 1, 1) := by decide +kernel
theorem dX0_init_20 : decode cX0_init 20 = .ok (.aload_n 0, 1) := by decide +kernel
theorem dX0_init_21 : decode cX0_init 21 = .ok (.getfield 9, 3) := by decide +kernel
theorem dX0_init_24 : decode cX0_init 24 = .ok (.arraylength, 1) := by decide +kernel
theorem dX0_init_25 : decode cX0_init 25 = .ok (.if_icmp .ge 17, 3) := by decide +kernel
theorem dX0_init_28 : decode cX0_init 28 = .ok (.aload_n 0, 1) := by decide +kernel
theorem dX0_init_29 : decode cX0_init 29 = .ok (.getfield 9, 3) := by decide +kernel
theorem dX0_init_32 : decode cX0_init 32 = .ok (.iload_n 1, 1) := by decide +kernel
theorem dX0_init_33 : decode cX0_init 33 = .ok (.ldc 19, 2) := by decide +kernel
theorem dX0_init_35 : decode cX0_init 35 = .ok (.iastore, 1) := by decide +kernel
theorem dX0_init_36 : decode cX0_init 36 = .ok (.iinc 1 1, 3) := by decide +kernel
theorem dX0_init_39 : decode cX0_init 39 = .ok (.goto (-20), 3) := by decide +kernel
theorem dX0_init_42 : decode cX0_init 42 = .ok (.return_, 1) := by decide +kernel
theorem dX0_pitchOf_0 : decode cX0_pitchOf 0 = .ok (.iload_n 1, 1) := by decide +kernel
theorem dX0_pitchOf_1 : decode cX0_pitchOf 1 = .ok (.iconst 1, 1) := by decide +kernel
theorem dX0_pitchOf_2 : decode cX0_pitchOf 2 = .ok (.if_icmp .lt 23, 3) := by decide +kernel
theorem dX0_pitchOf_5 : decode cX0_pitchOf 5 = .ok (.iload_n 1, 1) := by decide +kernel
theorem dX0_pitchOf_6 : decode cX0_pitchOf 6 = .ok (.aload_n 0, 1) := by decide +kernel
theorem dX0_pitchOf_7 : decode cX0_pitchOf 7 = .ok (.getfield 9, 3) := by decide +kernel
theorem dX0_pitchOf_10 : decode cX0_pitchOf 10 = .ok (.arraylength, 1) := by decide +kernel
theorem dX0_pitchOf_11 : decode cX0_pitchOf 11 = .ok (.if_icmp .gt 14, 3) := by decide +kernel
theorem dX0_pitchOf_14 : decode cX0_pitchOf 14 = .ok (.aload_n 0, 1) := by decide +kernel
theorem dX0_pitchOf_15 : decode cX0_pitchOf 15 = .ok (.getfield 9, 3) := by decide +kernel
theorem dX0_pitchOf_18 : decode cX0_pitchOf 18 = .ok (.iload_n 1, 1) := by decide +kernel
theorem dX0_pitchOf_19 : decode cX0_pitchOf 19 = .ok (.iconst 1, 1) := by decide +kernel
theorem dX0_pitchOf_20 : decode cX0_pitchOf 20 = .ok (.isub, 1) := by decide +kernel
theorem dX0_pitchOf_21 : decode cX0_pitchOf 21 = .ok (.iaload, 1) := by decide +kernel
theorem dX0_pitchOf_22 : decode cX0_pitchOf 22 = .ok (.goto 4, 3) := by decide +kernel
theorem dX0_pitchOf_25 : decode cX0_pitchOf 25 = .ok (.iconst 0, 1) := by decide +kernel
theorem dX0_pitchOf_26 : decode cX0_pitchOf 26 = .ok (.ireturn, 1) := by decide +kernel
theorem dX0_putPitch_0 : decode cX0_putPitch 0 = .ok (.aload_n 0, 1) := by decide +kernel
theorem dX0_putPitch_1 : decode cX0_putPitch 1 = .ok (.iload_n 1, 1) := by decide +kernel
theorem dX0_putPitch_2 : decode cX0_putPitch 2 = .ok (.invokevirtual 20, 3) := by decide +kernel
theorem dX0_putPitch_5 : decode cX0_putPitch 5 = .ok (.istore_n 3, 1) := by decide +kernel
theorem dX0_putPitch_6 : decode cX0_putPitch 6 = .ok (.iload_n 1, 1) := by decide +kernel
theorem dX0_putPitch_7 : decode cX0_putPitch 7 = .ok (.iconst 1, 1) := by decide +kernel
theorem dX0_putPitch_8 : decode cX0_putPitch 8 = .ok (.if_icmp .lt 21, 3) := by decide +kernel
theorem dX0_putPitch_11 : decode cX0_putPitch 11 = .ok (.iload_n 1, 1) := by decide +kernel
theorem dX0_putPitch_12 : decode cX0_putPitch 12 = .ok (.aload_n 0, 1) := by decide +kernel
theorem dX0_putPitch_13 : decode cX0_putPitch 13 = .ok (.getfield 9, 3) := by decide +kernel
theorem dX0_putPitch_16 : decode cX0_putPitch 16 = .ok (.arraylength, 1) := by decide +kernel
theorem dX0_putPitch_17 : decode cX0_putPitch 17 = .ok (.if_icmp .gt 12, 3) := by decide +kernel
theorem dX0_putPitch_20 : decode cX0_putPitch 20 = .ok (.aload_n 0, 1) := by decide +kernel
theorem dX0_putPitch_21 : decode cX0_putPitch 21 = .ok (.getfield 9, 3) := by decide +kernel
theorem dX0_putPitch_24 : decode cX0_putPitch 24 = .ok (.iload_n 1, 1) := by decide +kernel
theorem dX0_putPitch_25 : decode cX0_putPitch 25 = .ok (.iconst 1, 1) := by decide +kernel
theorem dX0_putPitch_26 : decode cX0_putPitch 26 = .ok (.isub, 1) := by decide +kernel
theorem dX0_putPitch_27 : decode cX0_putPitch 27 = .ok (.iload_n 2, 1) := by decide +kernel
theorem dX0_putPitch_28 : decode cX0_putPitch 28 = .ok (.iastore, 1) := by decide +kernel
theorem dX0_putPitch_29 : decode cX0_putPitch 29 = .ok (.iload_n 3, 1) := by decide +kernel
theorem dX0_putPitch_30 : decode cX0_putPitch 30 = .ok (.ireturn, 1) := by decide +kernel
theorem dX0_ageBy_0 : decode cX0_ageBy 0 = .ok (.iconst 0, 1) := by decide +kernel
theorem dX0_ageBy_1 : decode cX0_ageBy 1 = .ok (.istore_n 2, 1) := by decide +kernel
theorem dX0_ageBy_2 : decode cX0_ageBy 2 = .ok (.iload_n 2, 1) := by decide +kernel
theorem dX0_ageBy_3 : decode cX0_ageBy 3 = .ok (.iload_n 1, 1) := by decide +kernel
theorem dX0_ageBy_4 : decode cX0_ageBy 4 = .ok (.if_icmp .ge 64, 3) := by decide +kernel
theorem dX0_ageBy_7 : decode cX0_ageBy 7 = .ok (.iconst 0, 1) := by decide +kernel
theorem dX0_ageBy_8 : decode cX0_ageBy 8 = .ok (.istore_n 3, 1) := by decide +kernel
theorem dX0_ageBy_9 : decode cX0_ageBy 9 = .ok (.iload_n 3, 1) := by decide +kernel
theorem dX0_ageBy_10 : decode cX0_ageBy 10 = .ok (.aload_n 0, 1) := by decide +kernel
theorem dX0_ageBy_11 : decode cX0_ageBy 11 = .ok (.getfield 9, 3) := by decide +kernel
theorem dX0_ageBy_14 : decode cX0_ageBy 14 = .ok (.arraylength, 1) := by decide +kernel
theorem dX0_ageBy_15 : decode cX0_ageBy 15 = .ok (.if_icmp .ge 47, 3) := by decide +kernel
theorem dX0_ageBy_18 : decode cX0_ageBy 18 = .ok (.aload_n 0, 1) := by decide +kernel
theorem dX0_ageBy_19 : decode cX0_ageBy 19 = .ok (.getfield 9, 3) := by decide +kernel
theorem dX0_ageBy_22 : decode cX0_ageBy 22 = .ok (.iload_n 3, 1) := by decide +kernel
theorem dX0_ageBy_23 : decode cX0_ageBy 23 = .ok (.iaload, 1) := by decide +kernel
theorem dX0_ageBy_24 : decode cX0_ageBy 24 = .ok (.aload_n 0, 1) := by decide +kernel
theorem dX0_ageBy_25 : decode cX0_ageBy 25 = .ok (.getfield 15, 3) := by decide +kernel
theorem dX0_ageBy_28 : decode cX0_ageBy 28 = .ok (.imul, 1) := by decide +kernel
theorem dX0_ageBy_29 : decode cX0_ageBy 29 = .ok (.sipush 10000, 3) := by decide +kernel
theorem dX0_ageBy_32 : decode cX0_ageBy 32 = .ok (.idiv, 1) := by decide +kernel
theorem dX0_ageBy_33 : decode cX0_ageBy 33 = .ok (.istore 4, 2) := by decide +kernel
theorem dX0_ageBy_35 : decode cX0_ageBy 35 = .ok (.aload_n 0, 1) := by decide +kernel
theorem dX0_ageBy_36 : decode cX0_ageBy 36 = .ok (.getfield 9, 3) := by decide +kernel
theorem dX0_ageBy_39 : decode cX0_ageBy 39 = .ok (.iload_n 3, 1) := by decide +kernel
theorem dX0_ageBy_40 : decode cX0_ageBy 40 = .ok (.aload_n 0, 1) := by decide +kernel
theorem dX0_ageBy_41 : decode cX0_ageBy 41 = .ok (.getfield 9, 3) := by decide +kernel
theorem dX0_ageBy_44 : decode cX0_ageBy 44 = .ok (.iload_n 3, 1) := by decide +kernel
theorem dX0_ageBy_45 : decode cX0_ageBy 45 = .ok (.iaload, 1) := by decide +kernel
theorem dX0_ageBy_46 : decode cX0_ageBy 46 = .ok (.iload 4, 2) := by decide +kernel
theorem dX0_ageBy_48 : decode cX0_ageBy 48 = .ok (.isub, 1) := by decide +kernel
theorem dX0_ageBy_49 : decode cX0_ageBy 49 = .ok (.sipush 5000, 3) := by decide +kernel
theorem dX0_ageBy_52 : decode cX0_ageBy 52 = .ok (.invokestatic 24, 3) := by decide +kernel
theorem dX0_ageBy_55 : decode cX0_ageBy 55 = .ok (.iastore, 1) := by decide +kernel
theorem dX0_ageBy_56 : decode cX0_ageBy 56 = .ok (.iinc 3 1, 3) := by decide +kernel
theorem dX0_ageBy_59 : decode cX0_ageBy 59 = .ok (.goto (-50), 3) := by decide +kernel
theorem dX0_ageBy_62 : decode cX0_ageBy 62 = .ok (.iinc 2 1, 3) := by decide +kernel
theorem dX0_ageBy_65 : decode cX0_ageBy 65 = .ok (.goto (-63), 3) := by decide +kernel
theorem dX0_ageBy_68 : decode cX0_ageBy 68 = .ok (.return_, 1) := by decide +kernel
theorem dX0_tuneTo_0 : decode cX0_tuneTo 0 = .ok (.aload_n 0, 1) := by decide +kernel
theorem dX0_tuneTo_1 : decode cX0_tuneTo 1 = .ok (.iconst 1, 1) := by decide +kernel
theorem dX0_tuneTo_2 : decode cX0_tuneTo 2 = .ok (.invokevirtual 20, 3) := by decide +kernel
theorem dX0_tuneTo_5 : decode cX0_tuneTo 5 = .ok (.i2l, 1) := by decide +kernel
theorem dX0_tuneTo_6 : decode cX0_tuneTo 6 = .ok (.lstore_n 2, 1) := by decide +kernel
theorem dX0_tuneTo_7 : decode cX0_tuneTo 7 = .ok (.lload_n 2, 1) := by decide +kernel
theorem dX0_tuneTo_8 : decode cX0_tuneTo 8 = .ok (.lconst 0, 1) := by decide +kernel
theorem dX0_tuneTo_9 : decode cX0_tuneTo 9 = .ok (.lcmp, 1) := by decide +kernel
theorem dX0_tuneTo_10 : decode cX0_tuneTo 10 = .ok (.ifCond .le 59, 3) := by decide +kernel
theorem dX0_tuneTo_13 : decode cX0_tuneTo 13 = .ok (.iconst 0, 1) := by decide +kernel
theorem dX0_tuneTo_14 : decode cX0_tuneTo 14 = .ok (.istore 4, 2) := by decide +kernel
theorem dX0_tuneTo_16 : decode cX0_tuneTo 16 = .ok (.iload 4, 2) := by decide +kernel
theorem dX0_tuneTo_18 : decode cX0_tuneTo 18 = .ok (.aload_n 0, 1) := by decide +kernel
theorem dX0_tuneTo_19 : decode cX0_tuneTo 19 = .ok (.getfield 9, 3) := by decide +kernel
theorem dX0_tuneTo_22 : decode cX0_tuneTo 22 = .ok (.arraylength, 1) := by decide +kernel
theorem dX0_tuneTo_23 : decode cX0_tuneTo 23 = .ok (.if_icmp .ge 46, 3) := by decide +kernel
theorem dX0_tuneTo_26 : decode cX0_tuneTo 26 = .ok (.aload_n 0, 1) := by decide +kernel
theorem dX0_tuneTo_27 : decode cX0_tuneTo 27 = .ok (.getfield 9, 3) := by decide +kernel
theorem dX0_tuneTo_30 : decode cX0_tuneTo 30 = .ok (.iload 4, 2) := by decide +kernel
theorem dX0_tuneTo_32 : decode cX0_tuneTo 32 = .ok (.iaload, 1) := by decide +kernel
theorem dX0_tuneTo_33 : decode cX0_tuneTo 33 = .ok (.i2l, 1) := by decide +kernel
theorem dX0_tuneTo_34 : decode cX0_tuneTo 34 = .ok (.iload_n 1, 1) := by decide +kernel
theorem dX0_tuneTo_35 : decode cX0_tuneTo 35 = .ok (.i2l, 1) := by decide +kernel
theorem dX0_tuneTo_36 : decode cX0_tuneTo 36 = .ok (.lmul, 1) := by decide +kernel
theorem dX0_tuneTo_37 : decode cX0_tuneTo 37 = .ok (.lload_n 2, 1) := by decide +kernel
theorem dX0_tuneTo_38 : decode cX0_tuneTo 38 = .ok (.ldiv, 1) := by decide +kernel
theorem dX0_tuneTo_39 : decode cX0_tuneTo 39 = .ok (.lstore 5, 2) := by decide +kernel
theorem dX0_tuneTo_41 : decode cX0_tuneTo 41 = .ok (.aload_n 0, 1) := by decide +kernel
theorem dX0_tuneTo_42 : decode cX0_tuneTo 42 = .ok (.getfield 9, 3) := by decide +kernel
theorem dX0_tuneTo_45 : decode cX0_tuneTo 45 = .ok (.iload 4, 2) := by decide +kernel
theorem dX0_tuneTo_47 : decode cX0_tuneTo 47 = .ok (.ldc2_w 30, 3) := by decide +kernel
theorem dX0_tuneTo_50 : decode cX0_tuneTo 50 = .ok (.lload 5, 2) := by decide +kernel
theorem dX0_tuneTo_52 : decode cX0_tuneTo 52 = .ok (.ldc2_w 32, 3) := by decide +kernel
theorem dX0_tuneTo_55 : decode cX0_tuneTo 55 = .ok (.invokestatic 34, 3) := by decide +kernel
theorem dX0_tuneTo_58 : decode cX0_tuneTo 58 = .ok (.invokestatic 38, 3) := by decide +kernel
theorem dX0_tuneTo_61 : decode cX0_tuneTo 61 = .ok (.l2i, 1) := by decide +kernel
theorem dX0_tuneTo_62 : decode cX0_tuneTo 62 = .ok (.iastore, 1) := by decide +kernel
theorem dX0_tuneTo_63 : decode cX0_tuneTo 63 = .ok (.iinc 4 1, 3) := by decide +kernel
theorem dX0_tuneTo_66 : decode cX0_tuneTo 66 = .ok (.goto (-50), 3) := by decide +kernel
theorem dX0_tuneTo_69 : decode cX0_tuneTo 69 = .ok (.return_, 1) := by decide +kernel
theorem dX1_init_0 : decode cX1_init 0 = .ok (.aload_n 0, 1) := by decide +kernel
theorem dX1_init_1 : decode cX1_init 1 = .ok (.invokespecial 1, 3) := by decide +kernel
theorem dX1_init_4 : decode cX1_init 4 = .ok (.aload_n 0, 1) := by decide +kernel
theorem dX1_init_5 : decode cX1_init 5 = .ok (.iload_n 1, 1) := by decide +kernel
theorem dX1_init_6 : decode cX1_init 6 = .ok (.iconst 0, 1) := by decide +kernel
theorem dX1_init_7 : decode cX1_init 7 = .ok (.invokestatic 7, 3) := by decide +kernel
theorem dX1_init_10 : decode cX1_init 10 = .ok (.newarray .int, 2) := by decide +kernel
theorem dX1_init_12 : decode cX1_init 12 = .ok (.putfield 13, 3) := by decide +kernel
theorem dX1_init_15 : decode cX1_init 15 = .ok (.return_, 1) := by decide +kernel
theorem dX1_length_0 : decode cX1_length 0 = .ok (.aload_n 0, 1) := by decide +kernel
theorem dX1_length_1 : decode cX1_length 1 = .ok (.getfield 13, 3) := by decide +kernel
theorem dX1_length_4 : decode cX1_length 4 = .ok (.arraylength, 1) := by decide +kernel
theorem dX1_length_5 : decode cX1_length 5 = .ok (.ireturn, 1) := by decide +kernel
theorem dX1_hasPlace_0 : decode cX1_hasPlace 0 = .ok (.iload_n 1, 1) := by decide +kernel
theorem dX1_hasPlace_1 : decode cX1_hasPlace 1 = .ok (.iconst 1, 1) := by decide +kernel
theorem dX1_hasPlace_2 : decode cX1_hasPlace 2 = .ok (.if_icmp .lt 16, 3) := by decide +kernel
theorem dX1_hasPlace_5 : decode cX1_hasPlace 5 = .ok (.iload_n 1, 1) := by decide +kernel
theorem dX1_hasPlace_6 : decode cX1_hasPlace 6 = .ok (.aload_n 0, 1) := by decide +kernel
theorem dX1_hasPlace_7 : decode cX1_hasPlace 7 = .ok (.getfield 13, 3) := by decide +kernel
theorem dX1_hasPlace_10 : decode cX1_hasPlace 10 = .ok (.arraylength, 1) := by decide +kernel
theorem dX1_hasPlace_11 : decode cX1_hasPlace 11 = .ok (.if_icmp .gt 7, 3) := by decide +kernel
theorem dX1_hasPlace_14 : decode cX1_hasPlace 14 = .ok (.iconst 1, 1) := by decide +kernel
theorem dX1_hasPlace_15 : decode cX1_hasPlace 15 = .ok (.goto 4, 3) := by decide +kernel
theorem dX1_hasPlace_18 : decode cX1_hasPlace 18 = .ok (.iconst 0, 1) := by decide +kernel
theorem dX1_hasPlace_19 : decode cX1_hasPlace 19 = .ok (.ireturn, 1) := by decide +kernel
theorem dX1_at_0 : decode cX1_at 0 = .ok (.aload_n 0, 1) := by decide +kernel
theorem dX1_at_1 : decode cX1_at 1 = .ok (.iload_n 1, 1) := by decide +kernel
theorem dX1_at_2 : decode cX1_at 2 = .ok (.invokevirtual 19, 3) := by decide +kernel
theorem dX1_at_5 : decode cX1_at 5 = .ok (.ifCond .eq 14, 3) := by decide +kernel
theorem dX1_at_8 : decode cX1_at 8 = .ok (.aload_n 0, 1) := by decide +kernel
theorem dX1_at_9 : decode cX1_at 9 = .ok (.getfield 13, 3) := by decide +kernel
theorem dX1_at_12 : decode cX1_at 12 = .ok (.iload_n 1, 1) := by decide +kernel
theorem dX1_at_13 : decode cX1_at 13 = .ok (.iconst 1, 1) := by decide +kernel
theorem dX1_at_14 : decode cX1_at 14 = .ok (.isub, 1) := by decide +kernel
theorem dX1_at_15 : decode cX1_at 15 = .ok (.iaload, 1) := by decide +kernel
theorem dX1_at_16 : decode cX1_at 16 = .ok (.goto 4, 3) := by decide +kernel
theorem dX1_at_19 : decode cX1_at 19 = .ok (.iconst 0, 1) := by decide +kernel
theorem dX1_at_20 : decode cX1_at 20 = .ok (.ireturn, 1) := by decide +kernel
theorem dX1_put_0 : decode cX1_put 0 = .ok (.aload_n 0, 1) := by decide +kernel
theorem dX1_put_1 : decode cX1_put 1 = .ok (.iload_n 1, 1) := by decide +kernel
theorem dX1_put_2 : decode cX1_put 2 = .ok (.invokevirtual 23, 3) := by decide +kernel
theorem dX1_put_5 : decode cX1_put 5 = .ok (.istore_n 3, 1) := by decide +kernel
theorem dX1_put_6 : decode cX1_put 6 = .ok (.aload_n 0, 1) := by decide +kernel
theorem dX1_put_7 : decode cX1_put 7 = .ok (.iload_n 1, 1) := by decide +kernel
theorem dX1_put_8 : decode cX1_put 8 = .ok (.invokevirtual 19, 3) := by decide +kernel
theorem dX1_put_11 : decode cX1_put 11 = .ok (.ifCond .eq 12, 3) := by decide +kernel
theorem dX1_put_14 : decode cX1_put 14 = .ok (.aload_n 0, 1) := by decide +kernel
theorem dX1_put_15 : decode cX1_put 15 = .ok (.getfield 13, 3) := by decide +kernel
theorem dX1_put_18 : decode cX1_put 18 = .ok (.iload_n 1, 1) := by decide +kernel
theorem dX1_put_19 : decode cX1_put 19 = .ok (.iconst 1, 1) := by decide +kernel
theorem dX1_put_20 : decode cX1_put 20 = .ok (.isub, 1) := by decide +kernel
theorem dX1_put_21 : decode cX1_put 21 = .ok (.iload_n 2, 1) := by decide +kernel
theorem dX1_put_22 : decode cX1_put 22 = .ok (.iastore, 1) := by decide +kernel
theorem dX1_put_23 : decode cX1_put 23 = .ok (.iload_n 3, 1) := by decide +kernel
theorem dX1_put_24 : decode cX1_put 24 = .ok (.ireturn, 1) := by decide +kernel
theorem dX1_soundAt_0 : decode cX1_soundAt 0 = .ok (.iload_n 1, 1) := by decide +kernel
theorem dX1_soundAt_1 : decode cX1_soundAt 1 = .ok (.istore_n 2, 1) := by decide +kernel
theorem dX1_soundAt_2 : decode cX1_soundAt 2 = .ok (.aload_n 0, 1) := by decide +kernel
theorem dX1_soundAt_3 : decode cX1_soundAt 3 = .ok (.getfield 13, 3) := by decide +kernel
theorem dX1_soundAt_6 : decode cX1_soundAt 6 = .ok (.arraylength, 1) := by decide +kernel
theorem dX1_soundAt_7 : decode cX1_soundAt 7 = .ok (.istore_n 3, 1) := by decide +kernel
theorem dX1_soundAt_8 : decode cX1_soundAt 8 = .ok (.iload_n 3, 1) := by decide +kernel
theorem dX1_soundAt_9 : decode cX1_soundAt 9 = .ok (.ifCond .le 40, 3) := by decide +kernel
theorem dX1_soundAt_12 : decode cX1_soundAt 12 = .ok (.aload_n 0, 1) := by decide +kernel
theorem dX1_soundAt_13 : decode cX1_soundAt 13 = .ok (.iload_n 2, 1) := by decide +kernel
theorem dX1_soundAt_14 : decode cX1_soundAt 14 = .ok (.invokevirtual 23, 3) := by decide +kernel
theorem dX1_soundAt_17 : decode cX1_soundAt 17 = .ok (.ifCond .eq 9, 3) := by decide +kernel
theorem dX1_soundAt_20 : decode cX1_soundAt 20 = .ok (.aload_n 0, 1) := by decide +kernel
theorem dX1_soundAt_21 : decode cX1_soundAt 21 = .ok (.iload_n 2, 1) := by decide +kernel
theorem dX1_soundAt_22 : decode cX1_soundAt 22 = .ok (.invokevirtual 23, 3) := by decide +kernel
theorem dX1_soundAt_25 : decode cX1_soundAt 25 = .ok (.ireturn, 1) := by decide +kernel
theorem dX1_soundAt_26 : decode cX1_soundAt 26 = .ok (.iload_n 2, 1) := by decide +kernel
theorem dX1_soundAt_27 : decode cX1_soundAt 27 = .ok (.iconst 1, 1) := by decide +kernel
theorem dX1_soundAt_28 : decode cX1_soundAt 28 = .ok (.if_icmp .le 9, 3) := by decide +kernel
theorem dX1_soundAt_31 : decode cX1_soundAt 31 = .ok (.iload_n 2, 1) := by decide +kernel
theorem dX1_soundAt_32 : decode cX1_soundAt 32 = .ok (.iconst 1, 1) := by decide +kernel
theorem dX1_soundAt_33 : decode cX1_soundAt 33 = .ok (.isub, 1) := by decide +kernel
theorem dX1_soundAt_34 : decode cX1_soundAt 34 = .ok (.goto 8, 3) := by decide +kernel
theorem dX1_soundAt_37 : decode cX1_soundAt 37 = .ok (.aload_n 0, 1) := by decide +kernel
theorem dX1_soundAt_38 : decode cX1_soundAt 38 = .ok (.getfield 13, 3) := by decide +kernel
theorem dX1_soundAt_41 : decode cX1_soundAt 41 = .ok (.arraylength, 1) := by decide +kernel
theorem dX1_soundAt_42 : decode cX1_soundAt 42 = .ok (.istore_n 2, 1) := by decide +kernel
theorem dX1_soundAt_43 : decode cX1_soundAt 43 = .ok (.iinc 3 (-1), 3) := by decide +kernel
theorem dX1_soundAt_46 : decode cX1_soundAt 46 = .ok (.goto (-38), 3) := by decide +kernel
theorem dX1_soundAt_49 : decode cX1_soundAt 49 = .ok (.iconst 0, 1) := by decide +kernel
theorem dX1_soundAt_50 : decode cX1_soundAt 50 = .ok (.ireturn, 1) := by decide +kernel
theorem dX1_takeFrom_0 : decode cX1_takeFrom 0 = .ok (.iconst 1, 1) := by decide +kernel
theorem dX1_takeFrom_1 : decode cX1_takeFrom 1 = .ok (.istore_n 2, 1) := by decide +kernel
theorem dX1_takeFrom_2 : decode cX1_takeFrom 2 = .ok (.iload_n 2, 1) := by decide +kernel
theorem dX1_takeFrom_3 : decode cX1_takeFrom 3 = .ok (.aload_n 0, 1) := by decide +kernel
theorem dX1_takeFrom_4 : decode cX1_takeFrom 4 = .ok (.getfield 13, 3) := by decide +kernel
theorem dX1_takeFrom_7 : decode cX1_takeFrom 7 = .ok (.arraylength, 1) := by decide +kernel
theorem dX1_takeFrom_8 : decode cX1_takeFrom 8 = .ok (.if_icmp .gt 20, 3) := by decide +kernel
theorem dX1_takeFrom_11 : decode cX1_takeFrom 11 = .ok (.aload_n 0, 1) := by decide +kernel
theorem dX1_takeFrom_12 : decode cX1_takeFrom 12 = .ok (.iload_n 2, 1) := by decide +kernel
theorem dX1_takeFrom_13 : decode cX1_takeFrom 13 = .ok (.aload_n 1, 1) := by decide +kernel
theorem dX1_takeFrom_14 : decode cX1_takeFrom 14 = .ok (.iload_n 2, 1) := by decide +kernel
theorem dX1_takeFrom_15 : decode cX1_takeFrom 15 = .ok (.invokevirtual 23, 3) := by decide +kernel
theorem dX1_takeFrom_18 : decode cX1_takeFrom 18 = .ok (.invokevirtual 27, 3) := by decide +kernel
theorem dX1_takeFrom_21 : decode cX1_takeFrom 21 = .ok (.pop, 1) := by decide +kernel
theorem dX1_takeFrom_22 : decode cX1_takeFrom 22 = .ok (.iinc 2 1, 3) := by decide +kernel
theorem dX1_takeFrom_25 : decode cX1_takeFrom 25 = .ok (.goto (-23), 3) := by decide +kernel
theorem dX1_takeFrom_28 : decode cX1_takeFrom 28 = .ok (.return_, 1) := by decide +kernel
theorem dX1_placesUnlike_0 : decode cX1_placesUnlike 0 = .ok (.iconst 0, 1) := by decide +kernel
theorem dX1_placesUnlike_1 : decode cX1_placesUnlike 1 = .ok (.istore_n 2, 1) := by decide +kernel
theorem dX1_placesUnlike_2 : decode cX1_placesUnlike 2 = .ok (.iconst 1, 1) := by decide +kernel
theorem dX1_placesUnlike_3 : decode cX1_placesUnlike 3 = .ok (.istore_n 3, 1) := by decide +kernel
theorem dX1_placesUnlike_4 : decode cX1_placesUnlike 4 = .ok (.iload_n 3, 1) := by decide +kernel
theorem dX1_placesUnlike_5 : decode cX1_placesUnlike 5 = .ok (.aload_n 0, 1) := by decide +kernel
theorem dX1_placesUnlike_6 : decode cX1_placesUnlike 6 = .ok (.getfield 13, 3) := by decide +kernel
theorem dX1_placesUnlike_9 : decode cX1_placesUnlike 9 = .ok (.arraylength, 1) := by decide +kernel
theorem dX1_placesUnlike_10 : decode cX1_placesUnlike 10 = .ok (.if_icmp .gt 25, 3) := by decide +kernel
theorem dX1_placesUnlike_13 : decode cX1_placesUnlike 13 = .ok (.aload_n 0, 1) := by decide +kernel
theorem dX1_placesUnlike_14 : decode cX1_placesUnlike 14 = .ok (.iload_n 3, 1) := by decide +kernel
theorem dX1_placesUnlike_15 : decode cX1_placesUnlike 15 = .ok (.invokevirtual 23, 3) := by decide +kernel
theorem dX1_placesUnlike_18 : decode cX1_placesUnlike 18 = .ok (.aload_n 1, 1) := by decide +kernel
theorem dX1_placesUnlike_19 : decode cX1_placesUnlike 19 = .ok (.iload_n 3, 1) := by decide +kernel
theorem dX1_placesUnlike_20 : decode cX1_placesUnlike 20 = .ok (.invokevirtual 23, 3) := by decide +kernel
theorem dX1_placesUnlike_23 : decode cX1_placesUnlike 23 = .ok (.if_icmp .eq 6, 3) := by decide +kernel
theorem dX1_placesUnlike_26 : decode cX1_placesUnlike 26 = .ok (.iinc 2 1, 3) := by decide +kernel
theorem dX1_placesUnlike_29 : decode cX1_placesUnlike 29 = .ok (.iinc 3 1, 3) := by decide +kernel
theorem dX1_placesUnlike_32 : decode cX1_placesUnlike 32 = .ok (.goto (-28), 3) := by decide +kernel
theorem dX1_placesUnlike_35 : decode cX1_placesUnlike 35 = .ok (.iload_n 2, 1) := by decide +kernel
theorem dX1_placesUnlike_36 : decode cX1_placesUnlike 36 = .ok (.ireturn, 1) := by decide +kernel
theorem dX2_init_0 : decode cX2_init 0 = .ok (.aload_n 0, 1) := by decide +kernel
theorem dX2_init_1 : decode cX2_init 1 = .ok (.invokespecial 1, 3) := by decide +kernel
theorem dX2_init_4 : decode cX2_init 4 = .ok (.aload_n 0, 1) := by decide +kernel
theorem dX2_init_5 : decode cX2_init 5 = .ok (.iconst 0, 1) := by decide +kernel
theorem dX2_init_6 : decode cX2_init 6 = .ok (.putfield 7, 3) := by decide +kernel
theorem dX2_init_9 : decode cX2_init 9 = .ok (.aload_n 0, 1) := by decide +kernel
theorem dX2_init_10 : decode cX2_init 10 = .ok (.new 13, 3) := by decide +kernel
theorem dX2_init_13 : decode cX2_init 13 = .ok (.dup, 1) := by decide +kernel
theorem dX2_init_14 : decode cX2_init 14 = .ok (.iload_n 1, 1) := by decide +kernel
theorem dX2_init_15 : decode cX2_init 15 = .ok (.invokespecial 15, 3) := by decide +kernel
theorem dX2_init_18 : decode cX2_init 18 = .ok (.putfield 18, 3) := by decide +kernel
theorem dX2_init_21 : decode cX2_init 21 = .ok (.return_, 1) := by decide +kernel
theorem dX3_init_0 : decode cX3_init 0 = .ok (.aload_n 0, 1) := by decide +kernel
theorem dX3_init_1 : decode cX3_init 1 = .ok (.invokespecial 3, 3) := by decide +kernel
theorem dX3_init_4 : decode cX3_init 4 = .ok (.aload_n 0, 1) := by decide +kernel
theorem dX3_init_5 : decode cX3_init 5 = .ok (.bipush 6, 2) := by decide +kernel
theorem dX3_init_7 : decode cX3_init 7 = .ok (.anewarray 9, 3) := by decide +kernel
theorem dX3_init_10 : decode cX3_init 10 = .ok (.putfield 11, 3) := by decide +kernel
theorem dX3_init_13 : decode cX3_init 13 = .ok (.aload_n 0, 1) := by decide +kernel
theorem dX3_init_14 : decode cX3_init 14 = .ok (.iload_n 1, 1) := by decide +kernel
theorem dX3_init_15 : decode cX3_init 15 = .ok (.putfield 17, 3) := by decide +kernel
theorem dX3_init_18 : decode cX3_init 18 = .ok (.return_, 1) := by decide +kernel
theorem dX3_versionOf_0 : decode cX3_versionOf 0 = .ok (.iload_n 1, 1) := by decide +kernel
theorem dX3_versionOf_1 : decode cX3_versionOf 1 = .ok (.ifCond .lt 21, 3) := by decide +kernel
theorem dX3_versionOf_4 : decode cX3_versionOf 4 = .ok (.iload_n 1, 1) := by decide +kernel
theorem dX3_versionOf_5 : decode cX3_versionOf 5 = .ok (.aload_n 0, 1) := by decide +kernel
theorem dX3_versionOf_6 : decode cX3_versionOf 6 = .ok (.getfield 11, 3) := by decide +kernel
theorem dX3_versionOf_9 : decode cX3_versionOf 9 = .ok (.arraylength, 1) := by decide +kernel
theorem dX3_versionOf_10 : decode cX3_versionOf 10 = .ok (.if_icmp .ge 12, 3) := by decide +kernel
theorem dX3_versionOf_13 : decode cX3_versionOf 13 = .ok (.aload_n 0, 1) := by decide +kernel
theorem dX3_versionOf_14 : decode cX3_versionOf 14 = .ok (.getfield 11, 3) := by decide +kernel
theorem dX3_versionOf_17 : decode cX3_versionOf 17 = .ok (.iload_n 1, 1) := by decide +kernel
theorem dX3_versionOf_18 : decode cX3_versionOf 18 = .ok (.aaload, 1) := by decide +kernel
theorem dX3_versionOf_19 : decode cX3_versionOf 19 = .ok (.goto 4, 3) := by decide +kernel
theorem dX3_versionOf_22 : decode cX3_versionOf 22 = .ok (.aconst_null, 1) := by decide +kernel
theorem dX3_versionOf_23 : decode cX3_versionOf 23 = .ok (.areturn, 1) := by decide +kernel
theorem dX3_takeVersion_0 : decode cX3_takeVersion 0 = .ok (.aload_n 0, 1) := by decide +kernel
theorem dX3_takeVersion_1 : decode cX3_takeVersion 1 = .ok (.iload_n 1, 1) := by decide +kernel
theorem dX3_takeVersion_2 : decode cX3_takeVersion 2 = .ok (.invokevirtual 21, 3) := by decide +kernel
theorem dX3_takeVersion_5 : decode cX3_takeVersion 5 = .ok (.astore_n 3, 1) := by decide +kernel
theorem dX3_takeVersion_6 : decode cX3_takeVersion 6 = .ok (.aload_n 3, 1) := by decide +kernel
theorem dX3_takeVersion_7 : decode cX3_takeVersion 7 = .ok (.ifnonnull 35, 3) := by decide +kernel
theorem dX3_takeVersion_10 : decode cX3_takeVersion 10 = .ok (.iload_n 1, 1) := by decide +kernel
theorem dX3_takeVersion_11 : decode cX3_takeVersion 11 = .ok (.ifCond .lt 31, 3) := by decide +kernel
theorem dX3_takeVersion_14 : decode cX3_takeVersion 14 = .ok (.iload_n 1, 1) := by decide +kernel
theorem dX3_takeVersion_15 : decode cX3_takeVersion 15 = .ok (.aload_n 0, 1) := by decide +kernel
theorem dX3_takeVersion_16 : decode cX3_takeVersion 16 = .ok (.getfield 11, 3) := by decide +kernel
theorem dX3_takeVersion_19 : decode cX3_takeVersion 19 = .ok (.arraylength, 1) := by decide +kernel
theorem dX3_takeVersion_20 : decode cX3_takeVersion 20 = .ok (.if_icmp .ge 22, 3) := by decide +kernel
theorem dX3_takeVersion_23 : decode cX3_takeVersion 23 = .ok (.new 9, 3) := by decide +kernel
theorem dX3_takeVersion_26 : decode cX3_takeVersion 26 = .ok (.dup, 1) := by decide +kernel
theorem dX3_takeVersion_27 : decode cX3_takeVersion 27 = .ok (.aload_n 2, 1) := by decide +kernel
theorem dX3_takeVersion_28 : decode cX3_takeVersion 28 = .ok (.invokevirtual 25, 3) := by decide +kernel
theorem dX3_takeVersion_31 : decode cX3_takeVersion 31 = .ok (.invokespecial 29, 3) := by decide +kernel
theorem dX3_takeVersion_34 : decode cX3_takeVersion 34 = .ok (.astore_n 3, 1) := by decide +kernel
theorem dX3_takeVersion_35 : decode cX3_takeVersion 35 = .ok (.aload_n 0, 1) := by decide +kernel
theorem dX3_takeVersion_36 : decode cX3_takeVersion 36 = .ok (.getfield 11, 3) := by decide +kernel
theorem dX3_takeVersion_39 : decode cX3_takeVersion 39 = .ok (.iload_n 1, 1) := by decide +kernel
theorem dX3_takeVersion_40 : decode cX3_takeVersion 40 = .ok (.aload_n 3, 1) := by decide +kernel
theorem dX3_takeVersion_41 : decode cX3_takeVersion 41 = .ok (.aastore, 1) := by decide +kernel
theorem dX3_takeVersion_42 : decode cX3_takeVersion 42 = .ok (.aload_n 3, 1) := by decide +kernel
theorem dX3_takeVersion_43 : decode cX3_takeVersion 43 = .ok (.ifnull 8, 3) := by decide +kernel
theorem dX3_takeVersion_46 : decode cX3_takeVersion 46 = .ok (.aload_n 3, 1) := by decide +kernel
theorem dX3_takeVersion_47 : decode cX3_takeVersion 47 = .ok (.aload_n 2, 1) := by decide +kernel
theorem dX3_takeVersion_48 : decode cX3_takeVersion 48 = .ok (.invokevirtual 32, 3) := by decide +kernel
theorem dX3_takeVersion_51 : decode cX3_takeVersion 51 = .ok (.return_, 1) := by decide +kernel
theorem dX4_init_0 : decode cX4_init 0 = .ok (.aload_n 0, 1) := by decide +kernel
theorem dX4_init_1 : decode cX4_init 1 = .ok (.invokespecial 3, 3) := by decide +kernel
theorem dX4_init_4 : decode cX4_init 4 = .ok (.aload_n 0, 1) := by decide +kernel
theorem dX4_init_5 : decode cX4_init 5 = .ok (.iconst (-1), 1) := by decide +kernel
theorem dX4_init_6 : decode cX4_init 6 = .ok (.putfield 9, 3) := by decide +kernel
theorem dX4_init_9 : decode cX4_init 9 = .ok (.aload_n 0, 1) := by decide +kernel
theorem dX4_init_10 : decode cX4_init 10 = .ok (.iconst 0, 1) := by decide +kernel
theorem dX4_init_11 : decode cX4_init 11 = .ok (.putfield 15, 3) := by decide +kernel
theorem dX4_init_14 : decode cX4_init 14 = .ok (.aload_n 0, 1) := by decide +kernel
theorem dX4_init_15 : decode cX4_init 15 = .ok (.iconst 0, 1) := by decide +kernel
theorem dX4_init_16 : decode cX4_init 16 = .ok (.putfield 18, 3) := by decide +kernel
theorem dX4_init_19 : decode cX4_init 19 = .ok (.aload_n 0, 1) := by decide +kernel
theorem dX4_init_20 : decode cX4_init 20 = .ok (.iconst 0, 1) := by decide +kernel
theorem dX4_init_21 : decode cX4_init 21 = .ok (.putfield 21, 3) := by decide +kernel
theorem dX4_init_24 : decode cX4_init 24 = .ok (.aload_n 0, 1) := by decide +kernel
theorem dX4_init_25 : decode cX4_init 25 = .ok (.iconst 0, 1) := by decide +kernel
theorem dX4_init_26 : decode cX4_init 26 = .ok (.putfield 24, 3) := by decide +kernel
theorem dX4_init_29 : decode cX4_init 29 = .ok (.aload_n 0, 1) := by decide +kernel
theorem dX4_init_30 : decode cX4_init 30 = .ok (.iconst 0, 1) := by decide +kernel
theorem dX4_init_31 : decode cX4_init 31 = .ok (.putfield 27, 3) := by decide +kernel
theorem dX4_init_34 : decode cX4_init 34 = .ok (.aload_n 0, 1) := by decide +kernel
theorem dX4_init_35 : decode cX4_init 35 = .ok (.iconst 0, 1) := by decide +kernel
theorem dX4_init_36 : decode cX4_init 36 = .ok (.putfield 30, 3) := by decide +kernel
theorem dX4_init_39 : decode cX4_init 39 = .ok (.aload_n 0, 1) := by decide +kernel
theorem dX4_init_40 : decode cX4_init 40 = .ok (.iconst 0, 1) := by decide +kernel
theorem dX4_init_41 : decode cX4_init 41 = .ok (.putfield 33, 3) := by decide +kernel
theorem dX4_init_44 : decode cX4_init 44 = .ok (.aload_n 0, 1) := by decide +kernel
theorem dX4_init_45 : decode cX4_init 45 = .ok (.iconst 0, 1) := by decide +kernel
theorem dX4_init_46 : decode cX4_init 46 = .ok (.putfield 37, 3) := by decide +kernel
theorem dX4_init_49 : decode cX4_init 49 = .ok (.aload_n 0, 1) := by decide +kernel
theorem dX4_init_50 : decode cX4_init 50 = .ok (.lconst 0, 1) := by decide +kernel
theorem dX4_init_51 : decode cX4_init 51 = .ok (.putfield 40, 3) := by decide +kernel
theorem dX4_init_54 : decode cX4_init 54 = .ok (.aload_n 0, 1) := by decide +kernel
theorem dX4_init_55 : decode cX4_init 55 = .ok (.iconst 4, 1) := by decide +kernel
theorem dX4_init_56 : decode cX4_init 56 = .ok (.newarray .long, 2) := by decide +kernel
theorem dX4_init_58 : decode cX4_init 58 = .ok (.putfield 44, 3) := by decide +kernel
theorem dX4_init_61 : decode cX4_init 61 = .ok (.return_, 1) := by decide +kernel
theorem dX4_startPiece_0 : decode cX4_startPiece 0 = .ok (.aload_n 0, 1) := by decide +kernel
theorem dX4_startPiece_1 : decode cX4_startPiece 1 = .ok (.iload_n 1, 1) := by decide +kernel
theorem dX4_startPiece_2 : decode cX4_startPiece 2 = .ok (.putfield 9, 3) := by decide +kernel
theorem dX4_startPiece_5 : decode cX4_startPiece 5 = .ok (.aload_n 0, 1) := by decide +kernel
theorem dX4_startPiece_6 : decode cX4_startPiece 6 = .ok (.iload_n 2, 1) := by decide +kernel
theorem dX4_startPiece_7 : decode cX4_startPiece 7 = .ok (.putfield 15, 3) := by decide +kernel
theorem dX4_startPiece_10 : decode cX4_startPiece 10 = .ok (.aload_n 0, 1) := by decide +kernel
theorem dX4_startPiece_11 : decode cX4_startPiece 11 = .ok (.iconst 0, 1) := by decide +kernel
theorem dX4_startPiece_12 : decode cX4_startPiece 12 = .ok (.putfield 18, 3) := by decide +kernel
theorem dX4_startPiece_15 : decode cX4_startPiece 15 = .ok (.aload_n 0, 1) := by decide +kernel
theorem dX4_startPiece_16 : decode cX4_startPiece 16 = .ok (.bipush 20, 2) := by decide +kernel
theorem dX4_startPiece_18 : decode cX4_startPiece 18 = .ok (.putfield 21, 3) := by decide +kernel
theorem dX4_startPiece_21 : decode cX4_startPiece 21 = .ok (.aload_n 0, 1) := by decide +kernel
theorem dX4_startPiece_22 : decode cX4_startPiece 22 = .ok (.iconst 0, 1) := by decide +kernel
theorem dX4_startPiece_23 : decode cX4_startPiece 23 = .ok (.putfield 24, 3) := by decide +kernel
theorem dX4_startPiece_26 : decode cX4_startPiece 26 = .ok (.aload_n 0, 1) := by decide +kernel
theorem dX4_startPiece_27 : decode cX4_startPiece 27 = .ok (.iconst 0, 1) := by decide +kernel
theorem dX4_startPiece_28 : decode cX4_startPiece 28 = .ok (.putfield 27, 3) := by decide +kernel
theorem dX4_startPiece_31 : decode cX4_startPiece 31 = .ok (.aload_n 0, 1) := by decide +kernel
theorem dX4_startPiece_32 : decode cX4_startPiece 32 = .ok (.iconst 0, 1) := by decide +kernel
theorem dX4_startPiece_33 : decode cX4_startPiece 33 = .ok (.putfield 30, 3) := by decide +kernel
theorem dX4_startPiece_36 : decode cX4_startPiece 36 = .ok (.aload_n 0, 1) := by decide +kernel
theorem dX4_startPiece_37 : decode cX4_startPiece 37 = .ok (.iconst 0, 1) := by decide +kernel
theorem dX4_startPiece_38 : decode cX4_startPiece 38 = .ok (.putfield 37, 3) := by decide +kernel
theorem dX4_startPiece_41 : decode cX4_startPiece 41 = .ok (.aload_n 0, 1) := by decide +kernel
theorem dX4_startPiece_42 : decode cX4_startPiece 42 = .ok (.iconst 1, 1) := by decide +kernel
theorem dX4_startPiece_43 : decode cX4_startPiece 43 = .ok (.putfield 33, 3) := by decide +kernel
theorem dX4_startPiece_46 : decode cX4_startPiece 46 = .ok (.return_, 1) := by decide +kernel
theorem dX4_hearDrum_0 : decode cX4_hearDrum 0 = .ok (.iload_n 1, 1) := by decide +kernel
theorem dX4_hearDrum_1 : decode cX4_hearDrum 1 = .ok (.lookupswitch 42 #[(3, 27), (4, 34)], 27) := by decide +kernel
theorem dX4_hearDrum_28 : decode cX4_hearDrum 28 = .ok (.aload_n 0, 1) := by decide +kernel
theorem dX4_hearDrum_29 : decode cX4_hearDrum 29 = .ok (.invokevirtual 48, 3) := by decide +kernel
theorem dX4_hearDrum_32 : decode cX4_hearDrum 32 = .ok (.goto 16, 3) := by decide +kernel
theorem dX4_hearDrum_35 : decode cX4_hearDrum 35 = .ok (.aload_n 0, 1) := by decide +kernel
theorem dX4_hearDrum_36 : decode cX4_hearDrum 36 = .ok (.iconst 0, 1) := by decide +kernel
theorem dX4_hearDrum_37 : decode cX4_hearDrum 37 = .ok (.putfield 33, 3) := by decide +kernel
theorem dX4_hearDrum_40 : decode cX4_hearDrum 40 = .ok (.goto 8, 3) := by decide +kernel
theorem dX4_hearDrum_43 : decode cX4_hearDrum 43 = .ok (.aload_n 0, 1) := by decide +kernel
theorem dX4_hearDrum_44 : decode cX4_hearDrum 44 = .ok (.iload_n 1, 1) := by decide +kernel
theorem dX4_hearDrum_45 : decode cX4_hearDrum 45 = .ok (.putfield 30, 3) := by decide +kernel
theorem dX4_hearDrum_48 : decode cX4_hearDrum 48 = .ok (.return_, 1) := by decide +kernel
theorem dX4_hearEnd_0 : decode cX4_hearEnd 0 = .ok (.aload_n 0, 1) := by decide +kernel
theorem dX4_hearEnd_1 : decode cX4_hearEnd 1 = .ok (.getfield 37, 3) := by decide +kernel
theorem dX4_hearEnd_4 : decode cX4_hearEnd 4 = .ok (.ifCond .ne 25, 3) := by decide +kernel
theorem dX4_hearEnd_7 : decode cX4_hearEnd 7 = .ok (.aload_n 0, 1) := by decide +kernel
theorem dX4_hearEnd_8 : decode cX4_hearEnd 8 = .ok (.aload_n 0, 1) := by decide +kernel
theorem dX4_hearEnd_9 : decode cX4_hearEnd 9 = .ok (.getfield 18, 3) := by decide +kernel
theorem dX4_hearEnd_12 : decode cX4_hearEnd 12 = .ok (.aload_n 0, 1) := by decide +kernel
theorem dX4_hearEnd_13 : decode cX4_hearEnd 13 = .ok (.getfield 15, 3) := by decide +kernel
theorem dX4_hearEnd_16 : decode cX4_hearEnd 16 = .ok (.iconst 2, 1) := by decide +kernel
theorem dX4_hearEnd_17 : decode cX4_hearEnd 17 = .ok (.idiv, 1) := by decide +kernel
theorem dX4_hearEnd_18 : decode cX4_hearEnd 18 = .ok (.if_icmp .gt 7, 3) := by decide +kernel
theorem dX4_hearEnd_21 : decode cX4_hearEnd 21 = .ok (.iconst 1, 1) := by decide +kernel
theorem dX4_hearEnd_22 : decode cX4_hearEnd 22 = .ok (.goto 4, 3) := by decide +kernel
theorem dX4_hearEnd_25 : decode cX4_hearEnd 25 = .ok (.iconst 2, 1) := by decide +kernel
theorem dX4_hearEnd_26 : decode cX4_hearEnd 26 = .ok (.putfield 37, 3) := by decide +kernel
theorem dX4_hearEnd_29 : decode cX4_hearEnd 29 = .ok (.return_, 1) := by decide +kernel
theorem dX4_playBeat_0 : decode cX4_playBeat 0 = .ok (.aload_n 0, 1) := by decide +kernel
theorem dX4_playBeat_1 : decode cX4_playBeat 1 = .ok (.aload_n 0, 1) := by decide +kernel
theorem dX4_playBeat_2 : decode cX4_playBeat 2 = .ok (.getfield 18, 3) := by decide +kernel
theorem dX4_playBeat_5 : decode cX4_playBeat 5 = .ok (.aload_n 0, 1) := by decide +kernel
theorem dX4_playBeat_6 : decode cX4_playBeat 6 = .ok (.getfield 15, 3) := by decide +kernel
theorem dX4_playBeat_9 : decode cX4_playBeat 9 = .ok (.if_icmp .ge 12, 3) := by decide +kernel
theorem dX4_playBeat_12 : decode cX4_playBeat 12 = .ok (.aload_n 0, 1) := by decide +kernel
theorem dX4_playBeat_13 : decode cX4_playBeat 13 = .ok (.getfield 18, 3) := by decide +kernel
theorem dX4_playBeat_16 : decode cX4_playBeat 16 = .ok (.iconst 1, 1) := by decide +kernel
theorem dX4_playBeat_17 : decode cX4_playBeat 17 = .ok (.iadd, 1) := by decide +kernel
theorem dX4_playBeat_18 : decode cX4_playBeat 18 = .ok (.goto 4, 3) := by decide +kernel
theorem dX4_playBeat_21 : decode cX4_playBeat 21 = .ok (.iconst 1, 1) := by decide +kernel
theorem dX4_playBeat_22 : decode cX4_playBeat 22 = .ok (.putfield 18, 3) := by decide +kernel
theorem dX4_playBeat_25 : decode cX4_playBeat 25 = .ok (.aload_n 0, 1) := by decide +kernel
theorem dX4_playBeat_26 : decode cX4_playBeat 26 = .ok (.dup, 1) := by decide +kernel
theorem dX4_playBeat_27 : decode cX4_playBeat 27 = .ok (.getfield 40, 3) := by decide +kernel
theorem dX4_playBeat_30 : decode cX4_playBeat 30 = .ok (.aload_n 0, 1) := by decide +kernel
theorem dX4_playBeat_31 : decode cX4_playBeat 31 = .ok (.getfield 21, 3) := by decide +kernel
theorem dX4_playBeat_34 : decode cX4_playBeat 34 = .ok (.i2l, 1) := by decide +kernel
theorem dX4_playBeat_35 : decode cX4_playBeat 35 = .ok (.ladd, 1) := by decide +kernel
theorem dX4_playBeat_36 : decode cX4_playBeat 36 = .ok (.putfield 40, 3) := by decide +kernel
theorem dX4_playBeat_39 : decode cX4_playBeat 39 = .ok (.iconst 0, 1) := by decide +kernel
theorem dX4_playBeat_40 : decode cX4_playBeat 40 = .ok (.istore_n 1, 1) := by decide +kernel
theorem dX4_playBeat_41 : decode cX4_playBeat 41 = .ok (.iload_n 1, 1) := by decide +kernel
theorem dX4_playBeat_42 : decode cX4_playBeat 42 = .ok (.aload_n 0, 1) := by decide +kernel
theorem dX4_playBeat_43 : decode cX4_playBeat 43 = .ok (.getfield 44, 3) := by decide +kernel
theorem dX4_playBeat_46 : decode cX4_playBeat 46 = .ok (.arraylength, 1) := by decide +kernel
theorem dX4_playBeat_47 : decode cX4_playBeat 47 = .ok (.if_icmp .ge 27, 3) := by decide +kernel
theorem dX4_playBeat_50 : decode cX4_playBeat 50 = .ok (.aload_n 0, 1) := by decide +kernel
theorem dX4_playBeat_51 : decode cX4_playBeat 51 = .ok (.getfield 44, 3) := by decide +kernel
theorem dX4_playBeat_54 : decode cX4_playBeat 54 = .ok (.iload_n 1, 1) := by decide +kernel
theorem dX4_playBeat_55 : decode cX4_playBeat 55 = .ok (.dup2, 1) := by decide +kernel
theorem dX4_playBeat_56 : decode cX4_playBeat 56 = .ok (.laload, 1) := by decide +kernel
theorem dX4_playBeat_57 : decode cX4_playBeat 57 = .ok (.iload_n 1, 1) := by decide +kernel
theorem dX4_playBeat_58 : decode cX4_playBeat 58 = .ok (.aload_n 0, 1) := by decide +kernel
theorem dX4_playBeat_59 : decode cX4_playBeat 59 = .ok (.getfield 24, 3) := by decide +kernel
theorem dX4_playBeat_62 : decode cX4_playBeat 62 = .ok (.invokestatic 51, 3) := by decide +kernel
theorem dX4_playBeat_65 : decode cX4_playBeat 65 = .ok (.i2l, 1) := by decide +kernel
theorem dX4_playBeat_66 : decode cX4_playBeat 66 = .ok (.ladd, 1) := by decide +kernel
theorem dX4_playBeat_67 : decode cX4_playBeat 67 = .ok (.lastore, 1) := by decide +kernel
theorem dX4_playBeat_68 : decode cX4_playBeat 68 = .ok (.iinc 1 1, 3) := by decide +kernel
theorem dX4_playBeat_71 : decode cX4_playBeat 71 = .ok (.goto (-30), 3) := by decide +kernel
theorem dX4_playBeat_74 : decode cX4_playBeat 74 = .ok (.aload_n 0, 1) := by decide +kernel
theorem dX4_playBeat_75 : decode cX4_playBeat 75 = .ok (.invokevirtual 55, 3) := by decide +kernel
theorem dX4_playBeat_78 : decode cX4_playBeat 78 = .ok (.aload_n 0, 1) := by decide +kernel
theorem dX4_playBeat_79 : decode cX4_playBeat 79 = .ok (.getfield 18, 3) := by decide +kernel
theorem dX4_playBeat_82 : decode cX4_playBeat 82 = .ok (.aload_n 0, 1) := by decide +kernel
theorem dX4_playBeat_83 : decode cX4_playBeat 83 = .ok (.getfield 15, 3) := by decide +kernel
theorem dX4_playBeat_86 : decode cX4_playBeat 86 = .ok (.if_icmp .ne 7, 3) := by decide +kernel
theorem dX4_playBeat_89 : decode cX4_playBeat 89 = .ok (.aload_n 0, 1) := by decide +kernel
theorem dX4_playBeat_90 : decode cX4_playBeat 90 = .ok (.invokevirtual 58, 3) := by decide +kernel
theorem dX4_playBeat_93 : decode cX4_playBeat 93 = .ok (.return_, 1) := by decide +kernel
theorem dX4_changeBeatLength_0 : decode cX4_changeBeatLength 0 = .ok (.aload_n 0, 1) := by decide +kernel
theorem dX4_changeBeatLength_1 : decode cX4_changeBeatLength 1 = .ok (.getfield 30, 3) := by decide +kernel
theorem dX4_changeBeatLength_4 : decode cX4_changeBeatLength 4 = .ok (.iconst 1, 1) := by decide +kernel
theorem dX4_changeBeatLength_5 : decode cX4_changeBeatLength 5 = .ok (.if_icmp .ne 22, 3) := by decide +kernel
theorem dX4_changeBeatLength_8 : decode cX4_changeBeatLength 8 = .ok (.aload_n 0, 1) := by decide +kernel
theorem dX4_changeBeatLength_9 : decode cX4_changeBeatLength 9 = .ok (.aload_n 0, 1) := by decide +kernel
theorem dX4_changeBeatLength_10 : decode cX4_changeBeatLength 10 = .ok (.getfield 21, 3) := by decide +kernel
theorem dX4_changeBeatLength_13 : decode cX4_changeBeatLength 13 = .ok (.iconst 2, 1) := by decide +kernel
theorem dX4_changeBeatLength_14 : decode cX4_changeBeatLength 14 = .ok (.iadd, 1) := by decide +kernel
theorem dX4_changeBeatLength_15 : decode cX4_changeBeatLength 15 = .ok (.sipush 160, 3) := by decide +kernel
theorem dX4_changeBeatLength_18 : decode cX4_changeBeatLength 18 = .ok (.invokestatic 61, 3) := by decide +kernel
theorem dX4_changeBeatLength_21 : decode cX4_changeBeatLength 21 = .ok (.putfield 21, 3) := by decide +kernel
theorem dX4_changeBeatLength_24 : decode cX4_changeBeatLength 24 = .ok (.goto 26, 3) := by decide +kernel
theorem dX4_changeBeatLength_27 : decode cX4_changeBeatLength 27 = .ok (.aload_n 0, 1) := by decide +kernel
theorem dX4_changeBeatLength_28 : decode cX4_changeBeatLength 28 = .ok (.getfield 30, 3) := by decide +kernel
theorem dX4_changeBeatLength_31 : decode cX4_changeBeatLength 31 = .ok (.iconst 2, 1) := by decide +kernel
theorem dX4_changeBeatLength_32 : decode cX4_changeBeatLength 32 = .ok (.if_icmp .ne 18, 3) := by decide +kernel
theorem dX4_changeBeatLength_35 : decode cX4_changeBeatLength 35 = .ok (.aload_n 0, 1) := by decide +kernel
theorem dX4_changeBeatLength_36 : decode cX4_changeBeatLength 36 = .ok (.aload_n 0, 1) := by decide +kernel
theorem dX4_changeBeatLength_37 : decode cX4_changeBeatLength 37 = .ok (.getfield 21, 3) := by decide +kernel
theorem dX4_changeBeatLength_40 : decode cX4_changeBeatLength 40 = .ok (.iconst 2, 1) := by decide +kernel
theorem dX4_changeBeatLength_41 : decode cX4_changeBeatLength 41 = .ok (.isub, 1) := by decide +kernel
theorem dX4_changeBeatLength_42 : decode cX4_changeBeatLength 42 = .ok (.bipush 10, 2) := by decide +kernel
theorem dX4_changeBeatLength_44 : decode cX4_changeBeatLength 44 = .ok (.invokestatic 66, 3) := by decide +kernel
theorem dX4_changeBeatLength_47 : decode cX4_changeBeatLength 47 = .ok (.putfield 21, 3) := by decide +kernel
theorem dX4_changeBeatLength_50 : decode cX4_changeBeatLength 50 = .ok (.return_, 1) := by decide +kernel
theorem dX4_playGong_0 : decode cX4_playGong 0 = .ok (.aload_n 0, 1) := by decide +kernel
theorem dX4_playGong_1 : decode cX4_playGong 1 = .ok (.dup, 1) := by decide +kernel
theorem dX4_playGong_2 : decode cX4_playGong 2 = .ok (.getfield 27, 3) := by decide +kernel
theorem dX4_playGong_5 : decode cX4_playGong 5 = .ok (.iconst 1, 1) := by decide +kernel
theorem dX4_playGong_6 : decode cX4_playGong 6 = .ok (.iadd, 1) := by decide +kernel
theorem dX4_playGong_7 : decode cX4_playGong 7 = .ok (.putfield 27, 3) := by decide +kernel
theorem dX4_playGong_10 : decode cX4_playGong 10 = .ok (.aload_n 0, 1) := by decide +kernel
theorem dX4_playGong_11 : decode cX4_playGong 11 = .ok (.aload_n 0, 1) := by decide +kernel
theorem dX4_playGong_12 : decode cX4_playGong 12 = .ok (.getfield 21, 3) := by decide +kernel
theorem dX4_playGong_15 : decode cX4_playGong 15 = .ok (.invokestatic 69, 3) := by decide +kernel
theorem dX4_playGong_18 : decode cX4_playGong 18 = .ok (.putfield 24, 3) := by decide +kernel
theorem dX4_playGong_21 : decode cX4_playGong 21 = .ok (.aload_n 0, 1) := by decide +kernel
theorem dX4_playGong_22 : decode cX4_playGong 22 = .ok (.getfield 37, 3) := by decide +kernel
theorem dX4_playGong_25 : decode cX4_playGong 25 = .ok (.ifCond .le 29, 3) := by decide +kernel
theorem dX4_playGong_28 : decode cX4_playGong 28 = .ok (.aload_n 0, 1) := by decide +kernel
theorem dX4_playGong_29 : decode cX4_playGong 29 = .ok (.dup, 1) := by decide +kernel
theorem dX4_playGong_30 : decode cX4_playGong 30 = .ok (.getfield 37, 3) := by decide +kernel
theorem dX4_playGong_33 : decode cX4_playGong 33 = .ok (.iconst 1, 1) := by decide +kernel
theorem dX4_playGong_34 : decode cX4_playGong 34 = .ok (.isub, 1) := by decide +kernel
theorem dX4_playGong_35 : decode cX4_playGong 35 = .ok (.putfield 37, 3) := by decide +kernel
theorem dX4_playGong_38 : decode cX4_playGong 38 = .ok (.aload_n 0, 1) := by decide +kernel
theorem dX4_playGong_39 : decode cX4_playGong 39 = .ok (.aload_n 0, 1) := by decide +kernel
theorem dX4_playGong_40 : decode cX4_playGong 40 = .ok (.getfield 37, 3) := by decide +kernel
theorem dX4_playGong_43 : decode cX4_playGong 43 = .ok (.ifCond .le 7, 3) := by decide +kernel
theorem dX4_playGong_46 : decode cX4_playGong 46 = .ok (.iconst 1, 1) := by decide +kernel
theorem dX4_playGong_47 : decode cX4_playGong 47 = .ok (.goto 4, 3) := by decide +kernel
theorem dX4_playGong_50 : decode cX4_playGong 50 = .ok (.iconst 0, 1) := by decide +kernel
theorem dX4_playGong_51 : decode cX4_playGong 51 = .ok (.putfield 33, 3) := by decide +kernel
theorem dX4_playGong_54 : decode cX4_playGong 54 = .ok (.return_, 1) := by decide +kernel
theorem dX4_levelOf_0 : decode cX4_levelOf 0 = .ok (.iload_n 0, 1) := by decide +kernel
theorem dX4_levelOf_1 : decode cX4_levelOf 1 = .ok (.sipush 160, 3) := by decide +kernel
theorem dX4_levelOf_4 : decode cX4_levelOf 4 = .ok (.if_icmp .lt 5, 3) := by decide +kernel
theorem dX4_levelOf_7 : decode cX4_levelOf 7 = .ok (.iconst 3, 1) := by decide +kernel
theorem dX4_levelOf_8 : decode cX4_levelOf 8 = .ok (.ireturn, 1) := by decide +kernel
theorem dX4_levelOf_9 : decode cX4_levelOf 9 = .ok (.iload_n 0, 1) := by decide +kernel
theorem dX4_levelOf_10 : decode cX4_levelOf 10 = .ok (.bipush 80, 2) := by decide +kernel
theorem dX4_levelOf_12 : decode cX4_levelOf 12 = .ok (.if_icmp .lt 5, 3) := by decide +kernel
theorem dX4_levelOf_15 : decode cX4_levelOf 15 = .ok (.iconst 2, 1) := by decide +kernel
theorem dX4_levelOf_16 : decode cX4_levelOf 16 = .ok (.ireturn, 1) := by decide +kernel
theorem dX4_levelOf_17 : decode cX4_levelOf 17 = .ok (.iload_n 0, 1) := by decide +kernel
theorem dX4_levelOf_18 : decode cX4_levelOf 18 = .ok (.bipush 40, 2) := by decide +kernel
theorem dX4_levelOf_20 : decode cX4_levelOf 20 = .ok (.if_icmp .lt 7, 3) := by decide +kernel
theorem dX4_levelOf_23 : decode cX4_levelOf 23 = .ok (.iconst 1, 1) := by decide +kernel
theorem dX4_levelOf_24 : decode cX4_levelOf 24 = .ok (.goto 4, 3) := by decide +kernel
theorem dX4_levelOf_27 : decode cX4_levelOf 27 = .ok (.iconst 0, 1) := by decide +kernel
theorem dX4_levelOf_28 : decode cX4_levelOf 28 = .ok (.ireturn, 1) := by decide +kernel
theorem dX4_strokesOf_0 : decode cX4_strokesOf 0 = .ok (.iload_n 1, 1) := by decide +kernel
theorem dX4_strokesOf_1 : decode cX4_strokesOf 1 = .ok (.ifCond .lt 21, 3) := by decide +kernel
theorem dX4_strokesOf_4 : decode cX4_strokesOf 4 = .ok (.iload_n 1, 1) := by decide +kernel
theorem dX4_strokesOf_5 : decode cX4_strokesOf 5 = .ok (.aload_n 0, 1) := by decide +kernel
theorem dX4_strokesOf_6 : decode cX4_strokesOf 6 = .ok (.getfield 44, 3) := by decide +kernel
theorem dX4_strokesOf_9 : decode cX4_strokesOf 9 = .ok (.arraylength, 1) := by decide +kernel
theorem dX4_strokesOf_10 : decode cX4_strokesOf 10 = .ok (.if_icmp .ge 12, 3) := by decide +kernel
theorem dX4_strokesOf_13 : decode cX4_strokesOf 13 = .ok (.aload_n 0, 1) := by decide +kernel
theorem dX4_strokesOf_14 : decode cX4_strokesOf 14 = .ok (.getfield 44, 3) := by decide +kernel
theorem dX4_strokesOf_17 : decode cX4_strokesOf 17 = .ok (.iload_n 1, 1) := by decide +kernel
theorem dX4_strokesOf_18 : decode cX4_strokesOf 18 = .ok (.laload, 1) := by decide +kernel
theorem dX4_strokesOf_19 : decode cX4_strokesOf 19 = .ok (.goto 4, 3) := by decide +kernel
theorem dX4_strokesOf_22 : decode cX4_strokesOf 22 = .ok (.lconst 0, 1) := by decide +kernel
theorem dX4_strokesOf_23 : decode cX4_strokesOf 23 = .ok (.lreturn, 1) := by decide +kernel
theorem dJ6_bitCount_0f7a4_0 : decode cJ6_bitCount_0f7a4 0 = .ok (.iload_n 0, 1) := by decide +kernel
theorem dJ6_bitCount_0f7a4_1 : decode cJ6_bitCount_0f7a4 1 = .ok (.iload_n 0, 1) := by decide +kernel
theorem dJ6_bitCount_0f7a4_2 : decode cJ6_bitCount_0f7a4 2 = .ok (.iconst 1, 1) := by decide +kernel
theorem dJ6_bitCount_0f7a4_3 : decode cJ6_bitCount_0f7a4 3 = .ok (.iushr, 1) := by decide +kernel
theorem dJ6_bitCount_0f7a4_4 : decode cJ6_bitCount_0f7a4 4 = .ok (.ldc_w 265, 3) := by decide +kernel
theorem dJ6_bitCount_0f7a4_7 : decode cJ6_bitCount_0f7a4 7 = .ok (.iand, 1) := by decide +kernel
theorem dJ6_bitCount_0f7a4_8 : decode cJ6_bitCount_0f7a4 8 = .ok (.isub, 1) := by decide +kernel
theorem dJ6_bitCount_0f7a4_9 : decode cJ6_bitCount_0f7a4 9 = .ok (.istore_n 0, 1) := by decide +kernel
theorem dJ6_bitCount_0f7a4_10 : decode cJ6_bitCount_0f7a4 10 = .ok (.iload_n 0, 1) := by decide +kernel
theorem dJ6_bitCount_0f7a4_11 : decode cJ6_bitCount_0f7a4 11 = .ok (.ldc_w 266, 3) := by decide +kernel
theorem dJ6_bitCount_0f7a4_14 : decode cJ6_bitCount_0f7a4 14 = .ok (.iand, 1) := by decide +kernel
theorem dJ6_bitCount_0f7a4_15 : decode cJ6_bitCount_0f7a4 15 = .ok (.iload_n 0, 1) := by decide +kernel
theorem dJ6_bitCount_0f7a4_16 : decode cJ6_bitCount_0f7a4 16 = .ok (.iconst 2, 1) := by decide +kernel
theorem dJ6_bitCount_0f7a4_17 : decode cJ6_bitCount_0f7a4 17 = .ok (.iushr, 1) := by decide +kernel
theorem dJ6_bitCount_0f7a4_18 : decode cJ6_bitCount_0f7a4 18 = .ok (.ldc_w 266, 3) := by decide +kernel
theorem dJ6_bitCount_0f7a4_21 : decode cJ6_bitCount_0f7a4 21 = .ok (.iand, 1) := by decide +kernel
theorem dJ6_bitCount_0f7a4_22 : decode cJ6_bitCount_0f7a4 22 = .ok (.iadd, 1) := by decide +kernel
theorem dJ6_bitCount_0f7a4_23 : decode cJ6_bitCount_0f7a4 23 = .ok (.istore_n 0, 1) := by decide +kernel
theorem dJ6_bitCount_0f7a4_24 : decode cJ6_bitCount_0f7a4 24 = .ok (.iload_n 0, 1) := by decide +kernel
theorem dJ6_bitCount_0f7a4_25 : decode cJ6_bitCount_0f7a4 25 = .ok (.iload_n 0, 1) := by decide +kernel
theorem dJ6_bitCount_0f7a4_26 : decode cJ6_bitCount_0f7a4 26 = .ok (.iconst 4, 1) := by decide +kernel
theorem dJ6_bitCount_0f7a4_27 : decode cJ6_bitCount_0f7a4 27 = .ok (.iushr, 1) := by decide +kernel
theorem dJ6_bitCount_0f7a4_28 : decode cJ6_bitCount_0f7a4 28 = .ok (.iadd, 1) := by decide +kernel
theorem dJ6_bitCount_0f7a4_29 : decode cJ6_bitCount_0f7a4 29 = .ok (.ldc_w 267, 3) := by decide +kernel
theorem dJ6_bitCount_0f7a4_32 : decode cJ6_bitCount_0f7a4 32 = .ok (.iand, 1) := by decide +kernel
theorem dJ6_bitCount_0f7a4_33 : decode cJ6_bitCount_0f7a4 33 = .ok (.istore_n 0, 1) := by decide +kernel
theorem dJ6_bitCount_0f7a4_34 : decode cJ6_bitCount_0f7a4 34 = .ok (.iload_n 0, 1) := by decide +kernel
theorem dJ6_bitCount_0f7a4_35 : decode cJ6_bitCount_0f7a4 35 = .ok (.iload_n 0, 1) := by decide +kernel
theorem dJ6_bitCount_0f7a4_36 : decode cJ6_bitCount_0f7a4 36 = .ok (.bipush 8, 2) := by decide +kernel
theorem dJ6_bitCount_0f7a4_38 : decode cJ6_bitCount_0f7a4 38 = .ok (.iushr, 1) := by decide +kernel
theorem dJ6_bitCount_0f7a4_39 : decode cJ6_bitCount_0f7a4 39 = .ok (.iadd, 1) := by decide +kernel
theorem dJ6_bitCount_0f7a4_40 : decode cJ6_bitCount_0f7a4 40 = .ok (.istore_n 0, 1) := by decide +kernel
theorem dJ6_bitCount_0f7a4_41 : decode cJ6_bitCount_0f7a4 41 = .ok (.iload_n 0, 1) := by decide +kernel
theorem dJ6_bitCount_0f7a4_42 : decode cJ6_bitCount_0f7a4 42 = .ok (.iload_n 0, 1) := by decide +kernel
theorem dJ6_bitCount_0f7a4_43 : decode cJ6_bitCount_0f7a4 43 = .ok (.bipush 16, 2) := by decide +kernel
theorem dJ6_bitCount_0f7a4_45 : decode cJ6_bitCount_0f7a4 45 = .ok (.iushr, 1) := by decide +kernel
theorem dJ6_bitCount_0f7a4_46 : decode cJ6_bitCount_0f7a4 46 = .ok (.iadd, 1) := by decide +kernel
theorem dJ6_bitCount_0f7a4_47 : decode cJ6_bitCount_0f7a4 47 = .ok (.istore_n 0, 1) := by decide +kernel
theorem dJ6_bitCount_0f7a4_48 : decode cJ6_bitCount_0f7a4 48 = .ok (.iload_n 0, 1) := by decide +kernel
theorem dJ6_bitCount_0f7a4_49 : decode cJ6_bitCount_0f7a4 49 = .ok (.bipush 63, 2) := by decide +kernel
theorem dJ6_bitCount_0f7a4_51 : decode cJ6_bitCount_0f7a4 51 = .ok (.iand, 1) := by decide +kernel
theorem dJ6_bitCount_0f7a4_52 : decode cJ6_bitCount_0f7a4 52 = .ok (.ireturn, 1) := by decide +kernel
theorem dJ9_abs_0f7a4_0 : decode cJ9_abs_0f7a4 0 = .ok (.iload_n 0, 1) := by decide +kernel
theorem dJ9_abs_0f7a4_1 : decode cJ9_abs_0f7a4 1 = .ok (.ifCond .ge 8, 3) := by decide +kernel
theorem dJ9_abs_0f7a4_4 : decode cJ9_abs_0f7a4 4 = .ok (.iload_n 0, 1) := by decide +kernel
theorem dJ9_abs_0f7a4_5 : decode cJ9_abs_0f7a4 5 = .ok (.ineg, 1) := by decide +kernel
theorem dJ9_abs_0f7a4_6 : decode cJ9_abs_0f7a4 6 = .ok (.goto 4, 3) := by decide +kernel
theorem dJ9_abs_0f7a4_9 : decode cJ9_abs_0f7a4 9 = .ok (.iload_n 0, 1) := by decide +kernel
theorem dJ9_abs_0f7a4_10 : decode cJ9_abs_0f7a4 10 = .ok (.ireturn, 1) := by decide +kernel
theorem dJ9_max_7cf53_0 : decode cJ9_max_7cf53 0 = .ok (.iload_n 0, 1) := by decide +kernel
theorem dJ9_max_7cf53_1 : decode cJ9_max_7cf53 1 = .ok (.iload_n 1, 1) := by decide +kernel
theorem dJ9_max_7cf53_2 : decode cJ9_max_7cf53 2 = .ok (.if_icmp .lt 7, 3) := by decide +kernel
theorem dJ9_max_7cf53_5 : decode cJ9_max_7cf53 5 = .ok (.iload_n 0, 1) := by decide +kernel
theorem dJ9_max_7cf53_6 : decode cJ9_max_7cf53 6 = .ok (.goto 4, 3) := by decide +kernel
theorem dJ9_max_7cf53_9 : decode cJ9_max_7cf53 9 = .ok (.iload_n 1, 1) := by decide +kernel
theorem dJ9_max_7cf53_10 : decode cJ9_max_7cf53 10 = .ok (.ireturn, 1) := by decide +kernel
theorem dJ9_max_f86c9_0 : decode cJ9_max_f86c9 0 = .ok (.lload_n 0, 1) := by decide +kernel
theorem dJ9_max_f86c9_1 : decode cJ9_max_f86c9 1 = .ok (.lload_n 2, 1) := by decide +kernel
theorem dJ9_max_f86c9_2 : decode cJ9_max_f86c9 2 = .ok (.lcmp, 1) := by decide +kernel
theorem dJ9_max_f86c9_3 : decode cJ9_max_f86c9 3 = .ok (.ifCond .lt 7, 3) := by decide +kernel
theorem dJ9_max_f86c9_6 : decode cJ9_max_f86c9 6 = .ok (.lload_n 0, 1) := by decide +kernel
theorem dJ9_max_f86c9_7 : decode cJ9_max_f86c9 7 = .ok (.goto 4, 3) := by decide +kernel
theorem dJ9_max_f86c9_10 : decode cJ9_max_f86c9 10 = .ok (.lload_n 2, 1) := by decide +kernel
theorem dJ9_max_f86c9_11 : decode cJ9_max_f86c9 11 = .ok (.lreturn, 1) := by decide +kernel
theorem dJ9_min_7cf53_0 : decode cJ9_min_7cf53 0 = .ok (.iload_n 0, 1) := by decide +kernel
theorem dJ9_min_7cf53_1 : decode cJ9_min_7cf53 1 = .ok (.iload_n 1, 1) := by decide +kernel
theorem dJ9_min_7cf53_2 : decode cJ9_min_7cf53 2 = .ok (.if_icmp .gt 7, 3) := by decide +kernel
theorem dJ9_min_7cf53_5 : decode cJ9_min_7cf53 5 = .ok (.iload_n 0, 1) := by decide +kernel
theorem dJ9_min_7cf53_6 : decode cJ9_min_7cf53 6 = .ok (.goto 4, 3) := by decide +kernel
theorem dJ9_min_7cf53_9 : decode cJ9_min_7cf53 9 = .ok (.iload_n 1, 1) := by decide +kernel
theorem dJ9_min_7cf53_10 : decode cJ9_min_7cf53 10 = .ok (.ireturn, 1) := by decide +kernel
theorem dJ9_min_f86c9_0 : decode cJ9_min_f86c9 0 = .ok (.lload_n 0, 1) := by decide +kernel
theorem dJ9_min_f86c9_1 : decode cJ9_min_f86c9 1 = .ok (.lload_n 2, 1) := by decide +kernel
theorem dJ9_min_f86c9_2 : decode cJ9_min_f86c9 2 = .ok (.lcmp, 1) := by decide +kernel
theorem dJ9_min_f86c9_3 : decode cJ9_min_f86c9 3 = .ok (.ifCond .gt 7, 3) := by decide +kernel
theorem dJ9_min_f86c9_6 : decode cJ9_min_f86c9 6 = .ok (.lload_n 0, 1) := by decide +kernel
theorem dJ9_min_f86c9_7 : decode cJ9_min_f86c9 7 = .ok (.goto 4, 3) := by decide +kernel
theorem dJ9_min_f86c9_10 : decode cJ9_min_f86c9 10 = .ok (.lload_n 2, 1) := by decide +kernel
theorem dJ9_min_f86c9_11 : decode cJ9_min_f86c9 11 = .ok (.lreturn, 1) := by decide +kernel
