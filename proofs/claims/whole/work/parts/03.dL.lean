theorem dL_form_0 : decode cL_form 0 = .ok (.aload_n 2, 1) := by decide +kernel
theorem dL_form_1 : decode cL_form 1 = .ok (.iconst 0, 1) := by decide +kernel
theorem dL_form_2 : decode cL_form 2 = .ok (.aload_n 0, 1) := by decide +kernel
theorem dL_form_3 : decode cL_form 3 = .ok (.iload_n 1, 1) := by decide +kernel
theorem dL_form_4 : decode cL_form 4 = .ok (.invokevirtual 7, 3) := by decide +kernel
theorem dL_form_7 : decode cL_form 7 = .ok (.i2l, 1) := by decide +kernel
theorem dL_form_8 : decode cL_form 8 = .ok (.lastore, 1) := by decide +kernel
theorem dL_form_9 : decode cL_form 9 = .ok (.goto 9, 3) := by decide +kernel
theorem dL_form_12 : decode cL_form 12 = .ok (.astore_n 3, 1) := by decide +kernel
theorem dL_form_13 : decode cL_form 13 = .ok (.iconst 1, 1) := by decide +kernel
theorem dL_form_14 : decode cL_form 14 = .ok (.ireturn, 1) := by decide +kernel
theorem dL_form_15 : decode cL_form 15 = .ok (.astore_n 3, 1) := by decide +kernel
theorem dL_form_16 : decode cL_form 16 = .ok (.iconst 2, 1) := by decide +kernel
theorem dL_form_17 : decode cL_form 17 = .ok (.ireturn, 1) := by decide +kernel
theorem dL_form_18 : decode cL_form 18 = .ok (.iconst 0, 1) := by decide +kernel
theorem dL_form_19 : decode cL_form 19 = .ok (.ireturn, 1) := by decide +kernel
theorem dL_depth_0 : decode cL_depth 0 = .ok (.aload_n 3, 1) := by decide +kernel
theorem dL_depth_1 : decode cL_depth 1 = .ok (.iconst 0, 1) := by decide +kernel
theorem dL_depth_2 : decode cL_depth 2 = .ok (.aload_n 0, 1) := by decide +kernel
theorem dL_depth_3 : decode cL_depth 3 = .ok (.iload_n 1, 1) := by decide +kernel
theorem dL_depth_4 : decode cL_depth 4 = .ok (.iload_n 2, 1) := by decide +kernel
theorem dL_depth_5 : decode cL_depth 5 = .ok (.invokevirtual 17, 3) := by decide +kernel
theorem dL_depth_8 : decode cL_depth 8 = .ok (.i2l, 1) := by decide +kernel
theorem dL_depth_9 : decode cL_depth 9 = .ok (.lastore, 1) := by decide +kernel
theorem dL_depth_10 : decode cL_depth 10 = .ok (.goto 7, 3) := by decide +kernel
theorem dL_depth_13 : decode cL_depth 13 = .ok (.astore 4, 2) := by decide +kernel
theorem dL_depth_15 : decode cL_depth 15 = .ok (.iconst 1, 1) := by decide +kernel
theorem dL_depth_16 : decode cL_depth 16 = .ok (.ireturn, 1) := by decide +kernel
theorem dL_depth_17 : decode cL_depth 17 = .ok (.iconst 0, 1) := by decide +kernel
theorem dL_depth_18 : decode cL_depth 18 = .ok (.ireturn, 1) := by decide +kernel
theorem dL_piece_0 : decode cL_piece 0 = .ok (.aload_n 2, 1) := by decide +kernel
theorem dL_piece_1 : decode cL_piece 1 = .ok (.iconst 0, 1) := by decide +kernel
theorem dL_piece_2 : decode cL_piece 2 = .ok (.aload_n 0, 1) := by decide +kernel
theorem dL_piece_3 : decode cL_piece 3 = .ok (.iload_n 1, 1) := by decide +kernel
theorem dL_piece_4 : decode cL_piece 4 = .ok (.invokevirtual 23, 3) := by decide +kernel
theorem dL_piece_7 : decode cL_piece 7 = .ok (.i2l, 1) := by decide +kernel
theorem dL_piece_8 : decode cL_piece 8 = .ok (.lastore, 1) := by decide +kernel
theorem dL_piece_9 : decode cL_piece 9 = .ok (.goto 9, 3) := by decide +kernel
theorem dL_piece_12 : decode cL_piece 12 = .ok (.astore_n 3, 1) := by decide +kernel
theorem dL_piece_13 : decode cL_piece 13 = .ok (.iconst 1, 1) := by decide +kernel
theorem dL_piece_14 : decode cL_piece 14 = .ok (.ireturn, 1) := by decide +kernel
theorem dL_piece_15 : decode cL_piece 15 = .ok (.astore_n 3, 1) := by decide +kernel
theorem dL_piece_16 : decode cL_piece 16 = .ok (.iconst 2, 1) := by decide +kernel
theorem dL_piece_17 : decode cL_piece 17 = .ok (.ireturn, 1) := by decide +kernel
theorem dL_piece_18 : decode cL_piece 18 = .ok (.iconst 0, 1) := by decide +kernel
theorem dL_piece_19 : decode cL_piece 19 = .ok (.ireturn, 1) := by decide +kernel
theorem dL_tone_0 : decode cL_tone 0 = .ok (.aload 4, 2) := by decide +kernel
theorem dL_tone_2 : decode cL_tone 2 = .ok (.iconst 0, 1) := by decide +kernel
theorem dL_tone_3 : decode cL_tone 3 = .ok (.aload_n 0, 1) := by decide +kernel
theorem dL_tone_4 : decode cL_tone 4 = .ok (.iload_n 1, 1) := by decide +kernel
theorem dL_tone_5 : decode cL_tone 5 = .ok (.iload_n 2, 1) := by decide +kernel
theorem dL_tone_6 : decode cL_tone 6 = .ok (.iload_n 3, 1) := by decide +kernel
theorem dL_tone_7 : decode cL_tone 7 = .ok (.invokevirtual 26, 3) := by decide +kernel
theorem dL_tone_10 : decode cL_tone 10 = .ok (.i2l, 1) := by decide +kernel
theorem dL_tone_11 : decode cL_tone 11 = .ok (.lastore, 1) := by decide +kernel
theorem dL_tone_12 : decode cL_tone 12 = .ok (.goto 11, 3) := by decide +kernel
theorem dL_tone_15 : decode cL_tone 15 = .ok (.astore 5, 2) := by decide +kernel
theorem dL_tone_17 : decode cL_tone 17 = .ok (.iconst 1, 1) := by decide +kernel
theorem dL_tone_18 : decode cL_tone 18 = .ok (.ireturn, 1) := by decide +kernel
theorem dL_tone_19 : decode cL_tone 19 = .ok (.astore 5, 2) := by decide +kernel
theorem dL_tone_21 : decode cL_tone 21 = .ok (.iconst 2, 1) := by decide +kernel
theorem dL_tone_22 : decode cL_tone 22 = .ok (.ireturn, 1) := by decide +kernel
theorem dL_tone_23 : decode cL_tone 23 = .ok (.iconst 0, 1) := by decide +kernel
theorem dL_tone_24 : decode cL_tone 24 = .ok (.ireturn, 1) := by decide +kernel
theorem dL_forbid_0 : decode cL_forbid 0 = .ok (.aload_n 3, 1) := by decide +kernel
theorem dL_forbid_1 : decode cL_forbid 1 = .ok (.iconst 0, 1) := by decide +kernel
theorem dL_forbid_2 : decode cL_forbid 2 = .ok (.aload_n 0, 1) := by decide +kernel
theorem dL_forbid_3 : decode cL_forbid 3 = .ok (.iload_n 1, 1) := by decide +kernel
theorem dL_forbid_4 : decode cL_forbid 4 = .ok (.iload_n 2, 1) := by decide +kernel
theorem dL_forbid_5 : decode cL_forbid 5 = .ok (.invokevirtual 30, 3) := by decide +kernel
theorem dL_forbid_8 : decode cL_forbid 8 = .ok (.i2l, 1) := by decide +kernel
theorem dL_forbid_9 : decode cL_forbid 9 = .ok (.lastore, 1) := by decide +kernel
theorem dL_forbid_10 : decode cL_forbid 10 = .ok (.goto 11, 3) := by decide +kernel
theorem dL_forbid_13 : decode cL_forbid 13 = .ok (.astore 4, 2) := by decide +kernel
theorem dL_forbid_15 : decode cL_forbid 15 = .ok (.iconst 1, 1) := by decide +kernel
theorem dL_forbid_16 : decode cL_forbid 16 = .ok (.ireturn, 1) := by decide +kernel
theorem dL_forbid_17 : decode cL_forbid 17 = .ok (.astore 4, 2) := by decide +kernel
theorem dL_forbid_19 : decode cL_forbid 19 = .ok (.iconst 2, 1) := by decide +kernel
theorem dL_forbid_20 : decode cL_forbid 20 = .ok (.ireturn, 1) := by decide +kernel
theorem dL_forbid_21 : decode cL_forbid 21 = .ok (.iconst 0, 1) := by decide +kernel
theorem dL_forbid_22 : decode cL_forbid 22 = .ok (.ireturn, 1) := by decide +kernel
theorem dL_sounds_0 : decode cL_sounds 0 = .ok (.aload_n 3, 1) := by decide +kernel
theorem dL_sounds_1 : decode cL_sounds 1 = .ok (.iconst 0, 1) := by decide +kernel
theorem dL_sounds_2 : decode cL_sounds 2 = .ok (.aload_n 0, 1) := by decide +kernel
theorem dL_sounds_3 : decode cL_sounds 3 = .ok (.iload_n 1, 1) := by decide +kernel
theorem dL_sounds_4 : decode cL_sounds 4 = .ok (.iload_n 2, 1) := by decide +kernel
theorem dL_sounds_5 : decode cL_sounds 5 = .ok (.invokevirtual 33, 3) := by decide +kernel
theorem dL_sounds_8 : decode cL_sounds 8 = .ok (.i2l, 1) := by decide +kernel
theorem dL_sounds_9 : decode cL_sounds 9 = .ok (.lastore, 1) := by decide +kernel
theorem dL_sounds_10 : decode cL_sounds 10 = .ok (.goto 7, 3) := by decide +kernel
theorem dL_sounds_13 : decode cL_sounds 13 = .ok (.astore 4, 2) := by decide +kernel
theorem dL_sounds_15 : decode cL_sounds 15 = .ok (.iconst 1, 1) := by decide +kernel
theorem dL_sounds_16 : decode cL_sounds 16 = .ok (.ireturn, 1) := by decide +kernel
theorem dL_sounds_17 : decode cL_sounds 17 = .ok (.iconst 0, 1) := by decide +kernel
theorem dL_sounds_18 : decode cL_sounds 18 = .ok (.ireturn, 1) := by decide +kernel
theorem dL_stroke_0 : decode cL_stroke 0 = .ok (.aload 6, 2) := by decide +kernel
theorem dL_stroke_2 : decode cL_stroke 2 = .ok (.iconst 0, 1) := by decide +kernel
theorem dL_stroke_3 : decode cL_stroke 3 = .ok (.aload_n 0, 1) := by decide +kernel
theorem dL_stroke_4 : decode cL_stroke 4 = .ok (.iload_n 1, 1) := by decide +kernel
theorem dL_stroke_5 : decode cL_stroke 5 = .ok (.iload_n 2, 1) := by decide +kernel
theorem dL_stroke_6 : decode cL_stroke 6 = .ok (.iload_n 3, 1) := by decide +kernel
theorem dL_stroke_7 : decode cL_stroke 7 = .ok (.iload 4, 2) := by decide +kernel
theorem dL_stroke_9 : decode cL_stroke 9 = .ok (.iload 5, 2) := by decide +kernel
theorem dL_stroke_11 : decode cL_stroke 11 = .ok (.invokevirtual 36, 3) := by decide +kernel
theorem dL_stroke_14 : decode cL_stroke 14 = .ok (.i2l, 1) := by decide +kernel
theorem dL_stroke_15 : decode cL_stroke 15 = .ok (.lastore, 1) := by decide +kernel
theorem dL_stroke_16 : decode cL_stroke 16 = .ok (.goto 11, 3) := by decide +kernel
theorem dL_stroke_19 : decode cL_stroke 19 = .ok (.astore 7, 2) := by decide +kernel
theorem dL_stroke_21 : decode cL_stroke 21 = .ok (.iconst 1, 1) := by decide +kernel
theorem dL_stroke_22 : decode cL_stroke 22 = .ok (.ireturn, 1) := by decide +kernel
theorem dL_stroke_23 : decode cL_stroke 23 = .ok (.astore 7, 2) := by decide +kernel
theorem dL_stroke_25 : decode cL_stroke 25 = .ok (.iconst 2, 1) := by decide +kernel
theorem dL_stroke_26 : decode cL_stroke 26 = .ok (.ireturn, 1) := by decide +kernel
theorem dL_stroke_27 : decode cL_stroke 27 = .ok (.iconst 0, 1) := by decide +kernel
theorem dL_stroke_28 : decode cL_stroke 28 = .ok (.ireturn, 1) := by decide +kernel
theorem dL_strokeAnew_0 : decode cL_strokeAnew 0 = .ok (.aload 6, 2) := by decide +kernel
theorem dL_strokeAnew_2 : decode cL_strokeAnew 2 = .ok (.iconst 0, 1) := by decide +kernel
theorem dL_strokeAnew_3 : decode cL_strokeAnew 3 = .ok (.aload_n 0, 1) := by decide +kernel
theorem dL_strokeAnew_4 : decode cL_strokeAnew 4 = .ok (.iload_n 1, 1) := by decide +kernel
theorem dL_strokeAnew_5 : decode cL_strokeAnew 5 = .ok (.iload_n 2, 1) := by decide +kernel
theorem dL_strokeAnew_6 : decode cL_strokeAnew 6 = .ok (.iload_n 3, 1) := by decide +kernel
theorem dL_strokeAnew_7 : decode cL_strokeAnew 7 = .ok (.iload 4, 2) := by decide +kernel
theorem dL_strokeAnew_9 : decode cL_strokeAnew 9 = .ok (.iload 5, 2) := by decide +kernel
theorem dL_strokeAnew_11 : decode cL_strokeAnew 11 = .ok (.invokevirtual 40, 3) := by decide +kernel
theorem dL_strokeAnew_14 : decode cL_strokeAnew 14 = .ok (.i2l, 1) := by decide +kernel
theorem dL_strokeAnew_15 : decode cL_strokeAnew 15 = .ok (.lastore, 1) := by decide +kernel
theorem dL_strokeAnew_16 : decode cL_strokeAnew 16 = .ok (.goto 11, 3) := by decide +kernel
theorem dL_strokeAnew_19 : decode cL_strokeAnew 19 = .ok (.astore 7, 2) := by decide +kernel
theorem dL_strokeAnew_21 : decode cL_strokeAnew 21 = .ok (.iconst 1, 1) := by decide +kernel
theorem dL_strokeAnew_22 : decode cL_strokeAnew 22 = .ok (.ireturn, 1) := by decide +kernel
theorem dL_strokeAnew_23 : decode cL_strokeAnew 23 = .ok (.astore 7, 2) := by decide +kernel
theorem dL_strokeAnew_25 : decode cL_strokeAnew 25 = .ok (.iconst 2, 1) := by decide +kernel
theorem dL_strokeAnew_26 : decode cL_strokeAnew 26 = .ok (.ireturn, 1) := by decide +kernel
theorem dL_strokeAnew_27 : decode cL_strokeAnew 27 = .ok (.iconst 0, 1) := by decide +kernel
theorem dL_strokeAnew_28 : decode cL_strokeAnew 28 = .ok (.ireturn, 1) := by decide +kernel
theorem dL_begin_0 : decode cL_begin 0 = .ok (.aload_n 2, 1) := by decide +kernel
theorem dL_begin_1 : decode cL_begin 1 = .ok (.iconst 0, 1) := by decide +kernel
theorem dL_begin_2 : decode cL_begin 2 = .ok (.aload_n 0, 1) := by decide +kernel
theorem dL_begin_3 : decode cL_begin 3 = .ok (.iload_n 1, 1) := by decide +kernel
theorem dL_begin_4 : decode cL_begin 4 = .ok (.invokevirtual 43, 3) := by decide +kernel
theorem dL_begin_7 : decode cL_begin 7 = .ok (.i2l, 1) := by decide +kernel
theorem dL_begin_8 : decode cL_begin 8 = .ok (.lastore, 1) := by decide +kernel
theorem dL_begin_9 : decode cL_begin 9 = .ok (.goto 9, 3) := by decide +kernel
theorem dL_begin_12 : decode cL_begin 12 = .ok (.astore_n 3, 1) := by decide +kernel
theorem dL_begin_13 : decode cL_begin 13 = .ok (.iconst 1, 1) := by decide +kernel
theorem dL_begin_14 : decode cL_begin 14 = .ok (.ireturn, 1) := by decide +kernel
theorem dL_begin_15 : decode cL_begin 15 = .ok (.astore_n 3, 1) := by decide +kernel
theorem dL_begin_16 : decode cL_begin 16 = .ok (.iconst 2, 1) := by decide +kernel
theorem dL_begin_17 : decode cL_begin 17 = .ok (.ireturn, 1) := by decide +kernel
theorem dL_begin_18 : decode cL_begin 18 = .ok (.iconst 0, 1) := by decide +kernel
theorem dL_begin_19 : decode cL_begin 19 = .ok (.ireturn, 1) := by decide +kernel
theorem dL_drum_0 : decode cL_drum 0 = .ok (.aload_n 2, 1) := by decide +kernel
theorem dL_drum_1 : decode cL_drum 1 = .ok (.iconst 0, 1) := by decide +kernel
theorem dL_drum_2 : decode cL_drum 2 = .ok (.aload_n 0, 1) := by decide +kernel
theorem dL_drum_3 : decode cL_drum 3 = .ok (.iload_n 1, 1) := by decide +kernel
theorem dL_drum_4 : decode cL_drum 4 = .ok (.invokevirtual 46, 3) := by decide +kernel
theorem dL_drum_7 : decode cL_drum 7 = .ok (.i2l, 1) := by decide +kernel
theorem dL_drum_8 : decode cL_drum 8 = .ok (.lastore, 1) := by decide +kernel
theorem dL_drum_9 : decode cL_drum 9 = .ok (.goto 9, 3) := by decide +kernel
theorem dL_drum_12 : decode cL_drum 12 = .ok (.astore_n 3, 1) := by decide +kernel
theorem dL_drum_13 : decode cL_drum 13 = .ok (.iconst 1, 1) := by decide +kernel
theorem dL_drum_14 : decode cL_drum 14 = .ok (.ireturn, 1) := by decide +kernel
theorem dL_drum_15 : decode cL_drum 15 = .ok (.astore_n 3, 1) := by decide +kernel
theorem dL_drum_16 : decode cL_drum 16 = .ok (.iconst 2, 1) := by decide +kernel
theorem dL_drum_17 : decode cL_drum 17 = .ok (.ireturn, 1) := by decide +kernel
theorem dL_drum_18 : decode cL_drum 18 = .ok (.iconst 0, 1) := by decide +kernel
theorem dL_drum_19 : decode cL_drum 19 = .ok (.ireturn, 1) := by decide +kernel
theorem dL_beats_0 : decode cL_beats 0 = .ok (.aload_n 2, 1) := by decide +kernel
theorem dL_beats_1 : decode cL_beats 1 = .ok (.iconst 0, 1) := by decide +kernel
theorem dL_beats_2 : decode cL_beats 2 = .ok (.aload_n 0, 1) := by decide +kernel
theorem dL_beats_3 : decode cL_beats 3 = .ok (.iload_n 1, 1) := by decide +kernel
theorem dL_beats_4 : decode cL_beats 4 = .ok (.invokevirtual 49, 3) := by decide +kernel
theorem dL_beats_7 : decode cL_beats 7 = .ok (.i2l, 1) := by decide +kernel
theorem dL_beats_8 : decode cL_beats 8 = .ok (.lastore, 1) := by decide +kernel
theorem dL_beats_9 : decode cL_beats 9 = .ok (.goto 9, 3) := by decide +kernel
theorem dL_beats_12 : decode cL_beats 12 = .ok (.astore_n 3, 1) := by decide +kernel
theorem dL_beats_13 : decode cL_beats 13 = .ok (.iconst 1, 1) := by decide +kernel
theorem dL_beats_14 : decode cL_beats 14 = .ok (.ireturn, 1) := by decide +kernel
theorem dL_beats_15 : decode cL_beats 15 = .ok (.astore_n 3, 1) := by decide +kernel
theorem dL_beats_16 : decode cL_beats 16 = .ok (.iconst 2, 1) := by decide +kernel
theorem dL_beats_17 : decode cL_beats 17 = .ok (.ireturn, 1) := by decide +kernel
theorem dL_beats_18 : decode cL_beats 18 = .ok (.iconst 0, 1) := by decide +kernel
theorem dL_beats_19 : decode cL_beats 19 = .ok (.ireturn, 1) := by decide +kernel
theorem dL_now_0 : decode cL_now 0 = .ok (.aload_n 2, 1) := by decide +kernel
theorem dL_now_1 : decode cL_now 1 = .ok (.iconst 0, 1) := by decide +kernel
theorem dL_now_2 : decode cL_now 2 = .ok (.aload_n 0, 1) := by decide +kernel
theorem dL_now_3 : decode cL_now 3 = .ok (.iload_n 1, 1) := by decide +kernel
theorem dL_now_4 : decode cL_now 4 = .ok (.invokevirtual 52, 3) := by decide +kernel
theorem dL_now_7 : decode cL_now 7 = .ok (.i2l, 1) := by decide +kernel
theorem dL_now_8 : decode cL_now 8 = .ok (.lastore, 1) := by decide +kernel
theorem dL_now_9 : decode cL_now 9 = .ok (.goto 6, 3) := by decide +kernel
theorem dL_now_12 : decode cL_now 12 = .ok (.astore_n 3, 1) := by decide +kernel
theorem dL_now_13 : decode cL_now 13 = .ok (.iconst 1, 1) := by decide +kernel
theorem dL_now_14 : decode cL_now 14 = .ok (.ireturn, 1) := by decide +kernel
theorem dL_now_15 : decode cL_now 15 = .ok (.iconst 0, 1) := by decide +kernel
theorem dL_now_16 : decode cL_now 16 = .ok (.ireturn, 1) := by decide +kernel
theorem dL_strokes_0 : decode cL_strokes 0 = .ok (.aload_n 2, 1) := by decide +kernel
theorem dL_strokes_1 : decode cL_strokes 1 = .ok (.iconst 0, 1) := by decide +kernel
theorem dL_strokes_2 : decode cL_strokes 2 = .ok (.aload_n 0, 1) := by decide +kernel
theorem dL_strokes_3 : decode cL_strokes 3 = .ok (.iload_n 1, 1) := by decide +kernel
theorem dL_strokes_4 : decode cL_strokes 4 = .ok (.invokevirtual 55, 3) := by decide +kernel
theorem dL_strokes_7 : decode cL_strokes 7 = .ok (.lastore, 1) := by decide +kernel
theorem dL_strokes_8 : decode cL_strokes 8 = .ok (.goto 6, 3) := by decide +kernel
theorem dL_strokes_11 : decode cL_strokes 11 = .ok (.astore_n 3, 1) := by decide +kernel
theorem dL_strokes_12 : decode cL_strokes 12 = .ok (.iconst 1, 1) := by decide +kernel
theorem dL_strokes_13 : decode cL_strokes 13 = .ok (.ireturn, 1) := by decide +kernel
theorem dL_strokes_14 : decode cL_strokes 14 = .ok (.iconst 0, 1) := by decide +kernel
theorem dL_strokes_15 : decode cL_strokes 15 = .ok (.ireturn, 1) := by decide +kernel
theorem dL_days_0 : decode cL_days 0 = .ok (.aload_n 2, 1) := by decide +kernel
theorem dL_days_1 : decode cL_days 1 = .ok (.iconst 0, 1) := by decide +kernel
theorem dL_days_2 : decode cL_days 2 = .ok (.aload_n 0, 1) := by decide +kernel
theorem dL_days_3 : decode cL_days 3 = .ok (.iload_n 1, 1) := by decide +kernel
theorem dL_days_4 : decode cL_days 4 = .ok (.invokevirtual 59, 3) := by decide +kernel
theorem dL_days_7 : decode cL_days 7 = .ok (.i2l, 1) := by decide +kernel
theorem dL_days_8 : decode cL_days 8 = .ok (.lastore, 1) := by decide +kernel
theorem dL_days_9 : decode cL_days 9 = .ok (.goto 9, 3) := by decide +kernel
theorem dL_days_12 : decode cL_days 12 = .ok (.astore_n 3, 1) := by decide +kernel
theorem dL_days_13 : decode cL_days 13 = .ok (.iconst 1, 1) := by decide +kernel
theorem dL_days_14 : decode cL_days 14 = .ok (.ireturn, 1) := by decide +kernel
theorem dL_days_15 : decode cL_days 15 = .ok (.astore_n 3, 1) := by decide +kernel
theorem dL_days_16 : decode cL_days 16 = .ok (.iconst 2, 1) := by decide +kernel
theorem dL_days_17 : decode cL_days 17 = .ok (.ireturn, 1) := by decide +kernel
theorem dL_days_18 : decode cL_days 18 = .ok (.iconst 0, 1) := by decide +kernel
theorem dL_days_19 : decode cL_days 19 = .ok (.ireturn, 1) := by decide +kernel
theorem dL_pitch_0 : decode cL_pitch 0 = .ok (.aload 4, 2) := by decide +kernel
theorem dL_pitch_2 : decode cL_pitch 2 = .ok (.iconst 0, 1) := by decide +kernel
theorem dL_pitch_3 : decode cL_pitch 3 = .ok (.aload_n 0, 1) := by decide +kernel
theorem dL_pitch_4 : decode cL_pitch 4 = .ok (.iload_n 1, 1) := by decide +kernel
theorem dL_pitch_5 : decode cL_pitch 5 = .ok (.iload_n 2, 1) := by decide +kernel
theorem dL_pitch_6 : decode cL_pitch 6 = .ok (.iload_n 3, 1) := by decide +kernel
theorem dL_pitch_7 : decode cL_pitch 7 = .ok (.invokevirtual 62, 3) := by decide +kernel
theorem dL_pitch_10 : decode cL_pitch 10 = .ok (.i2l, 1) := by decide +kernel
theorem dL_pitch_11 : decode cL_pitch 11 = .ok (.lastore, 1) := by decide +kernel
theorem dL_pitch_12 : decode cL_pitch 12 = .ok (.goto 11, 3) := by decide +kernel
theorem dL_pitch_15 : decode cL_pitch 15 = .ok (.astore 5, 2) := by decide +kernel
theorem dL_pitch_17 : decode cL_pitch 17 = .ok (.iconst 1, 1) := by decide +kernel
theorem dL_pitch_18 : decode cL_pitch 18 = .ok (.ireturn, 1) := by decide +kernel
theorem dL_pitch_19 : decode cL_pitch 19 = .ok (.astore 5, 2) := by decide +kernel
theorem dL_pitch_21 : decode cL_pitch 21 = .ok (.iconst 2, 1) := by decide +kernel
theorem dL_pitch_22 : decode cL_pitch 22 = .ok (.ireturn, 1) := by decide +kernel
theorem dL_pitch_23 : decode cL_pitch 23 = .ok (.iconst 0, 1) := by decide +kernel
theorem dL_pitch_24 : decode cL_pitch 24 = .ok (.ireturn, 1) := by decide +kernel
theorem dL_drift_0 : decode cL_drift 0 = .ok (.aload_n 3, 1) := by decide +kernel
theorem dL_drift_1 : decode cL_drift 1 = .ok (.iconst 0, 1) := by decide +kernel
theorem dL_drift_2 : decode cL_drift 2 = .ok (.aload_n 0, 1) := by decide +kernel
theorem dL_drift_3 : decode cL_drift 3 = .ok (.iload_n 1, 1) := by decide +kernel
theorem dL_drift_4 : decode cL_drift 4 = .ok (.iload_n 2, 1) := by decide +kernel
theorem dL_drift_5 : decode cL_drift 5 = .ok (.invokevirtual 65, 3) := by decide +kernel
theorem dL_drift_8 : decode cL_drift 8 = .ok (.i2l, 1) := by decide +kernel
theorem dL_drift_9 : decode cL_drift 9 = .ok (.lastore, 1) := by decide +kernel
theorem dL_drift_10 : decode cL_drift 10 = .ok (.goto 11, 3) := by decide +kernel
theorem dL_drift_13 : decode cL_drift 13 = .ok (.astore 4, 2) := by decide +kernel
theorem dL_drift_15 : decode cL_drift 15 = .ok (.iconst 1, 1) := by decide +kernel
theorem dL_drift_16 : decode cL_drift 16 = .ok (.ireturn, 1) := by decide +kernel
theorem dL_drift_17 : decode cL_drift 17 = .ok (.astore 4, 2) := by decide +kernel
theorem dL_drift_19 : decode cL_drift 19 = .ok (.iconst 2, 1) := by decide +kernel
theorem dL_drift_20 : decode cL_drift 20 = .ok (.ireturn, 1) := by decide +kernel
theorem dL_drift_21 : decode cL_drift 21 = .ok (.iconst 0, 1) := by decide +kernel
theorem dL_drift_22 : decode cL_drift 22 = .ok (.ireturn, 1) := by decide +kernel
theorem dL_years_0 : decode cL_years 0 = .ok (.aload_n 2, 1) := by decide +kernel
theorem dL_years_1 : decode cL_years 1 = .ok (.iconst 0, 1) := by decide +kernel
theorem dL_years_2 : decode cL_years 2 = .ok (.aload_n 0, 1) := by decide +kernel
theorem dL_years_3 : decode cL_years 3 = .ok (.iload_n 1, 1) := by decide +kernel
theorem dL_years_4 : decode cL_years 4 = .ok (.invokevirtual 68, 3) := by decide +kernel
theorem dL_years_7 : decode cL_years 7 = .ok (.i2l, 1) := by decide +kernel
theorem dL_years_8 : decode cL_years 8 = .ok (.lastore, 1) := by decide +kernel
theorem dL_years_9 : decode cL_years 9 = .ok (.goto 9, 3) := by decide +kernel
theorem dL_years_12 : decode cL_years 12 = .ok (.astore_n 3, 1) := by decide +kernel
theorem dL_years_13 : decode cL_years 13 = .ok (.iconst 1, 1) := by decide +kernel
theorem dL_years_14 : decode cL_years 14 = .ok (.ireturn, 1) := by decide +kernel
theorem dL_years_15 : decode cL_years 15 = .ok (.astore_n 3, 1) := by decide +kernel
theorem dL_years_16 : decode cL_years 16 = .ok (.iconst 2, 1) := by decide +kernel
theorem dL_years_17 : decode cL_years 17 = .ok (.ireturn, 1) := by decide +kernel
theorem dL_years_18 : decode cL_years 18 = .ok (.iconst 0, 1) := by decide +kernel
theorem dL_years_19 : decode cL_years 19 = .ok (.ireturn, 1) := by decide +kernel
theorem dL_tune_0 : decode cL_tune 0 = .ok (.aload_n 3, 1) := by decide +kernel
theorem dL_tune_1 : decode cL_tune 1 = .ok (.iconst 0, 1) := by decide +kernel
theorem dL_tune_2 : decode cL_tune 2 = .ok (.aload_n 0, 1) := by decide +kernel
theorem dL_tune_3 : decode cL_tune 3 = .ok (.iload_n 1, 1) := by decide +kernel
theorem dL_tune_4 : decode cL_tune 4 = .ok (.iload_n 2, 1) := by decide +kernel
theorem dL_tune_5 : decode cL_tune 5 = .ok (.invokevirtual 71, 3) := by decide +kernel
theorem dL_tune_8 : decode cL_tune 8 = .ok (.i2l, 1) := by decide +kernel
theorem dL_tune_9 : decode cL_tune 9 = .ok (.lastore, 1) := by decide +kernel
theorem dL_tune_10 : decode cL_tune 10 = .ok (.goto 11, 3) := by decide +kernel
theorem dL_tune_13 : decode cL_tune 13 = .ok (.astore 4, 2) := by decide +kernel
theorem dL_tune_15 : decode cL_tune 15 = .ok (.iconst 1, 1) := by decide +kernel
theorem dL_tune_16 : decode cL_tune 16 = .ok (.ireturn, 1) := by decide +kernel
theorem dL_tune_17 : decode cL_tune 17 = .ok (.astore 4, 2) := by decide +kernel
theorem dL_tune_19 : decode cL_tune 19 = .ok (.iconst 2, 1) := by decide +kernel
theorem dL_tune_20 : decode cL_tune 20 = .ok (.ireturn, 1) := by decide +kernel
theorem dL_tune_21 : decode cL_tune 21 = .ok (.iconst 0, 1) := by decide +kernel
theorem dL_tune_22 : decode cL_tune 22 = .ok (.ireturn, 1) := by decide +kernel
theorem dL_beat_0 : decode cL_beat 0 = .ok (.aload 4, 2) := by decide +kernel
theorem dL_beat_2 : decode cL_beat 2 = .ok (.iconst 0, 1) := by decide +kernel
theorem dL_beat_3 : decode cL_beat 3 = .ok (.aload_n 0, 1) := by decide +kernel
theorem dL_beat_4 : decode cL_beat 4 = .ok (.iload_n 1, 1) := by decide +kernel
theorem dL_beat_5 : decode cL_beat 5 = .ok (.iload_n 2, 1) := by decide +kernel
theorem dL_beat_6 : decode cL_beat 6 = .ok (.iload_n 3, 1) := by decide +kernel
theorem dL_beat_7 : decode cL_beat 7 = .ok (.invokevirtual 74, 3) := by decide +kernel
theorem dL_beat_10 : decode cL_beat 10 = .ok (.i2l, 1) := by decide +kernel
theorem dL_beat_11 : decode cL_beat 11 = .ok (.lastore, 1) := by decide +kernel
theorem dL_beat_12 : decode cL_beat 12 = .ok (.goto 7, 3) := by decide +kernel
theorem dL_beat_15 : decode cL_beat 15 = .ok (.astore 5, 2) := by decide +kernel
theorem dL_beat_17 : decode cL_beat 17 = .ok (.iconst 1, 1) := by decide +kernel
theorem dL_beat_18 : decode cL_beat 18 = .ok (.ireturn, 1) := by decide +kernel
theorem dL_beat_19 : decode cL_beat 19 = .ok (.iconst 0, 1) := by decide +kernel
theorem dL_beat_20 : decode cL_beat 20 = .ok (.ireturn, 1) := by decide +kernel
theorem dL_player_0 : decode cL_player 0 = .ok (.aload_n 2, 1) := by decide +kernel
theorem dL_player_1 : decode cL_player 1 = .ok (.iconst 0, 1) := by decide +kernel
theorem dL_player_2 : decode cL_player 2 = .ok (.aload_n 0, 1) := by decide +kernel
theorem dL_player_3 : decode cL_player 3 = .ok (.iload_n 1, 1) := by decide +kernel
theorem dL_player_4 : decode cL_player 4 = .ok (.invokevirtual 77, 3) := by decide +kernel
theorem dL_player_7 : decode cL_player 7 = .ok (.i2l, 1) := by decide +kernel
theorem dL_player_8 : decode cL_player 8 = .ok (.lastore, 1) := by decide +kernel
theorem dL_player_9 : decode cL_player 9 = .ok (.goto 9, 3) := by decide +kernel
theorem dL_player_12 : decode cL_player 12 = .ok (.astore_n 3, 1) := by decide +kernel
theorem dL_player_13 : decode cL_player 13 = .ok (.iconst 1, 1) := by decide +kernel
theorem dL_player_14 : decode cL_player 14 = .ok (.ireturn, 1) := by decide +kernel
theorem dL_player_15 : decode cL_player 15 = .ok (.astore_n 3, 1) := by decide +kernel
theorem dL_player_16 : decode cL_player 16 = .ok (.iconst 2, 1) := by decide +kernel
theorem dL_player_17 : decode cL_player 17 = .ok (.ireturn, 1) := by decide +kernel
theorem dL_player_18 : decode cL_player 18 = .ok (.iconst 0, 1) := by decide +kernel
theorem dL_player_19 : decode cL_player 19 = .ok (.ireturn, 1) := by decide +kernel
theorem dL_learn_0 : decode cL_learn 0 = .ok (.aload 4, 2) := by decide +kernel
theorem dL_learn_2 : decode cL_learn 2 = .ok (.iconst 0, 1) := by decide +kernel
theorem dL_learn_3 : decode cL_learn 3 = .ok (.aload_n 0, 1) := by decide +kernel
theorem dL_learn_4 : decode cL_learn 4 = .ok (.iload_n 1, 1) := by decide +kernel
theorem dL_learn_5 : decode cL_learn 5 = .ok (.iload_n 2, 1) := by decide +kernel
theorem dL_learn_6 : decode cL_learn 6 = .ok (.iload_n 3, 1) := by decide +kernel
theorem dL_learn_7 : decode cL_learn 7 = .ok (.invokevirtual 80, 3) := by decide +kernel
theorem dL_learn_10 : decode cL_learn 10 = .ok (.i2l, 1) := by decide +kernel
theorem dL_learn_11 : decode cL_learn 11 = .ok (.lastore, 1) := by decide +kernel
theorem dL_learn_12 : decode cL_learn 12 = .ok (.goto 15, 3) := by decide +kernel
theorem dL_learn_15 : decode cL_learn 15 = .ok (.astore 5, 2) := by decide +kernel
theorem dL_learn_17 : decode cL_learn 17 = .ok (.iconst 1, 1) := by decide +kernel
theorem dL_learn_18 : decode cL_learn 18 = .ok (.ireturn, 1) := by decide +kernel
theorem dL_learn_19 : decode cL_learn 19 = .ok (.astore 5, 2) := by decide +kernel
theorem dL_learn_21 : decode cL_learn 21 = .ok (.iconst 2, 1) := by decide +kernel
theorem dL_learn_22 : decode cL_learn 22 = .ok (.ireturn, 1) := by decide +kernel
theorem dL_learn_23 : decode cL_learn 23 = .ok (.astore 5, 2) := by decide +kernel
theorem dL_learn_25 : decode cL_learn 25 = .ok (.iconst 3, 1) := by decide +kernel
theorem dL_learn_26 : decode cL_learn 26 = .ok (.ireturn, 1) := by decide +kernel
theorem dL_learn_27 : decode cL_learn 27 = .ok (.iconst 0, 1) := by decide +kernel
theorem dL_learn_28 : decode cL_learn 28 = .ok (.ireturn, 1) := by decide +kernel
theorem dL_slip_0 : decode cL_slip 0 = .ok (.aload 5, 2) := by decide +kernel
theorem dL_slip_2 : decode cL_slip 2 = .ok (.iconst 0, 1) := by decide +kernel
theorem dL_slip_3 : decode cL_slip 3 = .ok (.aload_n 0, 1) := by decide +kernel
theorem dL_slip_4 : decode cL_slip 4 = .ok (.iload_n 1, 1) := by decide +kernel
theorem dL_slip_5 : decode cL_slip 5 = .ok (.iload_n 2, 1) := by decide +kernel
theorem dL_slip_6 : decode cL_slip 6 = .ok (.iload_n 3, 1) := by decide +kernel
theorem dL_slip_7 : decode cL_slip 7 = .ok (.iload 4, 2) := by decide +kernel
theorem dL_slip_9 : decode cL_slip 9 = .ok (.invokevirtual 83, 3) := by decide +kernel
theorem dL_slip_12 : decode cL_slip 12 = .ok (.i2l, 1) := by decide +kernel
theorem dL_slip_13 : decode cL_slip 13 = .ok (.lastore, 1) := by decide +kernel
theorem dL_slip_14 : decode cL_slip 14 = .ok (.goto 15, 3) := by decide +kernel
theorem dL_slip_17 : decode cL_slip 17 = .ok (.astore 6, 2) := by decide +kernel
theorem dL_slip_19 : decode cL_slip 19 = .ok (.iconst 1, 1) := by decide +kernel
theorem dL_slip_20 : decode cL_slip 20 = .ok (.ireturn, 1) := by decide +kernel
theorem dL_slip_21 : decode cL_slip 21 = .ok (.astore 6, 2) := by decide +kernel
theorem dL_slip_23 : decode cL_slip 23 = .ok (.iconst 2, 1) := by decide +kernel
theorem dL_slip_24 : decode cL_slip 24 = .ok (.ireturn, 1) := by decide +kernel
theorem dL_slip_25 : decode cL_slip 25 = .ok (.astore 6, 2) := by decide +kernel
theorem dL_slip_27 : decode cL_slip 27 = .ok (.iconst 3, 1) := by decide +kernel
theorem dL_slip_28 : decode cL_slip 28 = .ok (.ireturn, 1) := by decide +kernel
theorem dL_slip_29 : decode cL_slip 29 = .ok (.iconst 0, 1) := by decide +kernel
theorem dL_slip_30 : decode cL_slip 30 = .ok (.ireturn, 1) := by decide +kernel
theorem dL_unlike_0 : decode cL_unlike 0 = .ok (.aload 4, 2) := by decide +kernel
theorem dL_unlike_2 : decode cL_unlike 2 = .ok (.iconst 0, 1) := by decide +kernel
theorem dL_unlike_3 : decode cL_unlike 3 = .ok (.aload_n 0, 1) := by decide +kernel
theorem dL_unlike_4 : decode cL_unlike 4 = .ok (.iload_n 1, 1) := by decide +kernel
theorem dL_unlike_5 : decode cL_unlike 5 = .ok (.iload_n 2, 1) := by decide +kernel
theorem dL_unlike_6 : decode cL_unlike 6 = .ok (.iload_n 3, 1) := by decide +kernel
theorem dL_unlike_7 : decode cL_unlike 7 = .ok (.invokevirtual 87, 3) := by decide +kernel
theorem dL_unlike_10 : decode cL_unlike 10 = .ok (.i2l, 1) := by decide +kernel
theorem dL_unlike_11 : decode cL_unlike 11 = .ok (.lastore, 1) := by decide +kernel
theorem dL_unlike_12 : decode cL_unlike 12 = .ok (.goto 7, 3) := by decide +kernel
theorem dL_unlike_15 : decode cL_unlike 15 = .ok (.astore 5, 2) := by decide +kernel
theorem dL_unlike_17 : decode cL_unlike 17 = .ok (.iconst 1, 1) := by decide +kernel
theorem dL_unlike_18 : decode cL_unlike 18 = .ok (.ireturn, 1) := by decide +kernel
theorem dL_unlike_19 : decode cL_unlike 19 = .ok (.iconst 0, 1) := by decide +kernel
theorem dL_unlike_20 : decode cL_unlike 20 = .ok (.ireturn, 1) := by decide +kernel
theorem dL_covered_0 : decode cL_covered 0 = .ok (.aload_n 2, 1) := by decide +kernel
theorem dL_covered_1 : decode cL_covered 1 = .ok (.iconst 0, 1) := by decide +kernel
theorem dL_covered_2 : decode cL_covered 2 = .ok (.aload_n 0, 1) := by decide +kernel
theorem dL_covered_3 : decode cL_covered 3 = .ok (.iload_n 1, 1) := by decide +kernel
theorem dL_covered_4 : decode cL_covered 4 = .ok (.invokevirtual 90, 3) := by decide +kernel
theorem dL_covered_7 : decode cL_covered 7 = .ok (.i2l, 1) := by decide +kernel
theorem dL_covered_8 : decode cL_covered 8 = .ok (.lastore, 1) := by decide +kernel
theorem dL_covered_9 : decode cL_covered 9 = .ok (.goto 6, 3) := by decide +kernel
theorem dL_covered_12 : decode cL_covered 12 = .ok (.astore_n 3, 1) := by decide +kernel
theorem dL_covered_13 : decode cL_covered 13 = .ok (.iconst 1, 1) := by decide +kernel
theorem dL_covered_14 : decode cL_covered 14 = .ok (.ireturn, 1) := by decide +kernel
theorem dL_covered_15 : decode cL_covered 15 = .ok (.iconst 0, 1) := by decide +kernel
theorem dL_covered_16 : decode cL_covered 16 = .ok (.ireturn, 1) := by decide +kernel
