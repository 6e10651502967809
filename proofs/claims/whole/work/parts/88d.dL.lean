/-! ===== the law's own methods, read ===== -/
theorem dL_beach_0 : decode cL_beach 0 = .ok (.aload_n 2, 1) := by decide +kernel
theorem dL_beach_1 : decode cL_beach 1 = .ok (.iconst 0, 1) := by decide +kernel
theorem dL_beach_2 : decode cL_beach 2 = .ok (.aload_n 0, 1) := by decide +kernel
theorem dL_beach_3 : decode cL_beach 3 = .ok (.iload_n 1, 1) := by decide +kernel
theorem dL_beach_4 : decode cL_beach 4 = .ok (.invokevirtual 7, 3) := by decide +kernel
theorem dL_beach_7 : decode cL_beach 7 = .ok (.i2l, 1) := by decide +kernel
theorem dL_beach_8 : decode cL_beach 8 = .ok (.lastore, 1) := by decide +kernel
theorem dL_beach_9 : decode cL_beach 9 = .ok (.goto 6, 3) := by decide +kernel
theorem dL_beach_12 : decode cL_beach 12 = .ok (.astore_n 3, 1) := by decide +kernel
theorem dL_beach_13 : decode cL_beach 13 = .ok (.iconst 1, 1) := by decide +kernel
theorem dL_beach_14 : decode cL_beach 14 = .ok (.ireturn, 1) := by decide +kernel
theorem dL_beach_15 : decode cL_beach 15 = .ok (.iconst 0, 1) := by decide +kernel
theorem dL_beach_16 : decode cL_beach 16 = .ok (.ireturn, 1) := by decide +kernel
theorem dL_chair_0 : decode cL_chair 0 = .ok (.aload_n 3, 1) := by decide +kernel
theorem dL_chair_1 : decode cL_chair 1 = .ok (.iconst 0, 1) := by decide +kernel
theorem dL_chair_2 : decode cL_chair 2 = .ok (.aload_n 0, 1) := by decide +kernel
theorem dL_chair_3 : decode cL_chair 3 = .ok (.iload_n 1, 1) := by decide +kernel
theorem dL_chair_4 : decode cL_chair 4 = .ok (.iload_n 2, 1) := by decide +kernel
theorem dL_chair_5 : decode cL_chair 5 = .ok (.invokevirtual 15, 3) := by decide +kernel
theorem dL_chair_8 : decode cL_chair 8 = .ok (.i2l, 1) := by decide +kernel
theorem dL_chair_9 : decode cL_chair 9 = .ok (.lastore, 1) := by decide +kernel
theorem dL_chair_10 : decode cL_chair 10 = .ok (.goto 7, 3) := by decide +kernel
theorem dL_chair_13 : decode cL_chair 13 = .ok (.astore 4, 2) := by decide +kernel
theorem dL_chair_15 : decode cL_chair 15 = .ok (.iconst 1, 1) := by decide +kernel
theorem dL_chair_16 : decode cL_chair 16 = .ok (.ireturn, 1) := by decide +kernel
theorem dL_chair_17 : decode cL_chair 17 = .ok (.iconst 0, 1) := by decide +kernel
theorem dL_chair_18 : decode cL_chair 18 = .ok (.ireturn, 1) := by decide +kernel
theorem dL_person_0 : decode cL_person 0 = .ok (.aload_n 3, 1) := by decide +kernel
theorem dL_person_1 : decode cL_person 1 = .ok (.iconst 0, 1) := by decide +kernel
theorem dL_person_2 : decode cL_person 2 = .ok (.aload_n 0, 1) := by decide +kernel
theorem dL_person_3 : decode cL_person 3 = .ok (.iload_n 1, 1) := by decide +kernel
theorem dL_person_4 : decode cL_person 4 = .ok (.iload_n 2, 1) := by decide +kernel
theorem dL_person_5 : decode cL_person 5 = .ok (.invokevirtual 21, 3) := by decide +kernel
theorem dL_person_8 : decode cL_person 8 = .ok (.i2l, 1) := by decide +kernel
theorem dL_person_9 : decode cL_person 9 = .ok (.lastore, 1) := by decide +kernel
theorem dL_person_10 : decode cL_person 10 = .ok (.goto 11, 3) := by decide +kernel
theorem dL_person_13 : decode cL_person 13 = .ok (.astore 4, 2) := by decide +kernel
theorem dL_person_15 : decode cL_person 15 = .ok (.iconst 1, 1) := by decide +kernel
theorem dL_person_16 : decode cL_person 16 = .ok (.ireturn, 1) := by decide +kernel
theorem dL_person_17 : decode cL_person 17 = .ok (.astore 4, 2) := by decide +kernel
theorem dL_person_19 : decode cL_person 19 = .ok (.iconst 2, 1) := by decide +kernel
theorem dL_person_20 : decode cL_person 20 = .ok (.ireturn, 1) := by decide +kernel
theorem dL_person_21 : decode cL_person 21 = .ok (.iconst 0, 1) := by decide +kernel
theorem dL_person_22 : decode cL_person 22 = .ok (.ireturn, 1) := by decide +kernel
theorem dL_tide_0 : decode cL_tide 0 = .ok (.aload_n 2, 1) := by decide +kernel
theorem dL_tide_1 : decode cL_tide 1 = .ok (.iconst 0, 1) := by decide +kernel
theorem dL_tide_2 : decode cL_tide 2 = .ok (.aload_n 0, 1) := by decide +kernel
theorem dL_tide_3 : decode cL_tide 3 = .ok (.iload_n 1, 1) := by decide +kernel
theorem dL_tide_4 : decode cL_tide 4 = .ok (.invokevirtual 24, 3) := by decide +kernel
theorem dL_tide_7 : decode cL_tide 7 = .ok (.i2l, 1) := by decide +kernel
theorem dL_tide_8 : decode cL_tide 8 = .ok (.lastore, 1) := by decide +kernel
theorem dL_tide_9 : decode cL_tide 9 = .ok (.goto 6, 3) := by decide +kernel
theorem dL_tide_12 : decode cL_tide 12 = .ok (.astore_n 3, 1) := by decide +kernel
theorem dL_tide_13 : decode cL_tide 13 = .ok (.iconst 1, 1) := by decide +kernel
theorem dL_tide_14 : decode cL_tide 14 = .ok (.ireturn, 1) := by decide +kernel
theorem dL_tide_15 : decode cL_tide 15 = .ok (.iconst 0, 1) := by decide +kernel
theorem dL_tide_16 : decode cL_tide 16 = .ok (.ireturn, 1) := by decide +kernel
theorem dL_moves_0 : decode cL_moves 0 = .ok (.aload 4, 2) := by decide +kernel
theorem dL_moves_2 : decode cL_moves 2 = .ok (.iconst 0, 1) := by decide +kernel
theorem dL_moves_3 : decode cL_moves 3 = .ok (.aload_n 0, 1) := by decide +kernel
theorem dL_moves_4 : decode cL_moves 4 = .ok (.iload_n 1, 1) := by decide +kernel
theorem dL_moves_5 : decode cL_moves 5 = .ok (.iload_n 2, 1) := by decide +kernel
theorem dL_moves_6 : decode cL_moves 6 = .ok (.iload_n 3, 1) := by decide +kernel
theorem dL_moves_7 : decode cL_moves 7 = .ok (.invokevirtual 27, 3) := by decide +kernel
theorem dL_moves_10 : decode cL_moves 10 = .ok (.ifCond .eq 7, 3) := by decide +kernel
theorem dL_moves_13 : decode cL_moves 13 = .ok (.lconst 1, 1) := by decide +kernel
theorem dL_moves_14 : decode cL_moves 14 = .ok (.goto 4, 3) := by decide +kernel
theorem dL_moves_17 : decode cL_moves 17 = .ok (.lconst 0, 1) := by decide +kernel
theorem dL_moves_18 : decode cL_moves 18 = .ok (.lastore, 1) := by decide +kernel
theorem dL_moves_19 : decode cL_moves 19 = .ok (.goto 7, 3) := by decide +kernel
theorem dL_moves_22 : decode cL_moves 22 = .ok (.astore 5, 2) := by decide +kernel
theorem dL_moves_24 : decode cL_moves 24 = .ok (.iconst 1, 1) := by decide +kernel
theorem dL_moves_25 : decode cL_moves 25 = .ok (.ireturn, 1) := by decide +kernel
theorem dL_moves_26 : decode cL_moves 26 = .ok (.iconst 0, 1) := by decide +kernel
theorem dL_moves_27 : decode cL_moves 27 = .ok (.ireturn, 1) := by decide +kernel
theorem dL_wets_0 : decode cL_wets 0 = .ok (.aload 4, 2) := by decide +kernel
theorem dL_wets_2 : decode cL_wets 2 = .ok (.iconst 0, 1) := by decide +kernel
theorem dL_wets_3 : decode cL_wets 3 = .ok (.aload_n 0, 1) := by decide +kernel
theorem dL_wets_4 : decode cL_wets 4 = .ok (.iload_n 1, 1) := by decide +kernel
theorem dL_wets_5 : decode cL_wets 5 = .ok (.iload_n 2, 1) := by decide +kernel
theorem dL_wets_6 : decode cL_wets 6 = .ok (.iload_n 3, 1) := by decide +kernel
theorem dL_wets_7 : decode cL_wets 7 = .ok (.invokevirtual 31, 3) := by decide +kernel
theorem dL_wets_10 : decode cL_wets 10 = .ok (.i2l, 1) := by decide +kernel
theorem dL_wets_11 : decode cL_wets 11 = .ok (.lastore, 1) := by decide +kernel
theorem dL_wets_12 : decode cL_wets 12 = .ok (.goto 11, 3) := by decide +kernel
theorem dL_wets_15 : decode cL_wets 15 = .ok (.astore 5, 2) := by decide +kernel
theorem dL_wets_17 : decode cL_wets 17 = .ok (.iconst 1, 1) := by decide +kernel
theorem dL_wets_18 : decode cL_wets 18 = .ok (.ireturn, 1) := by decide +kernel
theorem dL_wets_19 : decode cL_wets 19 = .ok (.astore 5, 2) := by decide +kernel
theorem dL_wets_21 : decode cL_wets 21 = .ok (.iconst 2, 1) := by decide +kernel
theorem dL_wets_22 : decode cL_wets 22 = .ok (.ireturn, 1) := by decide +kernel
theorem dL_wets_23 : decode cL_wets 23 = .ok (.iconst 0, 1) := by decide +kernel
theorem dL_wets_24 : decode cL_wets 24 = .ok (.ireturn, 1) := by decide +kernel
theorem dL_minutes_0 : decode cL_minutes 0 = .ok (.aload_n 2, 1) := by decide +kernel
theorem dL_minutes_1 : decode cL_minutes 1 = .ok (.iconst 0, 1) := by decide +kernel
theorem dL_minutes_2 : decode cL_minutes 2 = .ok (.aload_n 0, 1) := by decide +kernel
theorem dL_minutes_3 : decode cL_minutes 3 = .ok (.iload_n 1, 1) := by decide +kernel
theorem dL_minutes_4 : decode cL_minutes 4 = .ok (.invokevirtual 35, 3) := by decide +kernel
theorem dL_minutes_7 : decode cL_minutes 7 = .ok (.i2l, 1) := by decide +kernel
theorem dL_minutes_8 : decode cL_minutes 8 = .ok (.lastore, 1) := by decide +kernel
theorem dL_minutes_9 : decode cL_minutes 9 = .ok (.goto 6, 3) := by decide +kernel
theorem dL_minutes_12 : decode cL_minutes 12 = .ok (.astore_n 3, 1) := by decide +kernel
theorem dL_minutes_13 : decode cL_minutes 13 = .ok (.iconst 1, 1) := by decide +kernel
theorem dL_minutes_14 : decode cL_minutes 14 = .ok (.ireturn, 1) := by decide +kernel
theorem dL_minutes_15 : decode cL_minutes 15 = .ok (.iconst 0, 1) := by decide +kernel
theorem dL_minutes_16 : decode cL_minutes 16 = .ok (.ireturn, 1) := by decide +kernel
theorem dL_undo_0 : decode cL_undo 0 = .ok (.aload_n 2, 1) := by decide +kernel
theorem dL_undo_1 : decode cL_undo 1 = .ok (.iconst 0, 1) := by decide +kernel
theorem dL_undo_2 : decode cL_undo 2 = .ok (.aload_n 0, 1) := by decide +kernel
theorem dL_undo_3 : decode cL_undo 3 = .ok (.iload_n 1, 1) := by decide +kernel
theorem dL_undo_4 : decode cL_undo 4 = .ok (.invokevirtual 38, 3) := by decide +kernel
theorem dL_undo_7 : decode cL_undo 7 = .ok (.i2l, 1) := by decide +kernel
theorem dL_undo_8 : decode cL_undo 8 = .ok (.lastore, 1) := by decide +kernel
theorem dL_undo_9 : decode cL_undo 9 = .ok (.goto 6, 3) := by decide +kernel
theorem dL_undo_12 : decode cL_undo 12 = .ok (.astore_n 3, 1) := by decide +kernel
theorem dL_undo_13 : decode cL_undo 13 = .ok (.iconst 1, 1) := by decide +kernel
theorem dL_undo_14 : decode cL_undo 14 = .ok (.ireturn, 1) := by decide +kernel
theorem dL_undo_15 : decode cL_undo 15 = .ok (.iconst 0, 1) := by decide +kernel
theorem dL_undo_16 : decode cL_undo 16 = .ok (.ireturn, 1) := by decide +kernel
theorem dL_judge_0 : decode cL_judge 0 = .ok (.aload_n 3, 1) := by decide +kernel
theorem dL_judge_1 : decode cL_judge 1 = .ok (.iconst 0, 1) := by decide +kernel
theorem dL_judge_2 : decode cL_judge 2 = .ok (.aload_n 0, 1) := by decide +kernel
theorem dL_judge_3 : decode cL_judge 3 = .ok (.iload_n 1, 1) := by decide +kernel
theorem dL_judge_4 : decode cL_judge 4 = .ok (.iload_n 2, 1) := by decide +kernel
theorem dL_judge_5 : decode cL_judge 5 = .ok (.invokevirtual 41, 3) := by decide +kernel
theorem dL_judge_8 : decode cL_judge 8 = .ok (.i2l, 1) := by decide +kernel
theorem dL_judge_9 : decode cL_judge 9 = .ok (.lastore, 1) := by decide +kernel
theorem dL_judge_10 : decode cL_judge 10 = .ok (.goto 15, 3) := by decide +kernel
theorem dL_judge_13 : decode cL_judge 13 = .ok (.astore 4, 2) := by decide +kernel
theorem dL_judge_15 : decode cL_judge 15 = .ok (.iconst 1, 1) := by decide +kernel
theorem dL_judge_16 : decode cL_judge 16 = .ok (.ireturn, 1) := by decide +kernel
theorem dL_judge_17 : decode cL_judge 17 = .ok (.astore 4, 2) := by decide +kernel
theorem dL_judge_19 : decode cL_judge 19 = .ok (.iconst 2, 1) := by decide +kernel
theorem dL_judge_20 : decode cL_judge 20 = .ok (.ireturn, 1) := by decide +kernel
theorem dL_judge_21 : decode cL_judge 21 = .ok (.astore 4, 2) := by decide +kernel
theorem dL_judge_23 : decode cL_judge 23 = .ok (.iconst 3, 1) := by decide +kernel
theorem dL_judge_24 : decode cL_judge 24 = .ok (.ireturn, 1) := by decide +kernel
theorem dL_judge_25 : decode cL_judge 25 = .ok (.iconst 0, 1) := by decide +kernel
theorem dL_judge_26 : decode cL_judge 26 = .ok (.ireturn, 1) := by decide +kernel
theorem dL_perform_0 : decode cL_perform 0 = .ok (.aload_n 2, 1) := by decide +kernel
theorem dL_perform_1 : decode cL_perform 1 = .ok (.iconst 0, 1) := by decide +kernel
theorem dL_perform_2 : decode cL_perform 2 = .ok (.aload_n 0, 1) := by decide +kernel
theorem dL_perform_3 : decode cL_perform 3 = .ok (.iload_n 1, 1) := by decide +kernel
theorem dL_perform_4 : decode cL_perform 4 = .ok (.invokevirtual 46, 3) := by decide +kernel
theorem dL_perform_7 : decode cL_perform 7 = .ok (.i2l, 1) := by decide +kernel
theorem dL_perform_8 : decode cL_perform 8 = .ok (.lastore, 1) := by decide +kernel
theorem dL_perform_9 : decode cL_perform 9 = .ok (.goto 9, 3) := by decide +kernel
theorem dL_perform_12 : decode cL_perform 12 = .ok (.astore_n 3, 1) := by decide +kernel
theorem dL_perform_13 : decode cL_perform 13 = .ok (.iconst 1, 1) := by decide +kernel
theorem dL_perform_14 : decode cL_perform 14 = .ok (.ireturn, 1) := by decide +kernel
theorem dL_perform_15 : decode cL_perform 15 = .ok (.astore_n 3, 1) := by decide +kernel
theorem dL_perform_16 : decode cL_perform 16 = .ok (.iconst 2, 1) := by decide +kernel
theorem dL_perform_17 : decode cL_perform 17 = .ok (.ireturn, 1) := by decide +kernel
theorem dL_perform_18 : decode cL_perform 18 = .ok (.iconst 0, 1) := by decide +kernel
theorem dL_perform_19 : decode cL_perform 19 = .ok (.ireturn, 1) := by decide +kernel
theorem dL_afternoon_0 : decode cL_afternoon 0 = .ok (.aload_n 3, 1) := by decide +kernel
theorem dL_afternoon_1 : decode cL_afternoon 1 = .ok (.iconst 0, 1) := by decide +kernel
theorem dL_afternoon_2 : decode cL_afternoon 2 = .ok (.aload_n 0, 1) := by decide +kernel
theorem dL_afternoon_3 : decode cL_afternoon 3 = .ok (.iload_n 1, 1) := by decide +kernel
theorem dL_afternoon_4 : decode cL_afternoon 4 = .ok (.iload_n 2, 1) := by decide +kernel
theorem dL_afternoon_5 : decode cL_afternoon 5 = .ok (.invokevirtual 49, 3) := by decide +kernel
theorem dL_afternoon_8 : decode cL_afternoon 8 = .ok (.i2l, 1) := by decide +kernel
theorem dL_afternoon_9 : decode cL_afternoon 9 = .ok (.lastore, 1) := by decide +kernel
theorem dL_afternoon_10 : decode cL_afternoon 10 = .ok (.goto 7, 3) := by decide +kernel
theorem dL_afternoon_13 : decode cL_afternoon 13 = .ok (.astore 4, 2) := by decide +kernel
theorem dL_afternoon_15 : decode cL_afternoon 15 = .ok (.iconst 1, 1) := by decide +kernel
theorem dL_afternoon_16 : decode cL_afternoon 16 = .ok (.ireturn, 1) := by decide +kernel
theorem dL_afternoon_17 : decode cL_afternoon 17 = .ok (.iconst 0, 1) := by decide +kernel
theorem dL_afternoon_18 : decode cL_afternoon 18 = .ok (.ireturn, 1) := by decide +kernel
theorem dL_sits_0 : decode cL_sits 0 = .ok (.aload_n 3, 1) := by decide +kernel
theorem dL_sits_1 : decode cL_sits 1 = .ok (.iconst 0, 1) := by decide +kernel
theorem dL_sits_2 : decode cL_sits 2 = .ok (.aload_n 0, 1) := by decide +kernel
theorem dL_sits_3 : decode cL_sits 3 = .ok (.iload_n 1, 1) := by decide +kernel
theorem dL_sits_4 : decode cL_sits 4 = .ok (.iload_n 2, 1) := by decide +kernel
theorem dL_sits_5 : decode cL_sits 5 = .ok (.invokevirtual 52, 3) := by decide +kernel
theorem dL_sits_8 : decode cL_sits 8 = .ok (.i2l, 1) := by decide +kernel
theorem dL_sits_9 : decode cL_sits 9 = .ok (.lastore, 1) := by decide +kernel
theorem dL_sits_10 : decode cL_sits 10 = .ok (.goto 11, 3) := by decide +kernel
theorem dL_sits_13 : decode cL_sits 13 = .ok (.astore 4, 2) := by decide +kernel
theorem dL_sits_15 : decode cL_sits 15 = .ok (.iconst 1, 1) := by decide +kernel
theorem dL_sits_16 : decode cL_sits 16 = .ok (.ireturn, 1) := by decide +kernel
theorem dL_sits_17 : decode cL_sits 17 = .ok (.astore 4, 2) := by decide +kernel
theorem dL_sits_19 : decode cL_sits 19 = .ok (.iconst 2, 1) := by decide +kernel
theorem dL_sits_20 : decode cL_sits 20 = .ok (.ireturn, 1) := by decide +kernel
theorem dL_sits_21 : decode cL_sits 21 = .ok (.iconst 0, 1) := by decide +kernel
theorem dL_sits_22 : decode cL_sits 22 = .ok (.ireturn, 1) := by decide +kernel
theorem dL_wetIn_0 : decode cL_wetIn 0 = .ok (.aload_n 2, 1) := by decide +kernel
theorem dL_wetIn_1 : decode cL_wetIn 1 = .ok (.iconst 0, 1) := by decide +kernel
theorem dL_wetIn_2 : decode cL_wetIn 2 = .ok (.aload_n 0, 1) := by decide +kernel
theorem dL_wetIn_3 : decode cL_wetIn 3 = .ok (.iload_n 1, 1) := by decide +kernel
theorem dL_wetIn_4 : decode cL_wetIn 4 = .ok (.invokevirtual 55, 3) := by decide +kernel
theorem dL_wetIn_7 : decode cL_wetIn 7 = .ok (.i2l, 1) := by decide +kernel
theorem dL_wetIn_8 : decode cL_wetIn 8 = .ok (.lastore, 1) := by decide +kernel
theorem dL_wetIn_9 : decode cL_wetIn 9 = .ok (.goto 6, 3) := by decide +kernel
theorem dL_wetIn_12 : decode cL_wetIn 12 = .ok (.astore_n 3, 1) := by decide +kernel
theorem dL_wetIn_13 : decode cL_wetIn 13 = .ok (.iconst 1, 1) := by decide +kernel
theorem dL_wetIn_14 : decode cL_wetIn 14 = .ok (.ireturn, 1) := by decide +kernel
theorem dL_wetIn_15 : decode cL_wetIn 15 = .ok (.iconst 0, 1) := by decide +kernel
theorem dL_wetIn_16 : decode cL_wetIn 16 = .ok (.ireturn, 1) := by decide +kernel
theorem dL_wetBy_0 : decode cL_wetBy 0 = .ok (.aload_n 2, 1) := by decide +kernel
theorem dL_wetBy_1 : decode cL_wetBy 1 = .ok (.iconst 0, 1) := by decide +kernel
theorem dL_wetBy_2 : decode cL_wetBy 2 = .ok (.aload_n 0, 1) := by decide +kernel
theorem dL_wetBy_3 : decode cL_wetBy 3 = .ok (.iload_n 1, 1) := by decide +kernel
theorem dL_wetBy_4 : decode cL_wetBy 4 = .ok (.invokevirtual 58, 3) := by decide +kernel
theorem dL_wetBy_7 : decode cL_wetBy 7 = .ok (.i2l, 1) := by decide +kernel
theorem dL_wetBy_8 : decode cL_wetBy 8 = .ok (.lastore, 1) := by decide +kernel
theorem dL_wetBy_9 : decode cL_wetBy 9 = .ok (.goto 6, 3) := by decide +kernel
theorem dL_wetBy_12 : decode cL_wetBy 12 = .ok (.astore_n 3, 1) := by decide +kernel
theorem dL_wetBy_13 : decode cL_wetBy 13 = .ok (.iconst 1, 1) := by decide +kernel
theorem dL_wetBy_14 : decode cL_wetBy 14 = .ok (.ireturn, 1) := by decide +kernel
theorem dL_wetBy_15 : decode cL_wetBy 15 = .ok (.iconst 0, 1) := by decide +kernel
theorem dL_wetBy_16 : decode cL_wetBy 16 = .ok (.ireturn, 1) := by decide +kernel
theorem dL_frontIn_0 : decode cL_frontIn 0 = .ok (.aload_n 2, 1) := by decide +kernel
theorem dL_frontIn_1 : decode cL_frontIn 1 = .ok (.iconst 0, 1) := by decide +kernel
theorem dL_frontIn_2 : decode cL_frontIn 2 = .ok (.aload_n 0, 1) := by decide +kernel
theorem dL_frontIn_3 : decode cL_frontIn 3 = .ok (.iload_n 1, 1) := by decide +kernel
theorem dL_frontIn_4 : decode cL_frontIn 4 = .ok (.invokevirtual 61, 3) := by decide +kernel
theorem dL_frontIn_7 : decode cL_frontIn 7 = .ok (.i2l, 1) := by decide +kernel
theorem dL_frontIn_8 : decode cL_frontIn 8 = .ok (.lastore, 1) := by decide +kernel
theorem dL_frontIn_9 : decode cL_frontIn 9 = .ok (.goto 6, 3) := by decide +kernel
theorem dL_frontIn_12 : decode cL_frontIn 12 = .ok (.astore_n 3, 1) := by decide +kernel
theorem dL_frontIn_13 : decode cL_frontIn 13 = .ok (.iconst 1, 1) := by decide +kernel
theorem dL_frontIn_14 : decode cL_frontIn 14 = .ok (.ireturn, 1) := by decide +kernel
theorem dL_frontIn_15 : decode cL_frontIn 15 = .ok (.iconst 0, 1) := by decide +kernel
theorem dL_frontIn_16 : decode cL_frontIn 16 = .ok (.ireturn, 1) := by decide +kernel
theorem dL_front_0 : decode cL_front 0 = .ok (.aload_n 2, 1) := by decide +kernel
theorem dL_front_1 : decode cL_front 1 = .ok (.iconst 0, 1) := by decide +kernel
theorem dL_front_2 : decode cL_front 2 = .ok (.aload_n 0, 1) := by decide +kernel
theorem dL_front_3 : decode cL_front 3 = .ok (.iload_n 1, 1) := by decide +kernel
theorem dL_front_4 : decode cL_front 4 = .ok (.invokevirtual 64, 3) := by decide +kernel
theorem dL_front_7 : decode cL_front 7 = .ok (.i2l, 1) := by decide +kernel
theorem dL_front_8 : decode cL_front 8 = .ok (.lastore, 1) := by decide +kernel
theorem dL_front_9 : decode cL_front 9 = .ok (.goto 6, 3) := by decide +kernel
theorem dL_front_12 : decode cL_front 12 = .ok (.astore_n 3, 1) := by decide +kernel
theorem dL_front_13 : decode cL_front 13 = .ok (.iconst 1, 1) := by decide +kernel
theorem dL_front_14 : decode cL_front 14 = .ok (.ireturn, 1) := by decide +kernel
theorem dL_front_15 : decode cL_front 15 = .ok (.iconst 0, 1) := by decide +kernel
theorem dL_front_16 : decode cL_front 16 = .ok (.ireturn, 1) := by decide +kernel
theorem dL_king_0 : decode cL_king 0 = .ok (.aload_n 2, 1) := by decide +kernel
theorem dL_king_1 : decode cL_king 1 = .ok (.iconst 0, 1) := by decide +kernel
theorem dL_king_2 : decode cL_king 2 = .ok (.aload_n 0, 1) := by decide +kernel
theorem dL_king_3 : decode cL_king 3 = .ok (.iload_n 1, 1) := by decide +kernel
theorem dL_king_4 : decode cL_king 4 = .ok (.invokevirtual 67, 3) := by decide +kernel
theorem dL_king_7 : decode cL_king 7 = .ok (.i2l, 1) := by decide +kernel
theorem dL_king_8 : decode cL_king 8 = .ok (.lastore, 1) := by decide +kernel
theorem dL_king_9 : decode cL_king 9 = .ok (.goto 6, 3) := by decide +kernel
theorem dL_king_12 : decode cL_king 12 = .ok (.astore_n 3, 1) := by decide +kernel
theorem dL_king_13 : decode cL_king 13 = .ok (.iconst 1, 1) := by decide +kernel
theorem dL_king_14 : decode cL_king 14 = .ok (.ireturn, 1) := by decide +kernel
theorem dL_king_15 : decode cL_king 15 = .ok (.iconst 0, 1) := by decide +kernel
theorem dL_king_16 : decode cL_king 16 = .ok (.ireturn, 1) := by decide +kernel
theorem dL_bring_0 : decode cL_bring 0 = .ok (.aload 4, 2) := by decide +kernel
theorem dL_bring_2 : decode cL_bring 2 = .ok (.iconst 0, 1) := by decide +kernel
theorem dL_bring_3 : decode cL_bring 3 = .ok (.aload_n 0, 1) := by decide +kernel
theorem dL_bring_4 : decode cL_bring 4 = .ok (.iload_n 1, 1) := by decide +kernel
theorem dL_bring_5 : decode cL_bring 5 = .ok (.iload_n 2, 1) := by decide +kernel
theorem dL_bring_6 : decode cL_bring 6 = .ok (.iload_n 3, 1) := by decide +kernel
theorem dL_bring_7 : decode cL_bring 7 = .ok (.invokevirtual 70, 3) := by decide +kernel
theorem dL_bring_10 : decode cL_bring 10 = .ok (.i2l, 1) := by decide +kernel
theorem dL_bring_11 : decode cL_bring 11 = .ok (.lastore, 1) := by decide +kernel
theorem dL_bring_12 : decode cL_bring 12 = .ok (.goto 11, 3) := by decide +kernel
theorem dL_bring_15 : decode cL_bring 15 = .ok (.astore 5, 2) := by decide +kernel
theorem dL_bring_17 : decode cL_bring 17 = .ok (.iconst 1, 1) := by decide +kernel
theorem dL_bring_18 : decode cL_bring 18 = .ok (.ireturn, 1) := by decide +kernel
theorem dL_bring_19 : decode cL_bring 19 = .ok (.astore 5, 2) := by decide +kernel
theorem dL_bring_21 : decode cL_bring 21 = .ok (.iconst 2, 1) := by decide +kernel
theorem dL_bring_22 : decode cL_bring 22 = .ok (.ireturn, 1) := by decide +kernel
theorem dL_bring_23 : decode cL_bring 23 = .ok (.iconst 0, 1) := by decide +kernel
theorem dL_bring_24 : decode cL_bring 24 = .ok (.ireturn, 1) := by decide +kernel
theorem dL_faints_0 : decode cL_faints 0 = .ok (.aload 4, 2) := by decide +kernel
theorem dL_faints_2 : decode cL_faints 2 = .ok (.iconst 0, 1) := by decide +kernel
theorem dL_faints_3 : decode cL_faints 3 = .ok (.aload_n 0, 1) := by decide +kernel
theorem dL_faints_4 : decode cL_faints 4 = .ok (.iload_n 1, 1) := by decide +kernel
theorem dL_faints_5 : decode cL_faints 5 = .ok (.iload_n 2, 1) := by decide +kernel
theorem dL_faints_6 : decode cL_faints 6 = .ok (.iload_n 3, 1) := by decide +kernel
theorem dL_faints_7 : decode cL_faints 7 = .ok (.invokevirtual 73, 3) := by decide +kernel
theorem dL_faints_10 : decode cL_faints 10 = .ok (.i2l, 1) := by decide +kernel
theorem dL_faints_11 : decode cL_faints 11 = .ok (.lastore, 1) := by decide +kernel
theorem dL_faints_12 : decode cL_faints 12 = .ok (.goto 11, 3) := by decide +kernel
theorem dL_faints_15 : decode cL_faints 15 = .ok (.astore 5, 2) := by decide +kernel
theorem dL_faints_17 : decode cL_faints 17 = .ok (.iconst 1, 1) := by decide +kernel
theorem dL_faints_18 : decode cL_faints 18 = .ok (.ireturn, 1) := by decide +kernel
theorem dL_faints_19 : decode cL_faints 19 = .ok (.astore 5, 2) := by decide +kernel
theorem dL_faints_21 : decode cL_faints 21 = .ok (.iconst 2, 1) := by decide +kernel
theorem dL_faints_22 : decode cL_faints 22 = .ok (.ireturn, 1) := by decide +kernel
theorem dL_faints_23 : decode cL_faints 23 = .ok (.iconst 0, 1) := by decide +kernel
theorem dL_faints_24 : decode cL_faints 24 = .ok (.ireturn, 1) := by decide +kernel
theorem dL_round_0 : decode cL_round 0 = .ok (.aload_n 2, 1) := by decide +kernel
theorem dL_round_1 : decode cL_round 1 = .ok (.iconst 0, 1) := by decide +kernel
theorem dL_round_2 : decode cL_round 2 = .ok (.aload_n 0, 1) := by decide +kernel
theorem dL_round_3 : decode cL_round 3 = .ok (.iload_n 1, 1) := by decide +kernel
theorem dL_round_4 : decode cL_round 4 = .ok (.invokevirtual 76, 3) := by decide +kernel
theorem dL_round_7 : decode cL_round 7 = .ok (.i2l, 1) := by decide +kernel
theorem dL_round_8 : decode cL_round 8 = .ok (.lastore, 1) := by decide +kernel
theorem dL_round_9 : decode cL_round 9 = .ok (.goto 6, 3) := by decide +kernel
theorem dL_round_12 : decode cL_round 12 = .ok (.astore_n 3, 1) := by decide +kernel
theorem dL_round_13 : decode cL_round 13 = .ok (.iconst 1, 1) := by decide +kernel
theorem dL_round_14 : decode cL_round 14 = .ok (.ireturn, 1) := by decide +kernel
theorem dL_round_15 : decode cL_round 15 = .ok (.iconst 0, 1) := by decide +kernel
theorem dL_round_16 : decode cL_round 16 = .ok (.ireturn, 1) := by decide +kernel
theorem dL_hands_0 : decode cL_hands 0 = .ok (.aload_n 3, 1) := by decide +kernel
theorem dL_hands_1 : decode cL_hands 1 = .ok (.iconst 0, 1) := by decide +kernel
theorem dL_hands_2 : decode cL_hands 2 = .ok (.aload_n 0, 1) := by decide +kernel
theorem dL_hands_3 : decode cL_hands 3 = .ok (.iload_n 1, 1) := by decide +kernel
theorem dL_hands_4 : decode cL_hands 4 = .ok (.iload_n 2, 1) := by decide +kernel
theorem dL_hands_5 : decode cL_hands 5 = .ok (.invokevirtual 79, 3) := by decide +kernel
theorem dL_hands_8 : decode cL_hands 8 = .ok (.i2l, 1) := by decide +kernel
theorem dL_hands_9 : decode cL_hands 9 = .ok (.lastore, 1) := by decide +kernel
theorem dL_hands_10 : decode cL_hands 10 = .ok (.goto 15, 3) := by decide +kernel
theorem dL_hands_13 : decode cL_hands 13 = .ok (.astore 4, 2) := by decide +kernel
theorem dL_hands_15 : decode cL_hands 15 = .ok (.iconst 1, 1) := by decide +kernel
theorem dL_hands_16 : decode cL_hands 16 = .ok (.ireturn, 1) := by decide +kernel
theorem dL_hands_17 : decode cL_hands 17 = .ok (.astore 4, 2) := by decide +kernel
theorem dL_hands_19 : decode cL_hands 19 = .ok (.iconst 2, 1) := by decide +kernel
theorem dL_hands_20 : decode cL_hands 20 = .ok (.ireturn, 1) := by decide +kernel
theorem dL_hands_21 : decode cL_hands 21 = .ok (.astore 4, 2) := by decide +kernel
theorem dL_hands_23 : decode cL_hands 23 = .ok (.iconst 3, 1) := by decide +kernel
theorem dL_hands_24 : decode cL_hands 24 = .ok (.ireturn, 1) := by decide +kernel
theorem dL_hands_25 : decode cL_hands 25 = .ok (.iconst 0, 1) := by decide +kernel
theorem dL_hands_26 : decode cL_hands 26 = .ok (.ireturn, 1) := by decide +kernel
theorem dL_relay_0 : decode cL_relay 0 = .ok (.aload_n 2, 1) := by decide +kernel
theorem dL_relay_1 : decode cL_relay 1 = .ok (.iconst 0, 1) := by decide +kernel
theorem dL_relay_2 : decode cL_relay 2 = .ok (.aload_n 0, 1) := by decide +kernel
theorem dL_relay_3 : decode cL_relay 3 = .ok (.iload_n 1, 1) := by decide +kernel
theorem dL_relay_4 : decode cL_relay 4 = .ok (.invokevirtual 82, 3) := by decide +kernel
theorem dL_relay_7 : decode cL_relay 7 = .ok (.i2l, 1) := by decide +kernel
theorem dL_relay_8 : decode cL_relay 8 = .ok (.lastore, 1) := by decide +kernel
theorem dL_relay_9 : decode cL_relay 9 = .ok (.goto 9, 3) := by decide +kernel
theorem dL_relay_12 : decode cL_relay 12 = .ok (.astore_n 3, 1) := by decide +kernel
theorem dL_relay_13 : decode cL_relay 13 = .ok (.iconst 1, 1) := by decide +kernel
theorem dL_relay_14 : decode cL_relay 14 = .ok (.ireturn, 1) := by decide +kernel
theorem dL_relay_15 : decode cL_relay 15 = .ok (.astore_n 3, 1) := by decide +kernel
theorem dL_relay_16 : decode cL_relay 16 = .ok (.iconst 2, 1) := by decide +kernel
theorem dL_relay_17 : decode cL_relay 17 = .ok (.ireturn, 1) := by decide +kernel
theorem dL_relay_18 : decode cL_relay 18 = .ok (.iconst 0, 1) := by decide +kernel
theorem dL_relay_19 : decode cL_relay 19 = .ok (.ireturn, 1) := by decide +kernel
theorem dL_cut_0 : decode cL_cut 0 = .ok (.aload_n 3, 1) := by decide +kernel
theorem dL_cut_1 : decode cL_cut 1 = .ok (.iconst 0, 1) := by decide +kernel
theorem dL_cut_2 : decode cL_cut 2 = .ok (.aload_n 0, 1) := by decide +kernel
theorem dL_cut_3 : decode cL_cut 3 = .ok (.iload_n 1, 1) := by decide +kernel
theorem dL_cut_4 : decode cL_cut 4 = .ok (.iload_n 2, 1) := by decide +kernel
theorem dL_cut_5 : decode cL_cut 5 = .ok (.invokevirtual 85, 3) := by decide +kernel
theorem dL_cut_8 : decode cL_cut 8 = .ok (.i2l, 1) := by decide +kernel
theorem dL_cut_9 : decode cL_cut 9 = .ok (.lastore, 1) := by decide +kernel
theorem dL_cut_10 : decode cL_cut 10 = .ok (.goto 15, 3) := by decide +kernel
theorem dL_cut_13 : decode cL_cut 13 = .ok (.astore 4, 2) := by decide +kernel
theorem dL_cut_15 : decode cL_cut 15 = .ok (.iconst 1, 1) := by decide +kernel
theorem dL_cut_16 : decode cL_cut 16 = .ok (.ireturn, 1) := by decide +kernel
theorem dL_cut_17 : decode cL_cut 17 = .ok (.astore 4, 2) := by decide +kernel
theorem dL_cut_19 : decode cL_cut 19 = .ok (.iconst 2, 1) := by decide +kernel
theorem dL_cut_20 : decode cL_cut 20 = .ok (.ireturn, 1) := by decide +kernel
theorem dL_cut_21 : decode cL_cut 21 = .ok (.astore 4, 2) := by decide +kernel
theorem dL_cut_23 : decode cL_cut 23 = .ok (.iconst 3, 1) := by decide +kernel
theorem dL_cut_24 : decode cL_cut 24 = .ok (.ireturn, 1) := by decide +kernel
theorem dL_cut_25 : decode cL_cut 25 = .ok (.iconst 0, 1) := by decide +kernel
theorem dL_cut_26 : decode cL_cut 26 = .ok (.ireturn, 1) := by decide +kernel
theorem dL_dry_0 : decode cL_dry 0 = .ok (.aload 4, 2) := by decide +kernel
theorem dL_dry_2 : decode cL_dry 2 = .ok (.iconst 0, 1) := by decide +kernel
theorem dL_dry_3 : decode cL_dry 3 = .ok (.aload_n 0, 1) := by decide +kernel
theorem dL_dry_4 : decode cL_dry 4 = .ok (.iload_n 1, 1) := by decide +kernel
theorem dL_dry_5 : decode cL_dry 5 = .ok (.iload_n 2, 1) := by decide +kernel
theorem dL_dry_6 : decode cL_dry 6 = .ok (.iload_n 3, 1) := by decide +kernel
theorem dL_dry_7 : decode cL_dry 7 = .ok (.invokevirtual 88, 3) := by decide +kernel
theorem dL_dry_10 : decode cL_dry 10 = .ok (.lastore, 1) := by decide +kernel
theorem dL_dry_11 : decode cL_dry 11 = .ok (.goto 11, 3) := by decide +kernel
theorem dL_dry_14 : decode cL_dry 14 = .ok (.astore 5, 2) := by decide +kernel
theorem dL_dry_16 : decode cL_dry 16 = .ok (.iconst 1, 1) := by decide +kernel
theorem dL_dry_17 : decode cL_dry 17 = .ok (.ireturn, 1) := by decide +kernel
theorem dL_dry_18 : decode cL_dry 18 = .ok (.astore 5, 2) := by decide +kernel
theorem dL_dry_20 : decode cL_dry 20 = .ok (.iconst 2, 1) := by decide +kernel
theorem dL_dry_21 : decode cL_dry 21 = .ok (.ireturn, 1) := by decide +kernel
theorem dL_dry_22 : decode cL_dry 22 = .ok (.iconst 0, 1) := by decide +kernel
theorem dL_dry_23 : decode cL_dry 23 = .ok (.ireturn, 1) := by decide +kernel
theorem dL_driest_0 : decode cL_driest 0 = .ok (.aload_n 2, 1) := by decide +kernel
theorem dL_driest_1 : decode cL_driest 1 = .ok (.iconst 0, 1) := by decide +kernel
theorem dL_driest_2 : decode cL_driest 2 = .ok (.aload_n 0, 1) := by decide +kernel
theorem dL_driest_3 : decode cL_driest 3 = .ok (.iload_n 1, 1) := by decide +kernel
theorem dL_driest_4 : decode cL_driest 4 = .ok (.invokevirtual 92, 3) := by decide +kernel
theorem dL_driest_7 : decode cL_driest 7 = .ok (.i2l, 1) := by decide +kernel
theorem dL_driest_8 : decode cL_driest 8 = .ok (.lastore, 1) := by decide +kernel
theorem dL_driest_9 : decode cL_driest 9 = .ok (.goto 6, 3) := by decide +kernel
theorem dL_driest_12 : decode cL_driest 12 = .ok (.astore_n 3, 1) := by decide +kernel
theorem dL_driest_13 : decode cL_driest 13 = .ok (.iconst 1, 1) := by decide +kernel
theorem dL_driest_14 : decode cL_driest 14 = .ok (.ireturn, 1) := by decide +kernel
theorem dL_driest_15 : decode cL_driest 15 = .ok (.iconst 0, 1) := by decide +kernel
theorem dL_driest_16 : decode cL_driest 16 = .ok (.ireturn, 1) := by decide +kernel
theorem dL_where_0 : decode cL_where 0 = .ok (.aload_n 3, 1) := by decide +kernel
theorem dL_where_1 : decode cL_where 1 = .ok (.iconst 0, 1) := by decide +kernel
theorem dL_where_2 : decode cL_where 2 = .ok (.aload_n 0, 1) := by decide +kernel
theorem dL_where_3 : decode cL_where 3 = .ok (.iload_n 1, 1) := by decide +kernel
theorem dL_where_4 : decode cL_where 4 = .ok (.iload_n 2, 1) := by decide +kernel
theorem dL_where_5 : decode cL_where 5 = .ok (.invokevirtual 95, 3) := by decide +kernel
theorem dL_where_8 : decode cL_where 8 = .ok (.i2l, 1) := by decide +kernel
theorem dL_where_9 : decode cL_where 9 = .ok (.lastore, 1) := by decide +kernel
theorem dL_where_10 : decode cL_where 10 = .ok (.goto 15, 3) := by decide +kernel
theorem dL_where_13 : decode cL_where 13 = .ok (.astore 4, 2) := by decide +kernel
theorem dL_where_15 : decode cL_where 15 = .ok (.iconst 1, 1) := by decide +kernel
theorem dL_where_16 : decode cL_where 16 = .ok (.ireturn, 1) := by decide +kernel
theorem dL_where_17 : decode cL_where 17 = .ok (.astore 4, 2) := by decide +kernel
theorem dL_where_19 : decode cL_where 19 = .ok (.iconst 2, 1) := by decide +kernel
theorem dL_where_20 : decode cL_where 20 = .ok (.ireturn, 1) := by decide +kernel
theorem dL_where_21 : decode cL_where 21 = .ok (.astore 4, 2) := by decide +kernel
theorem dL_where_23 : decode cL_where 23 = .ok (.iconst 3, 1) := by decide +kernel
theorem dL_where_24 : decode cL_where 24 = .ok (.ireturn, 1) := by decide +kernel
theorem dL_where_25 : decode cL_where 25 = .ok (.iconst 0, 1) := by decide +kernel
theorem dL_where_26 : decode cL_where 26 = .ok (.ireturn, 1) := by decide +kernel
theorem dL_changed_0 : decode cL_changed 0 = .ok (.aload_n 3, 1) := by decide +kernel
theorem dL_changed_1 : decode cL_changed 1 = .ok (.iconst 0, 1) := by decide +kernel
theorem dL_changed_2 : decode cL_changed 2 = .ok (.aload_n 0, 1) := by decide +kernel
theorem dL_changed_3 : decode cL_changed 3 = .ok (.iload_n 1, 1) := by decide +kernel
theorem dL_changed_4 : decode cL_changed 4 = .ok (.iload_n 2, 1) := by decide +kernel
theorem dL_changed_5 : decode cL_changed 5 = .ok (.invokevirtual 98, 3) := by decide +kernel
theorem dL_changed_8 : decode cL_changed 8 = .ok (.i2l, 1) := by decide +kernel
theorem dL_changed_9 : decode cL_changed 9 = .ok (.lastore, 1) := by decide +kernel
theorem dL_changed_10 : decode cL_changed 10 = .ok (.goto 7, 3) := by decide +kernel
theorem dL_changed_13 : decode cL_changed 13 = .ok (.astore 4, 2) := by decide +kernel
theorem dL_changed_15 : decode cL_changed 15 = .ok (.iconst 1, 1) := by decide +kernel
theorem dL_changed_16 : decode cL_changed 16 = .ok (.ireturn, 1) := by decide +kernel
theorem dL_changed_17 : decode cL_changed 17 = .ok (.iconst 0, 1) := by decide +kernel
theorem dL_changed_18 : decode cL_changed 18 = .ok (.ireturn, 1) := by decide +kernel
theorem dL_changedAt_0 : decode cL_changedAt 0 = .ok (.aload 4, 2) := by decide +kernel
theorem dL_changedAt_2 : decode cL_changedAt 2 = .ok (.iconst 0, 1) := by decide +kernel
theorem dL_changedAt_3 : decode cL_changedAt 3 = .ok (.aload_n 0, 1) := by decide +kernel
theorem dL_changedAt_4 : decode cL_changedAt 4 = .ok (.iload_n 1, 1) := by decide +kernel
theorem dL_changedAt_5 : decode cL_changedAt 5 = .ok (.iload_n 2, 1) := by decide +kernel
theorem dL_changedAt_6 : decode cL_changedAt 6 = .ok (.iload_n 3, 1) := by decide +kernel
theorem dL_changedAt_7 : decode cL_changedAt 7 = .ok (.invokevirtual 101, 3) := by decide +kernel
theorem dL_changedAt_10 : decode cL_changedAt 10 = .ok (.i2l, 1) := by decide +kernel
theorem dL_changedAt_11 : decode cL_changedAt 11 = .ok (.lastore, 1) := by decide +kernel
theorem dL_changedAt_12 : decode cL_changedAt 12 = .ok (.goto 7, 3) := by decide +kernel
theorem dL_changedAt_15 : decode cL_changedAt 15 = .ok (.astore 5, 2) := by decide +kernel
theorem dL_changedAt_17 : decode cL_changedAt 17 = .ok (.iconst 1, 1) := by decide +kernel
theorem dL_changedAt_18 : decode cL_changedAt 18 = .ok (.ireturn, 1) := by decide +kernel
theorem dL_changedAt_19 : decode cL_changedAt 19 = .ok (.iconst 0, 1) := by decide +kernel
theorem dL_changedAt_20 : decode cL_changedAt 20 = .ok (.ireturn, 1) := by decide +kernel
theorem dL_sure_0 : decode cL_sure 0 = .ok (.aload_n 3, 1) := by decide +kernel
theorem dL_sure_1 : decode cL_sure 1 = .ok (.iconst 0, 1) := by decide +kernel
theorem dL_sure_2 : decode cL_sure 2 = .ok (.aload_n 0, 1) := by decide +kernel
theorem dL_sure_3 : decode cL_sure 3 = .ok (.iload_n 1, 1) := by decide +kernel
theorem dL_sure_4 : decode cL_sure 4 = .ok (.iload_n 2, 1) := by decide +kernel
theorem dL_sure_5 : decode cL_sure 5 = .ok (.invokevirtual 104, 3) := by decide +kernel
theorem dL_sure_8 : decode cL_sure 8 = .ok (.i2l, 1) := by decide +kernel
theorem dL_sure_9 : decode cL_sure 9 = .ok (.lastore, 1) := by decide +kernel
theorem dL_sure_10 : decode cL_sure 10 = .ok (.goto 7, 3) := by decide +kernel
theorem dL_sure_13 : decode cL_sure 13 = .ok (.astore 4, 2) := by decide +kernel
theorem dL_sure_15 : decode cL_sure 15 = .ok (.iconst 1, 1) := by decide +kernel
theorem dL_sure_16 : decode cL_sure 16 = .ok (.ireturn, 1) := by decide +kernel
theorem dL_sure_17 : decode cL_sure 17 = .ok (.iconst 0, 1) := by decide +kernel
theorem dL_sure_18 : decode cL_sure 18 = .ok (.ireturn, 1) := by decide +kernel
theorem dL_look_0 : decode cL_look 0 = .ok (.aload_n 3, 1) := by decide +kernel
theorem dL_look_1 : decode cL_look 1 = .ok (.iconst 0, 1) := by decide +kernel
theorem dL_look_2 : decode cL_look 2 = .ok (.aload_n 0, 1) := by decide +kernel
theorem dL_look_3 : decode cL_look 3 = .ok (.iload_n 1, 1) := by decide +kernel
theorem dL_look_4 : decode cL_look 4 = .ok (.iload_n 2, 1) := by decide +kernel
theorem dL_look_5 : decode cL_look 5 = .ok (.invokevirtual 107, 3) := by decide +kernel
theorem dL_look_8 : decode cL_look 8 = .ok (.i2l, 1) := by decide +kernel
theorem dL_look_9 : decode cL_look 9 = .ok (.lastore, 1) := by decide +kernel
theorem dL_look_10 : decode cL_look 10 = .ok (.goto 7, 3) := by decide +kernel
theorem dL_look_13 : decode cL_look 13 = .ok (.astore 4, 2) := by decide +kernel
theorem dL_look_15 : decode cL_look 15 = .ok (.iconst 1, 1) := by decide +kernel
theorem dL_look_16 : decode cL_look 16 = .ok (.ireturn, 1) := by decide +kernel
theorem dL_look_17 : decode cL_look 17 = .ok (.iconst 0, 1) := by decide +kernel
theorem dL_look_18 : decode cL_look 18 = .ok (.ireturn, 1) := by decide +kernel
theorem dL_tray_0 : decode cL_tray 0 = .ok (.aload_n 0, 1) := by decide +kernel
theorem dL_tray_1 : decode cL_tray 1 = .ok (.iload_n 1, 1) := by decide +kernel
theorem dL_tray_2 : decode cL_tray 2 = .ok (.iload_n 2, 1) := by decide +kernel
theorem dL_tray_3 : decode cL_tray 3 = .ok (.iload_n 3, 1) := by decide +kernel
theorem dL_tray_4 : decode cL_tray 4 = .ok (.invokevirtual 110, 3) := by decide +kernel
theorem dL_tray_7 : decode cL_tray 7 = .ok (.goto 11, 3) := by decide +kernel
theorem dL_tray_10 : decode cL_tray 10 = .ok (.astore 4, 2) := by decide +kernel
theorem dL_tray_12 : decode cL_tray 12 = .ok (.iconst 1, 1) := by decide +kernel
theorem dL_tray_13 : decode cL_tray 13 = .ok (.ireturn, 1) := by decide +kernel
theorem dL_tray_14 : decode cL_tray 14 = .ok (.astore 4, 2) := by decide +kernel
theorem dL_tray_16 : decode cL_tray 16 = .ok (.iconst 2, 1) := by decide +kernel
theorem dL_tray_17 : decode cL_tray 17 = .ok (.ireturn, 1) := by decide +kernel
theorem dL_tray_18 : decode cL_tray 18 = .ok (.iconst 0, 1) := by decide +kernel
theorem dL_tray_19 : decode cL_tray 19 = .ok (.ireturn, 1) := by decide +kernel
theorem dL_write_0 : decode cL_write 0 = .ok (.aload 5, 2) := by decide +kernel
theorem dL_write_2 : decode cL_write 2 = .ok (.iconst 0, 1) := by decide +kernel
theorem dL_write_3 : decode cL_write 3 = .ok (.aload_n 0, 1) := by decide +kernel
theorem dL_write_4 : decode cL_write 4 = .ok (.iload_n 1, 1) := by decide +kernel
theorem dL_write_5 : decode cL_write 5 = .ok (.iload_n 2, 1) := by decide +kernel
theorem dL_write_6 : decode cL_write 6 = .ok (.lload_n 3, 1) := by decide +kernel
theorem dL_write_7 : decode cL_write 7 = .ok (.invokevirtual 114, 3) := by decide +kernel
theorem dL_write_10 : decode cL_write 10 = .ok (.lastore, 1) := by decide +kernel
theorem dL_write_11 : decode cL_write 11 = .ok (.goto 15, 3) := by decide +kernel
theorem dL_write_14 : decode cL_write 14 = .ok (.astore 6, 2) := by decide +kernel
theorem dL_write_16 : decode cL_write 16 = .ok (.iconst 1, 1) := by decide +kernel
theorem dL_write_17 : decode cL_write 17 = .ok (.ireturn, 1) := by decide +kernel
theorem dL_write_18 : decode cL_write 18 = .ok (.astore 6, 2) := by decide +kernel
theorem dL_write_20 : decode cL_write 20 = .ok (.iconst 2, 1) := by decide +kernel
theorem dL_write_21 : decode cL_write 21 = .ok (.ireturn, 1) := by decide +kernel
theorem dL_write_22 : decode cL_write 22 = .ok (.astore 6, 2) := by decide +kernel
theorem dL_write_24 : decode cL_write 24 = .ok (.iconst 3, 1) := by decide +kernel
theorem dL_write_25 : decode cL_write 25 = .ok (.ireturn, 1) := by decide +kernel
theorem dL_write_26 : decode cL_write 26 = .ok (.iconst 0, 1) := by decide +kernel
theorem dL_write_27 : decode cL_write 27 = .ok (.ireturn, 1) := by decide +kernel
theorem dL_copy_0 : decode cL_copy 0 = .ok (.aload_n 3, 1) := by decide +kernel
theorem dL_copy_1 : decode cL_copy 1 = .ok (.iconst 0, 1) := by decide +kernel
theorem dL_copy_2 : decode cL_copy 2 = .ok (.aload_n 0, 1) := by decide +kernel
theorem dL_copy_3 : decode cL_copy 3 = .ok (.iload_n 1, 1) := by decide +kernel
theorem dL_copy_4 : decode cL_copy 4 = .ok (.iload_n 2, 1) := by decide +kernel
theorem dL_copy_5 : decode cL_copy 5 = .ok (.invokevirtual 120, 3) := by decide +kernel
theorem dL_copy_8 : decode cL_copy 8 = .ok (.i2l, 1) := by decide +kernel
theorem dL_copy_9 : decode cL_copy 9 = .ok (.lastore, 1) := by decide +kernel
theorem dL_copy_10 : decode cL_copy 10 = .ok (.goto 11, 3) := by decide +kernel
theorem dL_copy_13 : decode cL_copy 13 = .ok (.astore 4, 2) := by decide +kernel
theorem dL_copy_15 : decode cL_copy 15 = .ok (.iconst 1, 1) := by decide +kernel
theorem dL_copy_16 : decode cL_copy 16 = .ok (.ireturn, 1) := by decide +kernel
theorem dL_copy_17 : decode cL_copy 17 = .ok (.astore 4, 2) := by decide +kernel
theorem dL_copy_19 : decode cL_copy 19 = .ok (.iconst 2, 1) := by decide +kernel
theorem dL_copy_20 : decode cL_copy 20 = .ok (.ireturn, 1) := by decide +kernel
theorem dL_copy_21 : decode cL_copy 21 = .ok (.iconst 0, 1) := by decide +kernel
theorem dL_copy_22 : decode cL_copy 22 = .ok (.ireturn, 1) := by decide +kernel
theorem dL_image_0 : decode cL_image 0 = .ok (.aload_n 0, 1) := by decide +kernel
theorem dL_image_1 : decode cL_image 1 = .ok (.iload_n 1, 1) := by decide +kernel
theorem dL_image_2 : decode cL_image 2 = .ok (.invokevirtual 123, 3) := by decide +kernel
theorem dL_image_5 : decode cL_image 5 = .ok (.goto 6, 3) := by decide +kernel
theorem dL_image_8 : decode cL_image 8 = .ok (.astore_n 2, 1) := by decide +kernel
theorem dL_image_9 : decode cL_image 9 = .ok (.iconst 1, 1) := by decide +kernel
theorem dL_image_10 : decode cL_image 10 = .ok (.ireturn, 1) := by decide +kernel
theorem dL_image_11 : decode cL_image 11 = .ok (.iconst 0, 1) := by decide +kernel
theorem dL_image_12 : decode cL_image 12 = .ok (.ireturn, 1) := by decide +kernel
theorem dL_restore_0 : decode cL_restore 0 = .ok (.aload_n 0, 1) := by decide +kernel
theorem dL_restore_1 : decode cL_restore 1 = .ok (.iload_n 1, 1) := by decide +kernel
theorem dL_restore_2 : decode cL_restore 2 = .ok (.invokevirtual 127, 3) := by decide +kernel
theorem dL_restore_5 : decode cL_restore 5 = .ok (.goto 9, 3) := by decide +kernel
theorem dL_restore_8 : decode cL_restore 8 = .ok (.astore_n 2, 1) := by decide +kernel
theorem dL_restore_9 : decode cL_restore 9 = .ok (.iconst 1, 1) := by decide +kernel
theorem dL_restore_10 : decode cL_restore 10 = .ok (.ireturn, 1) := by decide +kernel
theorem dL_restore_11 : decode cL_restore 11 = .ok (.astore_n 2, 1) := by decide +kernel
theorem dL_restore_12 : decode cL_restore 12 = .ok (.iconst 2, 1) := by decide +kernel
theorem dL_restore_13 : decode cL_restore 13 = .ok (.ireturn, 1) := by decide +kernel
theorem dL_restore_14 : decode cL_restore 14 = .ok (.iconst 0, 1) := by decide +kernel
theorem dL_restore_15 : decode cL_restore 15 = .ok (.ireturn, 1) := by decide +kernel
