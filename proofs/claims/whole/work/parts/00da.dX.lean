theorem dX0_init_0 : decode cX0_init 0 = .ok (.aload_n 0, 1) := by decide +kernel
theorem dX0_init_1 : decode cX0_init 1 = .ok (.invokespecial 3, 3) := by decide +kernel
theorem dX0_init_4 : decode cX0_init 4 = .ok (.aload_n 0, 1) := by decide +kernel
theorem dX0_init_5 : decode cX0_init 5 = .ok (.iconst 1, 1) := by decide +kernel
theorem dX0_init_6 : decode cX0_init 6 = .ok (.putfield 9, 3) := by decide +kernel
theorem dX0_init_9 : decode cX0_init 9 = .ok (.aload_n 0, 1) := by decide +kernel
theorem dX0_init_10 : decode cX0_init 10 = .ok (.iconst 1, 1) := by decide +kernel
theorem dX0_init_11 : decode cX0_init 11 = .ok (.putfield 15, 3) := by decide +kernel
theorem dX0_init_14 : decode cX0_init 14 = .ok (.aload_n 0, 1) := by decide +kernel
theorem dX0_init_15 : decode cX0_init 15 = .ok (.iconst 0, 1) := by decide +kernel
theorem dX0_init_16 : decode cX0_init 16 = .ok (.putfield 18, 3) := by decide +kernel
theorem dX0_init_19 : decode cX0_init 19 = .ok (.aload_n 0, 1) := by decide +kernel
theorem dX0_init_20 : decode cX0_init 20 = .ok (.iconst 0, 1) := by decide +kernel
theorem dX0_init_21 : decode cX0_init 21 = .ok (.putfield 21, 3) := by decide +kernel
theorem dX0_init_24 : decode cX0_init 24 = .ok (.aload_n 0, 1) := by decide +kernel
theorem dX0_init_25 : decode cX0_init 25 = .ok (.iconst 0, 1) := by decide +kernel
theorem dX0_init_26 : decode cX0_init 26 = .ok (.putfield 24, 3) := by decide +kernel
theorem dX0_init_29 : decode cX0_init 29 = .ok (.aload_n 0, 1) := by decide +kernel
theorem dX0_init_30 : decode cX0_init 30 = .ok (.bipush 8, 2) := by decide +kernel
theorem dX0_init_32 : decode cX0_init 32 = .ok (.newarray .int, 2) := by decide +kernel
theorem dX0_init_34 : decode cX0_init 34 = .ok (.putfield 27, 3) := by decide +kernel
theorem dX0_init_37 : decode cX0_init 37 = .ok (.aload_n 0, 1) := by decide +kernel
theorem dX0_init_38 : decode cX0_init 38 = .ok (.bipush 8, 2) := by decide +kernel
theorem dX0_init_40 : decode cX0_init 40 = .ok (.newarray .int, 2) := by decide +kernel
theorem dX0_init_42 : decode cX0_init 42 = .ok (.putfield 31, 3) := by decide +kernel
theorem dX0_init_45 : decode cX0_init 45 = .ok (.aload_n 0, 1) := by decide +kernel
theorem dX0_init_46 : decode cX0_init 46 = .ok (.bipush 8, 2) := by decide +kernel
theorem dX0_init_48 : decode cX0_init 48 = .ok (.newarray .int, 2) := by decide +kernel
theorem dX0_init_50 : decode cX0_init 50 = .ok (.putfield 34, 3) := by decide +kernel
theorem dX0_init_53 : decode cX0_init 53 = .ok (.aload_n 0, 1) := by decide +kernel
theorem dX0_init_54 : decode cX0_init 54 = .ok (.aconst_null, 1) := by decide +kernel
theorem dX0_init_55 : decode cX0_init 55 = .ok (.putfield 37, 3) := by decide +kernel
theorem dX0_init_58 : decode cX0_init 58 = .ok (.aload_n 0, 1) := by decide +kernel
theorem dX0_init_59 : decode cX0_init 59 = .ok (.aconst_null, 1) := by decide +kernel
theorem dX0_init_60 : decode cX0_init 60 = .ok (.putfield 41, 3) := by decide +kernel
theorem dX0_init_63 : decode cX0_init 63 = .ok (.aload_n 0, 1) := by decide +kernel
theorem dX0_init_64 : decode cX0_init 64 = .ok (.aconst_null, 1) := by decide +kernel
theorem dX0_init_65 : decode cX0_init 65 = .ok (.putfield 44, 3) := by decide +kernel
theorem dX0_init_68 : decode cX0_init 68 = .ok (.aload_n 0, 1) := by decide +kernel
theorem dX0_init_69 : decode cX0_init 69 = .ok (.getfield 31, 3) := by decide +kernel
theorem dX0_init_72 : decode cX0_init 72 = .ok (.iconst (-1), 1) := by decide +kernel
theorem dX0_init_73 : decode cX0_init 73 = .ok (.invokestatic 47, 3) := by decide +kernel
theorem dX0_init_76 : decode cX0_init 76 = .ok (.aload_n 0, 1) := by decide +kernel
theorem dX0_init_77 : decode cX0_init 77 = .ok (.getfield 34, 3) := by decide +kernel
theorem dX0_init_80 : decode cX0_init 80 = .ok (.iconst (-1), 1) := by decide +kernel
theorem dX0_init_81 : decode cX0_init 81 = .ok (.invokestatic 47, 3) := by decide +kernel
theorem dX0_init_84 : decode cX0_init 84 = .ok (.return_, 1) := by decide +kernel
theorem dX0_isPerson_0 : decode cX0_isPerson 0 = .ok (.iload_n 1, 1) := by decide +kernel
theorem dX0_isPerson_1 : decode cX0_isPerson 1 = .ok (.ifCond .lt 15, 3) := by decide +kernel
theorem dX0_isPerson_4 : decode cX0_isPerson 4 = .ok (.iload_n 1, 1) := by decide +kernel
theorem dX0_isPerson_5 : decode cX0_isPerson 5 = .ok (.aload_n 0, 1) := by decide +kernel
theorem dX0_isPerson_6 : decode cX0_isPerson 6 = .ok (.getfield 18, 3) := by decide +kernel
theorem dX0_isPerson_9 : decode cX0_isPerson 9 = .ok (.if_icmp .ge 7, 3) := by decide +kernel
theorem dX0_isPerson_12 : decode cX0_isPerson 12 = .ok (.iconst 1, 1) := by decide +kernel
theorem dX0_isPerson_13 : decode cX0_isPerson 13 = .ok (.goto 4, 3) := by decide +kernel
theorem dX0_isPerson_16 : decode cX0_isPerson 16 = .ok (.iconst 0, 1) := by decide +kernel
theorem dX0_isPerson_17 : decode cX0_isPerson 17 = .ok (.ireturn, 1) := by decide +kernel
theorem dX0_isColumn_0 : decode cX0_isColumn 0 = .ok (.iload_n 1, 1) := by decide +kernel
theorem dX0_isColumn_1 : decode cX0_isColumn 1 = .ok (.ifCond .lt 15, 3) := by decide +kernel
theorem dX0_isColumn_4 : decode cX0_isColumn 4 = .ok (.iload_n 1, 1) := by decide +kernel
theorem dX0_isColumn_5 : decode cX0_isColumn 5 = .ok (.aload_n 0, 1) := by decide +kernel
theorem dX0_isColumn_6 : decode cX0_isColumn 6 = .ok (.getfield 9, 3) := by decide +kernel
theorem dX0_isColumn_9 : decode cX0_isColumn 9 = .ok (.if_icmp .ge 7, 3) := by decide +kernel
theorem dX0_isColumn_12 : decode cX0_isColumn 12 = .ok (.iconst 1, 1) := by decide +kernel
theorem dX0_isColumn_13 : decode cX0_isColumn 13 = .ok (.goto 4, 3) := by decide +kernel
theorem dX0_isColumn_16 : decode cX0_isColumn 16 = .ok (.iconst 0, 1) := by decide +kernel
theorem dX0_isColumn_17 : decode cX0_isColumn 17 = .ok (.ireturn, 1) := by decide +kernel
theorem dX0_isChair_0 : decode cX0_isChair 0 = .ok (.aload_n 0, 1) := by decide +kernel
theorem dX0_isChair_1 : decode cX0_isChair 1 = .ok (.iload_n 1, 1) := by decide +kernel
theorem dX0_isChair_2 : decode cX0_isChair 2 = .ok (.invokevirtual 53, 3) := by decide +kernel
theorem dX0_isChair_5 : decode cX0_isChair 5 = .ok (.ifCond .eq 19, 3) := by decide +kernel
theorem dX0_isChair_8 : decode cX0_isChair 8 = .ok (.iload_n 2, 1) := by decide +kernel
theorem dX0_isChair_9 : decode cX0_isChair 9 = .ok (.ifCond .lt 15, 3) := by decide +kernel
theorem dX0_isChair_12 : decode cX0_isChair 12 = .ok (.iload_n 2, 1) := by decide +kernel
theorem dX0_isChair_13 : decode cX0_isChair 13 = .ok (.aload_n 0, 1) := by decide +kernel
theorem dX0_isChair_14 : decode cX0_isChair 14 = .ok (.getfield 15, 3) := by decide +kernel
theorem dX0_isChair_17 : decode cX0_isChair 17 = .ok (.if_icmp .ge 7, 3) := by decide +kernel
theorem dX0_isChair_20 : decode cX0_isChair 20 = .ok (.iconst 1, 1) := by decide +kernel
theorem dX0_isChair_21 : decode cX0_isChair 21 = .ok (.goto 4, 3) := by decide +kernel
theorem dX0_isChair_24 : decode cX0_isChair 24 = .ok (.iconst 0, 1) := by decide +kernel
theorem dX0_isChair_25 : decode cX0_isChair 25 = .ok (.ireturn, 1) := by decide +kernel
theorem dX0_isAsleep_0 : decode cX0_isAsleep 0 = .ok (.aload_n 0, 1) := by decide +kernel
theorem dX0_isAsleep_1 : decode cX0_isAsleep 1 = .ok (.getfield 24, 3) := by decide +kernel
theorem dX0_isAsleep_4 : decode cX0_isAsleep 4 = .ok (.iload_n 1, 1) := by decide +kernel
theorem dX0_isAsleep_5 : decode cX0_isAsleep 5 = .ok (.ishr, 1) := by decide +kernel
theorem dX0_isAsleep_6 : decode cX0_isAsleep 6 = .ok (.iconst 1, 1) := by decide +kernel
theorem dX0_isAsleep_7 : decode cX0_isAsleep 7 = .ok (.iand, 1) := by decide +kernel
theorem dX0_isAsleep_8 : decode cX0_isAsleep 8 = .ok (.iconst 1, 1) := by decide +kernel
theorem dX0_isAsleep_9 : decode cX0_isAsleep 9 = .ok (.if_icmp .ne 7, 3) := by decide +kernel
theorem dX0_isAsleep_12 : decode cX0_isAsleep 12 = .ok (.iconst 1, 1) := by decide +kernel
theorem dX0_isAsleep_13 : decode cX0_isAsleep 13 = .ok (.goto 4, 3) := by decide +kernel
theorem dX0_isAsleep_16 : decode cX0_isAsleep 16 = .ok (.iconst 0, 1) := by decide +kernel
theorem dX0_isAsleep_17 : decode cX0_isAsleep 17 = .ok (.ireturn, 1) := by decide +kernel
theorem dX0_everybody_0 : decode cX0_everybody 0 = .ok (.iconst 1, 1) := by decide +kernel
theorem dX0_everybody_1 : decode cX0_everybody 1 = .ok (.aload_n 0, 1) := by decide +kernel
theorem dX0_everybody_2 : decode cX0_everybody 2 = .ok (.getfield 18, 3) := by decide +kernel
theorem dX0_everybody_5 : decode cX0_everybody 5 = .ok (.ishl, 1) := by decide +kernel
theorem dX0_everybody_6 : decode cX0_everybody 6 = .ok (.iconst 1, 1) := by decide +kernel
theorem dX0_everybody_7 : decode cX0_everybody 7 = .ok (.isub, 1) := by decide +kernel
theorem dX0_everybody_8 : decode cX0_everybody 8 = .ok (.ireturn, 1) := by decide +kernel
theorem dX0_lawful_0 : decode cX0_lawful 0 = .ok (.aload_n 0, 1) := by decide +kernel
theorem dX0_lawful_1 : decode cX0_lawful 1 = .ok (.getfield 37, 3) := by decide +kernel
theorem dX0_lawful_4 : decode cX0_lawful 4 = .ok (.ifnull 24, 3) := by decide +kernel
theorem dX0_lawful_7 : decode cX0_lawful 7 = .ok (.aload_n 0, 1) := by decide +kernel
theorem dX0_lawful_8 : decode cX0_lawful 8 = .ok (.getfield 37, 3) := by decide +kernel
theorem dX0_lawful_11 : decode cX0_lawful 11 = .ok (.iload_n 1, 1) := by decide +kernel
theorem dX0_lawful_12 : decode cX0_lawful 12 = .ok (.aload_n 0, 1) := by decide +kernel
theorem dX0_lawful_13 : decode cX0_lawful 13 = .ok (.getfield 27, 3) := by decide +kernel
theorem dX0_lawful_16 : decode cX0_lawful 16 = .ok (.iload_n 1, 1) := by decide +kernel
theorem dX0_lawful_17 : decode cX0_lawful 17 = .ok (.iaload, 1) := by decide +kernel
theorem dX0_lawful_18 : decode cX0_lawful 18 = .ok (.iload_n 2, 1) := by decide +kernel
theorem dX0_lawful_19 : decode cX0_lawful 19 = .ok (.iload_n 3, 1) := by decide +kernel
theorem dX0_lawful_20 : decode cX0_lawful 20 = .ok (.iload 4, 2) := by decide +kernel
theorem dX0_lawful_22 : decode cX0_lawful 22 = .ok (.invokevirtual 57, 3) := by decide +kernel
theorem dX0_lawful_25 : decode cX0_lawful 25 = .ok (.ifCond .eq 7, 3) := by decide +kernel
theorem dX0_lawful_28 : decode cX0_lawful 28 = .ok (.iconst 1, 1) := by decide +kernel
theorem dX0_lawful_29 : decode cX0_lawful 29 = .ok (.goto 4, 3) := by decide +kernel
theorem dX0_lawful_32 : decode cX0_lawful 32 = .ok (.iconst 0, 1) := by decide +kernel
theorem dX0_lawful_33 : decode cX0_lawful 33 = .ok (.ireturn, 1) := by decide +kernel
theorem dX0_tideIn_0 : decode cX0_tideIn 0 = .ok (.aload_n 0, 1) := by decide +kernel
theorem dX0_tideIn_1 : decode cX0_tideIn 1 = .ok (.getfield 41, 3) := by decide +kernel
theorem dX0_tideIn_4 : decode cX0_tideIn 4 = .ok (.ifnonnull 5, 3) := by decide +kernel
theorem dX0_tideIn_7 : decode cX0_tideIn 7 = .ok (.iconst 0, 1) := by decide +kernel
theorem dX0_tideIn_8 : decode cX0_tideIn 8 = .ok (.ireturn, 1) := by decide +kernel
theorem dX0_tideIn_9 : decode cX0_tideIn 9 = .ok (.iconst 0, 1) := by decide +kernel
theorem dX0_tideIn_10 : decode cX0_tideIn 10 = .ok (.aload_n 0, 1) := by decide +kernel
theorem dX0_tideIn_11 : decode cX0_tideIn 11 = .ok (.getfield 15, 3) := by decide +kernel
theorem dX0_tideIn_14 : decode cX0_tideIn 14 = .ok (.aload_n 0, 1) := by decide +kernel
theorem dX0_tideIn_15 : decode cX0_tideIn 15 = .ok (.getfield 41, 3) := by decide +kernel
theorem dX0_tideIn_18 : decode cX0_tideIn 18 = .ok (.iconst 0, 1) := by decide +kernel
theorem dX0_tideIn_19 : decode cX0_tideIn 19 = .ok (.iconst 0, 1) := by decide +kernel
theorem dX0_tideIn_20 : decode cX0_tideIn 20 = .ok (.iconst 0, 1) := by decide +kernel
theorem dX0_tideIn_21 : decode cX0_tideIn 21 = .ok (.iconst 0, 1) := by decide +kernel
theorem dX0_tideIn_22 : decode cX0_tideIn 22 = .ok (.iload_n 1, 1) := by decide +kernel
theorem dX0_tideIn_23 : decode cX0_tideIn 23 = .ok (.invokevirtual 57, 3) := by decide +kernel
theorem dX0_tideIn_26 : decode cX0_tideIn 26 = .ok (.invokestatic 63, 3) := by decide +kernel
theorem dX0_tideIn_29 : decode cX0_tideIn 29 = .ok (.invokestatic 69, 3) := by decide +kernel
theorem dX0_tideIn_32 : decode cX0_tideIn 32 = .ok (.ireturn, 1) := by decide +kernel
theorem dX0_waveOn_0 : decode cX0_waveOn 0 = .ok (.aload_n 0, 1) := by decide +kernel
theorem dX0_waveOn_1 : decode cX0_waveOn 1 = .ok (.getfield 44, 3) := by decide +kernel
theorem dX0_waveOn_4 : decode cX0_waveOn 4 = .ok (.ifnonnull 13, 3) := by decide +kernel
theorem dX0_waveOn_7 : decode cX0_waveOn 7 = .ok (.iload_n 2, 1) := by decide +kernel
theorem dX0_waveOn_8 : decode cX0_waveOn 8 = .ok (.ifCond .ne 7, 3) := by decide +kernel
theorem dX0_waveOn_11 : decode cX0_waveOn 11 = .ok (.iconst 5, 1) := by decide +kernel
theorem dX0_waveOn_12 : decode cX0_waveOn 12 = .ok (.goto 4, 3) := by decide +kernel
theorem dX0_waveOn_15 : decode cX0_waveOn 15 = .ok (.iconst 0, 1) := by decide +kernel
theorem dX0_waveOn_16 : decode cX0_waveOn 16 = .ok (.ireturn, 1) := by decide +kernel
theorem dX0_waveOn_17 : decode cX0_waveOn 17 = .ok (.iconst 0, 1) := by decide +kernel
theorem dX0_waveOn_18 : decode cX0_waveOn 18 = .ok (.bipush 10, 2) := by decide +kernel
theorem dX0_waveOn_20 : decode cX0_waveOn 20 = .ok (.aload_n 0, 1) := by decide +kernel
theorem dX0_waveOn_21 : decode cX0_waveOn 21 = .ok (.getfield 44, 3) := by decide +kernel
theorem dX0_waveOn_24 : decode cX0_waveOn 24 = .ok (.iconst 0, 1) := by decide +kernel
theorem dX0_waveOn_25 : decode cX0_waveOn 25 = .ok (.iconst 0, 1) := by decide +kernel
theorem dX0_waveOn_26 : decode cX0_waveOn 26 = .ok (.iload_n 1, 1) := by decide +kernel
theorem dX0_waveOn_27 : decode cX0_waveOn 27 = .ok (.iload_n 2, 1) := by decide +kernel
theorem dX0_waveOn_28 : decode cX0_waveOn 28 = .ok (.iload_n 3, 1) := by decide +kernel
theorem dX0_waveOn_29 : decode cX0_waveOn 29 = .ok (.invokevirtual 57, 3) := by decide +kernel
theorem dX0_waveOn_32 : decode cX0_waveOn 32 = .ok (.invokestatic 63, 3) := by decide +kernel
theorem dX0_waveOn_35 : decode cX0_waveOn 35 = .ok (.invokestatic 69, 3) := by decide +kernel
theorem dX0_waveOn_38 : decode cX0_waveOn 38 = .ok (.ireturn, 1) := by decide +kernel
theorem dX1_init_0 : decode cX1_init 0 = .ok (.aload_n 0, 1) := by decide +kernel
theorem dX1_init_1 : decode cX1_init 1 = .ok (.invokespecial 3, 3) := by decide +kernel
theorem dX1_init_4 : decode cX1_init 4 = .ok (.aload_n 0, 1) := by decide +kernel
theorem dX1_init_5 : decode cX1_init 5 = .ok (.bipush 10, 2) := by decide +kernel
theorem dX1_init_7 : decode cX1_init 7 = .ok (.anewarray 9, 3) := by decide +kernel
theorem dX1_init_10 : decode cX1_init 10 = .ok (.putfield 11, 3) := by decide +kernel
theorem dX1_init_13 : decode cX1_init 13 = .ok (.aload_n 0, 1) := by decide +kernel
theorem dX1_init_14 : decode cX1_init 14 = .ok (.iconst 0, 1) := by decide +kernel
theorem dX1_init_15 : decode cX1_init 15 = .ok (.putfield 17, 3) := by decide +kernel
theorem dX1_init_18 : decode cX1_init 18 = .ok (.aload_n 0, 1) := by decide +kernel
theorem dX1_init_19 : decode cX1_init 19 = .ok (.iconst 0, 1) := by decide +kernel
theorem dX1_init_20 : decode cX1_init 20 = .ok (.putfield 21, 3) := by decide +kernel
theorem dX1_init_23 : decode cX1_init 23 = .ok (.iconst 0, 1) := by decide +kernel
theorem dX1_init_24 : decode cX1_init 24 = .ok (.istore_n 2, 1) := by decide +kernel
theorem dX1_init_25 : decode cX1_init 25 = .ok (.iload_n 2, 1) := by decide +kernel
theorem dX1_init_26 : decode cX1_init 26 = .ok (.bipush 10, 2) := by decide +kernel
theorem dX1_init_28 : decode cX1_init 28 = .ok (.if_icmp .ge 23, 3) := by decide +kernel
theorem dX1_init_31 : decode cX1_init 31 = .ok (.aload_n 0, 1) := by decide +kernel
theorem dX1_init_32 : decode cX1_init 32 = .ok (.getfield 11, 3) := by decide +kernel
theorem dX1_init_35 : decode cX1_init 35 = .ok (.iload_n 2, 1) := by decide +kernel
theorem dX1_init_36 : decode cX1_init 36 = .ok (.new 9, 3) := by decide +kernel
theorem dX1_init_39 : decode cX1_init 39 = .ok (.dup, 1) := by decide +kernel
theorem dX1_init_40 : decode cX1_init 40 = .ok (.aload_n 1, 1) := by decide +kernel
theorem dX1_init_41 : decode cX1_init 41 = .ok (.invokespecial 24, 3) := by decide +kernel
theorem dX1_init_44 : decode cX1_init 44 = .ok (.aastore, 1) := by decide +kernel
theorem dX1_init_45 : decode cX1_init 45 = .ok (.iinc 2 1, 3) := by decide +kernel
theorem dX1_init_48 : decode cX1_init 48 = .ok (.goto (-23), 3) := by decide +kernel
theorem dX1_init_51 : decode cX1_init 51 = .ok (.return_, 1) := by decide +kernel
theorem dX1_keep_0 : decode cX1_keep 0 = .ok (.aload_n 0, 1) := by decide +kernel
theorem dX1_keep_1 : decode cX1_keep 1 = .ok (.getfield 11, 3) := by decide +kernel
theorem dX1_keep_4 : decode cX1_keep 4 = .ok (.aload_n 0, 1) := by decide +kernel
theorem dX1_keep_5 : decode cX1_keep 5 = .ok (.getfield 17, 3) := by decide +kernel
theorem dX1_keep_8 : decode cX1_keep 8 = .ok (.aload_n 0, 1) := by decide +kernel
theorem dX1_keep_9 : decode cX1_keep 9 = .ok (.getfield 21, 3) := by decide +kernel
theorem dX1_keep_12 : decode cX1_keep 12 = .ok (.iadd, 1) := by decide +kernel
theorem dX1_keep_13 : decode cX1_keep 13 = .ok (.bipush 10, 2) := by decide +kernel
theorem dX1_keep_15 : decode cX1_keep 15 = .ok (.irem, 1) := by decide +kernel
theorem dX1_keep_16 : decode cX1_keep 16 = .ok (.aaload, 1) := by decide +kernel
theorem dX1_keep_17 : decode cX1_keep 17 = .ok (.aload_n 1, 1) := by decide +kernel
theorem dX1_keep_18 : decode cX1_keep 18 = .ok (.invokevirtual 27, 3) := by decide +kernel
theorem dX1_keep_21 : decode cX1_keep 21 = .ok (.aload_n 0, 1) := by decide +kernel
theorem dX1_keep_22 : decode cX1_keep 22 = .ok (.getfield 21, 3) := by decide +kernel
theorem dX1_keep_25 : decode cX1_keep 25 = .ok (.bipush 10, 2) := by decide +kernel
theorem dX1_keep_27 : decode cX1_keep 27 = .ok (.if_icmp .ge 16, 3) := by decide +kernel
theorem dX1_keep_30 : decode cX1_keep 30 = .ok (.aload_n 0, 1) := by decide +kernel
theorem dX1_keep_31 : decode cX1_keep 31 = .ok (.dup, 1) := by decide +kernel
theorem dX1_keep_32 : decode cX1_keep 32 = .ok (.getfield 21, 3) := by decide +kernel
theorem dX1_keep_35 : decode cX1_keep 35 = .ok (.iconst 1, 1) := by decide +kernel
theorem dX1_keep_36 : decode cX1_keep 36 = .ok (.iadd, 1) := by decide +kernel
theorem dX1_keep_37 : decode cX1_keep 37 = .ok (.putfield 21, 3) := by decide +kernel
theorem dX1_keep_40 : decode cX1_keep 40 = .ok (.goto 16, 3) := by decide +kernel
theorem dX1_keep_43 : decode cX1_keep 43 = .ok (.aload_n 0, 1) := by decide +kernel
theorem dX1_keep_44 : decode cX1_keep 44 = .ok (.aload_n 0, 1) := by decide +kernel
theorem dX1_keep_45 : decode cX1_keep 45 = .ok (.getfield 17, 3) := by decide +kernel
theorem dX1_keep_48 : decode cX1_keep 48 = .ok (.iconst 1, 1) := by decide +kernel
theorem dX1_keep_49 : decode cX1_keep 49 = .ok (.iadd, 1) := by decide +kernel
theorem dX1_keep_50 : decode cX1_keep 50 = .ok (.bipush 10, 2) := by decide +kernel
theorem dX1_keep_52 : decode cX1_keep 52 = .ok (.irem, 1) := by decide +kernel
theorem dX1_keep_53 : decode cX1_keep 53 = .ok (.putfield 17, 3) := by decide +kernel
theorem dX1_keep_56 : decode cX1_keep 56 = .ok (.return_, 1) := by decide +kernel
theorem dX1_goBack_0 : decode cX1_goBack 0 = .ok (.iload_n 1, 1) := by decide +kernel
theorem dX1_goBack_1 : decode cX1_goBack 1 = .ok (.ifCond .lt 42, 3) := by decide +kernel
theorem dX1_goBack_4 : decode cX1_goBack 4 = .ok (.iload_n 1, 1) := by decide +kernel
theorem dX1_goBack_5 : decode cX1_goBack 5 = .ok (.aload_n 0, 1) := by decide +kernel
theorem dX1_goBack_6 : decode cX1_goBack 6 = .ok (.getfield 21, 3) := by decide +kernel
theorem dX1_goBack_9 : decode cX1_goBack 9 = .ok (.if_icmp .gt 34, 3) := by decide +kernel
theorem dX1_goBack_12 : decode cX1_goBack 12 = .ok (.aload_n 0, 1) := by decide +kernel
theorem dX1_goBack_13 : decode cX1_goBack 13 = .ok (.dup, 1) := by decide +kernel
theorem dX1_goBack_14 : decode cX1_goBack 14 = .ok (.getfield 21, 3) := by decide +kernel
theorem dX1_goBack_17 : decode cX1_goBack 17 = .ok (.iload_n 1, 1) := by decide +kernel
theorem dX1_goBack_18 : decode cX1_goBack 18 = .ok (.isub, 1) := by decide +kernel
theorem dX1_goBack_19 : decode cX1_goBack 19 = .ok (.putfield 21, 3) := by decide +kernel
theorem dX1_goBack_22 : decode cX1_goBack 22 = .ok (.aload_n 2, 1) := by decide +kernel
theorem dX1_goBack_23 : decode cX1_goBack 23 = .ok (.aload_n 0, 1) := by decide +kernel
theorem dX1_goBack_24 : decode cX1_goBack 24 = .ok (.getfield 11, 3) := by decide +kernel
theorem dX1_goBack_27 : decode cX1_goBack 27 = .ok (.aload_n 0, 1) := by decide +kernel
theorem dX1_goBack_28 : decode cX1_goBack 28 = .ok (.getfield 17, 3) := by decide +kernel
theorem dX1_goBack_31 : decode cX1_goBack 31 = .ok (.aload_n 0, 1) := by decide +kernel
theorem dX1_goBack_32 : decode cX1_goBack 32 = .ok (.getfield 21, 3) := by decide +kernel
theorem dX1_goBack_35 : decode cX1_goBack 35 = .ok (.iadd, 1) := by decide +kernel
theorem dX1_goBack_36 : decode cX1_goBack 36 = .ok (.bipush 10, 2) := by decide +kernel
theorem dX1_goBack_38 : decode cX1_goBack 38 = .ok (.irem, 1) := by decide +kernel
theorem dX1_goBack_39 : decode cX1_goBack 39 = .ok (.aaload, 1) := by decide +kernel
theorem dX1_goBack_40 : decode cX1_goBack 40 = .ok (.invokevirtual 27, 3) := by decide +kernel
theorem dX1_goBack_43 : decode cX1_goBack 43 = .ok (.return_, 1) := by decide +kernel
theorem dX1_forget_0 : decode cX1_forget 0 = .ok (.aload_n 0, 1) := by decide +kernel
theorem dX1_forget_1 : decode cX1_forget 1 = .ok (.iconst 0, 1) := by decide +kernel
theorem dX1_forget_2 : decode cX1_forget 2 = .ok (.putfield 17, 3) := by decide +kernel
theorem dX1_forget_5 : decode cX1_forget 5 = .ok (.aload_n 0, 1) := by decide +kernel
theorem dX1_forget_6 : decode cX1_forget 6 = .ok (.iconst 0, 1) := by decide +kernel
theorem dX1_forget_7 : decode cX1_forget 7 = .ok (.putfield 21, 3) := by decide +kernel
theorem dX1_forget_10 : decode cX1_forget 10 = .ok (.return_, 1) := by decide +kernel
theorem dX1_copyFrom_0 : decode cX1_copyFrom 0 = .ok (.iconst 0, 1) := by decide +kernel
theorem dX1_copyFrom_1 : decode cX1_copyFrom 1 = .ok (.istore_n 2, 1) := by decide +kernel
theorem dX1_copyFrom_2 : decode cX1_copyFrom 2 = .ok (.iload_n 2, 1) := by decide +kernel
theorem dX1_copyFrom_3 : decode cX1_copyFrom 3 = .ok (.bipush 10, 2) := by decide +kernel
theorem dX1_copyFrom_5 : decode cX1_copyFrom 5 = .ok (.if_icmp .ge 24, 3) := by decide +kernel
theorem dX1_copyFrom_8 : decode cX1_copyFrom 8 = .ok (.aload_n 0, 1) := by decide +kernel
theorem dX1_copyFrom_9 : decode cX1_copyFrom 9 = .ok (.getfield 11, 3) := by decide +kernel
theorem dX1_copyFrom_12 : decode cX1_copyFrom 12 = .ok (.iload_n 2, 1) := by decide +kernel
theorem dX1_copyFrom_13 : decode cX1_copyFrom 13 = .ok (.aaload, 1) := by decide +kernel
theorem dX1_copyFrom_14 : decode cX1_copyFrom 14 = .ok (.aload_n 1, 1) := by decide +kernel
theorem dX1_copyFrom_15 : decode cX1_copyFrom 15 = .ok (.getfield 11, 3) := by decide +kernel
theorem dX1_copyFrom_18 : decode cX1_copyFrom 18 = .ok (.iload_n 2, 1) := by decide +kernel
theorem dX1_copyFrom_19 : decode cX1_copyFrom 19 = .ok (.aaload, 1) := by decide +kernel
theorem dX1_copyFrom_20 : decode cX1_copyFrom 20 = .ok (.invokevirtual 27, 3) := by decide +kernel
theorem dX1_copyFrom_23 : decode cX1_copyFrom 23 = .ok (.iinc 2 1, 3) := by decide +kernel
theorem dX1_copyFrom_26 : decode cX1_copyFrom 26 = .ok (.goto (-24), 3) := by decide +kernel
theorem dX1_copyFrom_29 : decode cX1_copyFrom 29 = .ok (.aload_n 0, 1) := by decide +kernel
theorem dX1_copyFrom_30 : decode cX1_copyFrom 30 = .ok (.aload_n 1, 1) := by decide +kernel
theorem dX1_copyFrom_31 : decode cX1_copyFrom 31 = .ok (.getfield 17, 3) := by decide +kernel
theorem dX1_copyFrom_34 : decode cX1_copyFrom 34 = .ok (.putfield 17, 3) := by decide +kernel
theorem dX1_copyFrom_37 : decode cX1_copyFrom 37 = .ok (.aload_n 0, 1) := by decide +kernel
theorem dX1_copyFrom_38 : decode cX1_copyFrom 38 = .ok (.aload_n 1, 1) := by decide +kernel
theorem dX1_copyFrom_39 : decode cX1_copyFrom 39 = .ok (.getfield 21, 3) := by decide +kernel
theorem dX1_copyFrom_42 : decode cX1_copyFrom 42 = .ok (.putfield 21, 3) := by decide +kernel
theorem dX1_copyFrom_45 : decode cX1_copyFrom 45 = .ok (.return_, 1) := by decide +kernel
theorem dX2_init_0 : decode cX2_init 0 = .ok (.aload_n 0, 1) := by decide +kernel
theorem dX2_init_1 : decode cX2_init 1 = .ok (.invokespecial 1, 3) := by decide +kernel
theorem dX2_init_4 : decode cX2_init 4 = .ok (.aload_n 0, 1) := by decide +kernel
theorem dX2_init_5 : decode cX2_init 5 = .ok (.new 7, 3) := by decide +kernel
theorem dX2_init_8 : decode cX2_init 8 = .ok (.dup, 1) := by decide +kernel
theorem dX2_init_9 : decode cX2_init 9 = .ok (.aload_n 1, 1) := by decide +kernel
theorem dX2_init_10 : decode cX2_init 10 = .ok (.invokespecial 9, 3) := by decide +kernel
theorem dX2_init_13 : decode cX2_init 13 = .ok (.putfield 12, 3) := by decide +kernel
theorem dX2_init_16 : decode cX2_init 16 = .ok (.aload_n 0, 1) := by decide +kernel
theorem dX2_init_17 : decode cX2_init 17 = .ok (.new 18, 3) := by decide +kernel
theorem dX2_init_20 : decode cX2_init 20 = .ok (.dup, 1) := by decide +kernel
theorem dX2_init_21 : decode cX2_init 21 = .ok (.aload_n 1, 1) := by decide +kernel
theorem dX2_init_22 : decode cX2_init 22 = .ok (.invokespecial 20, 3) := by decide +kernel
theorem dX2_init_25 : decode cX2_init 25 = .ok (.putfield 21, 3) := by decide +kernel
theorem dX2_init_28 : decode cX2_init 28 = .ok (.return_, 1) := by decide +kernel
theorem dX3_init_0 : decode cX3_init 0 = .ok (.aload_n 0, 1) := by decide +kernel
theorem dX3_init_1 : decode cX3_init 1 = .ok (.invokespecial 1, 3) := by decide +kernel
theorem dX3_init_4 : decode cX3_init 4 = .ok (.aload_n 0, 1) := by decide +kernel
theorem dX3_init_5 : decode cX3_init 5 = .ok (.bipush 48, 2) := by decide +kernel
theorem dX3_init_7 : decode cX3_init 7 = .ok (.newarray .int, 2) := by decide +kernel
theorem dX3_init_9 : decode cX3_init 9 = .ok (.putfield 9, 3) := by decide +kernel
theorem dX3_init_12 : decode cX3_init 12 = .ok (.aload_n 0, 1) := by decide +kernel
theorem dX3_init_13 : decode cX3_init 13 = .ok (.aload_n 1, 1) := by decide +kernel
theorem dX3_init_14 : decode cX3_init 14 = .ok (.putfield 13, 3) := by decide +kernel
theorem dX3_init_17 : decode cX3_init 17 = .ok (.return_, 1) := by decide +kernel
theorem dX3_value_0 : decode cX3_value 0 = .ok (.iconst 0, 1) := by decide +kernel
theorem dX3_value_1 : decode cX3_value 1 = .ok (.istore 6, 2) := by decide +kernel
theorem dX3_value_3 : decode cX3_value 3 = .ok (.iconst 0, 1) := by decide +kernel
theorem dX3_value_4 : decode cX3_value 4 = .ok (.istore 7, 2) := by decide +kernel
theorem dX3_value_6 : decode cX3_value 6 = .ok (.iload 7, 2) := by decide +kernel
theorem dX3_value_8 : decode cX3_value 8 = .ok (.aload_n 0, 1) := by decide +kernel
theorem dX3_value_9 : decode cX3_value 9 = .ok (.getfield 13, 3) := by decide +kernel
theorem dX3_value_12 : decode cX3_value 12 = .ok (.arraylength, 1) := by decide +kernel
theorem dX3_value_13 : decode cX3_value 13 = .ok (.if_icmp .ge 187, 3) := by decide +kernel
theorem dX3_value_16 : decode cX3_value 16 = .ok (.aload_n 0, 1) := by decide +kernel
theorem dX3_value_17 : decode cX3_value 17 = .ok (.getfield 13, 3) := by decide +kernel
theorem dX3_value_20 : decode cX3_value 20 = .ok (.iload 7, 2) := by decide +kernel
theorem dX3_value_22 : decode cX3_value 22 = .ok (.iaload, 1) := by decide +kernel
theorem dX3_value_23 : decode cX3_value 23 = .ok (.istore 8, 2) := by decide +kernel
theorem dX3_value_25 : decode cX3_value 25 = .ok (.iload 8, 2) := by decide +kernel
theorem dX3_value_27 : decode cX3_value 27 = .ok (.istore 9, 2) := by decide +kernel
theorem dX3_value_29 : decode cX3_value 29 = .ok (.iload 8, 2) := by decide +kernel
theorem dX3_value_31 : decode cX3_value 31 = .ok (.bipush (-6), 2) := by decide +kernel
theorem dX3_value_33 : decode cX3_value 33 = .ok (.if_icmp .ge 40, 3) := by decide +kernel
theorem dX3_value_36 : decode cX3_value 36 = .ok (.iload 6, 2) := by decide +kernel
theorem dX3_value_38 : decode cX3_value 38 = .ok (.iconst 2, 1) := by decide +kernel
theorem dX3_value_39 : decode cX3_value 39 = .ok (.if_icmp .ge 5, 3) := by decide +kernel
theorem dX3_value_42 : decode cX3_value 42 = .ok (.iconst 0, 1) := by decide +kernel
theorem dX3_value_43 : decode cX3_value 43 = .ok (.ireturn, 1) := by decide +kernel
theorem dX3_value_44 : decode cX3_value 44 = .ok (.iinc 6 (-2), 3) := by decide +kernel
theorem dX3_value_47 : decode cX3_value 47 = .ok (.iload 8, 2) := by decide +kernel
theorem dX3_value_49 : decode cX3_value 49 = .ok (.aload_n 0, 1) := by decide +kernel
theorem dX3_value_50 : decode cX3_value 50 = .ok (.getfield 9, 3) := by decide +kernel
theorem dX3_value_53 : decode cX3_value 53 = .ok (.iload 6, 2) := by decide +kernel
theorem dX3_value_55 : decode cX3_value 55 = .ok (.iaload, 1) := by decide +kernel
theorem dX3_value_56 : decode cX3_value 56 = .ok (.aload_n 0, 1) := by decide +kernel
theorem dX3_value_57 : decode cX3_value 57 = .ok (.getfield 9, 3) := by decide +kernel
theorem dX3_value_60 : decode cX3_value 60 = .ok (.iload 6, 2) := by decide +kernel
theorem dX3_value_62 : decode cX3_value 62 = .ok (.iconst 1, 1) := by decide +kernel
theorem dX3_value_63 : decode cX3_value 63 = .ok (.iadd, 1) := by decide +kernel
theorem dX3_value_64 : decode cX3_value 64 = .ok (.iaload, 1) := by decide +kernel
theorem dX3_value_65 : decode cX3_value 65 = .ok (.invokestatic 16, 3) := by decide +kernel
theorem dX3_value_68 : decode cX3_value 68 = .ok (.istore 9, 2) := by decide +kernel
theorem dX3_value_70 : decode cX3_value 70 = .ok (.goto 103, 3) := by decide +kernel
theorem dX3_value_73 : decode cX3_value 73 = .ok (.iload 8, 2) := by decide +kernel
theorem dX3_value_75 : decode cX3_value 75 = .ok (.bipush (-6), 2) := by decide +kernel
theorem dX3_value_77 : decode cX3_value 77 = .ok (.if_icmp .ne 28, 3) := by decide +kernel
theorem dX3_value_80 : decode cX3_value 80 = .ok (.iload 6, 2) := by decide +kernel
theorem dX3_value_82 : decode cX3_value 82 = .ok (.iconst 1, 1) := by decide +kernel
theorem dX3_value_83 : decode cX3_value 83 = .ok (.if_icmp .ge 5, 3) := by decide +kernel
theorem dX3_value_86 : decode cX3_value 86 = .ok (.iconst 0, 1) := by decide +kernel
theorem dX3_value_87 : decode cX3_value 87 = .ok (.ireturn, 1) := by decide +kernel
theorem dX3_value_88 : decode cX3_value 88 = .ok (.iinc 6 (-1), 3) := by decide +kernel
theorem dX3_value_91 : decode cX3_value 91 = .ok (.iconst 1, 1) := by decide +kernel
theorem dX3_value_92 : decode cX3_value 92 = .ok (.aload_n 0, 1) := by decide +kernel
theorem dX3_value_93 : decode cX3_value 93 = .ok (.getfield 9, 3) := by decide +kernel
theorem dX3_value_96 : decode cX3_value 96 = .ok (.iload 6, 2) := by decide +kernel
theorem dX3_value_98 : decode cX3_value 98 = .ok (.iaload, 1) := by decide +kernel
theorem dX3_value_99 : decode cX3_value 99 = .ok (.isub, 1) := by decide +kernel
theorem dX3_value_100 : decode cX3_value 100 = .ok (.istore 9, 2) := by decide +kernel
theorem dX3_value_102 : decode cX3_value 102 = .ok (.goto 71, 3) := by decide +kernel
theorem dX3_value_105 : decode cX3_value 105 = .ok (.iload 8, 2) := by decide +kernel
theorem dX3_value_107 : decode cX3_value 107 = .ok (.ifCond .ge 66, 3) := by decide +kernel
theorem dX3_value_110 : decode cX3_value 110 = .ok (.iload 8, 2) := by decide +kernel
theorem dX3_value_112 : decode cX3_value 112 = .ok (.tableswitch 57 (-4) (-1) #[50, 44, 38, 32], 32) := by decide +kernel
theorem dX3_value_144 : decode cX3_value 144 = .ok (.iload_n 1, 1) := by decide +kernel
theorem dX3_value_145 : decode cX3_value 145 = .ok (.istore 9, 2) := by decide +kernel
theorem dX3_value_147 : decode cX3_value 147 = .ok (.goto 26, 3) := by decide +kernel
theorem dX3_value_150 : decode cX3_value 150 = .ok (.iload_n 2, 1) := by decide +kernel
theorem dX3_value_151 : decode cX3_value 151 = .ok (.istore 9, 2) := by decide +kernel
theorem dX3_value_153 : decode cX3_value 153 = .ok (.goto 20, 3) := by decide +kernel
theorem dX3_value_156 : decode cX3_value 156 = .ok (.iload_n 3, 1) := by decide +kernel
theorem dX3_value_157 : decode cX3_value 157 = .ok (.istore 9, 2) := by decide +kernel
theorem dX3_value_159 : decode cX3_value 159 = .ok (.goto 14, 3) := by decide +kernel
theorem dX3_value_162 : decode cX3_value 162 = .ok (.iload 4, 2) := by decide +kernel
theorem dX3_value_164 : decode cX3_value 164 = .ok (.istore 9, 2) := by decide +kernel
theorem dX3_value_166 : decode cX3_value 166 = .ok (.goto 7, 3) := by decide +kernel
theorem dX3_value_169 : decode cX3_value 169 = .ok (.iload 5, 2) := by decide +kernel
theorem dX3_value_171 : decode cX3_value 171 = .ok (.istore 9, 2) := by decide +kernel
theorem dX3_value_173 : decode cX3_value 173 = .ok (.iload 6, 2) := by decide +kernel
theorem dX3_value_175 : decode cX3_value 175 = .ok (.bipush 48, 2) := by decide +kernel
theorem dX3_value_177 : decode cX3_value 177 = .ok (.if_icmp .lt 5, 3) := by decide +kernel
theorem dX3_value_180 : decode cX3_value 180 = .ok (.iconst 0, 1) := by decide +kernel
theorem dX3_value_181 : decode cX3_value 181 = .ok (.ireturn, 1) := by decide +kernel
theorem dX3_value_182 : decode cX3_value 182 = .ok (.aload_n 0, 1) := by decide +kernel
theorem dX3_value_183 : decode cX3_value 183 = .ok (.getfield 9, 3) := by decide +kernel
theorem dX3_value_186 : decode cX3_value 186 = .ok (.iload 6, 2) := by decide +kernel
theorem dX3_value_188 : decode cX3_value 188 = .ok (.iload 9, 2) := by decide +kernel
theorem dX3_value_190 : decode cX3_value 190 = .ok (.iastore, 1) := by decide +kernel
theorem dX3_value_191 : decode cX3_value 191 = .ok (.iinc 6 1, 3) := by decide +kernel
theorem dX3_value_194 : decode cX3_value 194 = .ok (.iinc 7 1, 3) := by decide +kernel
theorem dX3_value_197 : decode cX3_value 197 = .ok (.goto (-191), 3) := by decide +kernel
theorem dX3_value_200 : decode cX3_value 200 = .ok (.iload 6, 2) := by decide +kernel
theorem dX3_value_202 : decode cX3_value 202 = .ok (.ifCond .le 15, 3) := by decide +kernel
theorem dX3_value_205 : decode cX3_value 205 = .ok (.aload_n 0, 1) := by decide +kernel
theorem dX3_value_206 : decode cX3_value 206 = .ok (.getfield 9, 3) := by decide +kernel
theorem dX3_value_209 : decode cX3_value 209 = .ok (.iload 6, 2) := by decide +kernel
theorem dX3_value_211 : decode cX3_value 211 = .ok (.iconst 1, 1) := by decide +kernel
theorem dX3_value_212 : decode cX3_value 212 = .ok (.isub, 1) := by decide +kernel
theorem dX3_value_213 : decode cX3_value 213 = .ok (.iaload, 1) := by decide +kernel
theorem dX3_value_214 : decode cX3_value 214 = .ok (.goto 4, 3) := by decide +kernel
theorem dX3_value_217 : decode cX3_value 217 = .ok (.iconst 0, 1) := by decide +kernel
theorem dX3_value_218 : decode cX3_value 218 = .ok (.ireturn, 1) := by decide +kernel
theorem dX3_joined_0 : decode cX3_joined 0 = .ok (.iload_n 0, 1) := by decide +kernel
theorem dX3_joined_1 : decode cX3_joined 1 = .ok (.tableswitch 76 (-11) (-7) #[65, 54, 43, 39, 35], 35) := by decide +kernel
theorem dX3_joined_36 : decode cX3_joined 36 = .ok (.iload_n 1, 1) := by decide +kernel
theorem dX3_joined_37 : decode cX3_joined 37 = .ok (.iload_n 2, 1) := by decide +kernel
theorem dX3_joined_38 : decode cX3_joined 38 = .ok (.iand, 1) := by decide +kernel
theorem dX3_joined_39 : decode cX3_joined 39 = .ok (.ireturn, 1) := by decide +kernel
theorem dX3_joined_40 : decode cX3_joined 40 = .ok (.iload_n 1, 1) := by decide +kernel
theorem dX3_joined_41 : decode cX3_joined 41 = .ok (.iload_n 2, 1) := by decide +kernel
theorem dX3_joined_42 : decode cX3_joined 42 = .ok (.ior, 1) := by decide +kernel
theorem dX3_joined_43 : decode cX3_joined 43 = .ok (.ireturn, 1) := by decide +kernel
theorem dX3_joined_44 : decode cX3_joined 44 = .ok (.iload_n 1, 1) := by decide +kernel
theorem dX3_joined_45 : decode cX3_joined 45 = .ok (.iload_n 2, 1) := by decide +kernel
theorem dX3_joined_46 : decode cX3_joined 46 = .ok (.if_icmp .ne 7, 3) := by decide +kernel
theorem dX3_joined_49 : decode cX3_joined 49 = .ok (.iconst 1, 1) := by decide +kernel
theorem dX3_joined_50 : decode cX3_joined 50 = .ok (.goto 4, 3) := by decide +kernel
theorem dX3_joined_53 : decode cX3_joined 53 = .ok (.iconst 0, 1) := by decide +kernel
theorem dX3_joined_54 : decode cX3_joined 54 = .ok (.ireturn, 1) := by decide +kernel
theorem dX3_joined_55 : decode cX3_joined 55 = .ok (.iload_n 1, 1) := by decide +kernel
theorem dX3_joined_56 : decode cX3_joined 56 = .ok (.iload_n 2, 1) := by decide +kernel
theorem dX3_joined_57 : decode cX3_joined 57 = .ok (.if_icmp .ge 7, 3) := by decide +kernel
theorem dX3_joined_60 : decode cX3_joined 60 = .ok (.iconst 1, 1) := by decide +kernel
theorem dX3_joined_61 : decode cX3_joined 61 = .ok (.goto 4, 3) := by decide +kernel
theorem dX3_joined_64 : decode cX3_joined 64 = .ok (.iconst 0, 1) := by decide +kernel
theorem dX3_joined_65 : decode cX3_joined 65 = .ok (.ireturn, 1) := by decide +kernel
theorem dX3_joined_66 : decode cX3_joined 66 = .ok (.iload_n 1, 1) := by decide +kernel
theorem dX3_joined_67 : decode cX3_joined 67 = .ok (.iload_n 2, 1) := by decide +kernel
theorem dX3_joined_68 : decode cX3_joined 68 = .ok (.if_icmp .le 7, 3) := by decide +kernel
theorem dX3_joined_71 : decode cX3_joined 71 = .ok (.iconst 1, 1) := by decide +kernel
theorem dX3_joined_72 : decode cX3_joined 72 = .ok (.goto 4, 3) := by decide +kernel
theorem dX3_joined_75 : decode cX3_joined 75 = .ok (.iconst 0, 1) := by decide +kernel
theorem dX3_joined_76 : decode cX3_joined 76 = .ok (.ireturn, 1) := by decide +kernel
theorem dX3_joined_77 : decode cX3_joined 77 = .ok (.iload_n 1, 1) := by decide +kernel
theorem dX3_joined_78 : decode cX3_joined 78 = .ok (.i2l, 1) := by decide +kernel
theorem dX3_joined_79 : decode cX3_joined 79 = .ok (.iload_n 2, 1) := by decide +kernel
theorem dX3_joined_80 : decode cX3_joined 80 = .ok (.i2l, 1) := by decide +kernel
theorem dX3_joined_81 : decode cX3_joined 81 = .ok (.lmul, 1) := by decide +kernel
theorem dX3_joined_82 : decode cX3_joined 82 = .ok (.lstore_n 3, 1) := by decide +kernel
theorem dX3_joined_83 : decode cX3_joined 83 = .ok (.iload_n 0, 1) := by decide +kernel
theorem dX3_joined_84 : decode cX3_joined 84 = .ok (.bipush (-12), 2) := by decide +kernel
theorem dX3_joined_86 : decode cX3_joined 86 = .ok (.if_icmp .ne 12, 3) := by decide +kernel
theorem dX3_joined_89 : decode cX3_joined 89 = .ok (.iload_n 1, 1) := by decide +kernel
theorem dX3_joined_90 : decode cX3_joined 90 = .ok (.i2l, 1) := by decide +kernel
theorem dX3_joined_91 : decode cX3_joined 91 = .ok (.iload_n 2, 1) := by decide +kernel
theorem dX3_joined_92 : decode cX3_joined 92 = .ok (.i2l, 1) := by decide +kernel
theorem dX3_joined_93 : decode cX3_joined 93 = .ok (.ladd, 1) := by decide +kernel
theorem dX3_joined_94 : decode cX3_joined 94 = .ok (.lstore_n 3, 1) := by decide +kernel
theorem dX3_joined_95 : decode cX3_joined 95 = .ok (.goto 15, 3) := by decide +kernel
theorem dX3_joined_98 : decode cX3_joined 98 = .ok (.iload_n 0, 1) := by decide +kernel
theorem dX3_joined_99 : decode cX3_joined 99 = .ok (.bipush (-13), 2) := by decide +kernel
theorem dX3_joined_101 : decode cX3_joined 101 = .ok (.if_icmp .ne 9, 3) := by decide +kernel
theorem dX3_joined_104 : decode cX3_joined 104 = .ok (.iload_n 1, 1) := by decide +kernel
theorem dX3_joined_105 : decode cX3_joined 105 = .ok (.i2l, 1) := by decide +kernel
theorem dX3_joined_106 : decode cX3_joined 106 = .ok (.iload_n 2, 1) := by decide +kernel
theorem dX3_joined_107 : decode cX3_joined 107 = .ok (.i2l, 1) := by decide +kernel
theorem dX3_joined_108 : decode cX3_joined 108 = .ok (.lsub, 1) := by decide +kernel
theorem dX3_joined_109 : decode cX3_joined 109 = .ok (.lstore_n 3, 1) := by decide +kernel
theorem dX3_joined_110 : decode cX3_joined 110 = .ok (.lload_n 3, 1) := by decide +kernel
theorem dX3_joined_111 : decode cX3_joined 111 = .ok (.ldc2_w 20, 3) := by decide +kernel
theorem dX3_joined_114 : decode cX3_joined 114 = .ok (.lcmp, 1) := by decide +kernel
theorem dX3_joined_115 : decode cX3_joined 115 = .ok (.ifCond .le 9, 3) := by decide +kernel
theorem dX3_joined_118 : decode cX3_joined 118 = .ok (.ldc2_w 20, 3) := by decide +kernel
theorem dX3_joined_121 : decode cX3_joined 121 = .ok (.goto 18, 3) := by decide +kernel
theorem dX3_joined_124 : decode cX3_joined 124 = .ok (.lload_n 3, 1) := by decide +kernel
theorem dX3_joined_125 : decode cX3_joined 125 = .ok (.ldc2_w 22, 3) := by decide +kernel
theorem dX3_joined_128 : decode cX3_joined 128 = .ok (.lcmp, 1) := by decide +kernel
theorem dX3_joined_129 : decode cX3_joined 129 = .ok (.ifCond .ge 9, 3) := by decide +kernel
theorem dX3_joined_132 : decode cX3_joined 132 = .ok (.ldc2_w 22, 3) := by decide +kernel
theorem dX3_joined_135 : decode cX3_joined 135 = .ok (.goto 4, 3) := by decide +kernel
theorem dX3_joined_138 : decode cX3_joined 138 = .ok (.lload_n 3, 1) := by decide +kernel
theorem dX3_joined_139 : decode cX3_joined 139 = .ok (.l2i, 1) := by decide +kernel
theorem dX3_joined_140 : decode cX3_joined 140 = .ok (.ireturn, 1) := by decide +kernel
theorem dX5_init_0 : decode cX5_init 0 = .ok (.aload_n 0, 1) := by decide +kernel
theorem dX5_init_1 : decode cX5_init 1 = .ok (.invokespecial 3, 3) := by decide +kernel
theorem dX5_init_4 : decode cX5_init 4 = .ok (.aload_n 0, 1) := by decide +kernel
theorem dX5_init_5 : decode cX5_init 5 = .ok (.bipush 20, 2) := by decide +kernel
theorem dX5_init_7 : decode cX5_init 7 = .ok (.newarray .int, 2) := by decide +kernel
theorem dX5_init_9 : decode cX5_init 9 = .ok (.putfield 9, 3) := by decide +kernel
theorem dX5_init_12 : decode cX5_init 12 = .ok (.aload_n 0, 1) := by decide +kernel
theorem dX5_init_13 : decode cX5_init 13 = .ok (.bipush 8, 2) := by decide +kernel
theorem dX5_init_15 : decode cX5_init 15 = .ok (.newarray .int, 2) := by decide +kernel
theorem dX5_init_17 : decode cX5_init 17 = .ok (.putfield 15, 3) := by decide +kernel
theorem dX5_init_20 : decode cX5_init 20 = .ok (.aload_n 0, 1) := by decide +kernel
theorem dX5_init_21 : decode cX5_init 21 = .ok (.bipush 8, 2) := by decide +kernel
theorem dX5_init_23 : decode cX5_init 23 = .ok (.newarray .int, 2) := by decide +kernel
theorem dX5_init_25 : decode cX5_init 25 = .ok (.putfield 18, 3) := by decide +kernel
theorem dX5_init_28 : decode cX5_init 28 = .ok (.aload_n 0, 1) := by decide +kernel
theorem dX5_init_29 : decode cX5_init 29 = .ok (.bipush 8, 2) := by decide +kernel
theorem dX5_init_31 : decode cX5_init 31 = .ok (.newarray .int, 2) := by decide +kernel
theorem dX5_init_33 : decode cX5_init 33 = .ok (.putfield 21, 3) := by decide +kernel
theorem dX5_init_36 : decode cX5_init 36 = .ok (.aload_n 0, 1) := by decide +kernel
theorem dX5_init_37 : decode cX5_init 37 = .ok (.iconst 0, 1) := by decide +kernel
theorem dX5_init_38 : decode cX5_init 38 = .ok (.putfield 24, 3) := by decide +kernel
theorem dX5_init_41 : decode cX5_init 41 = .ok (.aload_n 0, 1) := by decide +kernel
theorem dX5_init_42 : decode cX5_init 42 = .ok (.iconst 0, 1) := by decide +kernel
theorem dX5_init_43 : decode cX5_init 43 = .ok (.putfield 28, 3) := by decide +kernel
theorem dX5_init_46 : decode cX5_init 46 = .ok (.aload_n 0, 1) := by decide +kernel
theorem dX5_init_47 : decode cX5_init 47 = .ok (.aload_n 1, 1) := by decide +kernel
theorem dX5_init_48 : decode cX5_init 48 = .ok (.putfield 31, 3) := by decide +kernel
theorem dX5_init_51 : decode cX5_init 51 = .ok (.aload_n 0, 1) := by decide +kernel
theorem dX5_init_52 : decode cX5_init 52 = .ok (.getfield 9, 3) := by decide +kernel
theorem dX5_init_55 : decode cX5_init 55 = .ok (.iconst (-1), 1) := by decide +kernel
theorem dX5_init_56 : decode cX5_init 56 = .ok (.invokestatic 35, 3) := by decide +kernel
theorem dX5_init_59 : decode cX5_init 59 = .ok (.aload_n 0, 1) := by decide +kernel
theorem dX5_init_60 : decode cX5_init 60 = .ok (.getfield 18, 3) := by decide +kernel
theorem dX5_init_63 : decode cX5_init 63 = .ok (.iconst (-1), 1) := by decide +kernel
theorem dX5_init_64 : decode cX5_init 64 = .ok (.invokestatic 35, 3) := by decide +kernel
theorem dX5_init_67 : decode cX5_init 67 = .ok (.aload_n 0, 1) := by decide +kernel
theorem dX5_init_68 : decode cX5_init 68 = .ok (.getfield 21, 3) := by decide +kernel
theorem dX5_init_71 : decode cX5_init 71 = .ok (.iconst (-1), 1) := by decide +kernel
theorem dX5_init_72 : decode cX5_init 72 = .ok (.invokestatic 35, 3) := by decide +kernel
theorem dX5_init_75 : decode cX5_init 75 = .ok (.return_, 1) := by decide +kernel
theorem dX5_copyFrom_0 : decode cX5_copyFrom 0 = .ok (.aload_n 1, 1) := by decide +kernel
theorem dX5_copyFrom_1 : decode cX5_copyFrom 1 = .ok (.getfield 9, 3) := by decide +kernel
theorem dX5_copyFrom_4 : decode cX5_copyFrom 4 = .ok (.iconst 0, 1) := by decide +kernel
theorem dX5_copyFrom_5 : decode cX5_copyFrom 5 = .ok (.aload_n 0, 1) := by decide +kernel
theorem dX5_copyFrom_6 : decode cX5_copyFrom 6 = .ok (.getfield 9, 3) := by decide +kernel
theorem dX5_copyFrom_9 : decode cX5_copyFrom 9 = .ok (.iconst 0, 1) := by decide +kernel
theorem dX5_copyFrom_10 : decode cX5_copyFrom 10 = .ok (.aload_n 0, 1) := by decide +kernel
theorem dX5_copyFrom_11 : decode cX5_copyFrom 11 = .ok (.getfield 9, 3) := by decide +kernel
theorem dX5_copyFrom_14 : decode cX5_copyFrom 14 = .ok (.arraylength, 1) := by decide +kernel
theorem dX5_copyFrom_15 : decode cX5_copyFrom 15 = .ok (.invokestatic 41, 3) := by decide +kernel
theorem dX5_copyFrom_18 : decode cX5_copyFrom 18 = .ok (.aload_n 1, 1) := by decide +kernel
theorem dX5_copyFrom_19 : decode cX5_copyFrom 19 = .ok (.getfield 15, 3) := by decide +kernel
theorem dX5_copyFrom_22 : decode cX5_copyFrom 22 = .ok (.iconst 0, 1) := by decide +kernel
theorem dX5_copyFrom_23 : decode cX5_copyFrom 23 = .ok (.aload_n 0, 1) := by decide +kernel
theorem dX5_copyFrom_24 : decode cX5_copyFrom 24 = .ok (.getfield 15, 3) := by decide +kernel
theorem dX5_copyFrom_27 : decode cX5_copyFrom 27 = .ok (.iconst 0, 1) := by decide +kernel
theorem dX5_copyFrom_28 : decode cX5_copyFrom 28 = .ok (.bipush 8, 2) := by decide +kernel
theorem dX5_copyFrom_30 : decode cX5_copyFrom 30 = .ok (.invokestatic 41, 3) := by decide +kernel
theorem dX5_copyFrom_33 : decode cX5_copyFrom 33 = .ok (.aload_n 1, 1) := by decide +kernel
theorem dX5_copyFrom_34 : decode cX5_copyFrom 34 = .ok (.getfield 18, 3) := by decide +kernel
theorem dX5_copyFrom_37 : decode cX5_copyFrom 37 = .ok (.iconst 0, 1) := by decide +kernel
theorem dX5_copyFrom_38 : decode cX5_copyFrom 38 = .ok (.aload_n 0, 1) := by decide +kernel
theorem dX5_copyFrom_39 : decode cX5_copyFrom 39 = .ok (.getfield 18, 3) := by decide +kernel
theorem dX5_copyFrom_42 : decode cX5_copyFrom 42 = .ok (.iconst 0, 1) := by decide +kernel
theorem dX5_copyFrom_43 : decode cX5_copyFrom 43 = .ok (.bipush 8, 2) := by decide +kernel
theorem dX5_copyFrom_45 : decode cX5_copyFrom 45 = .ok (.invokestatic 41, 3) := by decide +kernel
theorem dX5_copyFrom_48 : decode cX5_copyFrom 48 = .ok (.aload_n 1, 1) := by decide +kernel
theorem dX5_copyFrom_49 : decode cX5_copyFrom 49 = .ok (.getfield 21, 3) := by decide +kernel
theorem dX5_copyFrom_52 : decode cX5_copyFrom 52 = .ok (.iconst 0, 1) := by decide +kernel
theorem dX5_copyFrom_53 : decode cX5_copyFrom 53 = .ok (.aload_n 0, 1) := by decide +kernel
theorem dX5_copyFrom_54 : decode cX5_copyFrom 54 = .ok (.getfield 21, 3) := by decide +kernel
theorem dX5_copyFrom_57 : decode cX5_copyFrom 57 = .ok (.iconst 0, 1) := by decide +kernel
theorem dX5_copyFrom_58 : decode cX5_copyFrom 58 = .ok (.bipush 8, 2) := by decide +kernel
theorem dX5_copyFrom_60 : decode cX5_copyFrom 60 = .ok (.invokestatic 41, 3) := by decide +kernel
theorem dX5_copyFrom_63 : decode cX5_copyFrom 63 = .ok (.aload_n 0, 1) := by decide +kernel
theorem dX5_copyFrom_64 : decode cX5_copyFrom 64 = .ok (.aload_n 1, 1) := by decide +kernel
theorem dX5_copyFrom_65 : decode cX5_copyFrom 65 = .ok (.getfield 31, 3) := by decide +kernel
theorem dX5_copyFrom_68 : decode cX5_copyFrom 68 = .ok (.putfield 31, 3) := by decide +kernel
theorem dX5_copyFrom_71 : decode cX5_copyFrom 71 = .ok (.aload_n 0, 1) := by decide +kernel
theorem dX5_copyFrom_72 : decode cX5_copyFrom 72 = .ok (.aload_n 1, 1) := by decide +kernel
theorem dX5_copyFrom_73 : decode cX5_copyFrom 73 = .ok (.getfield 24, 3) := by decide +kernel
theorem dX5_copyFrom_76 : decode cX5_copyFrom 76 = .ok (.putfield 24, 3) := by decide +kernel
theorem dX5_copyFrom_79 : decode cX5_copyFrom 79 = .ok (.aload_n 0, 1) := by decide +kernel
theorem dX5_copyFrom_80 : decode cX5_copyFrom 80 = .ok (.aload_n 1, 1) := by decide +kernel
theorem dX5_copyFrom_81 : decode cX5_copyFrom 81 = .ok (.getfield 28, 3) := by decide +kernel
theorem dX5_copyFrom_84 : decode cX5_copyFrom 84 = .ok (.putfield 28, 3) := by decide +kernel
theorem dX5_copyFrom_87 : decode cX5_copyFrom 87 = .ok (.return_, 1) := by decide +kernel
theorem dX5_clearFor_0 : decode cX5_clearFor 0 = .ok (.aload_n 0, 1) := by decide +kernel
theorem dX5_clearFor_1 : decode cX5_clearFor 1 = .ok (.aload_n 1, 1) := by decide +kernel
theorem dX5_clearFor_2 : decode cX5_clearFor 2 = .ok (.putfield 31, 3) := by decide +kernel
theorem dX5_clearFor_5 : decode cX5_clearFor 5 = .ok (.aload_n 0, 1) := by decide +kernel
theorem dX5_clearFor_6 : decode cX5_clearFor 6 = .ok (.iconst 0, 1) := by decide +kernel
theorem dX5_clearFor_7 : decode cX5_clearFor 7 = .ok (.putfield 24, 3) := by decide +kernel
theorem dX5_clearFor_10 : decode cX5_clearFor 10 = .ok (.aload_n 0, 1) := by decide +kernel
theorem dX5_clearFor_11 : decode cX5_clearFor 11 = .ok (.iconst 0, 1) := by decide +kernel
theorem dX5_clearFor_12 : decode cX5_clearFor 12 = .ok (.putfield 28, 3) := by decide +kernel
theorem dX5_clearFor_15 : decode cX5_clearFor 15 = .ok (.aload_n 0, 1) := by decide +kernel
theorem dX5_clearFor_16 : decode cX5_clearFor 16 = .ok (.getfield 9, 3) := by decide +kernel
theorem dX5_clearFor_19 : decode cX5_clearFor 19 = .ok (.iconst (-1), 1) := by decide +kernel
theorem dX5_clearFor_20 : decode cX5_clearFor 20 = .ok (.invokestatic 35, 3) := by decide +kernel
theorem dX5_clearFor_23 : decode cX5_clearFor 23 = .ok (.aload_n 0, 1) := by decide +kernel
theorem dX5_clearFor_24 : decode cX5_clearFor 24 = .ok (.getfield 15, 3) := by decide +kernel
theorem dX5_clearFor_27 : decode cX5_clearFor 27 = .ok (.iconst 0, 1) := by decide +kernel
theorem dX5_clearFor_28 : decode cX5_clearFor 28 = .ok (.invokestatic 35, 3) := by decide +kernel
theorem dX5_clearFor_31 : decode cX5_clearFor 31 = .ok (.aload_n 0, 1) := by decide +kernel
theorem dX5_clearFor_32 : decode cX5_clearFor 32 = .ok (.getfield 18, 3) := by decide +kernel
theorem dX5_clearFor_35 : decode cX5_clearFor 35 = .ok (.iconst (-1), 1) := by decide +kernel
theorem dX5_clearFor_36 : decode cX5_clearFor 36 = .ok (.invokestatic 35, 3) := by decide +kernel
theorem dX5_clearFor_39 : decode cX5_clearFor 39 = .ok (.aload_n 0, 1) := by decide +kernel
theorem dX5_clearFor_40 : decode cX5_clearFor 40 = .ok (.getfield 21, 3) := by decide +kernel
theorem dX5_clearFor_43 : decode cX5_clearFor 43 = .ok (.iconst (-1), 1) := by decide +kernel
theorem dX5_clearFor_44 : decode cX5_clearFor 44 = .ok (.invokestatic 35, 3) := by decide +kernel
theorem dX5_clearFor_47 : decode cX5_clearFor 47 = .ok (.return_, 1) := by decide +kernel
theorem dX5_whoOn_0 : decode cX5_whoOn 0 = .ok (.aload_n 0, 1) := by decide +kernel
theorem dX5_whoOn_1 : decode cX5_whoOn 1 = .ok (.getfield 31, 3) := by decide +kernel
theorem dX5_whoOn_4 : decode cX5_whoOn 4 = .ok (.iload_n 1, 1) := by decide +kernel
theorem dX5_whoOn_5 : decode cX5_whoOn 5 = .ok (.iload_n 2, 1) := by decide +kernel
theorem dX5_whoOn_6 : decode cX5_whoOn 6 = .ok (.invokevirtual 47, 3) := by decide +kernel
theorem dX5_whoOn_9 : decode cX5_whoOn 9 = .ok (.ifCond .eq 16, 3) := by decide +kernel
theorem dX5_whoOn_12 : decode cX5_whoOn 12 = .ok (.aload_n 0, 1) := by decide +kernel
theorem dX5_whoOn_13 : decode cX5_whoOn 13 = .ok (.getfield 9, 3) := by decide +kernel
theorem dX5_whoOn_16 : decode cX5_whoOn 16 = .ok (.iload_n 1, 1) := by decide +kernel
theorem dX5_whoOn_17 : decode cX5_whoOn 17 = .ok (.iconst 5, 1) := by decide +kernel
theorem dX5_whoOn_18 : decode cX5_whoOn 18 = .ok (.imul, 1) := by decide +kernel
theorem dX5_whoOn_19 : decode cX5_whoOn 19 = .ok (.iload_n 2, 1) := by decide +kernel
theorem dX5_whoOn_20 : decode cX5_whoOn 20 = .ok (.iadd, 1) := by decide +kernel
theorem dX5_whoOn_21 : decode cX5_whoOn 21 = .ok (.iaload, 1) := by decide +kernel
theorem dX5_whoOn_22 : decode cX5_whoOn 22 = .ok (.goto 4, 3) := by decide +kernel
theorem dX5_whoOn_25 : decode cX5_whoOn 25 = .ok (.iconst (-1), 1) := by decide +kernel
theorem dX5_whoOn_26 : decode cX5_whoOn 26 = .ok (.ireturn, 1) := by decide +kernel
theorem dX5_put_0 : decode cX5_put 0 = .ok (.aload_n 0, 1) := by decide +kernel
theorem dX5_put_1 : decode cX5_put 1 = .ok (.getfield 31, 3) := by decide +kernel
theorem dX5_put_4 : decode cX5_put 4 = .ok (.iload_n 2, 1) := by decide +kernel
theorem dX5_put_5 : decode cX5_put 5 = .ok (.iload_n 3, 1) := by decide +kernel
theorem dX5_put_6 : decode cX5_put 6 = .ok (.invokevirtual 47, 3) := by decide +kernel
theorem dX5_put_9 : decode cX5_put 9 = .ok (.ifCond .eq 28, 3) := by decide +kernel
theorem dX5_put_12 : decode cX5_put 12 = .ok (.aload_n 0, 1) := by decide +kernel
theorem dX5_put_13 : decode cX5_put 13 = .ok (.getfield 9, 3) := by decide +kernel
theorem dX5_put_16 : decode cX5_put 16 = .ok (.iload_n 2, 1) := by decide +kernel
theorem dX5_put_17 : decode cX5_put 17 = .ok (.iconst 5, 1) := by decide +kernel
theorem dX5_put_18 : decode cX5_put 18 = .ok (.imul, 1) := by decide +kernel
theorem dX5_put_19 : decode cX5_put 19 = .ok (.iload_n 3, 1) := by decide +kernel
theorem dX5_put_20 : decode cX5_put 20 = .ok (.iadd, 1) := by decide +kernel
theorem dX5_put_21 : decode cX5_put 21 = .ok (.iload_n 1, 1) := by decide +kernel
theorem dX5_put_22 : decode cX5_put 22 = .ok (.iastore, 1) := by decide +kernel
theorem dX5_put_23 : decode cX5_put 23 = .ok (.aload_n 0, 1) := by decide +kernel
theorem dX5_put_24 : decode cX5_put 24 = .ok (.getfield 15, 3) := by decide +kernel
theorem dX5_put_27 : decode cX5_put 27 = .ok (.iload_n 1, 1) := by decide +kernel
theorem dX5_put_28 : decode cX5_put 28 = .ok (.iload_n 2, 1) := by decide +kernel
theorem dX5_put_29 : decode cX5_put 29 = .ok (.iastore, 1) := by decide +kernel
theorem dX5_put_30 : decode cX5_put 30 = .ok (.aload_n 0, 1) := by decide +kernel
theorem dX5_put_31 : decode cX5_put 31 = .ok (.getfield 18, 3) := by decide +kernel
theorem dX5_put_34 : decode cX5_put 34 = .ok (.iload_n 1, 1) := by decide +kernel
theorem dX5_put_35 : decode cX5_put 35 = .ok (.iload_n 3, 1) := by decide +kernel
theorem dX5_put_36 : decode cX5_put 36 = .ok (.iastore, 1) := by decide +kernel
theorem dX5_put_37 : decode cX5_put 37 = .ok (.return_, 1) := by decide +kernel
theorem dX5_place_0 : decode cX5_place 0 = .ok (.aload_n 0, 1) := by decide +kernel
theorem dX5_place_1 : decode cX5_place 1 = .ok (.getfield 18, 3) := by decide +kernel
theorem dX5_place_4 : decode cX5_place 4 = .ok (.iload_n 1, 1) := by decide +kernel
theorem dX5_place_5 : decode cX5_place 5 = .ok (.iaload, 1) := by decide +kernel
theorem dX5_place_6 : decode cX5_place 6 = .ok (.iconst (-1), 1) := by decide +kernel
theorem dX5_place_7 : decode cX5_place 7 = .ok (.if_icmp .ne 7, 3) := by decide +kernel
theorem dX5_place_10 : decode cX5_place 10 = .ok (.iconst (-1), 1) := by decide +kernel
theorem dX5_place_11 : decode cX5_place 11 = .ok (.goto 19, 3) := by decide +kernel
theorem dX5_place_14 : decode cX5_place 14 = .ok (.bipush 10, 2) := by decide +kernel
theorem dX5_place_16 : decode cX5_place 16 = .ok (.aload_n 0, 1) := by decide +kernel
theorem dX5_place_17 : decode cX5_place 17 = .ok (.getfield 15, 3) := by decide +kernel
theorem dX5_place_20 : decode cX5_place 20 = .ok (.iload_n 1, 1) := by decide +kernel
theorem dX5_place_21 : decode cX5_place 21 = .ok (.iaload, 1) := by decide +kernel
theorem dX5_place_22 : decode cX5_place 22 = .ok (.imul, 1) := by decide +kernel
theorem dX5_place_23 : decode cX5_place 23 = .ok (.aload_n 0, 1) := by decide +kernel
theorem dX5_place_24 : decode cX5_place 24 = .ok (.getfield 18, 3) := by decide +kernel
theorem dX5_place_27 : decode cX5_place 27 = .ok (.iload_n 1, 1) := by decide +kernel
theorem dX5_place_28 : decode cX5_place 28 = .ok (.iaload, 1) := by decide +kernel
theorem dX5_place_29 : decode cX5_place 29 = .ok (.iadd, 1) := by decide +kernel
theorem dX5_place_30 : decode cX5_place 30 = .ok (.ireturn, 1) := by decide +kernel
theorem dX5_whyNotLeave_0 : decode cX5_whyNotLeave 0 = .ok (.aload_n 0, 1) := by decide +kernel
theorem dX5_whyNotLeave_1 : decode cX5_whyNotLeave 1 = .ok (.getfield 31, 3) := by decide +kernel
theorem dX5_whyNotLeave_4 : decode cX5_whyNotLeave 4 = .ok (.iload_n 1, 1) := by decide +kernel
theorem dX5_whyNotLeave_5 : decode cX5_whyNotLeave 5 = .ok (.invokevirtual 53, 3) := by decide +kernel
theorem dX5_whyNotLeave_8 : decode cX5_whyNotLeave 8 = .ok (.ifCond .ne 5, 3) := by decide +kernel
theorem dX5_whyNotLeave_11 : decode cX5_whyNotLeave 11 = .ok (.iconst 1, 1) := by decide +kernel
theorem dX5_whyNotLeave_12 : decode cX5_whyNotLeave 12 = .ok (.ireturn, 1) := by decide +kernel
theorem dX5_whyNotLeave_13 : decode cX5_whyNotLeave 13 = .ok (.aload_n 0, 1) := by decide +kernel
theorem dX5_whyNotLeave_14 : decode cX5_whyNotLeave 14 = .ok (.getfield 18, 3) := by decide +kernel
theorem dX5_whyNotLeave_17 : decode cX5_whyNotLeave 17 = .ok (.iload_n 1, 1) := by decide +kernel
theorem dX5_whyNotLeave_18 : decode cX5_whyNotLeave 18 = .ok (.iaload, 1) := by decide +kernel
theorem dX5_whyNotLeave_19 : decode cX5_whyNotLeave 19 = .ok (.iconst (-1), 1) := by decide +kernel
theorem dX5_whyNotLeave_20 : decode cX5_whyNotLeave 20 = .ok (.if_icmp .ne 5, 3) := by decide +kernel
theorem dX5_whyNotLeave_23 : decode cX5_whyNotLeave 23 = .ok (.iconst 2, 1) := by decide +kernel
theorem dX5_whyNotLeave_24 : decode cX5_whyNotLeave 24 = .ok (.ireturn, 1) := by decide +kernel
theorem dX5_whyNotLeave_25 : decode cX5_whyNotLeave 25 = .ok (.aload_n 0, 1) := by decide +kernel
theorem dX5_whyNotLeave_26 : decode cX5_whyNotLeave 26 = .ok (.getfield 31, 3) := by decide +kernel
theorem dX5_whyNotLeave_29 : decode cX5_whyNotLeave 29 = .ok (.iload_n 1, 1) := by decide +kernel
theorem dX5_whyNotLeave_30 : decode cX5_whyNotLeave 30 = .ok (.invokevirtual 57, 3) := by decide +kernel
theorem dX5_whyNotLeave_33 : decode cX5_whyNotLeave 33 = .ok (.ifCond .eq 7, 3) := by decide +kernel
theorem dX5_whyNotLeave_36 : decode cX5_whyNotLeave 36 = .ok (.iconst 3, 1) := by decide +kernel
theorem dX5_whyNotLeave_37 : decode cX5_whyNotLeave 37 = .ok (.goto 4, 3) := by decide +kernel
theorem dX5_whyNotLeave_40 : decode cX5_whyNotLeave 40 = .ok (.iconst 0, 1) := by decide +kernel
theorem dX5_whyNotLeave_41 : decode cX5_whyNotLeave 41 = .ok (.ireturn, 1) := by decide +kernel
theorem dX5_whyNotTake_0 : decode cX5_whyNotTake 0 = .ok (.aload_n 0, 1) := by decide +kernel
theorem dX5_whyNotTake_1 : decode cX5_whyNotTake 1 = .ok (.getfield 31, 3) := by decide +kernel
theorem dX5_whyNotTake_4 : decode cX5_whyNotTake 4 = .ok (.iload_n 1, 1) := by decide +kernel
theorem dX5_whyNotTake_5 : decode cX5_whyNotTake 5 = .ok (.invokevirtual 53, 3) := by decide +kernel
theorem dX5_whyNotTake_8 : decode cX5_whyNotTake 8 = .ok (.ifCond .eq 14, 3) := by decide +kernel
theorem dX5_whyNotTake_11 : decode cX5_whyNotTake 11 = .ok (.aload_n 0, 1) := by decide +kernel
theorem dX5_whyNotTake_12 : decode cX5_whyNotTake 12 = .ok (.getfield 31, 3) := by decide +kernel
theorem dX5_whyNotTake_15 : decode cX5_whyNotTake 15 = .ok (.iload_n 2, 1) := by decide +kernel
theorem dX5_whyNotTake_16 : decode cX5_whyNotTake 16 = .ok (.invokevirtual 60, 3) := by decide +kernel
theorem dX5_whyNotTake_19 : decode cX5_whyNotTake 19 = .ok (.ifCond .ne 5, 3) := by decide +kernel
theorem dX5_whyNotTake_22 : decode cX5_whyNotTake 22 = .ok (.iconst 1, 1) := by decide +kernel
theorem dX5_whyNotTake_23 : decode cX5_whyNotTake 23 = .ok (.ireturn, 1) := by decide +kernel
theorem dX5_whyNotTake_24 : decode cX5_whyNotTake 24 = .ok (.aload_n 0, 1) := by decide +kernel
theorem dX5_whyNotTake_25 : decode cX5_whyNotTake 25 = .ok (.getfield 18, 3) := by decide +kernel
theorem dX5_whyNotTake_28 : decode cX5_whyNotTake 28 = .ok (.iload_n 1, 1) := by decide +kernel
theorem dX5_whyNotTake_29 : decode cX5_whyNotTake 29 = .ok (.iaload, 1) := by decide +kernel
theorem dX5_whyNotTake_30 : decode cX5_whyNotTake 30 = .ok (.iconst (-1), 1) := by decide +kernel
theorem dX5_whyNotTake_31 : decode cX5_whyNotTake 31 = .ok (.if_icmp .eq 5, 3) := by decide +kernel
theorem dX5_whyNotTake_34 : decode cX5_whyNotTake 34 = .ok (.iconst 2, 1) := by decide +kernel
theorem dX5_whyNotTake_35 : decode cX5_whyNotTake 35 = .ok (.ireturn, 1) := by decide +kernel
theorem dX5_whyNotTake_36 : decode cX5_whyNotTake 36 = .ok (.aload_n 0, 1) := by decide +kernel
theorem dX5_whyNotTake_37 : decode cX5_whyNotTake 37 = .ok (.iload_n 2, 1) := by decide +kernel
theorem dX5_whyNotTake_38 : decode cX5_whyNotTake 38 = .ok (.invokevirtual 63, 3) := by decide +kernel
theorem dX5_whyNotTake_41 : decode cX5_whyNotTake 41 = .ok (.iconst (-1), 1) := by decide +kernel
theorem dX5_whyNotTake_42 : decode cX5_whyNotTake 42 = .ok (.if_icmp .ne 7, 3) := by decide +kernel
theorem dX5_whyNotTake_45 : decode cX5_whyNotTake 45 = .ok (.iconst 3, 1) := by decide +kernel
theorem dX5_whyNotTake_46 : decode cX5_whyNotTake 46 = .ok (.goto 4, 3) := by decide +kernel
theorem dX5_whyNotTake_49 : decode cX5_whyNotTake 49 = .ok (.iconst 0, 1) := by decide +kernel
theorem dX5_whyNotTake_50 : decode cX5_whyNotTake 50 = .ok (.ireturn, 1) := by decide +kernel
theorem dX5_whyNotExchange_0 : decode cX5_whyNotExchange 0 = .ok (.aload_n 0, 1) := by decide +kernel
theorem dX5_whyNotExchange_1 : decode cX5_whyNotExchange 1 = .ok (.getfield 31, 3) := by decide +kernel
theorem dX5_whyNotExchange_4 : decode cX5_whyNotExchange 4 = .ok (.iload_n 1, 1) := by decide +kernel
theorem dX5_whyNotExchange_5 : decode cX5_whyNotExchange 5 = .ok (.invokevirtual 53, 3) := by decide +kernel
theorem dX5_whyNotExchange_8 : decode cX5_whyNotExchange 8 = .ok (.ifCond .eq 19, 3) := by decide +kernel
theorem dX5_whyNotExchange_11 : decode cX5_whyNotExchange 11 = .ok (.aload_n 0, 1) := by decide +kernel
theorem dX5_whyNotExchange_12 : decode cX5_whyNotExchange 12 = .ok (.getfield 31, 3) := by decide +kernel
theorem dX5_whyNotExchange_15 : decode cX5_whyNotExchange 15 = .ok (.iload_n 2, 1) := by decide +kernel
theorem dX5_whyNotExchange_16 : decode cX5_whyNotExchange 16 = .ok (.invokevirtual 53, 3) := by decide +kernel
theorem dX5_whyNotExchange_19 : decode cX5_whyNotExchange 19 = .ok (.ifCond .eq 8, 3) := by decide +kernel
theorem dX5_whyNotExchange_22 : decode cX5_whyNotExchange 22 = .ok (.iload_n 1, 1) := by decide +kernel
theorem dX5_whyNotExchange_23 : decode cX5_whyNotExchange 23 = .ok (.iload_n 2, 1) := by decide +kernel
theorem dX5_whyNotExchange_24 : decode cX5_whyNotExchange 24 = .ok (.if_icmp .ne 5, 3) := by decide +kernel
theorem dX5_whyNotExchange_27 : decode cX5_whyNotExchange 27 = .ok (.iconst 1, 1) := by decide +kernel
theorem dX5_whyNotExchange_28 : decode cX5_whyNotExchange 28 = .ok (.ireturn, 1) := by decide +kernel
theorem dX5_whyNotExchange_29 : decode cX5_whyNotExchange 29 = .ok (.aload_n 0, 1) := by decide +kernel
theorem dX5_whyNotExchange_30 : decode cX5_whyNotExchange 30 = .ok (.getfield 18, 3) := by decide +kernel
theorem dX5_whyNotExchange_33 : decode cX5_whyNotExchange 33 = .ok (.iload_n 1, 1) := by decide +kernel
theorem dX5_whyNotExchange_34 : decode cX5_whyNotExchange 34 = .ok (.iaload, 1) := by decide +kernel
theorem dX5_whyNotExchange_35 : decode cX5_whyNotExchange 35 = .ok (.iconst (-1), 1) := by decide +kernel
theorem dX5_whyNotExchange_36 : decode cX5_whyNotExchange 36 = .ok (.if_icmp .eq 13, 3) := by decide +kernel
theorem dX5_whyNotExchange_39 : decode cX5_whyNotExchange 39 = .ok (.aload_n 0, 1) := by decide +kernel
theorem dX5_whyNotExchange_40 : decode cX5_whyNotExchange 40 = .ok (.getfield 18, 3) := by decide +kernel
theorem dX5_whyNotExchange_43 : decode cX5_whyNotExchange 43 = .ok (.iload_n 2, 1) := by decide +kernel
theorem dX5_whyNotExchange_44 : decode cX5_whyNotExchange 44 = .ok (.iaload, 1) := by decide +kernel
theorem dX5_whyNotExchange_45 : decode cX5_whyNotExchange 45 = .ok (.iconst (-1), 1) := by decide +kernel
theorem dX5_whyNotExchange_46 : decode cX5_whyNotExchange 46 = .ok (.if_icmp .ne 7, 3) := by decide +kernel
theorem dX5_whyNotExchange_49 : decode cX5_whyNotExchange 49 = .ok (.iconst 2, 1) := by decide +kernel
theorem dX5_whyNotExchange_50 : decode cX5_whyNotExchange 50 = .ok (.goto 4, 3) := by decide +kernel
theorem dX5_whyNotExchange_53 : decode cX5_whyNotExchange 53 = .ok (.iconst 0, 1) := by decide +kernel
theorem dX5_whyNotExchange_54 : decode cX5_whyNotExchange 54 = .ok (.ireturn, 1) := by decide +kernel
theorem dX5_whyNotTold_0 : decode cX5_whyNotTold 0 = .ok (.lload_n 1, 1) := by decide +kernel
theorem dX5_whyNotTold_1 : decode cX5_whyNotTold 1 = .ok (.ldc2_w 67, 3) := by decide +kernel
theorem dX5_whyNotTold_4 : decode cX5_whyNotTold 4 = .ok (.lcmp, 1) := by decide +kernel
theorem dX5_whyNotTold_5 : decode cX5_whyNotTold 5 = .ok (.ifCond .ne 5, 3) := by decide +kernel
theorem dX5_whyNotTold_8 : decode cX5_whyNotTold 8 = .ok (.iconst 0, 1) := by decide +kernel
theorem dX5_whyNotTold_9 : decode cX5_whyNotTold 9 = .ok (.ireturn, 1) := by decide +kernel
theorem dX5_whyNotTold_10 : decode cX5_whyNotTold 10 = .ok (.lload_n 1, 1) := by decide +kernel
theorem dX5_whyNotTold_11 : decode cX5_whyNotTold 11 = .ok (.lconst 0, 1) := by decide +kernel
theorem dX5_whyNotTold_12 : decode cX5_whyNotTold 12 = .ok (.lcmp, 1) := by decide +kernel
theorem dX5_whyNotTold_13 : decode cX5_whyNotTold 13 = .ok (.ifCond .lt 27, 3) := by decide +kernel
theorem dX5_whyNotTold_16 : decode cX5_whyNotTold 16 = .ok (.lload_n 1, 1) := by decide +kernel
theorem dX5_whyNotTold_17 : decode cX5_whyNotTold 17 = .ok (.ldc2_w 69, 3) := by decide +kernel
theorem dX5_whyNotTold_20 : decode cX5_whyNotTold 20 = .ok (.lcmp, 1) := by decide +kernel
theorem dX5_whyNotTold_21 : decode cX5_whyNotTold 21 = .ok (.ifCond .gt 19, 3) := by decide +kernel
theorem dX5_whyNotTold_24 : decode cX5_whyNotTold 24 = .ok (.lload_n 1, 1) := by decide +kernel
theorem dX5_whyNotTold_25 : decode cX5_whyNotTold 25 = .ok (.ldc2_w 71, 3) := by decide +kernel
theorem dX5_whyNotTold_28 : decode cX5_whyNotTold 28 = .ok (.lcmp, 1) := by decide +kernel
theorem dX5_whyNotTold_29 : decode cX5_whyNotTold 29 = .ok (.ifCond .lt 13, 3) := by decide +kernel
theorem dX5_whyNotTold_32 : decode cX5_whyNotTold 32 = .ok (.lload_n 1, 1) := by decide +kernel
theorem dX5_whyNotTold_33 : decode cX5_whyNotTold 33 = .ok (.ldc2_w 73, 3) := by decide +kernel
theorem dX5_whyNotTold_36 : decode cX5_whyNotTold 36 = .ok (.lcmp, 1) := by decide +kernel
theorem dX5_whyNotTold_37 : decode cX5_whyNotTold 37 = .ok (.ifCond .ge 5, 3) := by decide +kernel
theorem dX5_whyNotTold_40 : decode cX5_whyNotTold 40 = .ok (.iconst 1, 1) := by decide +kernel
theorem dX5_whyNotTold_41 : decode cX5_whyNotTold 41 = .ok (.ireturn, 1) := by decide +kernel
theorem dX5_whyNotTold_42 : decode cX5_whyNotTold 42 = .ok (.lload_n 1, 1) := by decide +kernel
theorem dX5_whyNotTold_43 : decode cX5_whyNotTold 43 = .ok (.l2i, 1) := by decide +kernel
theorem dX5_whyNotTold_44 : decode cX5_whyNotTold 44 = .ok (.istore_n 3, 1) := by decide +kernel
theorem dX5_whyNotTold_45 : decode cX5_whyNotTold 45 = .ok (.iload_n 3, 1) := by decide +kernel
theorem dX5_whyNotTold_46 : decode cX5_whyNotTold 46 = .ok (.bipush 100, 2) := by decide +kernel
theorem dX5_whyNotTold_48 : decode cX5_whyNotTold 48 = .ok (.if_icmp .ge 9, 3) := by decide +kernel
theorem dX5_whyNotTold_51 : decode cX5_whyNotTold 51 = .ok (.aload_n 0, 1) := by decide +kernel
theorem dX5_whyNotTold_52 : decode cX5_whyNotTold 52 = .ok (.iload_n 3, 1) := by decide +kernel
theorem dX5_whyNotTold_53 : decode cX5_whyNotTold 53 = .ok (.invokevirtual 75, 3) := by decide +kernel
theorem dX5_whyNotTold_56 : decode cX5_whyNotTold 56 = .ok (.ireturn, 1) := by decide +kernel
theorem dX5_whyNotTold_57 : decode cX5_whyNotTold 57 = .ok (.iload_n 3, 1) := by decide +kernel
theorem dX5_whyNotTold_58 : decode cX5_whyNotTold 58 = .ok (.bipush 10, 2) := by decide +kernel
theorem dX5_whyNotTold_60 : decode cX5_whyNotTold 60 = .ok (.idiv, 1) := by decide +kernel
theorem dX5_whyNotTold_61 : decode cX5_whyNotTold 61 = .ok (.bipush 10, 2) := by decide +kernel
theorem dX5_whyNotTold_63 : decode cX5_whyNotTold 63 = .ok (.irem, 1) := by decide +kernel
theorem dX5_whyNotTold_64 : decode cX5_whyNotTold 64 = .ok (.istore 4, 2) := by decide +kernel
theorem dX5_whyNotTold_66 : decode cX5_whyNotTold 66 = .ok (.iload_n 3, 1) := by decide +kernel
theorem dX5_whyNotTold_67 : decode cX5_whyNotTold 67 = .ok (.sipush 200, 3) := by decide +kernel
theorem dX5_whyNotTold_70 : decode cX5_whyNotTold 70 = .ok (.if_icmp .ge 16, 3) := by decide +kernel
theorem dX5_whyNotTold_73 : decode cX5_whyNotTold 73 = .ok (.aload_n 0, 1) := by decide +kernel
theorem dX5_whyNotTold_74 : decode cX5_whyNotTold 74 = .ok (.iload 4, 2) := by decide +kernel
theorem dX5_whyNotTold_76 : decode cX5_whyNotTold 76 = .ok (.iload_n 3, 1) := by decide +kernel
theorem dX5_whyNotTold_77 : decode cX5_whyNotTold 77 = .ok (.bipush 10, 2) := by decide +kernel
theorem dX5_whyNotTold_79 : decode cX5_whyNotTold 79 = .ok (.irem, 1) := by decide +kernel
theorem dX5_whyNotTold_80 : decode cX5_whyNotTold 80 = .ok (.invokevirtual 78, 3) := by decide +kernel
theorem dX5_whyNotTold_83 : decode cX5_whyNotTold 83 = .ok (.goto 13, 3) := by decide +kernel
theorem dX5_whyNotTold_86 : decode cX5_whyNotTold 86 = .ok (.aload_n 0, 1) := by decide +kernel
theorem dX5_whyNotTold_87 : decode cX5_whyNotTold 87 = .ok (.iload 4, 2) := by decide +kernel
theorem dX5_whyNotTold_89 : decode cX5_whyNotTold 89 = .ok (.iload_n 3, 1) := by decide +kernel
theorem dX5_whyNotTold_90 : decode cX5_whyNotTold 90 = .ok (.bipush 10, 2) := by decide +kernel
theorem dX5_whyNotTold_92 : decode cX5_whyNotTold 92 = .ok (.irem, 1) := by decide +kernel
theorem dX5_whyNotTold_93 : decode cX5_whyNotTold 93 = .ok (.invokevirtual 82, 3) := by decide +kernel
theorem dX5_whyNotTold_96 : decode cX5_whyNotTold 96 = .ok (.ireturn, 1) := by decide +kernel
theorem dX5_carryOut_0 : decode cX5_carryOut 0 = .ok (.lload_n 1, 1) := by decide +kernel
theorem dX5_carryOut_1 : decode cX5_carryOut 1 = .ok (.l2i, 1) := by decide +kernel
theorem dX5_carryOut_2 : decode cX5_carryOut 2 = .ok (.istore_n 3, 1) := by decide +kernel
theorem dX5_carryOut_3 : decode cX5_carryOut 3 = .ok (.iload_n 3, 1) := by decide +kernel
theorem dX5_carryOut_4 : decode cX5_carryOut 4 = .ok (.bipush 10, 2) := by decide +kernel
theorem dX5_carryOut_6 : decode cX5_carryOut 6 = .ok (.idiv, 1) := by decide +kernel
theorem dX5_carryOut_7 : decode cX5_carryOut 7 = .ok (.bipush 10, 2) := by decide +kernel
theorem dX5_carryOut_9 : decode cX5_carryOut 9 = .ok (.irem, 1) := by decide +kernel
theorem dX5_carryOut_10 : decode cX5_carryOut 10 = .ok (.istore 4, 2) := by decide +kernel
theorem dX5_carryOut_12 : decode cX5_carryOut 12 = .ok (.iload_n 3, 1) := by decide +kernel
theorem dX5_carryOut_13 : decode cX5_carryOut 13 = .ok (.iconst (-1), 1) := by decide +kernel
theorem dX5_carryOut_14 : decode cX5_carryOut 14 = .ok (.if_icmp .ne 14, 3) := by decide +kernel
theorem dX5_carryOut_17 : decode cX5_carryOut 17 = .ok (.aload_n 0, 1) := by decide +kernel
theorem dX5_carryOut_18 : decode cX5_carryOut 18 = .ok (.aload_n 0, 1) := by decide +kernel
theorem dX5_carryOut_19 : decode cX5_carryOut 19 = .ok (.invokevirtual 85, 3) := by decide +kernel
theorem dX5_carryOut_22 : decode cX5_carryOut 22 = .ok (.invokevirtual 89, 3) := by decide +kernel
theorem dX5_carryOut_25 : decode cX5_carryOut 25 = .ok (.goto 49, 3) := by decide +kernel
theorem dX5_carryOut_28 : decode cX5_carryOut 28 = .ok (.iload_n 3, 1) := by decide +kernel
theorem dX5_carryOut_29 : decode cX5_carryOut 29 = .ok (.bipush 100, 2) := by decide +kernel
theorem dX5_carryOut_31 : decode cX5_carryOut 31 = .ok (.if_icmp .ge 12, 3) := by decide +kernel
theorem dX5_carryOut_34 : decode cX5_carryOut 34 = .ok (.aload_n 0, 1) := by decide +kernel
theorem dX5_carryOut_35 : decode cX5_carryOut 35 = .ok (.iload_n 3, 1) := by decide +kernel
theorem dX5_carryOut_36 : decode cX5_carryOut 36 = .ok (.invokevirtual 93, 3) := by decide +kernel
theorem dX5_carryOut_39 : decode cX5_carryOut 39 = .ok (.pop, 1) := by decide +kernel
theorem dX5_carryOut_40 : decode cX5_carryOut 40 = .ok (.goto 34, 3) := by decide +kernel
theorem dX5_carryOut_43 : decode cX5_carryOut 43 = .ok (.iload_n 3, 1) := by decide +kernel
theorem dX5_carryOut_44 : decode cX5_carryOut 44 = .ok (.sipush 200, 3) := by decide +kernel
theorem dX5_carryOut_47 : decode cX5_carryOut 47 = .ok (.if_icmp .ge 17, 3) := by decide +kernel
theorem dX5_carryOut_50 : decode cX5_carryOut 50 = .ok (.aload_n 0, 1) := by decide +kernel
theorem dX5_carryOut_51 : decode cX5_carryOut 51 = .ok (.iload 4, 2) := by decide +kernel
theorem dX5_carryOut_53 : decode cX5_carryOut 53 = .ok (.iload_n 3, 1) := by decide +kernel
theorem dX5_carryOut_54 : decode cX5_carryOut 54 = .ok (.bipush 10, 2) := by decide +kernel
theorem dX5_carryOut_56 : decode cX5_carryOut 56 = .ok (.irem, 1) := by decide +kernel
theorem dX5_carryOut_57 : decode cX5_carryOut 57 = .ok (.invokevirtual 96, 3) := by decide +kernel
theorem dX5_carryOut_60 : decode cX5_carryOut 60 = .ok (.pop, 1) := by decide +kernel
theorem dX5_carryOut_61 : decode cX5_carryOut 61 = .ok (.goto 13, 3) := by decide +kernel
theorem dX5_carryOut_64 : decode cX5_carryOut 64 = .ok (.aload_n 0, 1) := by decide +kernel
theorem dX5_carryOut_65 : decode cX5_carryOut 65 = .ok (.iload 4, 2) := by decide +kernel
theorem dX5_carryOut_67 : decode cX5_carryOut 67 = .ok (.iload_n 3, 1) := by decide +kernel
theorem dX5_carryOut_68 : decode cX5_carryOut 68 = .ok (.bipush 10, 2) := by decide +kernel
theorem dX5_carryOut_70 : decode cX5_carryOut 70 = .ok (.irem, 1) := by decide +kernel
theorem dX5_carryOut_71 : decode cX5_carryOut 71 = .ok (.invokevirtual 99, 3) := by decide +kernel
theorem dX5_carryOut_74 : decode cX5_carryOut 74 = .ok (.return_, 1) := by decide +kernel
theorem dX5_leave_0 : decode cX5_leave 0 = .ok (.aload_n 0, 1) := by decide +kernel
theorem dX5_leave_1 : decode cX5_leave 1 = .ok (.getfield 15, 3) := by decide +kernel
theorem dX5_leave_4 : decode cX5_leave 4 = .ok (.iload_n 1, 1) := by decide +kernel
theorem dX5_leave_5 : decode cX5_leave 5 = .ok (.iaload, 1) := by decide +kernel
theorem dX5_leave_6 : decode cX5_leave 6 = .ok (.istore_n 2, 1) := by decide +kernel
theorem dX5_leave_7 : decode cX5_leave 7 = .ok (.aload_n 0, 1) := by decide +kernel
theorem dX5_leave_8 : decode cX5_leave 8 = .ok (.getfield 18, 3) := by decide +kernel
theorem dX5_leave_11 : decode cX5_leave 11 = .ok (.iload_n 1, 1) := by decide +kernel
theorem dX5_leave_12 : decode cX5_leave 12 = .ok (.iaload, 1) := by decide +kernel
theorem dX5_leave_13 : decode cX5_leave 13 = .ok (.istore_n 3, 1) := by decide +kernel
theorem dX5_leave_14 : decode cX5_leave 14 = .ok (.aload_n 0, 1) := by decide +kernel
theorem dX5_leave_15 : decode cX5_leave 15 = .ok (.getfield 31, 3) := by decide +kernel
theorem dX5_leave_18 : decode cX5_leave 18 = .ok (.iload_n 2, 1) := by decide +kernel
theorem dX5_leave_19 : decode cX5_leave 19 = .ok (.iload_n 3, 1) := by decide +kernel
theorem dX5_leave_20 : decode cX5_leave 20 = .ok (.invokevirtual 47, 3) := by decide +kernel
theorem dX5_leave_23 : decode cX5_leave 23 = .ok (.ifCond .ne 5, 3) := by decide +kernel
theorem dX5_leave_26 : decode cX5_leave 26 = .ok (.iconst 0, 1) := by decide +kernel
theorem dX5_leave_27 : decode cX5_leave 27 = .ok (.ireturn, 1) := by decide +kernel
theorem dX5_leave_28 : decode cX5_leave 28 = .ok (.iload_n 2, 1) := by decide +kernel
theorem dX5_leave_29 : decode cX5_leave 29 = .ok (.iconst 5, 1) := by decide +kernel
theorem dX5_leave_30 : decode cX5_leave 30 = .ok (.imul, 1) := by decide +kernel
theorem dX5_leave_31 : decode cX5_leave 31 = .ok (.istore 4, 2) := by decide +kernel
theorem dX5_leave_33 : decode cX5_leave 33 = .ok (.aload_n 0, 1) := by decide +kernel
theorem dX5_leave_34 : decode cX5_leave 34 = .ok (.getfield 9, 3) := by decide +kernel
theorem dX5_leave_37 : decode cX5_leave 37 = .ok (.iload 4, 2) := by decide +kernel
theorem dX5_leave_39 : decode cX5_leave 39 = .ok (.iload_n 3, 1) := by decide +kernel
theorem dX5_leave_40 : decode cX5_leave 40 = .ok (.iadd, 1) := by decide +kernel
theorem dX5_leave_41 : decode cX5_leave 41 = .ok (.iconst (-1), 1) := by decide +kernel
theorem dX5_leave_42 : decode cX5_leave 42 = .ok (.iastore, 1) := by decide +kernel
theorem dX5_leave_43 : decode cX5_leave 43 = .ok (.aload_n 0, 1) := by decide +kernel
theorem dX5_leave_44 : decode cX5_leave 44 = .ok (.getfield 18, 3) := by decide +kernel
theorem dX5_leave_47 : decode cX5_leave 47 = .ok (.iload_n 1, 1) := by decide +kernel
theorem dX5_leave_48 : decode cX5_leave 48 = .ok (.iconst (-1), 1) := by decide +kernel
theorem dX5_leave_49 : decode cX5_leave 49 = .ok (.iastore, 1) := by decide +kernel
theorem dX5_leave_50 : decode cX5_leave 50 = .ok (.iconst 0, 1) := by decide +kernel
theorem dX5_leave_51 : decode cX5_leave 51 = .ok (.istore 5, 2) := by decide +kernel
theorem dX5_leave_53 : decode cX5_leave 53 = .ok (.iload_n 3, 1) := by decide +kernel
theorem dX5_leave_54 : decode cX5_leave 54 = .ok (.iconst 1, 1) := by decide +kernel
theorem dX5_leave_55 : decode cX5_leave 55 = .ok (.iadd, 1) := by decide +kernel
theorem dX5_leave_56 : decode cX5_leave 56 = .ok (.istore 6, 2) := by decide +kernel
theorem dX5_leave_58 : decode cX5_leave 58 = .ok (.iload 6, 2) := by decide +kernel
theorem dX5_leave_60 : decode cX5_leave 60 = .ok (.aload_n 0, 1) := by decide +kernel
theorem dX5_leave_61 : decode cX5_leave 61 = .ok (.getfield 31, 3) := by decide +kernel
theorem dX5_leave_64 : decode cX5_leave 64 = .ok (.getfield 103, 3) := by decide +kernel
theorem dX5_leave_67 : decode cX5_leave 67 = .ok (.if_icmp .ge 93, 3) := by decide +kernel
theorem dX5_leave_70 : decode cX5_leave 70 = .ok (.aload_n 0, 1) := by decide +kernel
theorem dX5_leave_71 : decode cX5_leave 71 = .ok (.getfield 9, 3) := by decide +kernel
theorem dX5_leave_74 : decode cX5_leave 74 = .ok (.iload 4, 2) := by decide +kernel
theorem dX5_leave_76 : decode cX5_leave 76 = .ok (.iload 6, 2) := by decide +kernel
theorem dX5_leave_78 : decode cX5_leave 78 = .ok (.iadd, 1) := by decide +kernel
theorem dX5_leave_79 : decode cX5_leave 79 = .ok (.iaload, 1) := by decide +kernel
theorem dX5_leave_80 : decode cX5_leave 80 = .ok (.istore 7, 2) := by decide +kernel
theorem dX5_leave_82 : decode cX5_leave 82 = .ok (.iload 7, 2) := by decide +kernel
theorem dX5_leave_84 : decode cX5_leave 84 = .ok (.iconst (-1), 1) := by decide +kernel
theorem dX5_leave_85 : decode cX5_leave 85 = .ok (.if_icmp .eq 69, 3) := by decide +kernel
theorem dX5_leave_88 : decode cX5_leave 88 = .ok (.aload_n 0, 1) := by decide +kernel
theorem dX5_leave_89 : decode cX5_leave 89 = .ok (.getfield 31, 3) := by decide +kernel
theorem dX5_leave_92 : decode cX5_leave 92 = .ok (.iload 7, 2) := by decide +kernel
theorem dX5_leave_94 : decode cX5_leave 94 = .ok (.invokevirtual 57, 3) := by decide +kernel
theorem dX5_leave_97 : decode cX5_leave 97 = .ok (.ifCond .ne 57, 3) := by decide +kernel
theorem dX5_leave_100 : decode cX5_leave 100 = .ok (.aload_n 0, 1) := by decide +kernel
theorem dX5_leave_101 : decode cX5_leave 101 = .ok (.getfield 31, 3) := by decide +kernel
theorem dX5_leave_104 : decode cX5_leave 104 = .ok (.iload 7, 2) := by decide +kernel
theorem dX5_leave_106 : decode cX5_leave 106 = .ok (.iload_n 2, 1) := by decide +kernel
theorem dX5_leave_107 : decode cX5_leave 107 = .ok (.iload_n 3, 1) := by decide +kernel
theorem dX5_leave_108 : decode cX5_leave 108 = .ok (.aload_n 0, 1) := by decide +kernel
theorem dX5_leave_109 : decode cX5_leave 109 = .ok (.getfield 28, 3) := by decide +kernel
theorem dX5_leave_112 : decode cX5_leave 112 = .ok (.invokevirtual 106, 3) := by decide +kernel
theorem dX5_leave_115 : decode cX5_leave 115 = .ok (.ifCond .eq 39, 3) := by decide +kernel
theorem dX5_leave_118 : decode cX5_leave 118 = .ok (.aload_n 0, 1) := by decide +kernel
theorem dX5_leave_119 : decode cX5_leave 119 = .ok (.getfield 9, 3) := by decide +kernel
theorem dX5_leave_122 : decode cX5_leave 122 = .ok (.iload 4, 2) := by decide +kernel
theorem dX5_leave_124 : decode cX5_leave 124 = .ok (.iload 6, 2) := by decide +kernel
theorem dX5_leave_126 : decode cX5_leave 126 = .ok (.iadd, 1) := by decide +kernel
theorem dX5_leave_127 : decode cX5_leave 127 = .ok (.iconst (-1), 1) := by decide +kernel
theorem dX5_leave_128 : decode cX5_leave 128 = .ok (.iastore, 1) := by decide +kernel
theorem dX5_leave_129 : decode cX5_leave 129 = .ok (.aload_n 0, 1) := by decide +kernel
theorem dX5_leave_130 : decode cX5_leave 130 = .ok (.getfield 9, 3) := by decide +kernel
theorem dX5_leave_133 : decode cX5_leave 133 = .ok (.iload 4, 2) := by decide +kernel
theorem dX5_leave_135 : decode cX5_leave 135 = .ok (.iload_n 3, 1) := by decide +kernel
theorem dX5_leave_136 : decode cX5_leave 136 = .ok (.iadd, 1) := by decide +kernel
theorem dX5_leave_137 : decode cX5_leave 137 = .ok (.iload 7, 2) := by decide +kernel
theorem dX5_leave_139 : decode cX5_leave 139 = .ok (.iastore, 1) := by decide +kernel
theorem dX5_leave_140 : decode cX5_leave 140 = .ok (.aload_n 0, 1) := by decide +kernel
theorem dX5_leave_141 : decode cX5_leave 141 = .ok (.getfield 18, 3) := by decide +kernel
theorem dX5_leave_144 : decode cX5_leave 144 = .ok (.iload 7, 2) := by decide +kernel
theorem dX5_leave_146 : decode cX5_leave 146 = .ok (.iload_n 3, 1) := by decide +kernel
theorem dX5_leave_147 : decode cX5_leave 147 = .ok (.iastore, 1) := by decide +kernel
theorem dX5_leave_148 : decode cX5_leave 148 = .ok (.iload 6, 2) := by decide +kernel
theorem dX5_leave_150 : decode cX5_leave 150 = .ok (.istore_n 3, 1) := by decide +kernel
theorem dX5_leave_151 : decode cX5_leave 151 = .ok (.iinc 5 1, 3) := by decide +kernel
theorem dX5_leave_154 : decode cX5_leave 154 = .ok (.iinc 6 1, 3) := by decide +kernel
theorem dX5_leave_157 : decode cX5_leave 157 = .ok (.goto (-99), 3) := by decide +kernel
theorem dX5_leave_160 : decode cX5_leave 160 = .ok (.iload 5, 2) := by decide +kernel
theorem dX5_leave_162 : decode cX5_leave 162 = .ok (.ireturn, 1) := by decide +kernel
theorem dX5_take_0 : decode cX5_take 0 = .ok (.aload_n 0, 1) := by decide +kernel
theorem dX5_take_1 : decode cX5_take 1 = .ok (.iload_n 2, 1) := by decide +kernel
theorem dX5_take_2 : decode cX5_take 2 = .ok (.invokevirtual 63, 3) := by decide +kernel
theorem dX5_take_5 : decode cX5_take 5 = .ok (.istore_n 3, 1) := by decide +kernel
theorem dX5_take_6 : decode cX5_take 6 = .ok (.iload_n 3, 1) := by decide +kernel
theorem dX5_take_7 : decode cX5_take 7 = .ok (.iconst (-1), 1) := by decide +kernel
theorem dX5_take_8 : decode cX5_take 8 = .ok (.if_icmp .eq 17, 3) := by decide +kernel
theorem dX5_take_11 : decode cX5_take 11 = .ok (.aload_n 0, 1) := by decide +kernel
theorem dX5_take_12 : decode cX5_take 12 = .ok (.iload_n 1, 1) := by decide +kernel
theorem dX5_take_13 : decode cX5_take 13 = .ok (.iload_n 2, 1) := by decide +kernel
theorem dX5_take_14 : decode cX5_take 14 = .ok (.iload_n 3, 1) := by decide +kernel
theorem dX5_take_15 : decode cX5_take 15 = .ok (.invokevirtual 110, 3) := by decide +kernel
theorem dX5_take_18 : decode cX5_take 18 = .ok (.aload_n 0, 1) := by decide +kernel
theorem dX5_take_19 : decode cX5_take 19 = .ok (.getfield 21, 3) := by decide +kernel
theorem dX5_take_22 : decode cX5_take 22 = .ok (.iload_n 1, 1) := by decide +kernel
theorem dX5_take_23 : decode cX5_take 23 = .ok (.iconst (-1), 1) := by decide +kernel
theorem dX5_take_24 : decode cX5_take 24 = .ok (.iastore, 1) := by decide +kernel
theorem dX5_take_25 : decode cX5_take 25 = .ok (.iload_n 3, 1) := by decide +kernel
theorem dX5_take_26 : decode cX5_take 26 = .ok (.ireturn, 1) := by decide +kernel
theorem dX5_exchange_0 : decode cX5_exchange 0 = .ok (.aload_n 0, 1) := by decide +kernel
theorem dX5_exchange_1 : decode cX5_exchange 1 = .ok (.getfield 15, 3) := by decide +kernel
theorem dX5_exchange_4 : decode cX5_exchange 4 = .ok (.iload_n 1, 1) := by decide +kernel
theorem dX5_exchange_5 : decode cX5_exchange 5 = .ok (.iaload, 1) := by decide +kernel
theorem dX5_exchange_6 : decode cX5_exchange 6 = .ok (.istore_n 3, 1) := by decide +kernel
theorem dX5_exchange_7 : decode cX5_exchange 7 = .ok (.aload_n 0, 1) := by decide +kernel
theorem dX5_exchange_8 : decode cX5_exchange 8 = .ok (.getfield 18, 3) := by decide +kernel
theorem dX5_exchange_11 : decode cX5_exchange 11 = .ok (.iload_n 1, 1) := by decide +kernel
theorem dX5_exchange_12 : decode cX5_exchange 12 = .ok (.iaload, 1) := by decide +kernel
theorem dX5_exchange_13 : decode cX5_exchange 13 = .ok (.istore 4, 2) := by decide +kernel
theorem dX5_exchange_15 : decode cX5_exchange 15 = .ok (.aload_n 0, 1) := by decide +kernel
theorem dX5_exchange_16 : decode cX5_exchange 16 = .ok (.iload_n 1, 1) := by decide +kernel
theorem dX5_exchange_17 : decode cX5_exchange 17 = .ok (.aload_n 0, 1) := by decide +kernel
theorem dX5_exchange_18 : decode cX5_exchange 18 = .ok (.getfield 15, 3) := by decide +kernel
theorem dX5_exchange_21 : decode cX5_exchange 21 = .ok (.iload_n 2, 1) := by decide +kernel
theorem dX5_exchange_22 : decode cX5_exchange 22 = .ok (.iaload, 1) := by decide +kernel
theorem dX5_exchange_23 : decode cX5_exchange 23 = .ok (.aload_n 0, 1) := by decide +kernel
theorem dX5_exchange_24 : decode cX5_exchange 24 = .ok (.getfield 18, 3) := by decide +kernel
theorem dX5_exchange_27 : decode cX5_exchange 27 = .ok (.iload_n 2, 1) := by decide +kernel
theorem dX5_exchange_28 : decode cX5_exchange 28 = .ok (.iaload, 1) := by decide +kernel
theorem dX5_exchange_29 : decode cX5_exchange 29 = .ok (.invokevirtual 110, 3) := by decide +kernel
theorem dX5_exchange_32 : decode cX5_exchange 32 = .ok (.aload_n 0, 1) := by decide +kernel
theorem dX5_exchange_33 : decode cX5_exchange 33 = .ok (.iload_n 2, 1) := by decide +kernel
theorem dX5_exchange_34 : decode cX5_exchange 34 = .ok (.iload_n 3, 1) := by decide +kernel
theorem dX5_exchange_35 : decode cX5_exchange 35 = .ok (.iload 4, 2) := by decide +kernel
theorem dX5_exchange_37 : decode cX5_exchange 37 = .ok (.invokevirtual 110, 3) := by decide +kernel
theorem dX5_exchange_40 : decode cX5_exchange 40 = .ok (.return_, 1) := by decide +kernel
theorem dX5_level_0 : decode cX5_level 0 = .ok (.aload_n 0, 1) := by decide +kernel
theorem dX5_level_1 : decode cX5_level 1 = .ok (.getfield 31, 3) := by decide +kernel
theorem dX5_level_4 : decode cX5_level 4 = .ok (.aload_n 0, 1) := by decide +kernel
theorem dX5_level_5 : decode cX5_level 5 = .ok (.getfield 28, 3) := by decide +kernel
theorem dX5_level_8 : decode cX5_level 8 = .ok (.invokevirtual 114, 3) := by decide +kernel
theorem dX5_level_11 : decode cX5_level 11 = .ok (.ireturn, 1) := by decide +kernel
theorem dX5_pass_0 : decode cX5_pass 0 = .ok (.aload_n 0, 1) := by decide +kernel
theorem dX5_pass_1 : decode cX5_pass 1 = .ok (.getfield 31, 3) := by decide +kernel
theorem dX5_pass_4 : decode cX5_pass 4 = .ok (.getfield 117, 3) := by decide +kernel
theorem dX5_pass_7 : decode cX5_pass 7 = .ok (.istore_n 2, 1) := by decide +kernel
theorem dX5_pass_8 : decode cX5_pass 8 = .ok (.iconst 0, 1) := by decide +kernel
theorem dX5_pass_9 : decode cX5_pass 9 = .ok (.istore_n 3, 1) := by decide +kernel
theorem dX5_pass_10 : decode cX5_pass 10 = .ok (.iload_n 3, 1) := by decide +kernel
theorem dX5_pass_11 : decode cX5_pass 11 = .ok (.iload_n 2, 1) := by decide +kernel
theorem dX5_pass_12 : decode cX5_pass 12 = .ok (.if_icmp .ge 44, 3) := by decide +kernel
theorem dX5_pass_15 : decode cX5_pass 15 = .ok (.aload_n 0, 1) := by decide +kernel
theorem dX5_pass_16 : decode cX5_pass 16 = .ok (.getfield 21, 3) := by decide +kernel
theorem dX5_pass_19 : decode cX5_pass 19 = .ok (.iload_n 3, 1) := by decide +kernel
theorem dX5_pass_20 : decode cX5_pass 20 = .ok (.iaload, 1) := by decide +kernel
theorem dX5_pass_21 : decode cX5_pass 21 = .ok (.iconst (-1), 1) := by decide +kernel
theorem dX5_pass_22 : decode cX5_pass 22 = .ok (.if_icmp .eq 28, 3) := by decide +kernel
theorem dX5_pass_25 : decode cX5_pass 25 = .ok (.aload_n 0, 1) := by decide +kernel
theorem dX5_pass_26 : decode cX5_pass 26 = .ok (.getfield 21, 3) := by decide +kernel
theorem dX5_pass_29 : decode cX5_pass 29 = .ok (.iload_n 3, 1) := by decide +kernel
theorem dX5_pass_30 : decode cX5_pass 30 = .ok (.iaload, 1) := by decide +kernel
theorem dX5_pass_31 : decode cX5_pass 31 = .ok (.aload_n 0, 1) := by decide +kernel
theorem dX5_pass_32 : decode cX5_pass 32 = .ok (.getfield 28, 3) := by decide +kernel
theorem dX5_pass_35 : decode cX5_pass 35 = .ok (.if_icmp .gt 15, 3) := by decide +kernel
theorem dX5_pass_38 : decode cX5_pass 38 = .ok (.aload_n 0, 1) := by decide +kernel
theorem dX5_pass_39 : decode cX5_pass 39 = .ok (.iload_n 3, 1) := by decide +kernel
theorem dX5_pass_40 : decode cX5_pass 40 = .ok (.aload_n 0, 1) := by decide +kernel
theorem dX5_pass_41 : decode cX5_pass 41 = .ok (.getfield 15, 3) := by decide +kernel
theorem dX5_pass_44 : decode cX5_pass 44 = .ok (.iload_n 3, 1) := by decide +kernel
theorem dX5_pass_45 : decode cX5_pass 45 = .ok (.iaload, 1) := by decide +kernel
theorem dX5_pass_46 : decode cX5_pass 46 = .ok (.invokevirtual 96, 3) := by decide +kernel
theorem dX5_pass_49 : decode cX5_pass 49 = .ok (.pop, 1) := by decide +kernel
theorem dX5_pass_50 : decode cX5_pass 50 = .ok (.iinc 3 1, 3) := by decide +kernel
theorem dX5_pass_53 : decode cX5_pass 53 = .ok (.goto (-43), 3) := by decide +kernel
theorem dX5_pass_56 : decode cX5_pass 56 = .ok (.iconst 0, 1) := by decide +kernel
theorem dX5_pass_57 : decode cX5_pass 57 = .ok (.istore_n 3, 1) := by decide +kernel
theorem dX5_pass_58 : decode cX5_pass 58 = .ok (.iload_n 3, 1) := by decide +kernel
theorem dX5_pass_59 : decode cX5_pass 59 = .ok (.iload_n 2, 1) := by decide +kernel
theorem dX5_pass_60 : decode cX5_pass 60 = .ok (.if_icmp .ge 72, 3) := by decide +kernel
theorem dX5_pass_63 : decode cX5_pass 63 = .ok (.aload_n 0, 1) := by decide +kernel
theorem dX5_pass_64 : decode cX5_pass 64 = .ok (.getfield 31, 3) := by decide +kernel
theorem dX5_pass_67 : decode cX5_pass 67 = .ok (.getfield 120, 3) := by decide +kernel
theorem dX5_pass_70 : decode cX5_pass 70 = .ok (.iload_n 3, 1) := by decide +kernel
theorem dX5_pass_71 : decode cX5_pass 71 = .ok (.iaload, 1) := by decide +kernel
theorem dX5_pass_72 : decode cX5_pass 72 = .ok (.aload_n 0, 1) := by decide +kernel
theorem dX5_pass_73 : decode cX5_pass 73 = .ok (.getfield 28, 3) := by decide +kernel
theorem dX5_pass_76 : decode cX5_pass 76 = .ok (.if_icmp .ne 50, 3) := by decide +kernel
theorem dX5_pass_79 : decode cX5_pass 79 = .ok (.aload_n 0, 1) := by decide +kernel
theorem dX5_pass_80 : decode cX5_pass 80 = .ok (.getfield 18, 3) := by decide +kernel
theorem dX5_pass_83 : decode cX5_pass 83 = .ok (.iload_n 3, 1) := by decide +kernel
theorem dX5_pass_84 : decode cX5_pass 84 = .ok (.iaload, 1) := by decide +kernel
theorem dX5_pass_85 : decode cX5_pass 85 = .ok (.iconst (-1), 1) := by decide +kernel
theorem dX5_pass_86 : decode cX5_pass 86 = .ok (.if_icmp .eq 40, 3) := by decide +kernel
theorem dX5_pass_89 : decode cX5_pass 89 = .ok (.aload_n 0, 1) := by decide +kernel
theorem dX5_pass_90 : decode cX5_pass 90 = .ok (.getfield 31, 3) := by decide +kernel
theorem dX5_pass_93 : decode cX5_pass 93 = .ok (.iload_n 3, 1) := by decide +kernel
theorem dX5_pass_94 : decode cX5_pass 94 = .ok (.invokevirtual 57, 3) := by decide +kernel
theorem dX5_pass_97 : decode cX5_pass 97 = .ok (.ifCond .ne 29, 3) := by decide +kernel
theorem dX5_pass_100 : decode cX5_pass 100 = .ok (.aload_n 0, 1) := by decide +kernel
theorem dX5_pass_101 : decode cX5_pass 101 = .ok (.iload_n 3, 1) := by decide +kernel
theorem dX5_pass_102 : decode cX5_pass 102 = .ok (.invokevirtual 93, 3) := by decide +kernel
theorem dX5_pass_105 : decode cX5_pass 105 = .ok (.pop, 1) := by decide +kernel
theorem dX5_pass_106 : decode cX5_pass 106 = .ok (.aload_n 0, 1) := by decide +kernel
theorem dX5_pass_107 : decode cX5_pass 107 = .ok (.getfield 21, 3) := by decide +kernel
theorem dX5_pass_110 : decode cX5_pass 110 = .ok (.iload_n 3, 1) := by decide +kernel
theorem dX5_pass_111 : decode cX5_pass 111 = .ok (.aload_n 0, 1) := by decide +kernel
theorem dX5_pass_112 : decode cX5_pass 112 = .ok (.getfield 28, 3) := by decide +kernel
theorem dX5_pass_115 : decode cX5_pass 115 = .ok (.aload_n 0, 1) := by decide +kernel
theorem dX5_pass_116 : decode cX5_pass 116 = .ok (.getfield 31, 3) := by decide +kernel
theorem dX5_pass_119 : decode cX5_pass 119 = .ok (.getfield 123, 3) := by decide +kernel
theorem dX5_pass_122 : decode cX5_pass 122 = .ok (.iload_n 3, 1) := by decide +kernel
theorem dX5_pass_123 : decode cX5_pass 123 = .ok (.iaload, 1) := by decide +kernel
theorem dX5_pass_124 : decode cX5_pass 124 = .ok (.iadd, 1) := by decide +kernel
theorem dX5_pass_125 : decode cX5_pass 125 = .ok (.iastore, 1) := by decide +kernel
theorem dX5_pass_126 : decode cX5_pass 126 = .ok (.iinc 3 1, 3) := by decide +kernel
theorem dX5_pass_129 : decode cX5_pass 129 = .ok (.goto (-71), 3) := by decide +kernel
theorem dX5_pass_132 : decode cX5_pass 132 = .ok (.iconst 0, 1) := by decide +kernel
theorem dX5_pass_133 : decode cX5_pass 133 = .ok (.istore_n 3, 1) := by decide +kernel
theorem dX5_pass_134 : decode cX5_pass 134 = .ok (.iload_n 1, 1) := by decide +kernel
theorem dX5_pass_135 : decode cX5_pass 135 = .ok (.ifCond .le 46, 3) := by decide +kernel
theorem dX5_pass_138 : decode cX5_pass 138 = .ok (.iload_n 3, 1) := by decide +kernel
theorem dX5_pass_139 : decode cX5_pass 139 = .ok (.iload_n 2, 1) := by decide +kernel
theorem dX5_pass_140 : decode cX5_pass 140 = .ok (.if_icmp .ge 41, 3) := by decide +kernel
theorem dX5_pass_143 : decode cX5_pass 143 = .ok (.aload_n 0, 1) := by decide +kernel
theorem dX5_pass_144 : decode cX5_pass 144 = .ok (.getfield 18, 3) := by decide +kernel
theorem dX5_pass_147 : decode cX5_pass 147 = .ok (.iload_n 3, 1) := by decide +kernel
theorem dX5_pass_148 : decode cX5_pass 148 = .ok (.iaload, 1) := by decide +kernel
theorem dX5_pass_149 : decode cX5_pass 149 = .ok (.iconst (-1), 1) := by decide +kernel
theorem dX5_pass_150 : decode cX5_pass 150 = .ok (.if_icmp .eq 25, 3) := by decide +kernel
theorem dX5_pass_153 : decode cX5_pass 153 = .ok (.aload_n 0, 1) := by decide +kernel
theorem dX5_pass_154 : decode cX5_pass 154 = .ok (.getfield 18, 3) := by decide +kernel
theorem dX5_pass_157 : decode cX5_pass 157 = .ok (.iload_n 3, 1) := by decide +kernel
theorem dX5_pass_158 : decode cX5_pass 158 = .ok (.iaload, 1) := by decide +kernel
theorem dX5_pass_159 : decode cX5_pass 159 = .ok (.iload_n 1, 1) := by decide +kernel
theorem dX5_pass_160 : decode cX5_pass 160 = .ok (.if_icmp .ge 15, 3) := by decide +kernel
theorem dX5_pass_163 : decode cX5_pass 163 = .ok (.aload_n 0, 1) := by decide +kernel
theorem dX5_pass_164 : decode cX5_pass 164 = .ok (.dup, 1) := by decide +kernel
theorem dX5_pass_165 : decode cX5_pass 165 = .ok (.getfield 24, 3) := by decide +kernel
theorem dX5_pass_168 : decode cX5_pass 168 = .ok (.iconst 1, 1) := by decide +kernel
theorem dX5_pass_169 : decode cX5_pass 169 = .ok (.iload_n 3, 1) := by decide +kernel
theorem dX5_pass_170 : decode cX5_pass 170 = .ok (.ishl, 1) := by decide +kernel
theorem dX5_pass_171 : decode cX5_pass 171 = .ok (.ior, 1) := by decide +kernel
theorem dX5_pass_172 : decode cX5_pass 172 = .ok (.putfield 24, 3) := by decide +kernel
theorem dX5_pass_175 : decode cX5_pass 175 = .ok (.iinc 3 1, 3) := by decide +kernel
theorem dX5_pass_178 : decode cX5_pass 178 = .ok (.goto (-44), 3) := by decide +kernel
theorem dX5_pass_181 : decode cX5_pass 181 = .ok (.aload_n 0, 1) := by decide +kernel
theorem dX5_pass_182 : decode cX5_pass 182 = .ok (.dup, 1) := by decide +kernel
theorem dX5_pass_183 : decode cX5_pass 183 = .ok (.getfield 28, 3) := by decide +kernel
theorem dX5_pass_186 : decode cX5_pass 186 = .ok (.iconst 1, 1) := by decide +kernel
theorem dX5_pass_187 : decode cX5_pass 187 = .ok (.iadd, 1) := by decide +kernel
theorem dX5_pass_188 : decode cX5_pass 188 = .ok (.putfield 28, 3) := by decide +kernel
theorem dX5_pass_191 : decode cX5_pass 191 = .ok (.return_, 1) := by decide +kernel
theorem dX5_dryChances_0 : decode cX5_dryChances 0 = .ok (.lconst 1, 1) := by decide +kernel
theorem dX5_dryChances_1 : decode cX5_dryChances 1 = .ok (.lstore_n 3, 1) := by decide +kernel
theorem dX5_dryChances_2 : decode cX5_dryChances 2 = .ok (.iconst 0, 1) := by decide +kernel
theorem dX5_dryChances_3 : decode cX5_dryChances 3 = .ok (.istore 5, 2) := by decide +kernel
theorem dX5_dryChances_5 : decode cX5_dryChances 5 = .ok (.iload 5, 2) := by decide +kernel
theorem dX5_dryChances_7 : decode cX5_dryChances 7 = .ok (.iload_n 2, 1) := by decide +kernel
theorem dX5_dryChances_8 : decode cX5_dryChances 8 = .ok (.if_icmp .ge 64, 3) := by decide +kernel
theorem dX5_dryChances_11 : decode cX5_dryChances 11 = .ok (.aload_n 0, 1) := by decide +kernel
theorem dX5_dryChances_12 : decode cX5_dryChances 12 = .ok (.getfield 28, 3) := by decide +kernel
theorem dX5_dryChances_15 : decode cX5_dryChances 15 = .ok (.istore 6, 2) := by decide +kernel
theorem dX5_dryChances_17 : decode cX5_dryChances 17 = .ok (.aload_n 0, 1) := by decide +kernel
theorem dX5_dryChances_18 : decode cX5_dryChances 18 = .ok (.iconst 0, 1) := by decide +kernel
theorem dX5_dryChances_19 : decode cX5_dryChances 19 = .ok (.invokevirtual 89, 3) := by decide +kernel
theorem dX5_dryChances_22 : decode cX5_dryChances 22 = .ok (.lload_n 3, 1) := by decide +kernel
theorem dX5_dryChances_23 : decode cX5_dryChances 23 = .ok (.aload_n 0, 1) := by decide +kernel
theorem dX5_dryChances_24 : decode cX5_dryChances 24 = .ok (.getfield 18, 3) := by decide +kernel
theorem dX5_dryChances_27 : decode cX5_dryChances 27 = .ok (.iload_n 1, 1) := by decide +kernel
theorem dX5_dryChances_28 : decode cX5_dryChances 28 = .ok (.iaload, 1) := by decide +kernel
theorem dX5_dryChances_29 : decode cX5_dryChances 29 = .ok (.iconst (-1), 1) := by decide +kernel
theorem dX5_dryChances_30 : decode cX5_dryChances 30 = .ok (.if_icmp .ne 9, 3) := by decide +kernel
theorem dX5_dryChances_33 : decode cX5_dryChances 33 = .ok (.ldc2_w 71, 3) := by decide +kernel
theorem dX5_dryChances_36 : decode cX5_dryChances 36 = .ok (.goto 28, 3) := by decide +kernel
theorem dX5_dryChances_39 : decode cX5_dryChances 39 = .ok (.bipush 10, 2) := by decide +kernel
theorem dX5_dryChances_41 : decode cX5_dryChances 41 = .ok (.aload_n 0, 1) := by decide +kernel
theorem dX5_dryChances_42 : decode cX5_dryChances 42 = .ok (.getfield 31, 3) := by decide +kernel
theorem dX5_dryChances_45 : decode cX5_dryChances 45 = .ok (.aload_n 0, 1) := by decide +kernel
theorem dX5_dryChances_46 : decode cX5_dryChances 46 = .ok (.getfield 15, 3) := by decide +kernel
theorem dX5_dryChances_49 : decode cX5_dryChances 49 = .ok (.iload_n 1, 1) := by decide +kernel
theorem dX5_dryChances_50 : decode cX5_dryChances 50 = .ok (.iaload, 1) := by decide +kernel
theorem dX5_dryChances_51 : decode cX5_dryChances 51 = .ok (.aload_n 0, 1) := by decide +kernel
theorem dX5_dryChances_52 : decode cX5_dryChances 52 = .ok (.getfield 18, 3) := by decide +kernel
theorem dX5_dryChances_55 : decode cX5_dryChances 55 = .ok (.iload_n 1, 1) := by decide +kernel
theorem dX5_dryChances_56 : decode cX5_dryChances 56 = .ok (.iaload, 1) := by decide +kernel
theorem dX5_dryChances_57 : decode cX5_dryChances 57 = .ok (.iload 6, 2) := by decide +kernel
theorem dX5_dryChances_59 : decode cX5_dryChances 59 = .ok (.invokevirtual 126, 3) := by decide +kernel
theorem dX5_dryChances_62 : decode cX5_dryChances 62 = .ok (.isub, 1) := by decide +kernel
theorem dX5_dryChances_63 : decode cX5_dryChances 63 = .ok (.i2l, 1) := by decide +kernel
theorem dX5_dryChances_64 : decode cX5_dryChances 64 = .ok (.lmul, 1) := by decide +kernel
theorem dX5_dryChances_65 : decode cX5_dryChances 65 = .ok (.lstore_n 3, 1) := by decide +kernel
theorem dX5_dryChances_66 : decode cX5_dryChances 66 = .ok (.iinc 5 1, 3) := by decide +kernel
theorem dX5_dryChances_69 : decode cX5_dryChances 69 = .ok (.goto (-64), 3) := by decide +kernel
theorem dX5_dryChances_72 : decode cX5_dryChances 72 = .ok (.lload_n 3, 1) := by decide +kernel
theorem dX5_dryChances_73 : decode cX5_dryChances 73 = .ok (.lreturn, 1) := by decide +kernel
theorem dX5_hindmostFree_0 : decode cX5_hindmostFree 0 = .ok (.aload_n 0, 1) := by decide +kernel
theorem dX5_hindmostFree_1 : decode cX5_hindmostFree 1 = .ok (.getfield 31, 3) := by decide +kernel
theorem dX5_hindmostFree_4 : decode cX5_hindmostFree 4 = .ok (.getfield 103, 3) := by decide +kernel
theorem dX5_hindmostFree_7 : decode cX5_hindmostFree 7 = .ok (.iconst 1, 1) := by decide +kernel
theorem dX5_hindmostFree_8 : decode cX5_hindmostFree 8 = .ok (.isub, 1) := by decide +kernel
theorem dX5_hindmostFree_9 : decode cX5_hindmostFree 9 = .ok (.istore_n 2, 1) := by decide +kernel
theorem dX5_hindmostFree_10 : decode cX5_hindmostFree 10 = .ok (.iload_n 2, 1) := by decide +kernel
theorem dX5_hindmostFree_11 : decode cX5_hindmostFree 11 = .ok (.ifCond .lt 37, 3) := by decide +kernel
theorem dX5_hindmostFree_14 : decode cX5_hindmostFree 14 = .ok (.aload_n 0, 1) := by decide +kernel
theorem dX5_hindmostFree_15 : decode cX5_hindmostFree 15 = .ok (.getfield 31, 3) := by decide +kernel
theorem dX5_hindmostFree_18 : decode cX5_hindmostFree 18 = .ok (.iload_n 1, 1) := by decide +kernel
theorem dX5_hindmostFree_19 : decode cX5_hindmostFree 19 = .ok (.iload_n 2, 1) := by decide +kernel
theorem dX5_hindmostFree_20 : decode cX5_hindmostFree 20 = .ok (.invokevirtual 47, 3) := by decide +kernel
theorem dX5_hindmostFree_23 : decode cX5_hindmostFree 23 = .ok (.ifCond .eq 19, 3) := by decide +kernel
theorem dX5_hindmostFree_26 : decode cX5_hindmostFree 26 = .ok (.aload_n 0, 1) := by decide +kernel
theorem dX5_hindmostFree_27 : decode cX5_hindmostFree 27 = .ok (.getfield 9, 3) := by decide +kernel
theorem dX5_hindmostFree_30 : decode cX5_hindmostFree 30 = .ok (.iload_n 1, 1) := by decide +kernel
theorem dX5_hindmostFree_31 : decode cX5_hindmostFree 31 = .ok (.iconst 5, 1) := by decide +kernel
theorem dX5_hindmostFree_32 : decode cX5_hindmostFree 32 = .ok (.imul, 1) := by decide +kernel
theorem dX5_hindmostFree_33 : decode cX5_hindmostFree 33 = .ok (.iload_n 2, 1) := by decide +kernel
theorem dX5_hindmostFree_34 : decode cX5_hindmostFree 34 = .ok (.iadd, 1) := by decide +kernel
theorem dX5_hindmostFree_35 : decode cX5_hindmostFree 35 = .ok (.iaload, 1) := by decide +kernel
theorem dX5_hindmostFree_36 : decode cX5_hindmostFree 36 = .ok (.iconst (-1), 1) := by decide +kernel
theorem dX5_hindmostFree_37 : decode cX5_hindmostFree 37 = .ok (.if_icmp .ne 5, 3) := by decide +kernel
theorem dX5_hindmostFree_40 : decode cX5_hindmostFree 40 = .ok (.iload_n 2, 1) := by decide +kernel
theorem dX5_hindmostFree_41 : decode cX5_hindmostFree 41 = .ok (.ireturn, 1) := by decide +kernel
theorem dX5_hindmostFree_42 : decode cX5_hindmostFree 42 = .ok (.iinc 2 (-1), 3) := by decide +kernel
theorem dX5_hindmostFree_45 : decode cX5_hindmostFree 45 = .ok (.goto (-35), 3) := by decide +kernel
theorem dX5_hindmostFree_48 : decode cX5_hindmostFree 48 = .ok (.iconst (-1), 1) := by decide +kernel
theorem dX5_hindmostFree_49 : decode cX5_hindmostFree 49 = .ok (.ireturn, 1) := by decide +kernel
theorem dX5_foremostAwake_0 : decode cX5_foremostAwake 0 = .ok (.iconst 0, 1) := by decide +kernel
theorem dX5_foremostAwake_1 : decode cX5_foremostAwake 1 = .ok (.istore_n 2, 1) := by decide +kernel
theorem dX5_foremostAwake_2 : decode cX5_foremostAwake 2 = .ok (.iload_n 2, 1) := by decide +kernel
theorem dX5_foremostAwake_3 : decode cX5_foremostAwake 3 = .ok (.aload_n 0, 1) := by decide +kernel
theorem dX5_foremostAwake_4 : decode cX5_foremostAwake 4 = .ok (.getfield 31, 3) := by decide +kernel
theorem dX5_foremostAwake_7 : decode cX5_foremostAwake 7 = .ok (.getfield 103, 3) := by decide +kernel
theorem dX5_foremostAwake_10 : decode cX5_foremostAwake 10 = .ok (.if_icmp .ge 34, 3) := by decide +kernel
theorem dX5_foremostAwake_13 : decode cX5_foremostAwake 13 = .ok (.aload_n 0, 1) := by decide +kernel
theorem dX5_foremostAwake_14 : decode cX5_foremostAwake 14 = .ok (.iload_n 1, 1) := by decide +kernel
theorem dX5_foremostAwake_15 : decode cX5_foremostAwake 15 = .ok (.iload_n 2, 1) := by decide +kernel
theorem dX5_foremostAwake_16 : decode cX5_foremostAwake 16 = .ok (.invokevirtual 130, 3) := by decide +kernel
theorem dX5_foremostAwake_19 : decode cX5_foremostAwake 19 = .ok (.istore_n 3, 1) := by decide +kernel
theorem dX5_foremostAwake_20 : decode cX5_foremostAwake 20 = .ok (.iload_n 3, 1) := by decide +kernel
theorem dX5_foremostAwake_21 : decode cX5_foremostAwake 21 = .ok (.iconst (-1), 1) := by decide +kernel
theorem dX5_foremostAwake_22 : decode cX5_foremostAwake 22 = .ok (.if_icmp .eq 16, 3) := by decide +kernel
theorem dX5_foremostAwake_25 : decode cX5_foremostAwake 25 = .ok (.aload_n 0, 1) := by decide +kernel
theorem dX5_foremostAwake_26 : decode cX5_foremostAwake 26 = .ok (.getfield 31, 3) := by decide +kernel
theorem dX5_foremostAwake_29 : decode cX5_foremostAwake 29 = .ok (.iload_n 3, 1) := by decide +kernel
theorem dX5_foremostAwake_30 : decode cX5_foremostAwake 30 = .ok (.invokevirtual 57, 3) := by decide +kernel
theorem dX5_foremostAwake_33 : decode cX5_foremostAwake 33 = .ok (.ifCond .ne 5, 3) := by decide +kernel
theorem dX5_foremostAwake_36 : decode cX5_foremostAwake 36 = .ok (.iload_n 3, 1) := by decide +kernel
theorem dX5_foremostAwake_37 : decode cX5_foremostAwake 37 = .ok (.ireturn, 1) := by decide +kernel
theorem dX5_foremostAwake_38 : decode cX5_foremostAwake 38 = .ok (.iinc 2 1, 3) := by decide +kernel
theorem dX5_foremostAwake_41 : decode cX5_foremostAwake 41 = .ok (.goto (-39), 3) := by decide +kernel
theorem dX5_foremostAwake_44 : decode cX5_foremostAwake 44 = .ok (.iconst (-1), 1) := by decide +kernel
theorem dX5_foremostAwake_45 : decode cX5_foremostAwake 45 = .ok (.ireturn, 1) := by decide +kernel
theorem dX5_inFront_0 : decode cX5_inFront 0 = .ok (.aload_n 0, 1) := by decide +kernel
theorem dX5_inFront_1 : decode cX5_inFront 1 = .ok (.iconst 0, 1) := by decide +kernel
theorem dX5_inFront_2 : decode cX5_inFront 2 = .ok (.invokevirtual 133, 3) := by decide +kernel
theorem dX5_inFront_5 : decode cX5_inFront 5 = .ok (.ireturn, 1) := by decide +kernel
theorem dX5_sittersOf_0 : decode cX5_sittersOf 0 = .ok (.iconst 0, 1) := by decide +kernel
theorem dX5_sittersOf_1 : decode cX5_sittersOf 1 = .ok (.istore_n 2, 1) := by decide +kernel
theorem dX5_sittersOf_2 : decode cX5_sittersOf 2 = .ok (.iconst 0, 1) := by decide +kernel
theorem dX5_sittersOf_3 : decode cX5_sittersOf 3 = .ok (.istore_n 3, 1) := by decide +kernel
theorem dX5_sittersOf_4 : decode cX5_sittersOf 4 = .ok (.iload_n 3, 1) := by decide +kernel
theorem dX5_sittersOf_5 : decode cX5_sittersOf 5 = .ok (.aload_n 0, 1) := by decide +kernel
theorem dX5_sittersOf_6 : decode cX5_sittersOf 6 = .ok (.getfield 31, 3) := by decide +kernel
theorem dX5_sittersOf_9 : decode cX5_sittersOf 9 = .ok (.getfield 117, 3) := by decide +kernel
theorem dX5_sittersOf_12 : decode cX5_sittersOf 12 = .ok (.if_icmp .ge 25, 3) := by decide +kernel
theorem dX5_sittersOf_15 : decode cX5_sittersOf 15 = .ok (.aload_n 0, 1) := by decide +kernel
theorem dX5_sittersOf_16 : decode cX5_sittersOf 16 = .ok (.getfield 18, 3) := by decide +kernel
theorem dX5_sittersOf_19 : decode cX5_sittersOf 19 = .ok (.iload_n 3, 1) := by decide +kernel
theorem dX5_sittersOf_20 : decode cX5_sittersOf 20 = .ok (.iaload, 1) := by decide +kernel
theorem dX5_sittersOf_21 : decode cX5_sittersOf 21 = .ok (.iload_n 1, 1) := by decide +kernel
theorem dX5_sittersOf_22 : decode cX5_sittersOf 22 = .ok (.if_icmp .ne 9, 3) := by decide +kernel
theorem dX5_sittersOf_25 : decode cX5_sittersOf 25 = .ok (.iload_n 2, 1) := by decide +kernel
theorem dX5_sittersOf_26 : decode cX5_sittersOf 26 = .ok (.iconst 1, 1) := by decide +kernel
theorem dX5_sittersOf_27 : decode cX5_sittersOf 27 = .ok (.iload_n 3, 1) := by decide +kernel
theorem dX5_sittersOf_28 : decode cX5_sittersOf 28 = .ok (.ishl, 1) := by decide +kernel
theorem dX5_sittersOf_29 : decode cX5_sittersOf 29 = .ok (.ior, 1) := by decide +kernel
theorem dX5_sittersOf_30 : decode cX5_sittersOf 30 = .ok (.istore_n 2, 1) := by decide +kernel
theorem dX5_sittersOf_31 : decode cX5_sittersOf 31 = .ok (.iinc 3 1, 3) := by decide +kernel
theorem dX5_sittersOf_34 : decode cX5_sittersOf 34 = .ok (.goto (-30), 3) := by decide +kernel
theorem dX5_sittersOf_37 : decode cX5_sittersOf 37 = .ok (.iload_n 2, 1) := by decide +kernel
theorem dX5_sittersOf_38 : decode cX5_sittersOf 38 = .ok (.ireturn, 1) := by decide +kernel
theorem dX5_sittersIn_0 : decode cX5_sittersIn 0 = .ok (.iconst 0, 1) := by decide +kernel
theorem dX5_sittersIn_1 : decode cX5_sittersIn 1 = .ok (.istore_n 2, 1) := by decide +kernel
theorem dX5_sittersIn_2 : decode cX5_sittersIn 2 = .ok (.iconst 0, 1) := by decide +kernel
theorem dX5_sittersIn_3 : decode cX5_sittersIn 3 = .ok (.istore_n 3, 1) := by decide +kernel
theorem dX5_sittersIn_4 : decode cX5_sittersIn 4 = .ok (.iload_n 3, 1) := by decide +kernel
theorem dX5_sittersIn_5 : decode cX5_sittersIn 5 = .ok (.aload_n 0, 1) := by decide +kernel
theorem dX5_sittersIn_6 : decode cX5_sittersIn 6 = .ok (.getfield 31, 3) := by decide +kernel
theorem dX5_sittersIn_9 : decode cX5_sittersIn 9 = .ok (.getfield 117, 3) := by decide +kernel
theorem dX5_sittersIn_12 : decode cX5_sittersIn 12 = .ok (.if_icmp .ge 35, 3) := by decide +kernel
theorem dX5_sittersIn_15 : decode cX5_sittersIn 15 = .ok (.aload_n 0, 1) := by decide +kernel
theorem dX5_sittersIn_16 : decode cX5_sittersIn 16 = .ok (.getfield 18, 3) := by decide +kernel
theorem dX5_sittersIn_19 : decode cX5_sittersIn 19 = .ok (.iload_n 3, 1) := by decide +kernel
theorem dX5_sittersIn_20 : decode cX5_sittersIn 20 = .ok (.iaload, 1) := by decide +kernel
theorem dX5_sittersIn_21 : decode cX5_sittersIn 21 = .ok (.iconst (-1), 1) := by decide +kernel
theorem dX5_sittersIn_22 : decode cX5_sittersIn 22 = .ok (.if_icmp .eq 19, 3) := by decide +kernel
theorem dX5_sittersIn_25 : decode cX5_sittersIn 25 = .ok (.aload_n 0, 1) := by decide +kernel
theorem dX5_sittersIn_26 : decode cX5_sittersIn 26 = .ok (.getfield 15, 3) := by decide +kernel
theorem dX5_sittersIn_29 : decode cX5_sittersIn 29 = .ok (.iload_n 3, 1) := by decide +kernel
theorem dX5_sittersIn_30 : decode cX5_sittersIn 30 = .ok (.iaload, 1) := by decide +kernel
theorem dX5_sittersIn_31 : decode cX5_sittersIn 31 = .ok (.iload_n 1, 1) := by decide +kernel
theorem dX5_sittersIn_32 : decode cX5_sittersIn 32 = .ok (.if_icmp .ne 9, 3) := by decide +kernel
theorem dX5_sittersIn_35 : decode cX5_sittersIn 35 = .ok (.iload_n 2, 1) := by decide +kernel
theorem dX5_sittersIn_36 : decode cX5_sittersIn 36 = .ok (.iconst 1, 1) := by decide +kernel
theorem dX5_sittersIn_37 : decode cX5_sittersIn 37 = .ok (.iload_n 3, 1) := by decide +kernel
theorem dX5_sittersIn_38 : decode cX5_sittersIn 38 = .ok (.ishl, 1) := by decide +kernel
theorem dX5_sittersIn_39 : decode cX5_sittersIn 39 = .ok (.ior, 1) := by decide +kernel
theorem dX5_sittersIn_40 : decode cX5_sittersIn 40 = .ok (.istore_n 2, 1) := by decide +kernel
theorem dX5_sittersIn_41 : decode cX5_sittersIn 41 = .ok (.iinc 3 1, 3) := by decide +kernel
theorem dX5_sittersIn_44 : decode cX5_sittersIn 44 = .ok (.goto (-40), 3) := by decide +kernel
theorem dX5_sittersIn_47 : decode cX5_sittersIn 47 = .ok (.iload_n 2, 1) := by decide +kernel
theorem dX5_sittersIn_48 : decode cX5_sittersIn 48 = .ok (.ireturn, 1) := by decide +kernel
theorem dX5_whoIsUp_0 : decode cX5_whoIsUp 0 = .ok (.aload_n 0, 1) := by decide +kernel
theorem dX5_whoIsUp_1 : decode cX5_whoIsUp 1 = .ok (.iconst (-1), 1) := by decide +kernel
theorem dX5_whoIsUp_2 : decode cX5_whoIsUp 2 = .ok (.invokevirtual 133, 3) := by decide +kernel
theorem dX5_whoIsUp_5 : decode cX5_whoIsUp 5 = .ok (.ireturn, 1) := by decide +kernel
theorem dX5_widened_0 : decode cX5_widened 0 = .ok (.iload_n 1, 1) := by decide +kernel
theorem dX5_widened_1 : decode cX5_widened 1 = .ok (.istore_n 2, 1) := by decide +kernel
theorem dX5_widened_2 : decode cX5_widened 2 = .ok (.iconst 0, 1) := by decide +kernel
theorem dX5_widened_3 : decode cX5_widened 3 = .ok (.istore_n 3, 1) := by decide +kernel
theorem dX5_widened_4 : decode cX5_widened 4 = .ok (.iload_n 3, 1) := by decide +kernel
theorem dX5_widened_5 : decode cX5_widened 5 = .ok (.aload_n 0, 1) := by decide +kernel
theorem dX5_widened_6 : decode cX5_widened 6 = .ok (.getfield 31, 3) := by decide +kernel
theorem dX5_widened_9 : decode cX5_widened 9 = .ok (.getfield 117, 3) := by decide +kernel
theorem dX5_widened_12 : decode cX5_widened 12 = .ok (.if_icmp .ge 108, 3) := by decide +kernel
theorem dX5_widened_15 : decode cX5_widened 15 = .ok (.iload_n 1, 1) := by decide +kernel
theorem dX5_widened_16 : decode cX5_widened 16 = .ok (.iload_n 3, 1) := by decide +kernel
theorem dX5_widened_17 : decode cX5_widened 17 = .ok (.ishr, 1) := by decide +kernel
theorem dX5_widened_18 : decode cX5_widened 18 = .ok (.iconst 1, 1) := by decide +kernel
theorem dX5_widened_19 : decode cX5_widened 19 = .ok (.iand, 1) := by decide +kernel
theorem dX5_widened_20 : decode cX5_widened 20 = .ok (.iconst 1, 1) := by decide +kernel
theorem dX5_widened_21 : decode cX5_widened 21 = .ok (.if_icmp .ne 93, 3) := by decide +kernel
theorem dX5_widened_24 : decode cX5_widened 24 = .ok (.aload_n 0, 1) := by decide +kernel
theorem dX5_widened_25 : decode cX5_widened 25 = .ok (.getfield 18, 3) := by decide +kernel
theorem dX5_widened_28 : decode cX5_widened 28 = .ok (.iload_n 3, 1) := by decide +kernel
theorem dX5_widened_29 : decode cX5_widened 29 = .ok (.iaload, 1) := by decide +kernel
theorem dX5_widened_30 : decode cX5_widened 30 = .ok (.iconst (-1), 1) := by decide +kernel
theorem dX5_widened_31 : decode cX5_widened 31 = .ok (.if_icmp .eq 83, 3) := by decide +kernel
theorem dX5_widened_34 : decode cX5_widened 34 = .ok (.iload_n 2, 1) := by decide +kernel
theorem dX5_widened_35 : decode cX5_widened 35 = .ok (.aload_n 0, 1) := by decide +kernel
theorem dX5_widened_36 : decode cX5_widened 36 = .ok (.aload_n 0, 1) := by decide +kernel
theorem dX5_widened_37 : decode cX5_widened 37 = .ok (.getfield 15, 3) := by decide +kernel
theorem dX5_widened_40 : decode cX5_widened 40 = .ok (.iload_n 3, 1) := by decide +kernel
theorem dX5_widened_41 : decode cX5_widened 41 = .ok (.iaload, 1) := by decide +kernel
theorem dX5_widened_42 : decode cX5_widened 42 = .ok (.iconst 1, 1) := by decide +kernel
theorem dX5_widened_43 : decode cX5_widened 43 = .ok (.isub, 1) := by decide +kernel
theorem dX5_widened_44 : decode cX5_widened 44 = .ok (.aload_n 0, 1) := by decide +kernel
theorem dX5_widened_45 : decode cX5_widened 45 = .ok (.getfield 18, 3) := by decide +kernel
theorem dX5_widened_48 : decode cX5_widened 48 = .ok (.iload_n 3, 1) := by decide +kernel
theorem dX5_widened_49 : decode cX5_widened 49 = .ok (.iaload, 1) := by decide +kernel
theorem dX5_widened_50 : decode cX5_widened 50 = .ok (.invokevirtual 136, 3) := by decide +kernel
theorem dX5_widened_53 : decode cX5_widened 53 = .ok (.aload_n 0, 1) := by decide +kernel
theorem dX5_widened_54 : decode cX5_widened 54 = .ok (.aload_n 0, 1) := by decide +kernel
theorem dX5_widened_55 : decode cX5_widened 55 = .ok (.getfield 15, 3) := by decide +kernel
theorem dX5_widened_58 : decode cX5_widened 58 = .ok (.iload_n 3, 1) := by decide +kernel
theorem dX5_widened_59 : decode cX5_widened 59 = .ok (.iaload, 1) := by decide +kernel
theorem dX5_widened_60 : decode cX5_widened 60 = .ok (.iconst 1, 1) := by decide +kernel
theorem dX5_widened_61 : decode cX5_widened 61 = .ok (.iadd, 1) := by decide +kernel
theorem dX5_widened_62 : decode cX5_widened 62 = .ok (.aload_n 0, 1) := by decide +kernel
theorem dX5_widened_63 : decode cX5_widened 63 = .ok (.getfield 18, 3) := by decide +kernel
theorem dX5_widened_66 : decode cX5_widened 66 = .ok (.iload_n 3, 1) := by decide +kernel
theorem dX5_widened_67 : decode cX5_widened 67 = .ok (.iaload, 1) := by decide +kernel
theorem dX5_widened_68 : decode cX5_widened 68 = .ok (.invokevirtual 136, 3) := by decide +kernel
theorem dX5_widened_71 : decode cX5_widened 71 = .ok (.ior, 1) := by decide +kernel
theorem dX5_widened_72 : decode cX5_widened 72 = .ok (.ior, 1) := by decide +kernel
theorem dX5_widened_73 : decode cX5_widened 73 = .ok (.istore_n 2, 1) := by decide +kernel
theorem dX5_widened_74 : decode cX5_widened 74 = .ok (.iload_n 2, 1) := by decide +kernel
theorem dX5_widened_75 : decode cX5_widened 75 = .ok (.aload_n 0, 1) := by decide +kernel
theorem dX5_widened_76 : decode cX5_widened 76 = .ok (.aload_n 0, 1) := by decide +kernel
theorem dX5_widened_77 : decode cX5_widened 77 = .ok (.getfield 15, 3) := by decide +kernel
theorem dX5_widened_80 : decode cX5_widened 80 = .ok (.iload_n 3, 1) := by decide +kernel
theorem dX5_widened_81 : decode cX5_widened 81 = .ok (.iaload, 1) := by decide +kernel
theorem dX5_widened_82 : decode cX5_widened 82 = .ok (.aload_n 0, 1) := by decide +kernel
theorem dX5_widened_83 : decode cX5_widened 83 = .ok (.getfield 18, 3) := by decide +kernel
theorem dX5_widened_86 : decode cX5_widened 86 = .ok (.iload_n 3, 1) := by decide +kernel
theorem dX5_widened_87 : decode cX5_widened 87 = .ok (.iaload, 1) := by decide +kernel
theorem dX5_widened_88 : decode cX5_widened 88 = .ok (.iconst 1, 1) := by decide +kernel
theorem dX5_widened_89 : decode cX5_widened 89 = .ok (.isub, 1) := by decide +kernel
theorem dX5_widened_90 : decode cX5_widened 90 = .ok (.invokevirtual 136, 3) := by decide +kernel
theorem dX5_widened_93 : decode cX5_widened 93 = .ok (.aload_n 0, 1) := by decide +kernel
theorem dX5_widened_94 : decode cX5_widened 94 = .ok (.aload_n 0, 1) := by decide +kernel
theorem dX5_widened_95 : decode cX5_widened 95 = .ok (.getfield 15, 3) := by decide +kernel
theorem dX5_widened_98 : decode cX5_widened 98 = .ok (.iload_n 3, 1) := by decide +kernel
theorem dX5_widened_99 : decode cX5_widened 99 = .ok (.iaload, 1) := by decide +kernel
theorem dX5_widened_100 : decode cX5_widened 100 = .ok (.aload_n 0, 1) := by decide +kernel
theorem dX5_widened_101 : decode cX5_widened 101 = .ok (.getfield 18, 3) := by decide +kernel
theorem dX5_widened_104 : decode cX5_widened 104 = .ok (.iload_n 3, 1) := by decide +kernel
theorem dX5_widened_105 : decode cX5_widened 105 = .ok (.iaload, 1) := by decide +kernel
theorem dX5_widened_106 : decode cX5_widened 106 = .ok (.iconst 1, 1) := by decide +kernel
theorem dX5_widened_107 : decode cX5_widened 107 = .ok (.iadd, 1) := by decide +kernel
theorem dX5_widened_108 : decode cX5_widened 108 = .ok (.invokevirtual 136, 3) := by decide +kernel
theorem dX5_widened_111 : decode cX5_widened 111 = .ok (.ior, 1) := by decide +kernel
theorem dX5_widened_112 : decode cX5_widened 112 = .ok (.ior, 1) := by decide +kernel
theorem dX5_widened_113 : decode cX5_widened 113 = .ok (.istore_n 2, 1) := by decide +kernel
theorem dX5_widened_114 : decode cX5_widened 114 = .ok (.iinc 3 1, 3) := by decide +kernel
theorem dX5_widened_117 : decode cX5_widened 117 = .ok (.goto (-113), 3) := by decide +kernel
theorem dX5_widened_120 : decode cX5_widened 120 = .ok (.iload_n 2, 1) := by decide +kernel
theorem dX5_widened_121 : decode cX5_widened 121 = .ok (.ireturn, 1) := by decide +kernel
theorem dX5_bitOn_0 : decode cX5_bitOn 0 = .ok (.aload_n 0, 1) := by decide +kernel
theorem dX5_bitOn_1 : decode cX5_bitOn 1 = .ok (.iload_n 1, 1) := by decide +kernel
theorem dX5_bitOn_2 : decode cX5_bitOn 2 = .ok (.iload_n 2, 1) := by decide +kernel
theorem dX5_bitOn_3 : decode cX5_bitOn 3 = .ok (.invokevirtual 130, 3) := by decide +kernel
theorem dX5_bitOn_6 : decode cX5_bitOn 6 = .ok (.istore_n 3, 1) := by decide +kernel
theorem dX5_bitOn_7 : decode cX5_bitOn 7 = .ok (.iload_n 3, 1) := by decide +kernel
theorem dX5_bitOn_8 : decode cX5_bitOn 8 = .ok (.iconst (-1), 1) := by decide +kernel
theorem dX5_bitOn_9 : decode cX5_bitOn 9 = .ok (.if_icmp .ne 7, 3) := by decide +kernel
theorem dX5_bitOn_12 : decode cX5_bitOn 12 = .ok (.iconst 0, 1) := by decide +kernel
theorem dX5_bitOn_13 : decode cX5_bitOn 13 = .ok (.goto 6, 3) := by decide +kernel
theorem dX5_bitOn_16 : decode cX5_bitOn 16 = .ok (.iconst 1, 1) := by decide +kernel
theorem dX5_bitOn_17 : decode cX5_bitOn 17 = .ok (.iload_n 3, 1) := by decide +kernel
theorem dX5_bitOn_18 : decode cX5_bitOn 18 = .ok (.ishl, 1) := by decide +kernel
theorem dX5_bitOn_19 : decode cX5_bitOn 19 = .ok (.ireturn, 1) := by decide +kernel
theorem dX5_between_0 : decode cX5_between 0 = .ok (.iload_n 1, 1) := by decide +kernel
theorem dX5_between_1 : decode cX5_between 1 = .ok (.istore 4, 2) := by decide +kernel
theorem dX5_between_3 : decode cX5_between 3 = .ok (.iconst 0, 1) := by decide +kernel
theorem dX5_between_4 : decode cX5_between 4 = .ok (.istore 5, 2) := by decide +kernel
theorem dX5_between_6 : decode cX5_between 6 = .ok (.iload 5, 2) := by decide +kernel
theorem dX5_between_8 : decode cX5_between 8 = .ok (.bipush 8, 2) := by decide +kernel
theorem dX5_between_10 : decode cX5_between 10 = .ok (.if_icmp .ge 34, 3) := by decide +kernel
theorem dX5_between_13 : decode cX5_between 13 = .ok (.aload_n 0, 1) := by decide +kernel
theorem dX5_between_14 : decode cX5_between 14 = .ok (.iload 4, 2) := by decide +kernel
theorem dX5_between_16 : decode cX5_between 16 = .ok (.invokevirtual 139, 3) := by decide +kernel
theorem dX5_between_19 : decode cX5_between 19 = .ok (.iload_n 3, 1) := by decide +kernel
theorem dX5_between_20 : decode cX5_between 20 = .ok (.iconst (-1), 1) := by decide +kernel
theorem dX5_between_21 : decode cX5_between 21 = .ok (.ixor, 1) := by decide +kernel
theorem dX5_between_22 : decode cX5_between 22 = .ok (.iand, 1) := by decide +kernel
theorem dX5_between_23 : decode cX5_between 23 = .ok (.istore 4, 2) := by decide +kernel
theorem dX5_between_25 : decode cX5_between 25 = .ok (.iload 4, 2) := by decide +kernel
theorem dX5_between_27 : decode cX5_between 27 = .ok (.iload_n 2, 1) := by decide +kernel
theorem dX5_between_28 : decode cX5_between 28 = .ok (.ishr, 1) := by decide +kernel
theorem dX5_between_29 : decode cX5_between 29 = .ok (.iconst 1, 1) := by decide +kernel
theorem dX5_between_30 : decode cX5_between 30 = .ok (.iand, 1) := by decide +kernel
theorem dX5_between_31 : decode cX5_between 31 = .ok (.iconst 1, 1) := by decide +kernel
theorem dX5_between_32 : decode cX5_between 32 = .ok (.if_icmp .ne 6, 3) := by decide +kernel
theorem dX5_between_35 : decode cX5_between 35 = .ok (.iload 5, 2) := by decide +kernel
theorem dX5_between_37 : decode cX5_between 37 = .ok (.ireturn, 1) := by decide +kernel
theorem dX5_between_38 : decode cX5_between 38 = .ok (.iinc 5 1, 3) := by decide +kernel
theorem dX5_between_41 : decode cX5_between 41 = .ok (.goto (-35), 3) := by decide +kernel
theorem dX5_between_44 : decode cX5_between 44 = .ok (.iconst (-1), 1) := by decide +kernel
theorem dX5_between_45 : decode cX5_between 45 = .ok (.ireturn, 1) := by decide +kernel
theorem dX5_heapOf_0 : decode cX5_heapOf 0 = .ok (.iconst 1, 1) := by decide +kernel
theorem dX5_heapOf_1 : decode cX5_heapOf 1 = .ok (.iload_n 1, 1) := by decide +kernel
theorem dX5_heapOf_2 : decode cX5_heapOf 2 = .ok (.ishl, 1) := by decide +kernel
theorem dX5_heapOf_3 : decode cX5_heapOf 3 = .ok (.istore_n 2, 1) := by decide +kernel
theorem dX5_heapOf_4 : decode cX5_heapOf 4 = .ok (.iconst 0, 1) := by decide +kernel
theorem dX5_heapOf_5 : decode cX5_heapOf 5 = .ok (.istore_n 3, 1) := by decide +kernel
theorem dX5_heapOf_6 : decode cX5_heapOf 6 = .ok (.iload_n 3, 1) := by decide +kernel
theorem dX5_heapOf_7 : decode cX5_heapOf 7 = .ok (.bipush 8, 2) := by decide +kernel
theorem dX5_heapOf_9 : decode cX5_heapOf 9 = .ok (.if_icmp .ge 15, 3) := by decide +kernel
theorem dX5_heapOf_12 : decode cX5_heapOf 12 = .ok (.aload_n 0, 1) := by decide +kernel
theorem dX5_heapOf_13 : decode cX5_heapOf 13 = .ok (.iload_n 2, 1) := by decide +kernel
theorem dX5_heapOf_14 : decode cX5_heapOf 14 = .ok (.invokevirtual 139, 3) := by decide +kernel
theorem dX5_heapOf_17 : decode cX5_heapOf 17 = .ok (.istore_n 2, 1) := by decide +kernel
theorem dX5_heapOf_18 : decode cX5_heapOf 18 = .ok (.iinc 3 1, 3) := by decide +kernel
theorem dX5_heapOf_21 : decode cX5_heapOf 21 = .ok (.goto (-15), 3) := by decide +kernel
theorem dX5_heapOf_24 : decode cX5_heapOf 24 = .ok (.iload_n 2, 1) := by decide +kernel
theorem dX5_heapOf_25 : decode cX5_heapOf 25 = .ok (.ireturn, 1) := by decide +kernel
theorem dX6_init_0 : decode cX6_init 0 = .ok (.aload_n 0, 1) := by decide +kernel
theorem dX6_init_1 : decode cX6_init 1 = .ok (.invokespecial 3, 3) := by decide +kernel
theorem dX6_init_4 : decode cX6_init 4 = .ok (.aload_n 0, 1) := by decide +kernel
theorem dX6_init_5 : decode cX6_init 5 = .ok (.iconst (-1), 1) := by decide +kernel
theorem dX6_init_6 : decode cX6_init 6 = .ok (.putfield 9, 3) := by decide +kernel
theorem dX6_init_9 : decode cX6_init 9 = .ok (.aload_n 0, 1) := by decide +kernel
theorem dX6_init_10 : decode cX6_init 10 = .ok (.iconst 0, 1) := by decide +kernel
theorem dX6_init_11 : decode cX6_init 11 = .ok (.putfield 15, 3) := by decide +kernel
theorem dX6_init_14 : decode cX6_init 14 = .ok (.aload_n 0, 1) := by decide +kernel
theorem dX6_init_15 : decode cX6_init 15 = .ok (.bipush 30, 2) := by decide +kernel
theorem dX6_init_17 : decode cX6_init 17 = .ok (.newarray .long, 2) := by decide +kernel
theorem dX6_init_19 : decode cX6_init 19 = .ok (.putfield 18, 3) := by decide +kernel
theorem dX6_init_22 : decode cX6_init 22 = .ok (.return_, 1) := by decide +kernel
theorem dX6_isMissing_0 : decode cX6_isMissing 0 = .ok (.aload_n 0, 1) := by decide +kernel
theorem dX6_isMissing_1 : decode cX6_isMissing 1 = .ok (.getfield 9, 3) := by decide +kernel
theorem dX6_isMissing_4 : decode cX6_isMissing 4 = .ok (.iconst (-1), 1) := by decide +kernel
theorem dX6_isMissing_5 : decode cX6_isMissing 5 = .ok (.if_icmp .ne 7, 3) := by decide +kernel
theorem dX6_isMissing_8 : decode cX6_isMissing 8 = .ok (.iconst 1, 1) := by decide +kernel
theorem dX6_isMissing_9 : decode cX6_isMissing 9 = .ok (.goto 4, 3) := by decide +kernel
theorem dX6_isMissing_12 : decode cX6_isMissing 12 = .ok (.iconst 0, 1) := by decide +kernel
theorem dX6_isMissing_13 : decode cX6_isMissing 13 = .ok (.ireturn, 1) := by decide +kernel
theorem dX6_lay_0 : decode cX6_lay 0 = .ok (.aload_n 0, 1) := by decide +kernel
theorem dX6_lay_1 : decode cX6_lay 1 = .ok (.iload_n 1, 1) := by decide +kernel
theorem dX6_lay_2 : decode cX6_lay 2 = .ok (.putfield 9, 3) := by decide +kernel
theorem dX6_lay_5 : decode cX6_lay 5 = .ok (.aload_n 0, 1) := by decide +kernel
theorem dX6_lay_6 : decode cX6_lay 6 = .ok (.iload_n 2, 1) := by decide +kernel
theorem dX6_lay_7 : decode cX6_lay 7 = .ok (.putfield 15, 3) := by decide +kernel
theorem dX6_lay_10 : decode cX6_lay 10 = .ok (.aload_n 0, 1) := by decide +kernel
theorem dX6_lay_11 : decode cX6_lay 11 = .ok (.getfield 18, 3) := by decide +kernel
theorem dX6_lay_14 : decode cX6_lay 14 = .ok (.lconst 0, 1) := by decide +kernel
theorem dX6_lay_15 : decode cX6_lay 15 = .ok (.invokestatic 22, 3) := by decide +kernel
theorem dX6_lay_18 : decode cX6_lay 18 = .ok (.return_, 1) := by decide +kernel
theorem dX6_put_0 : decode cX6_put 0 = .ok (.lload_n 2, 1) := by decide +kernel
theorem dX6_put_1 : decode cX6_put 1 = .ok (.lstore 4, 2) := by decide +kernel
theorem dX6_put_3 : decode cX6_put 3 = .ok (.aload_n 0, 1) := by decide +kernel
theorem dX6_put_4 : decode cX6_put 4 = .ok (.getfield 9, 3) := by decide +kernel
theorem dX6_put_7 : decode cX6_put 7 = .ok (.ifCond .ne 12, 3) := by decide +kernel
theorem dX6_put_10 : decode cX6_put 10 = .ok (.lload_n 2, 1) := by decide +kernel
theorem dX6_put_11 : decode cX6_put 11 = .ok (.l2i, 1) := by decide +kernel
theorem dX6_put_12 : decode cX6_put 12 = .ok (.i2b, 1) := by decide +kernel
theorem dX6_put_13 : decode cX6_put 13 = .ok (.i2l, 1) := by decide +kernel
theorem dX6_put_14 : decode cX6_put 14 = .ok (.lstore 4, 2) := by decide +kernel
theorem dX6_put_16 : decode cX6_put 16 = .ok (.goto 33, 3) := by decide +kernel
theorem dX6_put_19 : decode cX6_put 19 = .ok (.aload_n 0, 1) := by decide +kernel
theorem dX6_put_20 : decode cX6_put 20 = .ok (.getfield 9, 3) := by decide +kernel
theorem dX6_put_23 : decode cX6_put 23 = .ok (.iconst 1, 1) := by decide +kernel
theorem dX6_put_24 : decode cX6_put 24 = .ok (.if_icmp .ne 12, 3) := by decide +kernel
theorem dX6_put_27 : decode cX6_put 27 = .ok (.lload_n 2, 1) := by decide +kernel
theorem dX6_put_28 : decode cX6_put 28 = .ok (.l2i, 1) := by decide +kernel
theorem dX6_put_29 : decode cX6_put 29 = .ok (.i2s, 1) := by decide +kernel
theorem dX6_put_30 : decode cX6_put 30 = .ok (.i2l, 1) := by decide +kernel
theorem dX6_put_31 : decode cX6_put 31 = .ok (.lstore 4, 2) := by decide +kernel
theorem dX6_put_33 : decode cX6_put 33 = .ok (.goto 16, 3) := by decide +kernel
theorem dX6_put_36 : decode cX6_put 36 = .ok (.aload_n 0, 1) := by decide +kernel
theorem dX6_put_37 : decode cX6_put 37 = .ok (.getfield 9, 3) := by decide +kernel
theorem dX6_put_40 : decode cX6_put 40 = .ok (.iconst 2, 1) := by decide +kernel
theorem dX6_put_41 : decode cX6_put 41 = .ok (.if_icmp .ne 8, 3) := by decide +kernel
theorem dX6_put_44 : decode cX6_put 44 = .ok (.lload_n 2, 1) := by decide +kernel
theorem dX6_put_45 : decode cX6_put 45 = .ok (.l2i, 1) := by decide +kernel
theorem dX6_put_46 : decode cX6_put 46 = .ok (.i2l, 1) := by decide +kernel
theorem dX6_put_47 : decode cX6_put 47 = .ok (.lstore 4, 2) := by decide +kernel
theorem dX6_put_49 : decode cX6_put 49 = .ok (.iload_n 1, 1) := by decide +kernel
theorem dX6_put_50 : decode cX6_put 50 = .ok (.ifCond .lt 19, 3) := by decide +kernel
theorem dX6_put_53 : decode cX6_put 53 = .ok (.iload_n 1, 1) := by decide +kernel
theorem dX6_put_54 : decode cX6_put 54 = .ok (.aload_n 0, 1) := by decide +kernel
theorem dX6_put_55 : decode cX6_put 55 = .ok (.getfield 15, 3) := by decide +kernel
theorem dX6_put_58 : decode cX6_put 58 = .ok (.if_icmp .ge 11, 3) := by decide +kernel
theorem dX6_put_61 : decode cX6_put 61 = .ok (.aload_n 0, 1) := by decide +kernel
theorem dX6_put_62 : decode cX6_put 62 = .ok (.getfield 18, 3) := by decide +kernel
theorem dX6_put_65 : decode cX6_put 65 = .ok (.iload_n 1, 1) := by decide +kernel
theorem dX6_put_66 : decode cX6_put 66 = .ok (.lload 4, 2) := by decide +kernel
theorem dX6_put_68 : decode cX6_put 68 = .ok (.lastore, 1) := by decide +kernel
theorem dX6_put_69 : decode cX6_put 69 = .ok (.lload 4, 2) := by decide +kernel
theorem dX6_put_71 : decode cX6_put 71 = .ok (.lreturn, 1) := by decide +kernel
