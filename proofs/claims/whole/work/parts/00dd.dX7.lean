theorem dX7_init_0 : decode cX7_init 0 = .ok (.aload_n 0, 1) := by decide +kernel
theorem dX7_init_1 : decode cX7_init 1 = .ok (.invokespecial 1, 3) := by decide +kernel
theorem dX7_init_4 : decode cX7_init 4 = .ok (.aload_n 0, 1) := by decide +kernel
theorem dX7_init_5 : decode cX7_init 5 = .ok (.sipush 900, 3) := by decide +kernel
theorem dX7_init_8 : decode cX7_init 8 = .ok (.newarray .int, 2) := by decide +kernel
theorem dX7_init_10 : decode cX7_init 10 = .ok (.putfield 9, 3) := by decide +kernel
theorem dX7_init_13 : decode cX7_init 13 = .ok (.aload_n 0, 1) := by decide +kernel
theorem dX7_init_14 : decode cX7_init 14 = .ok (.iconst 0, 1) := by decide +kernel
theorem dX7_init_15 : decode cX7_init 15 = .ok (.putfield 13, 3) := by decide +kernel
theorem dX7_init_18 : decode cX7_init 18 = .ok (.aload_n 0, 1) := by decide +kernel
theorem dX7_init_19 : decode cX7_init 19 = .ok (.iconst 0, 1) := by decide +kernel
theorem dX7_init_20 : decode cX7_init 20 = .ok (.putfield 17, 3) := by decide +kernel
theorem dX7_init_23 : decode cX7_init 23 = .ok (.aload_n 0, 1) := by decide +kernel
theorem dX7_init_24 : decode cX7_init 24 = .ok (.iconst (-1), 1) := by decide +kernel
theorem dX7_init_25 : decode cX7_init 25 = .ok (.putfield 20, 3) := by decide +kernel
theorem dX7_init_28 : decode cX7_init 28 = .ok (.aload_n 0, 1) := by decide +kernel
theorem dX7_init_29 : decode cX7_init 29 = .ok (.iconst 4, 1) := by decide +kernel
theorem dX7_init_30 : decode cX7_init 30 = .ok (.anewarray 23, 3) := by decide +kernel
theorem dX7_init_33 : decode cX7_init 33 = .ok (.putfield 25, 3) := by decide +kernel
theorem dX7_init_36 : decode cX7_init 36 = .ok (.aload_n 0, 1) := by decide +kernel
theorem dX7_init_37 : decode cX7_init 37 = .ok (.iconst 3, 1) := by decide +kernel
theorem dX7_init_38 : decode cX7_init 38 = .ok (.anewarray 29, 3) := by decide +kernel
theorem dX7_init_41 : decode cX7_init 41 = .ok (.putfield 31, 3) := by decide +kernel
theorem dX7_init_44 : decode cX7_init 44 = .ok (.aload_n 0, 1) := by decide +kernel
theorem dX7_init_45 : decode cX7_init 45 = .ok (.iconst 5, 1) := by decide +kernel
theorem dX7_init_46 : decode cX7_init 46 = .ok (.anewarray 35, 3) := by decide +kernel
theorem dX7_init_49 : decode cX7_init 49 = .ok (.putfield 37, 3) := by decide +kernel
theorem dX7_init_52 : decode cX7_init 52 = .ok (.aload_n 0, 1) := by decide +kernel
theorem dX7_init_53 : decode cX7_init 53 = .ok (.iconst 5, 1) := by decide +kernel
theorem dX7_init_54 : decode cX7_init 54 = .ok (.newarray .int, 2) := by decide +kernel
theorem dX7_init_56 : decode cX7_init 56 = .ok (.putfield 41, 3) := by decide +kernel
theorem dX7_init_59 : decode cX7_init 59 = .ok (.aload_n 0, 1) := by decide +kernel
theorem dX7_init_60 : decode cX7_init 60 = .ok (.bipush 8, 2) := by decide +kernel
theorem dX7_init_62 : decode cX7_init 62 = .ok (.newarray .int, 2) := by decide +kernel
theorem dX7_init_64 : decode cX7_init 64 = .ok (.putfield 44, 3) := by decide +kernel
theorem dX7_init_67 : decode cX7_init 67 = .ok (.aload_n 0, 1) := by decide +kernel
theorem dX7_init_68 : decode cX7_init 68 = .ok (.bipush 60, 2) := by decide +kernel
theorem dX7_init_70 : decode cX7_init 70 = .ok (.newarray .int, 2) := by decide +kernel
theorem dX7_init_72 : decode cX7_init 72 = .ok (.putfield 47, 3) := by decide +kernel
theorem dX7_init_75 : decode cX7_init 75 = .ok (.aload_n 0, 1) := by decide +kernel
theorem dX7_init_76 : decode cX7_init 76 = .ok (.bipush 28, 2) := by decide +kernel
theorem dX7_init_78 : decode cX7_init 78 = .ok (.newarray .int, 2) := by decide +kernel
theorem dX7_init_80 : decode cX7_init 80 = .ok (.putfield 50, 3) := by decide +kernel
theorem dX7_init_83 : decode cX7_init 83 = .ok (.aload_n 0, 1) := by decide +kernel
theorem dX7_init_84 : decode cX7_init 84 = .ok (.sipush 224, 3) := by decide +kernel
theorem dX7_init_87 : decode cX7_init 87 = .ok (.newarray .int, 2) := by decide +kernel
theorem dX7_init_89 : decode cX7_init 89 = .ok (.putfield 53, 3) := by decide +kernel
theorem dX7_init_92 : decode cX7_init 92 = .ok (.aload_n 0, 1) := by decide +kernel
theorem dX7_init_93 : decode cX7_init 93 = .ok (.iconst 0, 1) := by decide +kernel
theorem dX7_init_94 : decode cX7_init 94 = .ok (.putfield 56, 3) := by decide +kernel
theorem dX7_init_97 : decode cX7_init 97 = .ok (.new 59, 3) := by decide +kernel
theorem dX7_init_100 : decode cX7_init 100 = .ok (.dup, 1) := by decide +kernel
theorem dX7_init_101 : decode cX7_init 101 = .ok (.invokespecial 61, 3) := by decide +kernel
theorem dX7_init_104 : decode cX7_init 104 = .ok (.astore_n 1, 1) := by decide +kernel
theorem dX7_init_105 : decode cX7_init 105 = .ok (.aload_n 0, 1) := by decide +kernel
theorem dX7_init_106 : decode cX7_init 106 = .ok (.new 35, 3) := by decide +kernel
theorem dX7_init_109 : decode cX7_init 109 = .ok (.dup, 1) := by decide +kernel
theorem dX7_init_110 : decode cX7_init 110 = .ok (.aload_n 1, 1) := by decide +kernel
theorem dX7_init_111 : decode cX7_init 111 = .ok (.invokespecial 62, 3) := by decide +kernel
theorem dX7_init_114 : decode cX7_init 114 = .ok (.putfield 65, 3) := by decide +kernel
theorem dX7_init_117 : decode cX7_init 117 = .ok (.aload_n 0, 1) := by decide +kernel
theorem dX7_init_118 : decode cX7_init 118 = .ok (.new 69, 3) := by decide +kernel
theorem dX7_init_121 : decode cX7_init 121 = .ok (.dup, 1) := by decide +kernel
theorem dX7_init_122 : decode cX7_init 122 = .ok (.aload_n 1, 1) := by decide +kernel
theorem dX7_init_123 : decode cX7_init 123 = .ok (.invokespecial 71, 3) := by decide +kernel
theorem dX7_init_126 : decode cX7_init 126 = .ok (.putfield 72, 3) := by decide +kernel
theorem dX7_init_129 : decode cX7_init 129 = .ok (.aload_n 0, 1) := by decide +kernel
theorem dX7_init_130 : decode cX7_init 130 = .ok (.new 76, 3) := by decide +kernel
theorem dX7_init_133 : decode cX7_init 133 = .ok (.dup, 1) := by decide +kernel
theorem dX7_init_134 : decode cX7_init 134 = .ok (.new 35, 3) := by decide +kernel
theorem dX7_init_137 : decode cX7_init 137 = .ok (.dup, 1) := by decide +kernel
theorem dX7_init_138 : decode cX7_init 138 = .ok (.aload_n 1, 1) := by decide +kernel
theorem dX7_init_139 : decode cX7_init 139 = .ok (.invokespecial 62, 3) := by decide +kernel
theorem dX7_init_142 : decode cX7_init 142 = .ok (.invokespecial 78, 3) := by decide +kernel
theorem dX7_init_145 : decode cX7_init 145 = .ok (.putfield 81, 3) := by decide +kernel
theorem dX7_init_148 : decode cX7_init 148 = .ok (.iconst 0, 1) := by decide +kernel
theorem dX7_init_149 : decode cX7_init 149 = .ok (.istore_n 2, 1) := by decide +kernel
theorem dX7_init_150 : decode cX7_init 150 = .ok (.iload_n 2, 1) := by decide +kernel
theorem dX7_init_151 : decode cX7_init 151 = .ok (.iconst 4, 1) := by decide +kernel
theorem dX7_init_152 : decode cX7_init 152 = .ok (.if_icmp .ge 22, 3) := by decide +kernel
theorem dX7_init_155 : decode cX7_init 155 = .ok (.aload_n 0, 1) := by decide +kernel
theorem dX7_init_156 : decode cX7_init 156 = .ok (.getfield 25, 3) := by decide +kernel
theorem dX7_init_159 : decode cX7_init 159 = .ok (.iload_n 2, 1) := by decide +kernel
theorem dX7_init_160 : decode cX7_init 160 = .ok (.new 23, 3) := by decide +kernel
theorem dX7_init_163 : decode cX7_init 163 = .ok (.dup, 1) := by decide +kernel
theorem dX7_init_164 : decode cX7_init 164 = .ok (.invokespecial 85, 3) := by decide +kernel
theorem dX7_init_167 : decode cX7_init 167 = .ok (.aastore, 1) := by decide +kernel
theorem dX7_init_168 : decode cX7_init 168 = .ok (.iinc 2 1, 3) := by decide +kernel
theorem dX7_init_171 : decode cX7_init 171 = .ok (.goto (-21), 3) := by decide +kernel
theorem dX7_init_174 : decode cX7_init 174 = .ok (.iconst 0, 1) := by decide +kernel
theorem dX7_init_175 : decode cX7_init 175 = .ok (.istore_n 2, 1) := by decide +kernel
theorem dX7_init_176 : decode cX7_init 176 = .ok (.iload_n 2, 1) := by decide +kernel
theorem dX7_init_177 : decode cX7_init 177 = .ok (.iconst 5, 1) := by decide +kernel
theorem dX7_init_178 : decode cX7_init 178 = .ok (.if_icmp .ge 23, 3) := by decide +kernel
theorem dX7_init_181 : decode cX7_init 181 = .ok (.aload_n 0, 1) := by decide +kernel
theorem dX7_init_182 : decode cX7_init 182 = .ok (.getfield 37, 3) := by decide +kernel
theorem dX7_init_185 : decode cX7_init 185 = .ok (.iload_n 2, 1) := by decide +kernel
theorem dX7_init_186 : decode cX7_init 186 = .ok (.new 35, 3) := by decide +kernel
theorem dX7_init_189 : decode cX7_init 189 = .ok (.dup, 1) := by decide +kernel
theorem dX7_init_190 : decode cX7_init 190 = .ok (.aload_n 1, 1) := by decide +kernel
theorem dX7_init_191 : decode cX7_init 191 = .ok (.invokespecial 62, 3) := by decide +kernel
theorem dX7_init_194 : decode cX7_init 194 = .ok (.aastore, 1) := by decide +kernel
theorem dX7_init_195 : decode cX7_init 195 = .ok (.iinc 2 1, 3) := by decide +kernel
theorem dX7_init_198 : decode cX7_init 198 = .ok (.goto (-22), 3) := by decide +kernel
theorem dX7_init_201 : decode cX7_init 201 = .ok (.return_, 1) := by decide +kernel
theorem dX7_feed_0 : decode cX7_feed 0 = .ok (.aload_n 0, 1) := by decide +kernel
theorem dX7_feed_1 : decode cX7_feed 1 = .ok (.getfield 13, 3) := by decide +kernel
theorem dX7_feed_4 : decode cX7_feed 4 = .ok (.bipush 20, 2) := by decide +kernel
theorem dX7_feed_6 : decode cX7_feed 6 = .ok (.iadd, 1) := by decide +kernel
theorem dX7_feed_7 : decode cX7_feed 7 = .ok (.sipush 900, 3) := by decide +kernel
theorem dX7_feed_10 : decode cX7_feed 10 = .ok (.if_icmp .le 5, 3) := by decide +kernel
theorem dX7_feed_13 : decode cX7_feed 13 = .ok (.iconst (-1), 1) := by decide +kernel
theorem dX7_feed_14 : decode cX7_feed 14 = .ok (.ireturn, 1) := by decide +kernel
theorem dX7_feed_15 : decode cX7_feed 15 = .ok (.aload_n 0, 1) := by decide +kernel
theorem dX7_feed_16 : decode cX7_feed 16 = .ok (.iload_n 1, 1) := by decide +kernel
theorem dX7_feed_17 : decode cX7_feed 17 = .ok (.invokevirtual 86, 3) := by decide +kernel
theorem dX7_feed_20 : decode cX7_feed 20 = .ok (.aload_n 0, 1) := by decide +kernel
theorem dX7_feed_21 : decode cX7_feed 21 = .ok (.iload_n 2, 1) := by decide +kernel
theorem dX7_feed_22 : decode cX7_feed 22 = .ok (.invokevirtual 86, 3) := by decide +kernel
theorem dX7_feed_25 : decode cX7_feed 25 = .ok (.aload_n 0, 1) := by decide +kernel
theorem dX7_feed_26 : decode cX7_feed 26 = .ok (.iload_n 3, 1) := by decide +kernel
theorem dX7_feed_27 : decode cX7_feed 27 = .ok (.invokevirtual 86, 3) := by decide +kernel
theorem dX7_feed_30 : decode cX7_feed 30 = .ok (.aload_n 0, 1) := by decide +kernel
theorem dX7_feed_31 : decode cX7_feed 31 = .ok (.iload 4, 2) := by decide +kernel
theorem dX7_feed_33 : decode cX7_feed 33 = .ok (.invokevirtual 86, 3) := by decide +kernel
theorem dX7_feed_36 : decode cX7_feed 36 = .ok (.aload_n 0, 1) := by decide +kernel
theorem dX7_feed_37 : decode cX7_feed 37 = .ok (.iload 5, 2) := by decide +kernel
theorem dX7_feed_39 : decode cX7_feed 39 = .ok (.invokevirtual 86, 3) := by decide +kernel
theorem dX7_feed_42 : decode cX7_feed 42 = .ok (.aload_n 0, 1) := by decide +kernel
theorem dX7_feed_43 : decode cX7_feed 43 = .ok (.getfield 13, 3) := by decide +kernel
theorem dX7_feed_46 : decode cX7_feed 46 = .ok (.ireturn, 1) := by decide +kernel
theorem dX7_beach_0 : decode cX7_beach 0 = .ok (.aload_n 0, 1) := by decide +kernel
theorem dX7_beach_1 : decode cX7_beach 1 = .ok (.iload_n 1, 1) := by decide +kernel
theorem dX7_beach_2 : decode cX7_beach 2 = .ok (.iconst 0, 1) := by decide +kernel
theorem dX7_beach_3 : decode cX7_beach 3 = .ok (.aload_n 0, 1) := by decide +kernel
theorem dX7_beach_4 : decode cX7_beach 4 = .ok (.getfield 13, 3) := by decide +kernel
theorem dX7_beach_7 : decode cX7_beach 7 = .ok (.invokevirtual 90, 3) := by decide +kernel
theorem dX7_beach_10 : decode cX7_beach 10 = .ok (.aload_n 0, 1) := by decide +kernel
theorem dX7_beach_11 : decode cX7_beach 11 = .ok (.getfield 81, 3) := by decide +kernel
theorem dX7_beach_14 : decode cX7_beach 14 = .ok (.aload_n 0, 1) := by decide +kernel
theorem dX7_beach_15 : decode cX7_beach 15 = .ok (.getfield 9, 3) := by decide +kernel
theorem dX7_beach_18 : decode cX7_beach 18 = .ok (.iload_n 1, 1) := by decide +kernel
theorem dX7_beach_19 : decode cX7_beach 19 = .ok (.invokevirtual 94, 3) := by decide +kernel
theorem dX7_beach_22 : decode cX7_beach 22 = .ok (.iconst 0, 1) := by decide +kernel
theorem dX7_beach_23 : decode cX7_beach 23 = .ok (.istore_n 2, 1) := by decide +kernel
theorem dX7_beach_24 : decode cX7_beach 24 = .ok (.iload_n 2, 1) := by decide +kernel
theorem dX7_beach_25 : decode cX7_beach 25 = .ok (.sipush 900, 3) := by decide +kernel
theorem dX7_beach_28 : decode cX7_beach 28 = .ok (.if_icmp .ge 26, 3) := by decide +kernel
theorem dX7_beach_31 : decode cX7_beach 31 = .ok (.aload_n 0, 1) := by decide +kernel
theorem dX7_beach_32 : decode cX7_beach 32 = .ok (.getfield 81, 3) := by decide +kernel
theorem dX7_beach_35 : decode cX7_beach 35 = .ok (.invokevirtual 98, 3) := by decide +kernel
theorem dX7_beach_38 : decode cX7_beach 38 = .ok (.ifCond .eq 16, 3) := by decide +kernel
theorem dX7_beach_41 : decode cX7_beach 41 = .ok (.aload_n 0, 1) := by decide +kernel
theorem dX7_beach_42 : decode cX7_beach 42 = .ok (.getfield 81, 3) := by decide +kernel
theorem dX7_beach_45 : decode cX7_beach 45 = .ok (.invokevirtual 102, 3) := by decide +kernel
theorem dX7_beach_48 : decode cX7_beach 48 = .ok (.iinc 2 1, 3) := by decide +kernel
theorem dX7_beach_51 : decode cX7_beach 51 = .ok (.goto (-27), 3) := by decide +kernel
theorem dX7_beach_54 : decode cX7_beach 54 = .ok (.aload_n 0, 1) := by decide +kernel
theorem dX7_beach_55 : decode cX7_beach 55 = .ok (.iconst 0, 1) := by decide +kernel
theorem dX7_beach_56 : decode cX7_beach 56 = .ok (.putfield 13, 3) := by decide +kernel
theorem dX7_beach_59 : decode cX7_beach 59 = .ok (.aload_n 0, 1) := by decide +kernel
theorem dX7_beach_60 : decode cX7_beach 60 = .ok (.aload_n 0, 1) := by decide +kernel
theorem dX7_beach_61 : decode cX7_beach 61 = .ok (.getfield 81, 3) := by decide +kernel
theorem dX7_beach_64 : decode cX7_beach 64 = .ok (.getfield 105, 3) := by decide +kernel
theorem dX7_beach_67 : decode cX7_beach 67 = .ok (.putfield 17, 3) := by decide +kernel
theorem dX7_beach_70 : decode cX7_beach 70 = .ok (.aload_n 0, 1) := by decide +kernel
theorem dX7_beach_71 : decode cX7_beach 71 = .ok (.aload_n 0, 1) := by decide +kernel
theorem dX7_beach_72 : decode cX7_beach 72 = .ok (.getfield 81, 3) := by decide +kernel
theorem dX7_beach_75 : decode cX7_beach 75 = .ok (.getfield 108, 3) := by decide +kernel
theorem dX7_beach_78 : decode cX7_beach 78 = .ok (.putfield 20, 3) := by decide +kernel
theorem dX7_beach_81 : decode cX7_beach 81 = .ok (.aload_n 0, 1) := by decide +kernel
theorem dX7_beach_82 : decode cX7_beach 82 = .ok (.getfield 17, 3) := by decide +kernel
theorem dX7_beach_85 : decode cX7_beach 85 = .ok (.ifCond .eq 11, 3) := by decide +kernel
theorem dX7_beach_88 : decode cX7_beach 88 = .ok (.bipush (-10), 2) := by decide +kernel
theorem dX7_beach_90 : decode cX7_beach 90 = .ok (.aload_n 0, 1) := by decide +kernel
theorem dX7_beach_91 : decode cX7_beach 91 = .ok (.getfield 17, 3) := by decide +kernel
theorem dX7_beach_94 : decode cX7_beach 94 = .ok (.isub, 1) := by decide +kernel
theorem dX7_beach_95 : decode cX7_beach 95 = .ok (.ireturn, 1) := by decide +kernel
theorem dX7_beach_96 : decode cX7_beach 96 = .ok (.aload_n 0, 1) := by decide +kernel
theorem dX7_beach_97 : decode cX7_beach 97 = .ok (.getfield 65, 3) := by decide +kernel
theorem dX7_beach_100 : decode cX7_beach 100 = .ok (.aload_n 0, 1) := by decide +kernel
theorem dX7_beach_101 : decode cX7_beach 101 = .ok (.getfield 81, 3) := by decide +kernel
theorem dX7_beach_104 : decode cX7_beach 104 = .ok (.getfield 111, 3) := by decide +kernel
theorem dX7_beach_107 : decode cX7_beach 107 = .ok (.invokevirtual 114, 3) := by decide +kernel
theorem dX7_beach_110 : decode cX7_beach 110 = .ok (.aload_n 0, 1) := by decide +kernel
theorem dX7_beach_111 : decode cX7_beach 111 = .ok (.getfield 72, 3) := by decide +kernel
theorem dX7_beach_114 : decode cX7_beach 114 = .ok (.invokevirtual 117, 3) := by decide +kernel
theorem dX7_beach_117 : decode cX7_beach 117 = .ok (.aload_n 0, 1) := by decide +kernel
theorem dX7_beach_118 : decode cX7_beach 118 = .ok (.getfield 65, 3) := by decide +kernel
theorem dX7_beach_121 : decode cX7_beach 121 = .ok (.getfield 120, 3) := by decide +kernel
theorem dX7_beach_124 : decode cX7_beach 124 = .ok (.getfield 124, 3) := by decide +kernel
theorem dX7_beach_127 : decode cX7_beach 127 = .ok (.ireturn, 1) := by decide +kernel
theorem dX7_fault_0 : decode cX7_fault 0 = .ok (.iload_n 1, 1) := by decide +kernel
theorem dX7_fault_1 : decode cX7_fault 1 = .ok (.ifCond .ne 8, 3) := by decide +kernel
theorem dX7_fault_4 : decode cX7_fault 4 = .ok (.aload_n 0, 1) := by decide +kernel
theorem dX7_fault_5 : decode cX7_fault 5 = .ok (.getfield 17, 3) := by decide +kernel
theorem dX7_fault_8 : decode cX7_fault 8 = .ok (.ireturn, 1) := by decide +kernel
theorem dX7_fault_9 : decode cX7_fault 9 = .ok (.iload_n 1, 1) := by decide +kernel
theorem dX7_fault_10 : decode cX7_fault 10 = .ok (.iconst 1, 1) := by decide +kernel
theorem dX7_fault_11 : decode cX7_fault 11 = .ok (.if_icmp .ne 10, 3) := by decide +kernel
theorem dX7_fault_14 : decode cX7_fault 14 = .ok (.aload_n 0, 1) := by decide +kernel
theorem dX7_fault_15 : decode cX7_fault 15 = .ok (.getfield 20, 3) := by decide +kernel
theorem dX7_fault_18 : decode cX7_fault 18 = .ok (.goto 4, 3) := by decide +kernel
theorem dX7_fault_21 : decode cX7_fault 21 = .ok (.iconst (-1), 1) := by decide +kernel
theorem dX7_fault_22 : decode cX7_fault 22 = .ok (.ireturn, 1) := by decide +kernel
theorem dX7_chair_0 : decode cX7_chair 0 = .ok (.aload_n 0, 1) := by decide +kernel
theorem dX7_chair_1 : decode cX7_chair 1 = .ok (.iload_n 1, 1) := by decide +kernel
theorem dX7_chair_2 : decode cX7_chair 2 = .ok (.iload_n 2, 1) := by decide +kernel
theorem dX7_chair_3 : decode cX7_chair 3 = .ok (.invokevirtual 127, 3) := by decide +kernel
theorem dX7_chair_6 : decode cX7_chair 6 = .ok (.aload_n 0, 1) := by decide +kernel
theorem dX7_chair_7 : decode cX7_chair 7 = .ok (.getfield 65, 3) := by decide +kernel
theorem dX7_chair_10 : decode cX7_chair 10 = .ok (.iload_n 1, 1) := by decide +kernel
theorem dX7_chair_11 : decode cX7_chair 11 = .ok (.iload_n 2, 1) := by decide +kernel
theorem dX7_chair_12 : decode cX7_chair 12 = .ok (.invokevirtual 131, 3) := by decide +kernel
theorem dX7_chair_15 : decode cX7_chair 15 = .ok (.ireturn, 1) := by decide +kernel
theorem dX7_person_0 : decode cX7_person 0 = .ok (.aload_n 0, 1) := by decide +kernel
theorem dX7_person_1 : decode cX7_person 1 = .ok (.iload_n 1, 1) := by decide +kernel
theorem dX7_person_2 : decode cX7_person 2 = .ok (.invokevirtual 135, 3) := by decide +kernel
theorem dX7_person_5 : decode cX7_person 5 = .ok (.aload_n 0, 1) := by decide +kernel
theorem dX7_person_6 : decode cX7_person 6 = .ok (.iload_n 2, 1) := by decide +kernel
theorem dX7_person_7 : decode cX7_person 7 = .ok (.iconst 0, 1) := by decide +kernel
theorem dX7_person_8 : decode cX7_person 8 = .ok (.bipush 7, 2) := by decide +kernel
theorem dX7_person_10 : decode cX7_person 10 = .ok (.invokevirtual 90, 3) := by decide +kernel
theorem dX7_person_13 : decode cX7_person 13 = .ok (.aload_n 0, 1) := by decide +kernel
theorem dX7_person_14 : decode cX7_person 14 = .ok (.getfield 65, 3) := by decide +kernel
theorem dX7_person_17 : decode cX7_person 17 = .ok (.getfield 120, 3) := by decide +kernel
theorem dX7_person_20 : decode cX7_person 20 = .ok (.astore_n 3, 1) := by decide +kernel
theorem dX7_person_21 : decode cX7_person 21 = .ok (.iload_n 2, 1) := by decide +kernel
theorem dX7_person_22 : decode cX7_person 22 = .ok (.tableswitch 104 0 6 #[42, 52, 62, 69, 78, 90, 97], 42) := by decide +kernel
theorem dX7_person_64 : decode cX7_person 64 = .ok (.aload_n 0, 1) := by decide +kernel
theorem dX7_person_65 : decode cX7_person 65 = .ok (.getfield 65, 3) := by decide +kernel
theorem dX7_person_68 : decode cX7_person 68 = .ok (.getfield 138, 3) := by decide +kernel
theorem dX7_person_71 : decode cX7_person 71 = .ok (.iload_n 1, 1) := by decide +kernel
theorem dX7_person_72 : decode cX7_person 72 = .ok (.iaload, 1) := by decide +kernel
theorem dX7_person_73 : decode cX7_person 73 = .ok (.ireturn, 1) := by decide +kernel
theorem dX7_person_74 : decode cX7_person 74 = .ok (.aload_n 0, 1) := by decide +kernel
theorem dX7_person_75 : decode cX7_person 75 = .ok (.getfield 65, 3) := by decide +kernel
theorem dX7_person_78 : decode cX7_person 78 = .ok (.getfield 141, 3) := by decide +kernel
theorem dX7_person_81 : decode cX7_person 81 = .ok (.iload_n 1, 1) := by decide +kernel
theorem dX7_person_82 : decode cX7_person 82 = .ok (.iaload, 1) := by decide +kernel
theorem dX7_person_83 : decode cX7_person 83 = .ok (.ireturn, 1) := by decide +kernel
theorem dX7_person_84 : decode cX7_person 84 = .ok (.aload_n 3, 1) := by decide +kernel
theorem dX7_person_85 : decode cX7_person 85 = .ok (.getfield 144, 3) := by decide +kernel
theorem dX7_person_88 : decode cX7_person 88 = .ok (.iload_n 1, 1) := by decide +kernel
theorem dX7_person_89 : decode cX7_person 89 = .ok (.iaload, 1) := by decide +kernel
theorem dX7_person_90 : decode cX7_person 90 = .ok (.ireturn, 1) := by decide +kernel
theorem dX7_person_91 : decode cX7_person 91 = .ok (.aload_n 3, 1) := by decide +kernel
theorem dX7_person_92 : decode cX7_person 92 = .ok (.getfield 147, 3) := by decide +kernel
theorem dX7_person_95 : decode cX7_person 95 = .ok (.iload_n 1, 1) := by decide +kernel
theorem dX7_person_96 : decode cX7_person 96 = .ok (.ishr, 1) := by decide +kernel
theorem dX7_person_97 : decode cX7_person 97 = .ok (.iconst 1, 1) := by decide +kernel
theorem dX7_person_98 : decode cX7_person 98 = .ok (.iand, 1) := by decide +kernel
theorem dX7_person_99 : decode cX7_person 99 = .ok (.ireturn, 1) := by decide +kernel
theorem dX7_person_100 : decode cX7_person 100 = .ok (.aload_n 0, 1) := by decide +kernel
theorem dX7_person_101 : decode cX7_person 101 = .ok (.getfield 65, 3) := by decide +kernel
theorem dX7_person_104 : decode cX7_person 104 = .ok (.getfield 150, 3) := by decide +kernel
theorem dX7_person_107 : decode cX7_person 107 = .ok (.iload_n 1, 1) := by decide +kernel
theorem dX7_person_108 : decode cX7_person 108 = .ok (.ishr, 1) := by decide +kernel
theorem dX7_person_109 : decode cX7_person 109 = .ok (.iconst 1, 1) := by decide +kernel
theorem dX7_person_110 : decode cX7_person 110 = .ok (.iand, 1) := by decide +kernel
theorem dX7_person_111 : decode cX7_person 111 = .ok (.ireturn, 1) := by decide +kernel
theorem dX7_person_112 : decode cX7_person 112 = .ok (.aload_n 3, 1) := by decide +kernel
theorem dX7_person_113 : decode cX7_person 113 = .ok (.getfield 153, 3) := by decide +kernel
theorem dX7_person_116 : decode cX7_person 116 = .ok (.iload_n 1, 1) := by decide +kernel
theorem dX7_person_117 : decode cX7_person 117 = .ok (.iaload, 1) := by decide +kernel
theorem dX7_person_118 : decode cX7_person 118 = .ok (.ireturn, 1) := by decide +kernel
theorem dX7_person_119 : decode cX7_person 119 = .ok (.aload_n 3, 1) := by decide +kernel
theorem dX7_person_120 : decode cX7_person 120 = .ok (.getfield 156, 3) := by decide +kernel
theorem dX7_person_123 : decode cX7_person 123 = .ok (.iload_n 1, 1) := by decide +kernel
theorem dX7_person_124 : decode cX7_person 124 = .ok (.iaload, 1) := by decide +kernel
theorem dX7_person_125 : decode cX7_person 125 = .ok (.ireturn, 1) := by decide +kernel
theorem dX7_person_126 : decode cX7_person 126 = .ok (.aload_n 0, 1) := by decide +kernel
theorem dX7_person_127 : decode cX7_person 127 = .ok (.getfield 65, 3) := by decide +kernel
theorem dX7_person_130 : decode cX7_person 130 = .ok (.getfield 159, 3) := by decide +kernel
theorem dX7_person_133 : decode cX7_person 133 = .ok (.iload_n 1, 1) := by decide +kernel
theorem dX7_person_134 : decode cX7_person 134 = .ok (.iaload, 1) := by decide +kernel
theorem dX7_person_135 : decode cX7_person 135 = .ok (.ireturn, 1) := by decide +kernel
theorem dX7_tide_0 : decode cX7_tide 0 = .ok (.aload_n 0, 1) := by decide +kernel
theorem dX7_tide_1 : decode cX7_tide 1 = .ok (.iload_n 1, 1) := by decide +kernel
theorem dX7_tide_2 : decode cX7_tide 2 = .ok (.iconst 0, 1) := by decide +kernel
theorem dX7_tide_3 : decode cX7_tide 3 = .ok (.sipush 999, 3) := by decide +kernel
theorem dX7_tide_6 : decode cX7_tide 6 = .ok (.invokevirtual 90, 3) := by decide +kernel
theorem dX7_tide_9 : decode cX7_tide 9 = .ok (.aload_n 0, 1) := by decide +kernel
theorem dX7_tide_10 : decode cX7_tide 10 = .ok (.getfield 65, 3) := by decide +kernel
theorem dX7_tide_13 : decode cX7_tide 13 = .ok (.getfield 120, 3) := by decide +kernel
theorem dX7_tide_16 : decode cX7_tide 16 = .ok (.aload_n 0, 1) := by decide +kernel
theorem dX7_tide_17 : decode cX7_tide 17 = .ok (.getfield 65, 3) := by decide +kernel
theorem dX7_tide_20 : decode cX7_tide 20 = .ok (.getfield 162, 3) := by decide +kernel
theorem dX7_tide_23 : decode cX7_tide 23 = .ok (.iload_n 1, 1) := by decide +kernel
theorem dX7_tide_24 : decode cX7_tide 24 = .ok (.iadd, 1) := by decide +kernel
theorem dX7_tide_25 : decode cX7_tide 25 = .ok (.invokevirtual 165, 3) := by decide +kernel
theorem dX7_tide_28 : decode cX7_tide 28 = .ok (.ireturn, 1) := by decide +kernel
theorem dX7_moves_0 : decode cX7_moves 0 = .ok (.aload_n 0, 1) := by decide +kernel
theorem dX7_moves_1 : decode cX7_moves 1 = .ok (.iload_n 1, 1) := by decide +kernel
theorem dX7_moves_2 : decode cX7_moves 2 = .ok (.invokevirtual 135, 3) := by decide +kernel
theorem dX7_moves_5 : decode cX7_moves 5 = .ok (.aload_n 0, 1) := by decide +kernel
theorem dX7_moves_6 : decode cX7_moves 6 = .ok (.iload_n 2, 1) := by decide +kernel
theorem dX7_moves_7 : decode cX7_moves 7 = .ok (.iload_n 3, 1) := by decide +kernel
theorem dX7_moves_8 : decode cX7_moves 8 = .ok (.invokevirtual 127, 3) := by decide +kernel
theorem dX7_moves_11 : decode cX7_moves 11 = .ok (.aload_n 0, 1) := by decide +kernel
theorem dX7_moves_12 : decode cX7_moves 12 = .ok (.getfield 65, 3) := by decide +kernel
theorem dX7_moves_15 : decode cX7_moves 15 = .ok (.getfield 120, 3) := by decide +kernel
theorem dX7_moves_18 : decode cX7_moves 18 = .ok (.iload_n 1, 1) := by decide +kernel
theorem dX7_moves_19 : decode cX7_moves 19 = .ok (.iload_n 2, 1) := by decide +kernel
theorem dX7_moves_20 : decode cX7_moves 20 = .ok (.iload_n 3, 1) := by decide +kernel
theorem dX7_moves_21 : decode cX7_moves 21 = .ok (.aload_n 0, 1) := by decide +kernel
theorem dX7_moves_22 : decode cX7_moves 22 = .ok (.getfield 65, 3) := by decide +kernel
theorem dX7_moves_25 : decode cX7_moves 25 = .ok (.getfield 162, 3) := by decide +kernel
theorem dX7_moves_28 : decode cX7_moves 28 = .ok (.invokevirtual 169, 3) := by decide +kernel
theorem dX7_moves_31 : decode cX7_moves 31 = .ok (.ireturn, 1) := by decide +kernel
theorem dX7_wets_0 : decode cX7_wets 0 = .ok (.aload_n 0, 1) := by decide +kernel
theorem dX7_wets_1 : decode cX7_wets 1 = .ok (.iload_n 1, 1) := by decide +kernel
theorem dX7_wets_2 : decode cX7_wets 2 = .ok (.iload_n 2, 1) := by decide +kernel
theorem dX7_wets_3 : decode cX7_wets 3 = .ok (.invokevirtual 127, 3) := by decide +kernel
theorem dX7_wets_6 : decode cX7_wets 6 = .ok (.aload_n 0, 1) := by decide +kernel
theorem dX7_wets_7 : decode cX7_wets 7 = .ok (.iload_n 3, 1) := by decide +kernel
theorem dX7_wets_8 : decode cX7_wets 8 = .ok (.iconst 0, 1) := by decide +kernel
theorem dX7_wets_9 : decode cX7_wets 9 = .ok (.sipush 999, 3) := by decide +kernel
theorem dX7_wets_12 : decode cX7_wets 12 = .ok (.invokevirtual 90, 3) := by decide +kernel
theorem dX7_wets_15 : decode cX7_wets 15 = .ok (.aload_n 0, 1) := by decide +kernel
theorem dX7_wets_16 : decode cX7_wets 16 = .ok (.getfield 65, 3) := by decide +kernel
theorem dX7_wets_19 : decode cX7_wets 19 = .ok (.getfield 120, 3) := by decide +kernel
theorem dX7_wets_22 : decode cX7_wets 22 = .ok (.iload_n 1, 1) := by decide +kernel
theorem dX7_wets_23 : decode cX7_wets 23 = .ok (.iload_n 2, 1) := by decide +kernel
theorem dX7_wets_24 : decode cX7_wets 24 = .ok (.aload_n 0, 1) := by decide +kernel
theorem dX7_wets_25 : decode cX7_wets 25 = .ok (.getfield 65, 3) := by decide +kernel
theorem dX7_wets_28 : decode cX7_wets 28 = .ok (.getfield 162, 3) := by decide +kernel
theorem dX7_wets_31 : decode cX7_wets 31 = .ok (.iload_n 3, 1) := by decide +kernel
theorem dX7_wets_32 : decode cX7_wets 32 = .ok (.iadd, 1) := by decide +kernel
theorem dX7_wets_33 : decode cX7_wets 33 = .ok (.invokevirtual 173, 3) := by decide +kernel
theorem dX7_wets_36 : decode cX7_wets 36 = .ok (.ireturn, 1) := by decide +kernel
theorem dX7_rise_0 : decode cX7_rise 0 = .ok (.aload_n 0, 1) := by decide +kernel
theorem dX7_rise_1 : decode cX7_rise 1 = .ok (.getfield 65, 3) := by decide +kernel
theorem dX7_rise_4 : decode cX7_rise 4 = .ok (.iload_n 1, 1) := by decide +kernel
theorem dX7_rise_5 : decode cX7_rise 5 = .ok (.invokevirtual 177, 3) := by decide +kernel
theorem dX7_rise_8 : decode cX7_rise 8 = .ok (.istore_n 2, 1) := by decide +kernel
theorem dX7_rise_9 : decode cX7_rise 9 = .ok (.iload_n 2, 1) := by decide +kernel
theorem dX7_rise_10 : decode cX7_rise 10 = .ok (.ifCond .eq 6, 3) := by decide +kernel
theorem dX7_rise_13 : decode cX7_rise 13 = .ok (.iload_n 2, 1) := by decide +kernel
theorem dX7_rise_14 : decode cX7_rise 14 = .ok (.ineg, 1) := by decide +kernel
theorem dX7_rise_15 : decode cX7_rise 15 = .ok (.ireturn, 1) := by decide +kernel
theorem dX7_rise_16 : decode cX7_rise 16 = .ok (.aload_n 0, 1) := by decide +kernel
theorem dX7_rise_17 : decode cX7_rise 17 = .ok (.getfield 72, 3) := by decide +kernel
theorem dX7_rise_20 : decode cX7_rise 20 = .ok (.aload_n 0, 1) := by decide +kernel
theorem dX7_rise_21 : decode cX7_rise 21 = .ok (.getfield 65, 3) := by decide +kernel
theorem dX7_rise_24 : decode cX7_rise 24 = .ok (.invokevirtual 180, 3) := by decide +kernel
theorem dX7_rise_27 : decode cX7_rise 27 = .ok (.aload_n 0, 1) := by decide +kernel
theorem dX7_rise_28 : decode cX7_rise 28 = .ok (.getfield 65, 3) := by decide +kernel
theorem dX7_rise_31 : decode cX7_rise 31 = .ok (.iload_n 1, 1) := by decide +kernel
theorem dX7_rise_32 : decode cX7_rise 32 = .ok (.invokevirtual 183, 3) := by decide +kernel
theorem dX7_rise_35 : decode cX7_rise 35 = .ok (.ireturn, 1) := by decide +kernel
theorem dX7_sit_0 : decode cX7_sit 0 = .ok (.aload_n 0, 1) := by decide +kernel
theorem dX7_sit_1 : decode cX7_sit 1 = .ok (.getfield 65, 3) := by decide +kernel
theorem dX7_sit_4 : decode cX7_sit 4 = .ok (.iload_n 1, 1) := by decide +kernel
theorem dX7_sit_5 : decode cX7_sit 5 = .ok (.iload_n 2, 1) := by decide +kernel
theorem dX7_sit_6 : decode cX7_sit 6 = .ok (.invokevirtual 186, 3) := by decide +kernel
theorem dX7_sit_9 : decode cX7_sit 9 = .ok (.istore_n 3, 1) := by decide +kernel
theorem dX7_sit_10 : decode cX7_sit 10 = .ok (.iload_n 3, 1) := by decide +kernel
theorem dX7_sit_11 : decode cX7_sit 11 = .ok (.ifCond .eq 6, 3) := by decide +kernel
theorem dX7_sit_14 : decode cX7_sit 14 = .ok (.iload_n 3, 1) := by decide +kernel
theorem dX7_sit_15 : decode cX7_sit 15 = .ok (.ineg, 1) := by decide +kernel
theorem dX7_sit_16 : decode cX7_sit 16 = .ok (.ireturn, 1) := by decide +kernel
theorem dX7_sit_17 : decode cX7_sit 17 = .ok (.aload_n 0, 1) := by decide +kernel
theorem dX7_sit_18 : decode cX7_sit 18 = .ok (.getfield 72, 3) := by decide +kernel
theorem dX7_sit_21 : decode cX7_sit 21 = .ok (.aload_n 0, 1) := by decide +kernel
theorem dX7_sit_22 : decode cX7_sit 22 = .ok (.getfield 65, 3) := by decide +kernel
theorem dX7_sit_25 : decode cX7_sit 25 = .ok (.invokevirtual 180, 3) := by decide +kernel
theorem dX7_sit_28 : decode cX7_sit 28 = .ok (.aload_n 0, 1) := by decide +kernel
theorem dX7_sit_29 : decode cX7_sit 29 = .ok (.getfield 65, 3) := by decide +kernel
theorem dX7_sit_32 : decode cX7_sit 32 = .ok (.iload_n 1, 1) := by decide +kernel
theorem dX7_sit_33 : decode cX7_sit 33 = .ok (.iload_n 2, 1) := by decide +kernel
theorem dX7_sit_34 : decode cX7_sit 34 = .ok (.invokevirtual 189, 3) := by decide +kernel
theorem dX7_sit_37 : decode cX7_sit 37 = .ok (.ireturn, 1) := by decide +kernel
theorem dX7_swap_0 : decode cX7_swap 0 = .ok (.aload_n 0, 1) := by decide +kernel
theorem dX7_swap_1 : decode cX7_swap 1 = .ok (.getfield 65, 3) := by decide +kernel
theorem dX7_swap_4 : decode cX7_swap 4 = .ok (.iload_n 1, 1) := by decide +kernel
theorem dX7_swap_5 : decode cX7_swap 5 = .ok (.iload_n 2, 1) := by decide +kernel
theorem dX7_swap_6 : decode cX7_swap 6 = .ok (.invokevirtual 192, 3) := by decide +kernel
theorem dX7_swap_9 : decode cX7_swap 9 = .ok (.istore_n 3, 1) := by decide +kernel
theorem dX7_swap_10 : decode cX7_swap 10 = .ok (.iload_n 3, 1) := by decide +kernel
theorem dX7_swap_11 : decode cX7_swap 11 = .ok (.ifCond .eq 6, 3) := by decide +kernel
theorem dX7_swap_14 : decode cX7_swap 14 = .ok (.iload_n 3, 1) := by decide +kernel
theorem dX7_swap_15 : decode cX7_swap 15 = .ok (.ineg, 1) := by decide +kernel
theorem dX7_swap_16 : decode cX7_swap 16 = .ok (.ireturn, 1) := by decide +kernel
theorem dX7_swap_17 : decode cX7_swap 17 = .ok (.aload_n 0, 1) := by decide +kernel
theorem dX7_swap_18 : decode cX7_swap 18 = .ok (.getfield 72, 3) := by decide +kernel
theorem dX7_swap_21 : decode cX7_swap 21 = .ok (.aload_n 0, 1) := by decide +kernel
theorem dX7_swap_22 : decode cX7_swap 22 = .ok (.getfield 65, 3) := by decide +kernel
theorem dX7_swap_25 : decode cX7_swap 25 = .ok (.invokevirtual 180, 3) := by decide +kernel
theorem dX7_swap_28 : decode cX7_swap 28 = .ok (.aload_n 0, 1) := by decide +kernel
theorem dX7_swap_29 : decode cX7_swap 29 = .ok (.getfield 65, 3) := by decide +kernel
theorem dX7_swap_32 : decode cX7_swap 32 = .ok (.iload_n 1, 1) := by decide +kernel
theorem dX7_swap_33 : decode cX7_swap 33 = .ok (.iload_n 2, 1) := by decide +kernel
theorem dX7_swap_34 : decode cX7_swap 34 = .ok (.invokevirtual 195, 3) := by decide +kernel
theorem dX7_swap_37 : decode cX7_swap 37 = .ok (.iconst 0, 1) := by decide +kernel
theorem dX7_swap_38 : decode cX7_swap 38 = .ok (.ireturn, 1) := by decide +kernel
theorem dX7_minutes_0 : decode cX7_minutes 0 = .ok (.aload_n 0, 1) := by decide +kernel
theorem dX7_minutes_1 : decode cX7_minutes 1 = .ok (.iload_n 1, 1) := by decide +kernel
theorem dX7_minutes_2 : decode cX7_minutes 2 = .ok (.iconst 1, 1) := by decide +kernel
theorem dX7_minutes_3 : decode cX7_minutes 3 = .ok (.bipush 99, 2) := by decide +kernel
theorem dX7_minutes_5 : decode cX7_minutes 5 = .ok (.invokevirtual 90, 3) := by decide +kernel
theorem dX7_minutes_8 : decode cX7_minutes 8 = .ok (.aload_n 0, 1) := by decide +kernel
theorem dX7_minutes_9 : decode cX7_minutes 9 = .ok (.getfield 72, 3) := by decide +kernel
theorem dX7_minutes_12 : decode cX7_minutes 12 = .ok (.aload_n 0, 1) := by decide +kernel
theorem dX7_minutes_13 : decode cX7_minutes 13 = .ok (.getfield 65, 3) := by decide +kernel
theorem dX7_minutes_16 : decode cX7_minutes 16 = .ok (.invokevirtual 180, 3) := by decide +kernel
theorem dX7_minutes_19 : decode cX7_minutes 19 = .ok (.aload_n 0, 1) := by decide +kernel
theorem dX7_minutes_20 : decode cX7_minutes 20 = .ok (.getfield 65, 3) := by decide +kernel
theorem dX7_minutes_23 : decode cX7_minutes 23 = .ok (.getfield 150, 3) := by decide +kernel
theorem dX7_minutes_26 : decode cX7_minutes 26 = .ok (.invokestatic 198, 3) := by decide +kernel
theorem dX7_minutes_29 : decode cX7_minutes 29 = .ok (.istore_n 2, 1) := by decide +kernel
theorem dX7_minutes_30 : decode cX7_minutes 30 = .ok (.iconst 0, 1) := by decide +kernel
theorem dX7_minutes_31 : decode cX7_minutes 31 = .ok (.istore_n 3, 1) := by decide +kernel
theorem dX7_minutes_32 : decode cX7_minutes 32 = .ok (.iload_n 3, 1) := by decide +kernel
theorem dX7_minutes_33 : decode cX7_minutes 33 = .ok (.iload_n 1, 1) := by decide +kernel
theorem dX7_minutes_34 : decode cX7_minutes 34 = .ok (.if_icmp .ge 23, 3) := by decide +kernel
theorem dX7_minutes_37 : decode cX7_minutes 37 = .ok (.aload_n 0, 1) := by decide +kernel
theorem dX7_minutes_38 : decode cX7_minutes 38 = .ok (.getfield 65, 3) := by decide +kernel
theorem dX7_minutes_41 : decode cX7_minutes 41 = .ok (.aload_n 0, 1) := by decide +kernel
theorem dX7_minutes_42 : decode cX7_minutes 42 = .ok (.getfield 65, 3) := by decide +kernel
theorem dX7_minutes_45 : decode cX7_minutes 45 = .ok (.invokevirtual 203, 3) := by decide +kernel
theorem dX7_minutes_48 : decode cX7_minutes 48 = .ok (.invokevirtual 207, 3) := by decide +kernel
theorem dX7_minutes_51 : decode cX7_minutes 51 = .ok (.iinc 3 1, 3) := by decide +kernel
theorem dX7_minutes_54 : decode cX7_minutes 54 = .ok (.goto (-22), 3) := by decide +kernel
theorem dX7_minutes_57 : decode cX7_minutes 57 = .ok (.aload_n 0, 1) := by decide +kernel
theorem dX7_minutes_58 : decode cX7_minutes 58 = .ok (.getfield 65, 3) := by decide +kernel
theorem dX7_minutes_61 : decode cX7_minutes 61 = .ok (.getfield 150, 3) := by decide +kernel
theorem dX7_minutes_64 : decode cX7_minutes 64 = .ok (.invokestatic 198, 3) := by decide +kernel
theorem dX7_minutes_67 : decode cX7_minutes 67 = .ok (.iload_n 2, 1) := by decide +kernel
theorem dX7_minutes_68 : decode cX7_minutes 68 = .ok (.isub, 1) := by decide +kernel
theorem dX7_minutes_69 : decode cX7_minutes 69 = .ok (.ireturn, 1) := by decide +kernel
theorem dX7_undo_0 : decode cX7_undo 0 = .ok (.aload_n 0, 1) := by decide +kernel
theorem dX7_undo_1 : decode cX7_undo 1 = .ok (.iload_n 1, 1) := by decide +kernel
theorem dX7_undo_2 : decode cX7_undo 2 = .ok (.iconst 1, 1) := by decide +kernel
theorem dX7_undo_3 : decode cX7_undo 3 = .ok (.aload_n 0, 1) := by decide +kernel
theorem dX7_undo_4 : decode cX7_undo 4 = .ok (.getfield 72, 3) := by decide +kernel
theorem dX7_undo_7 : decode cX7_undo 7 = .ok (.getfield 210, 3) := by decide +kernel
theorem dX7_undo_10 : decode cX7_undo 10 = .ok (.invokevirtual 90, 3) := by decide +kernel
theorem dX7_undo_13 : decode cX7_undo 13 = .ok (.aload_n 0, 1) := by decide +kernel
theorem dX7_undo_14 : decode cX7_undo 14 = .ok (.getfield 72, 3) := by decide +kernel
theorem dX7_undo_17 : decode cX7_undo 17 = .ok (.iload_n 1, 1) := by decide +kernel
theorem dX7_undo_18 : decode cX7_undo 18 = .ok (.aload_n 0, 1) := by decide +kernel
theorem dX7_undo_19 : decode cX7_undo 19 = .ok (.getfield 65, 3) := by decide +kernel
theorem dX7_undo_22 : decode cX7_undo 22 = .ok (.invokevirtual 213, 3) := by decide +kernel
theorem dX7_undo_25 : decode cX7_undo 25 = .ok (.aload_n 0, 1) := by decide +kernel
theorem dX7_undo_26 : decode cX7_undo 26 = .ok (.getfield 72, 3) := by decide +kernel
theorem dX7_undo_29 : decode cX7_undo 29 = .ok (.getfield 210, 3) := by decide +kernel
theorem dX7_undo_32 : decode cX7_undo 32 = .ok (.ireturn, 1) := by decide +kernel
theorem dX7_judge_0 : decode cX7_judge 0 = .ok (.aload_n 0, 1) := by decide +kernel
theorem dX7_judge_1 : decode cX7_judge 1 = .ok (.iload_n 1, 1) := by decide +kernel
theorem dX7_judge_2 : decode cX7_judge 2 = .ok (.invokevirtual 217, 3) := by decide +kernel
theorem dX7_judge_5 : decode cX7_judge 5 = .ok (.aload_n 0, 1) := by decide +kernel
theorem dX7_judge_6 : decode cX7_judge 6 = .ok (.iload_n 1, 1) := by decide +kernel
theorem dX7_judge_7 : decode cX7_judge 7 = .ok (.invokevirtual 220, 3) := by decide +kernel
theorem dX7_judge_10 : decode cX7_judge 10 = .ok (.aload_n 0, 1) := by decide +kernel
theorem dX7_judge_11 : decode cX7_judge 11 = .ok (.iload_n 2, 1) := by decide +kernel
theorem dX7_judge_12 : decode cX7_judge 12 = .ok (.iconst 0, 1) := by decide +kernel
theorem dX7_judge_13 : decode cX7_judge 13 = .ok (.iconst 3, 1) := by decide +kernel
theorem dX7_judge_14 : decode cX7_judge 14 = .ok (.invokevirtual 90, 3) := by decide +kernel
theorem dX7_judge_17 : decode cX7_judge 17 = .ok (.aload_n 0, 1) := by decide +kernel
theorem dX7_judge_18 : decode cX7_judge 18 = .ok (.invokevirtual 223, 3) := by decide +kernel
theorem dX7_judge_21 : decode cX7_judge 21 = .ok (.astore_n 3, 1) := by decide +kernel
theorem dX7_judge_22 : decode cX7_judge 22 = .ok (.aload_n 0, 1) := by decide +kernel
theorem dX7_judge_23 : decode cX7_judge 23 = .ok (.getfield 25, 3) := by decide +kernel
theorem dX7_judge_26 : decode cX7_judge 26 = .ok (.iload_n 1, 1) := by decide +kernel
theorem dX7_judge_27 : decode cX7_judge 27 = .ok (.aaload, 1) := by decide +kernel
theorem dX7_judge_28 : decode cX7_judge 28 = .ok (.astore 4, 2) := by decide +kernel
theorem dX7_judge_30 : decode cX7_judge 30 = .ok (.iconst 0, 1) := by decide +kernel
theorem dX7_judge_31 : decode cX7_judge 31 = .ok (.istore 5, 2) := by decide +kernel
theorem dX7_judge_33 : decode cX7_judge 33 = .ok (.iconst 0, 1) := by decide +kernel
theorem dX7_judge_34 : decode cX7_judge 34 = .ok (.istore 6, 2) := by decide +kernel
theorem dX7_judge_36 : decode cX7_judge 36 = .ok (.iload 5, 2) := by decide +kernel
theorem dX7_judge_38 : decode cX7_judge 38 = .ok (.aload 4, 2) := by decide +kernel
theorem dX7_judge_40 : decode cX7_judge 40 = .ok (.getfield 227, 3) := by decide +kernel
theorem dX7_judge_43 : decode cX7_judge 43 = .ok (.if_icmp .ge 43, 3) := by decide +kernel
theorem dX7_judge_46 : decode cX7_judge 46 = .ok (.iload 6, 2) := by decide +kernel
theorem dX7_judge_48 : decode cX7_judge 48 = .ok (.ifCond .ne 38, 3) := by decide +kernel
theorem dX7_judge_51 : decode cX7_judge 51 = .ok (.aload 4, 2) := by decide +kernel
theorem dX7_judge_53 : decode cX7_judge 53 = .ok (.getfield 230, 3) := by decide +kernel
theorem dX7_judge_56 : decode cX7_judge 56 = .ok (.iload 5, 2) := by decide +kernel
theorem dX7_judge_58 : decode cX7_judge 58 = .ok (.laload, 1) := by decide +kernel
theorem dX7_judge_59 : decode cX7_judge 59 = .ok (.lstore 7, 2) := by decide +kernel
theorem dX7_judge_61 : decode cX7_judge 61 = .ok (.aload_n 3, 1) := by decide +kernel
theorem dX7_judge_62 : decode cX7_judge 62 = .ok (.lload 7, 2) := by decide +kernel
theorem dX7_judge_64 : decode cX7_judge 64 = .ok (.invokevirtual 234, 3) := by decide +kernel
theorem dX7_judge_67 : decode cX7_judge 67 = .ok (.istore 6, 2) := by decide +kernel
theorem dX7_judge_69 : decode cX7_judge 69 = .ok (.iload 6, 2) := by decide +kernel
theorem dX7_judge_71 : decode cX7_judge 71 = .ok (.ifCond .ne 12, 3) := by decide +kernel
theorem dX7_judge_74 : decode cX7_judge 74 = .ok (.aload_n 3, 1) := by decide +kernel
theorem dX7_judge_75 : decode cX7_judge 75 = .ok (.lload 7, 2) := by decide +kernel
theorem dX7_judge_77 : decode cX7_judge 77 = .ok (.invokevirtual 238, 3) := by decide +kernel
theorem dX7_judge_80 : decode cX7_judge 80 = .ok (.iinc 5 1, 3) := by decide +kernel
theorem dX7_judge_83 : decode cX7_judge 83 = .ok (.goto (-47), 3) := by decide +kernel
theorem dX7_judge_86 : decode cX7_judge 86 = .ok (.iload_n 2, 1) := by decide +kernel
theorem dX7_judge_87 : decode cX7_judge 87 = .ok (.tableswitch 45 0 2 #[25, 37, 40], 25) := by decide +kernel
theorem dX7_judge_112 : decode cX7_judge 112 = .ok (.iload 6, 2) := by decide +kernel
theorem dX7_judge_114 : decode cX7_judge 114 = .ok (.ifCond .ne 7, 3) := by decide +kernel
theorem dX7_judge_117 : decode cX7_judge 117 = .ok (.iconst (-1), 1) := by decide +kernel
theorem dX7_judge_118 : decode cX7_judge 118 = .ok (.goto 5, 3) := by decide +kernel
theorem dX7_judge_121 : decode cX7_judge 121 = .ok (.iload 5, 2) := by decide +kernel
theorem dX7_judge_123 : decode cX7_judge 123 = .ok (.ireturn, 1) := by decide +kernel
theorem dX7_judge_124 : decode cX7_judge 124 = .ok (.iload 6, 2) := by decide +kernel
theorem dX7_judge_126 : decode cX7_judge 126 = .ok (.ireturn, 1) := by decide +kernel
theorem dX7_judge_127 : decode cX7_judge 127 = .ok (.aload_n 3, 1) := by decide +kernel
theorem dX7_judge_128 : decode cX7_judge 128 = .ok (.invokevirtual 242, 3) := by decide +kernel
theorem dX7_judge_131 : decode cX7_judge 131 = .ok (.ireturn, 1) := by decide +kernel
theorem dX7_judge_132 : decode cX7_judge 132 = .ok (.aload_n 3, 1) := by decide +kernel
theorem dX7_judge_133 : decode cX7_judge 133 = .ok (.getfield 162, 3) := by decide +kernel
theorem dX7_judge_136 : decode cX7_judge 136 = .ok (.ireturn, 1) := by decide +kernel
theorem dX7_perform_0 : decode cX7_perform 0 = .ok (.aload_n 0, 1) := by decide +kernel
theorem dX7_perform_1 : decode cX7_perform 1 = .ok (.iload_n 1, 1) := by decide +kernel
theorem dX7_perform_2 : decode cX7_perform 2 = .ok (.invokevirtual 217, 3) := by decide +kernel
theorem dX7_perform_5 : decode cX7_perform 5 = .ok (.aload_n 0, 1) := by decide +kernel
theorem dX7_perform_6 : decode cX7_perform 6 = .ok (.iload_n 1, 1) := by decide +kernel
theorem dX7_perform_7 : decode cX7_perform 7 = .ok (.invokevirtual 220, 3) := by decide +kernel
theorem dX7_perform_10 : decode cX7_perform 10 = .ok (.aload_n 0, 1) := by decide +kernel
theorem dX7_perform_11 : decode cX7_perform 11 = .ok (.getfield 25, 3) := by decide +kernel
theorem dX7_perform_14 : decode cX7_perform 14 = .ok (.iload_n 1, 1) := by decide +kernel
theorem dX7_perform_15 : decode cX7_perform 15 = .ok (.aaload, 1) := by decide +kernel
theorem dX7_perform_16 : decode cX7_perform 16 = .ok (.astore_n 2, 1) := by decide +kernel
theorem dX7_perform_17 : decode cX7_perform 17 = .ok (.iconst 0, 1) := by decide +kernel
theorem dX7_perform_18 : decode cX7_perform 18 = .ok (.istore_n 3, 1) := by decide +kernel
theorem dX7_perform_19 : decode cX7_perform 19 = .ok (.iload_n 3, 1) := by decide +kernel
theorem dX7_perform_20 : decode cX7_perform 20 = .ok (.aload_n 2, 1) := by decide +kernel
theorem dX7_perform_21 : decode cX7_perform 21 = .ok (.getfield 227, 3) := by decide +kernel
theorem dX7_perform_24 : decode cX7_perform 24 = .ok (.if_icmp .ge 22, 3) := by decide +kernel
theorem dX7_perform_27 : decode cX7_perform 27 = .ok (.aload_n 0, 1) := by decide +kernel
theorem dX7_perform_28 : decode cX7_perform 28 = .ok (.aload_n 2, 1) := by decide +kernel
theorem dX7_perform_29 : decode cX7_perform 29 = .ok (.getfield 230, 3) := by decide +kernel
theorem dX7_perform_32 : decode cX7_perform 32 = .ok (.iload_n 3, 1) := by decide +kernel
theorem dX7_perform_33 : decode cX7_perform 33 = .ok (.laload, 1) := by decide +kernel
theorem dX7_perform_34 : decode cX7_perform 34 = .ok (.invokevirtual 245, 3) := by decide +kernel
theorem dX7_perform_37 : decode cX7_perform 37 = .ok (.ifCond .eq 9, 3) := by decide +kernel
theorem dX7_perform_40 : decode cX7_perform 40 = .ok (.iinc 3 1, 3) := by decide +kernel
theorem dX7_perform_43 : decode cX7_perform 43 = .ok (.goto (-24), 3) := by decide +kernel
theorem dX7_perform_46 : decode cX7_perform 46 = .ok (.iload_n 3, 1) := by decide +kernel
theorem dX7_perform_47 : decode cX7_perform 47 = .ok (.ireturn, 1) := by decide +kernel
theorem dX7_afternoon_0 : decode cX7_afternoon 0 = .ok (.aload_n 0, 1) := by decide +kernel
theorem dX7_afternoon_1 : decode cX7_afternoon 1 = .ok (.iload_n 2, 1) := by decide +kernel
theorem dX7_afternoon_2 : decode cX7_afternoon 2 = .ok (.iconst 1, 1) := by decide +kernel
theorem dX7_afternoon_3 : decode cX7_afternoon 3 = .ok (.bipush 30, 2) := by decide +kernel
theorem dX7_afternoon_5 : decode cX7_afternoon 5 = .ok (.invokevirtual 90, 3) := by decide +kernel
theorem dX7_afternoon_8 : decode cX7_afternoon 8 = .ok (.aload_n 0, 1) := by decide +kernel
theorem dX7_afternoon_9 : decode cX7_afternoon 9 = .ok (.iload_n 1, 1) := by decide +kernel
theorem dX7_afternoon_10 : decode cX7_afternoon 10 = .ok (.putfield 56, 3) := by decide +kernel
theorem dX7_afternoon_13 : decode cX7_afternoon 13 = .ok (.iconst 0, 1) := by decide +kernel
theorem dX7_afternoon_14 : decode cX7_afternoon 14 = .ok (.istore_n 3, 1) := by decide +kernel
theorem dX7_afternoon_15 : decode cX7_afternoon 15 = .ok (.iconst 0, 1) := by decide +kernel
theorem dX7_afternoon_16 : decode cX7_afternoon 16 = .ok (.istore 4, 2) := by decide +kernel
theorem dX7_afternoon_18 : decode cX7_afternoon 18 = .ok (.iload 4, 2) := by decide +kernel
theorem dX7_afternoon_20 : decode cX7_afternoon 20 = .ok (.iload_n 2, 1) := by decide +kernel
theorem dX7_afternoon_21 : decode cX7_afternoon 21 = .ok (.if_icmp .ge 24, 3) := by decide +kernel
theorem dX7_afternoon_24 : decode cX7_afternoon 24 = .ok (.aload_n 0, 1) := by decide +kernel
theorem dX7_afternoon_25 : decode cX7_afternoon 25 = .ok (.aload_n 0, 1) := by decide +kernel
theorem dX7_afternoon_26 : decode cX7_afternoon 26 = .ok (.invokevirtual 249, 3) := by decide +kernel
theorem dX7_afternoon_29 : decode cX7_afternoon 29 = .ok (.i2l, 1) := by decide +kernel
theorem dX7_afternoon_30 : decode cX7_afternoon 30 = .ok (.invokevirtual 245, 3) := by decide +kernel
theorem dX7_afternoon_33 : decode cX7_afternoon 33 = .ok (.ifCond .eq 6, 3) := by decide +kernel
theorem dX7_afternoon_36 : decode cX7_afternoon 36 = .ok (.iinc 3 1, 3) := by decide +kernel
theorem dX7_afternoon_39 : decode cX7_afternoon 39 = .ok (.iinc 4 1, 3) := by decide +kernel
theorem dX7_afternoon_42 : decode cX7_afternoon 42 = .ok (.goto (-24), 3) := by decide +kernel
theorem dX7_afternoon_45 : decode cX7_afternoon 45 = .ok (.iload_n 3, 1) := by decide +kernel
theorem dX7_afternoon_46 : decode cX7_afternoon 46 = .ok (.ireturn, 1) := by decide +kernel
theorem dX7_sits_0 : decode cX7_sits 0 = .ok (.aload_n 0, 1) := by decide +kernel
theorem dX7_sits_1 : decode cX7_sits 1 = .ok (.iload_n 1, 1) := by decide +kernel
theorem dX7_sits_2 : decode cX7_sits 2 = .ok (.invokevirtual 135, 3) := by decide +kernel
theorem dX7_sits_5 : decode cX7_sits 5 = .ok (.aload_n 0, 1) := by decide +kernel
theorem dX7_sits_6 : decode cX7_sits 6 = .ok (.iload_n 2, 1) := by decide +kernel
theorem dX7_sits_7 : decode cX7_sits 7 = .ok (.iconst 0, 1) := by decide +kernel
theorem dX7_sits_8 : decode cX7_sits 8 = .ok (.sipush 200, 3) := by decide +kernel
theorem dX7_sits_11 : decode cX7_sits 11 = .ok (.invokevirtual 90, 3) := by decide +kernel
theorem dX7_sits_14 : decode cX7_sits 14 = .ok (.aload_n 0, 1) := by decide +kernel
theorem dX7_sits_15 : decode cX7_sits 15 = .ok (.iload_n 2, 1) := by decide +kernel
theorem dX7_sits_16 : decode cX7_sits 16 = .ok (.invokevirtual 252, 3) := by decide +kernel
theorem dX7_sits_19 : decode cX7_sits 19 = .ok (.iload_n 1, 1) := by decide +kernel
theorem dX7_sits_20 : decode cX7_sits 20 = .ok (.invokevirtual 256, 3) := by decide +kernel
theorem dX7_sits_23 : decode cX7_sits 23 = .ok (.ireturn, 1) := by decide +kernel
theorem dX7_wetIn_0 : decode cX7_wetIn 0 = .ok (.aload_n 0, 1) := by decide +kernel
theorem dX7_wetIn_1 : decode cX7_wetIn 1 = .ok (.iload_n 1, 1) := by decide +kernel
theorem dX7_wetIn_2 : decode cX7_wetIn 2 = .ok (.invokevirtual 135, 3) := by decide +kernel
theorem dX7_wetIn_5 : decode cX7_wetIn 5 = .ok (.aload_n 0, 1) := by decide +kernel
theorem dX7_wetIn_6 : decode cX7_wetIn 6 = .ok (.invokevirtual 223, 3) := by decide +kernel
theorem dX7_wetIn_9 : decode cX7_wetIn 9 = .ok (.astore_n 2, 1) := by decide +kernel
theorem dX7_wetIn_10 : decode cX7_wetIn 10 = .ok (.iconst 0, 1) := by decide +kernel
theorem dX7_wetIn_11 : decode cX7_wetIn 11 = .ok (.istore_n 3, 1) := by decide +kernel
theorem dX7_wetIn_12 : decode cX7_wetIn 12 = .ok (.iload_n 3, 1) := by decide +kernel
theorem dX7_wetIn_13 : decode cX7_wetIn 13 = .ok (.sipush 200, 3) := by decide +kernel
theorem dX7_wetIn_16 : decode cX7_wetIn 16 = .ok (.if_icmp .gt 31, 3) := by decide +kernel
theorem dX7_wetIn_19 : decode cX7_wetIn 19 = .ok (.aload_n 2, 1) := by decide +kernel
theorem dX7_wetIn_20 : decode cX7_wetIn 20 = .ok (.getfield 150, 3) := by decide +kernel
theorem dX7_wetIn_23 : decode cX7_wetIn 23 = .ok (.iload_n 1, 1) := by decide +kernel
theorem dX7_wetIn_24 : decode cX7_wetIn 24 = .ok (.ishr, 1) := by decide +kernel
theorem dX7_wetIn_25 : decode cX7_wetIn 25 = .ok (.iconst 1, 1) := by decide +kernel
theorem dX7_wetIn_26 : decode cX7_wetIn 26 = .ok (.iand, 1) := by decide +kernel
theorem dX7_wetIn_27 : decode cX7_wetIn 27 = .ok (.iconst 1, 1) := by decide +kernel
theorem dX7_wetIn_28 : decode cX7_wetIn 28 = .ok (.if_icmp .ne 5, 3) := by decide +kernel
theorem dX7_wetIn_31 : decode cX7_wetIn 31 = .ok (.iload_n 3, 1) := by decide +kernel
theorem dX7_wetIn_32 : decode cX7_wetIn 32 = .ok (.ireturn, 1) := by decide +kernel
theorem dX7_wetIn_33 : decode cX7_wetIn 33 = .ok (.aload_n 2, 1) := by decide +kernel
theorem dX7_wetIn_34 : decode cX7_wetIn 34 = .ok (.aload_n 2, 1) := by decide +kernel
theorem dX7_wetIn_35 : decode cX7_wetIn 35 = .ok (.invokevirtual 203, 3) := by decide +kernel
theorem dX7_wetIn_38 : decode cX7_wetIn 38 = .ok (.invokevirtual 207, 3) := by decide +kernel
theorem dX7_wetIn_41 : decode cX7_wetIn 41 = .ok (.iinc 3 1, 3) := by decide +kernel
theorem dX7_wetIn_44 : decode cX7_wetIn 44 = .ok (.goto (-32), 3) := by decide +kernel
theorem dX7_wetIn_47 : decode cX7_wetIn 47 = .ok (.iconst (-1), 1) := by decide +kernel
theorem dX7_wetIn_48 : decode cX7_wetIn 48 = .ok (.ireturn, 1) := by decide +kernel
theorem dX7_wetBy_0 : decode cX7_wetBy 0 = .ok (.aload_n 0, 1) := by decide +kernel
theorem dX7_wetBy_1 : decode cX7_wetBy 1 = .ok (.iload_n 1, 1) := by decide +kernel
theorem dX7_wetBy_2 : decode cX7_wetBy 2 = .ok (.iconst 0, 1) := by decide +kernel
theorem dX7_wetBy_3 : decode cX7_wetBy 3 = .ok (.sipush 200, 3) := by decide +kernel
theorem dX7_wetBy_6 : decode cX7_wetBy 6 = .ok (.invokevirtual 90, 3) := by decide +kernel
theorem dX7_wetBy_9 : decode cX7_wetBy 9 = .ok (.aload_n 0, 1) := by decide +kernel
theorem dX7_wetBy_10 : decode cX7_wetBy 10 = .ok (.invokevirtual 223, 3) := by decide +kernel
theorem dX7_wetBy_13 : decode cX7_wetBy 13 = .ok (.astore_n 2, 1) := by decide +kernel
theorem dX7_wetBy_14 : decode cX7_wetBy 14 = .ok (.iconst 0, 1) := by decide +kernel
theorem dX7_wetBy_15 : decode cX7_wetBy 15 = .ok (.istore_n 3, 1) := by decide +kernel
theorem dX7_wetBy_16 : decode cX7_wetBy 16 = .ok (.iload_n 3, 1) := by decide +kernel
theorem dX7_wetBy_17 : decode cX7_wetBy 17 = .ok (.iload_n 1, 1) := by decide +kernel
theorem dX7_wetBy_18 : decode cX7_wetBy 18 = .ok (.if_icmp .ge 17, 3) := by decide +kernel
theorem dX7_wetBy_21 : decode cX7_wetBy 21 = .ok (.aload_n 2, 1) := by decide +kernel
theorem dX7_wetBy_22 : decode cX7_wetBy 22 = .ok (.aload_n 2, 1) := by decide +kernel
theorem dX7_wetBy_23 : decode cX7_wetBy 23 = .ok (.invokevirtual 203, 3) := by decide +kernel
theorem dX7_wetBy_26 : decode cX7_wetBy 26 = .ok (.invokevirtual 207, 3) := by decide +kernel
theorem dX7_wetBy_29 : decode cX7_wetBy 29 = .ok (.iinc 3 1, 3) := by decide +kernel
theorem dX7_wetBy_32 : decode cX7_wetBy 32 = .ok (.goto (-16), 3) := by decide +kernel
theorem dX7_wetBy_35 : decode cX7_wetBy 35 = .ok (.aload_n 2, 1) := by decide +kernel
theorem dX7_wetBy_36 : decode cX7_wetBy 36 = .ok (.getfield 150, 3) := by decide +kernel
theorem dX7_wetBy_39 : decode cX7_wetBy 39 = .ok (.ireturn, 1) := by decide +kernel
theorem dX7_frontIn_0 : decode cX7_frontIn 0 = .ok (.aload_n 0, 1) := by decide +kernel
theorem dX7_frontIn_1 : decode cX7_frontIn 1 = .ok (.iload_n 1, 1) := by decide +kernel
theorem dX7_frontIn_2 : decode cX7_frontIn 2 = .ok (.invokevirtual 135, 3) := by decide +kernel
theorem dX7_frontIn_5 : decode cX7_frontIn 5 = .ok (.aload_n 0, 1) := by decide +kernel
theorem dX7_frontIn_6 : decode cX7_frontIn 6 = .ok (.invokevirtual 223, 3) := by decide +kernel
theorem dX7_frontIn_9 : decode cX7_frontIn 9 = .ok (.astore_n 2, 1) := by decide +kernel
theorem dX7_frontIn_10 : decode cX7_frontIn 10 = .ok (.iconst 0, 1) := by decide +kernel
theorem dX7_frontIn_11 : decode cX7_frontIn 11 = .ok (.istore_n 3, 1) := by decide +kernel
theorem dX7_frontIn_12 : decode cX7_frontIn 12 = .ok (.iload_n 3, 1) := by decide +kernel
theorem dX7_frontIn_13 : decode cX7_frontIn 13 = .ok (.sipush 200, 3) := by decide +kernel
theorem dX7_frontIn_16 : decode cX7_frontIn 16 = .ok (.if_icmp .gt 25, 3) := by decide +kernel
theorem dX7_frontIn_19 : decode cX7_frontIn 19 = .ok (.aload_n 2, 1) := by decide +kernel
theorem dX7_frontIn_20 : decode cX7_frontIn 20 = .ok (.getfield 141, 3) := by decide +kernel
theorem dX7_frontIn_23 : decode cX7_frontIn 23 = .ok (.iload_n 1, 1) := by decide +kernel
theorem dX7_frontIn_24 : decode cX7_frontIn 24 = .ok (.iaload, 1) := by decide +kernel
theorem dX7_frontIn_25 : decode cX7_frontIn 25 = .ok (.ifCond .ne 5, 3) := by decide +kernel
theorem dX7_frontIn_28 : decode cX7_frontIn 28 = .ok (.iload_n 3, 1) := by decide +kernel
theorem dX7_frontIn_29 : decode cX7_frontIn 29 = .ok (.ireturn, 1) := by decide +kernel
theorem dX7_frontIn_30 : decode cX7_frontIn 30 = .ok (.aload_n 2, 1) := by decide +kernel
theorem dX7_frontIn_31 : decode cX7_frontIn 31 = .ok (.iconst 0, 1) := by decide +kernel
theorem dX7_frontIn_32 : decode cX7_frontIn 32 = .ok (.invokevirtual 207, 3) := by decide +kernel
theorem dX7_frontIn_35 : decode cX7_frontIn 35 = .ok (.iinc 3 1, 3) := by decide +kernel
theorem dX7_frontIn_38 : decode cX7_frontIn 38 = .ok (.goto (-26), 3) := by decide +kernel
theorem dX7_frontIn_41 : decode cX7_frontIn 41 = .ok (.iconst (-1), 1) := by decide +kernel
theorem dX7_frontIn_42 : decode cX7_frontIn 42 = .ok (.ireturn, 1) := by decide +kernel
theorem dX7_front_0 : decode cX7_front 0 = .ok (.aload_n 0, 1) := by decide +kernel
theorem dX7_front_1 : decode cX7_front 1 = .ok (.iload_n 1, 1) := by decide +kernel
theorem dX7_front_2 : decode cX7_front 2 = .ok (.iconst 0, 1) := by decide +kernel
theorem dX7_front_3 : decode cX7_front 3 = .ok (.sipush 200, 3) := by decide +kernel
theorem dX7_front_6 : decode cX7_front 6 = .ok (.invokevirtual 90, 3) := by decide +kernel
theorem dX7_front_9 : decode cX7_front 9 = .ok (.aload_n 0, 1) := by decide +kernel
theorem dX7_front_10 : decode cX7_front 10 = .ok (.iload_n 1, 1) := by decide +kernel
theorem dX7_front_11 : decode cX7_front 11 = .ok (.invokevirtual 252, 3) := by decide +kernel
theorem dX7_front_14 : decode cX7_front 14 = .ok (.invokevirtual 242, 3) := by decide +kernel
theorem dX7_front_17 : decode cX7_front 17 = .ok (.ireturn, 1) := by decide +kernel
theorem dX7_king_0 : decode cX7_king 0 = .ok (.aload_n 0, 1) := by decide +kernel
theorem dX7_king_1 : decode cX7_king 1 = .ok (.iload_n 1, 1) := by decide +kernel
theorem dX7_king_2 : decode cX7_king 2 = .ok (.iconst 0, 1) := by decide +kernel
theorem dX7_king_3 : decode cX7_king 3 = .ok (.sipush 200, 3) := by decide +kernel
theorem dX7_king_6 : decode cX7_king 6 = .ok (.invokevirtual 90, 3) := by decide +kernel
theorem dX7_king_9 : decode cX7_king 9 = .ok (.aload_n 0, 1) := by decide +kernel
theorem dX7_king_10 : decode cX7_king 10 = .ok (.getfield 44, 3) := by decide +kernel
theorem dX7_king_13 : decode cX7_king 13 = .ok (.iconst 0, 1) := by decide +kernel
theorem dX7_king_14 : decode cX7_king 14 = .ok (.invokestatic 258, 3) := by decide +kernel
theorem dX7_king_17 : decode cX7_king 17 = .ok (.aload_n 0, 1) := by decide +kernel
theorem dX7_king_18 : decode cX7_king 18 = .ok (.invokevirtual 223, 3) := by decide +kernel
theorem dX7_king_21 : decode cX7_king 21 = .ok (.astore_n 2, 1) := by decide +kernel
theorem dX7_king_22 : decode cX7_king 22 = .ok (.aload_n 2, 1) := by decide +kernel
theorem dX7_king_23 : decode cX7_king 23 = .ok (.getfield 120, 3) := by decide +kernel
theorem dX7_king_26 : decode cX7_king 26 = .ok (.getfield 263, 3) := by decide +kernel
theorem dX7_king_29 : decode cX7_king 29 = .ok (.istore_n 3, 1) := by decide +kernel
theorem dX7_king_30 : decode cX7_king 30 = .ok (.iconst 0, 1) := by decide +kernel
theorem dX7_king_31 : decode cX7_king 31 = .ok (.istore 4, 2) := by decide +kernel
theorem dX7_king_33 : decode cX7_king 33 = .ok (.iload 4, 2) := by decide +kernel
theorem dX7_king_35 : decode cX7_king 35 = .ok (.iload_n 1, 1) := by decide +kernel
theorem dX7_king_36 : decode cX7_king 36 = .ok (.if_icmp .gt 50, 3) := by decide +kernel
theorem dX7_king_39 : decode cX7_king 39 = .ok (.iconst 0, 1) := by decide +kernel
theorem dX7_king_40 : decode cX7_king 40 = .ok (.istore 5, 2) := by decide +kernel
theorem dX7_king_42 : decode cX7_king 42 = .ok (.iload 5, 2) := by decide +kernel
theorem dX7_king_44 : decode cX7_king 44 = .ok (.iload_n 3, 1) := by decide +kernel
theorem dX7_king_45 : decode cX7_king 45 = .ok (.if_icmp .ge 30, 3) := by decide +kernel
theorem dX7_king_48 : decode cX7_king 48 = .ok (.aload_n 2, 1) := by decide +kernel
theorem dX7_king_49 : decode cX7_king 49 = .ok (.getfield 141, 3) := by decide +kernel
theorem dX7_king_52 : decode cX7_king 52 = .ok (.iload 5, 2) := by decide +kernel
theorem dX7_king_54 : decode cX7_king 54 = .ok (.iaload, 1) := by decide +kernel
theorem dX7_king_55 : decode cX7_king 55 = .ok (.ifCond .ne 14, 3) := by decide +kernel
theorem dX7_king_58 : decode cX7_king 58 = .ok (.aload_n 0, 1) := by decide +kernel
theorem dX7_king_59 : decode cX7_king 59 = .ok (.getfield 44, 3) := by decide +kernel
theorem dX7_king_62 : decode cX7_king 62 = .ok (.iload 5, 2) := by decide +kernel
theorem dX7_king_64 : decode cX7_king 64 = .ok (.dup2, 1) := by decide +kernel
theorem dX7_king_65 : decode cX7_king 65 = .ok (.iaload, 1) := by decide +kernel
theorem dX7_king_66 : decode cX7_king 66 = .ok (.iconst 1, 1) := by decide +kernel
theorem dX7_king_67 : decode cX7_king 67 = .ok (.iadd, 1) := by decide +kernel
theorem dX7_king_68 : decode cX7_king 68 = .ok (.iastore, 1) := by decide +kernel
theorem dX7_king_69 : decode cX7_king 69 = .ok (.iinc 5 1, 3) := by decide +kernel
theorem dX7_king_72 : decode cX7_king 72 = .ok (.goto (-30), 3) := by decide +kernel
theorem dX7_king_75 : decode cX7_king 75 = .ok (.aload_n 2, 1) := by decide +kernel
theorem dX7_king_76 : decode cX7_king 76 = .ok (.iconst 0, 1) := by decide +kernel
theorem dX7_king_77 : decode cX7_king 77 = .ok (.invokevirtual 207, 3) := by decide +kernel
theorem dX7_king_80 : decode cX7_king 80 = .ok (.iinc 4 1, 3) := by decide +kernel
theorem dX7_king_83 : decode cX7_king 83 = .ok (.goto (-50), 3) := by decide +kernel
theorem dX7_king_86 : decode cX7_king 86 = .ok (.iconst (-1), 1) := by decide +kernel
theorem dX7_king_87 : decode cX7_king 87 = .ok (.istore 4, 2) := by decide +kernel
theorem dX7_king_89 : decode cX7_king 89 = .ok (.iconst 0, 1) := by decide +kernel
theorem dX7_king_90 : decode cX7_king 90 = .ok (.istore 5, 2) := by decide +kernel
theorem dX7_king_92 : decode cX7_king 92 = .ok (.iconst 0, 1) := by decide +kernel
theorem dX7_king_93 : decode cX7_king 93 = .ok (.istore 6, 2) := by decide +kernel
theorem dX7_king_95 : decode cX7_king 95 = .ok (.iload 6, 2) := by decide +kernel
theorem dX7_king_97 : decode cX7_king 97 = .ok (.iload_n 3, 1) := by decide +kernel
theorem dX7_king_98 : decode cX7_king 98 = .ok (.if_icmp .ge 34, 3) := by decide +kernel
theorem dX7_king_101 : decode cX7_king 101 = .ok (.aload_n 0, 1) := by decide +kernel
theorem dX7_king_102 : decode cX7_king 102 = .ok (.getfield 44, 3) := by decide +kernel
theorem dX7_king_105 : decode cX7_king 105 = .ok (.iload 6, 2) := by decide +kernel
theorem dX7_king_107 : decode cX7_king 107 = .ok (.iaload, 1) := by decide +kernel
theorem dX7_king_108 : decode cX7_king 108 = .ok (.iload 5, 2) := by decide +kernel
theorem dX7_king_110 : decode cX7_king 110 = .ok (.if_icmp .le 16, 3) := by decide +kernel
theorem dX7_king_113 : decode cX7_king 113 = .ok (.aload_n 0, 1) := by decide +kernel
theorem dX7_king_114 : decode cX7_king 114 = .ok (.getfield 44, 3) := by decide +kernel
theorem dX7_king_117 : decode cX7_king 117 = .ok (.iload 6, 2) := by decide +kernel
theorem dX7_king_119 : decode cX7_king 119 = .ok (.iaload, 1) := by decide +kernel
theorem dX7_king_120 : decode cX7_king 120 = .ok (.istore 5, 2) := by decide +kernel
theorem dX7_king_122 : decode cX7_king 122 = .ok (.iload 6, 2) := by decide +kernel
theorem dX7_king_124 : decode cX7_king 124 = .ok (.istore 4, 2) := by decide +kernel
theorem dX7_king_126 : decode cX7_king 126 = .ok (.iinc 6 1, 3) := by decide +kernel
theorem dX7_king_129 : decode cX7_king 129 = .ok (.goto (-34), 3) := by decide +kernel
theorem dX7_king_132 : decode cX7_king 132 = .ok (.iload 4, 2) := by decide +kernel
theorem dX7_king_134 : decode cX7_king 134 = .ok (.ireturn, 1) := by decide +kernel
theorem dX7_bring_0 : decode cX7_bring 0 = .ok (.aload_n 0, 1) := by decide +kernel
theorem dX7_bring_1 : decode cX7_bring 1 = .ok (.iload_n 1, 1) := by decide +kernel
theorem dX7_bring_2 : decode cX7_bring 2 = .ok (.invokevirtual 135, 3) := by decide +kernel
theorem dX7_bring_5 : decode cX7_bring 5 = .ok (.aload_n 0, 1) := by decide +kernel
theorem dX7_bring_6 : decode cX7_bring 6 = .ok (.iload_n 2, 1) := by decide +kernel
theorem dX7_bring_7 : decode cX7_bring 7 = .ok (.iconst 0, 1) := by decide +kernel
theorem dX7_bring_8 : decode cX7_bring 8 = .ok (.aload_n 0, 1) := by decide +kernel
theorem dX7_bring_9 : decode cX7_bring 9 = .ok (.getfield 65, 3) := by decide +kernel
theorem dX7_bring_12 : decode cX7_bring 12 = .ok (.getfield 120, 3) := by decide +kernel
theorem dX7_bring_15 : decode cX7_bring 15 = .ok (.getfield 266, 3) := by decide +kernel
theorem dX7_bring_18 : decode cX7_bring 18 = .ok (.iconst 1, 1) := by decide +kernel
theorem dX7_bring_19 : decode cX7_bring 19 = .ok (.isub, 1) := by decide +kernel
theorem dX7_bring_20 : decode cX7_bring 20 = .ok (.invokevirtual 90, 3) := by decide +kernel
theorem dX7_bring_23 : decode cX7_bring 23 = .ok (.iload_n 3, 1) := by decide +kernel
theorem dX7_bring_24 : decode cX7_bring 24 = .ok (.ifCond .eq 12, 3) := by decide +kernel
theorem dX7_bring_27 : decode cX7_bring 27 = .ok (.aload_n 0, 1) := by decide +kernel
theorem dX7_bring_28 : decode cX7_bring 28 = .ok (.iload_n 3, 1) := by decide +kernel
theorem dX7_bring_29 : decode cX7_bring 29 = .ok (.bipush 10, 2) := by decide +kernel
theorem dX7_bring_31 : decode cX7_bring 31 = .ok (.bipush 17, 2) := by decide +kernel
theorem dX7_bring_33 : decode cX7_bring 33 = .ok (.invokevirtual 90, 3) := by decide +kernel
theorem dX7_bring_36 : decode cX7_bring 36 = .ok (.aload_n 0, 1) := by decide +kernel
theorem dX7_bring_37 : decode cX7_bring 37 = .ok (.iload_n 1, 1) := by decide +kernel
theorem dX7_bring_38 : decode cX7_bring 38 = .ok (.iload_n 2, 1) := by decide +kernel
theorem dX7_bring_39 : decode cX7_bring 39 = .ok (.invokevirtual 269, 3) := by decide +kernel
theorem dX7_bring_42 : decode cX7_bring 42 = .ok (.istore 4, 2) := by decide +kernel
theorem dX7_bring_44 : decode cX7_bring 44 = .ok (.iload_n 3, 1) := by decide +kernel
theorem dX7_bring_45 : decode cX7_bring 45 = .ok (.ifCond .eq 9, 3) := by decide +kernel
theorem dX7_bring_48 : decode cX7_bring 48 = .ok (.iload 4, 2) := by decide +kernel
theorem dX7_bring_50 : decode cX7_bring 50 = .ok (.iconst (-1), 1) := by decide +kernel
theorem dX7_bring_51 : decode cX7_bring 51 = .ok (.if_icmp .ne 6, 3) := by decide +kernel
theorem dX7_bring_54 : decode cX7_bring 54 = .ok (.iload 4, 2) := by decide +kernel
theorem dX7_bring_56 : decode cX7_bring 56 = .ok (.ireturn, 1) := by decide +kernel
theorem dX7_bring_57 : decode cX7_bring 57 = .ok (.iload_n 3, 1) := by decide +kernel
theorem dX7_bring_58 : decode cX7_bring 58 = .ok (.bipush 10, 2) := by decide +kernel
theorem dX7_bring_60 : decode cX7_bring 60 = .ok (.isub, 1) := by decide +kernel
theorem dX7_bring_61 : decode cX7_bring 61 = .ok (.istore 5, 2) := by decide +kernel
theorem dX7_bring_63 : decode cX7_bring 63 = .ok (.iload 5, 2) := by decide +kernel
theorem dX7_bring_65 : decode cX7_bring 65 = .ok (.iload 4, 2) := by decide +kernel
theorem dX7_bring_67 : decode cX7_bring 67 = .ok (.if_icmp .ge 23, 3) := by decide +kernel
theorem dX7_bring_70 : decode cX7_bring 70 = .ok (.iload 5, 2) := by decide +kernel
theorem dX7_bring_72 : decode cX7_bring 72 = .ok (.aload_n 0, 1) := by decide +kernel
theorem dX7_bring_73 : decode cX7_bring 73 = .ok (.getfield 41, 3) := by decide +kernel
theorem dX7_bring_76 : decode cX7_bring 76 = .ok (.arraylength, 1) := by decide +kernel
theorem dX7_bring_77 : decode cX7_bring 77 = .ok (.if_icmp .ge 13, 3) := by decide +kernel
theorem dX7_bring_80 : decode cX7_bring 80 = .ok (.aload_n 0, 1) := by decide +kernel
theorem dX7_bring_81 : decode cX7_bring 81 = .ok (.getfield 41, 3) := by decide +kernel
theorem dX7_bring_84 : decode cX7_bring 84 = .ok (.iload 5, 2) := by decide +kernel
theorem dX7_bring_86 : decode cX7_bring 86 = .ok (.iaload, 1) := by decide +kernel
theorem dX7_bring_87 : decode cX7_bring 87 = .ok (.goto 4, 3) := by decide +kernel
theorem dX7_bring_90 : decode cX7_bring 90 = .ok (.iconst (-1), 1) := by decide +kernel
theorem dX7_bring_91 : decode cX7_bring 91 = .ok (.ireturn, 1) := by decide +kernel
theorem dX7_faints_0 : decode cX7_faints 0 = .ok (.aload_n 0, 1) := by decide +kernel
theorem dX7_faints_1 : decode cX7_faints 1 = .ok (.iload_n 1, 1) := by decide +kernel
theorem dX7_faints_2 : decode cX7_faints 2 = .ok (.invokevirtual 135, 3) := by decide +kernel
theorem dX7_faints_5 : decode cX7_faints 5 = .ok (.aload_n 0, 1) := by decide +kernel
theorem dX7_faints_6 : decode cX7_faints 6 = .ok (.iload_n 2, 1) := by decide +kernel
theorem dX7_faints_7 : decode cX7_faints 7 = .ok (.iconst 0, 1) := by decide +kernel
theorem dX7_faints_8 : decode cX7_faints 8 = .ok (.bipush 60, 2) := by decide +kernel
theorem dX7_faints_10 : decode cX7_faints 10 = .ok (.invokevirtual 90, 3) := by decide +kernel
theorem dX7_faints_13 : decode cX7_faints 13 = .ok (.aload_n 0, 1) := by decide +kernel
theorem dX7_faints_14 : decode cX7_faints 14 = .ok (.iload_n 3, 1) := by decide +kernel
theorem dX7_faints_15 : decode cX7_faints 15 = .ok (.iconst 0, 1) := by decide +kernel
theorem dX7_faints_16 : decode cX7_faints 16 = .ok (.iconst 1, 1) := by decide +kernel
theorem dX7_faints_17 : decode cX7_faints 17 = .ok (.invokevirtual 90, 3) := by decide +kernel
theorem dX7_faints_20 : decode cX7_faints 20 = .ok (.aload_n 0, 1) := by decide +kernel
theorem dX7_faints_21 : decode cX7_faints 21 = .ok (.iload_n 1, 1) := by decide +kernel
theorem dX7_faints_22 : decode cX7_faints 22 = .ok (.invokevirtual 272, 3) := by decide +kernel
theorem dX7_faints_25 : decode cX7_faints 25 = .ok (.istore 4, 2) := by decide +kernel
theorem dX7_faints_27 : decode cX7_faints 27 = .ok (.bipush 9, 2) := by decide +kernel
theorem dX7_faints_29 : decode cX7_faints 29 = .ok (.istore 5, 2) := by decide +kernel
theorem dX7_faints_31 : decode cX7_faints 31 = .ok (.iconst (-1), 1) := by decide +kernel
theorem dX7_faints_32 : decode cX7_faints 32 = .ok (.istore 6, 2) := by decide +kernel
theorem dX7_faints_34 : decode cX7_faints 34 = .ok (.iconst 0, 1) := by decide +kernel
theorem dX7_faints_35 : decode cX7_faints 35 = .ok (.istore 7, 2) := by decide +kernel
theorem dX7_faints_37 : decode cX7_faints 37 = .ok (.iload 7, 2) := by decide +kernel
theorem dX7_faints_39 : decode cX7_faints 39 = .ok (.sipush 256, 3) := by decide +kernel
theorem dX7_faints_42 : decode cX7_faints 42 = .ok (.if_icmp .ge 52, 3) := by decide +kernel
theorem dX7_faints_45 : decode cX7_faints 45 = .ok (.iload 7, 2) := by decide +kernel
theorem dX7_faints_47 : decode cX7_faints 47 = .ok (.invokestatic 198, 3) := by decide +kernel
theorem dX7_faints_50 : decode cX7_faints 50 = .ok (.istore 8, 2) := by decide +kernel
theorem dX7_faints_52 : decode cX7_faints 52 = .ok (.iload 7, 2) := by decide +kernel
theorem dX7_faints_54 : decode cX7_faints 54 = .ok (.iload 4, 2) := by decide +kernel
theorem dX7_faints_56 : decode cX7_faints 56 = .ok (.iconst (-1), 1) := by decide +kernel
theorem dX7_faints_57 : decode cX7_faints 57 = .ok (.ixor, 1) := by decide +kernel
theorem dX7_faints_58 : decode cX7_faints 58 = .ok (.iand, 1) := by decide +kernel
theorem dX7_faints_59 : decode cX7_faints 59 = .ok (.ifCond .ne 29, 3) := by decide +kernel
theorem dX7_faints_62 : decode cX7_faints 62 = .ok (.iload 8, 2) := by decide +kernel
theorem dX7_faints_64 : decode cX7_faints 64 = .ok (.iload 5, 2) := by decide +kernel
theorem dX7_faints_66 : decode cX7_faints 66 = .ok (.if_icmp .ge 22, 3) := by decide +kernel
theorem dX7_faints_69 : decode cX7_faints 69 = .ok (.aload_n 0, 1) := by decide +kernel
theorem dX7_faints_70 : decode cX7_faints 70 = .ok (.iload 7, 2) := by decide +kernel
theorem dX7_faints_72 : decode cX7_faints 72 = .ok (.iload_n 1, 1) := by decide +kernel
theorem dX7_faints_73 : decode cX7_faints 73 = .ok (.iload_n 2, 1) := by decide +kernel
theorem dX7_faints_74 : decode cX7_faints 74 = .ok (.invokevirtual 275, 3) := by decide +kernel
theorem dX7_faints_77 : decode cX7_faints 77 = .ok (.ifCond .eq 11, 3) := by decide +kernel
theorem dX7_faints_80 : decode cX7_faints 80 = .ok (.iload 8, 2) := by decide +kernel
theorem dX7_faints_82 : decode cX7_faints 82 = .ok (.istore 5, 2) := by decide +kernel
theorem dX7_faints_84 : decode cX7_faints 84 = .ok (.iload 7, 2) := by decide +kernel
theorem dX7_faints_86 : decode cX7_faints 86 = .ok (.istore 6, 2) := by decide +kernel
theorem dX7_faints_88 : decode cX7_faints 88 = .ok (.iinc 7 1, 3) := by decide +kernel
theorem dX7_faints_91 : decode cX7_faints 91 = .ok (.goto (-54), 3) := by decide +kernel
theorem dX7_faints_94 : decode cX7_faints 94 = .ok (.iload 6, 2) := by decide +kernel
theorem dX7_faints_96 : decode cX7_faints 96 = .ok (.iconst (-1), 1) := by decide +kernel
theorem dX7_faints_97 : decode cX7_faints 97 = .ok (.if_icmp .ne 5, 3) := by decide +kernel
theorem dX7_faints_100 : decode cX7_faints 100 = .ok (.iconst (-1), 1) := by decide +kernel
theorem dX7_faints_101 : decode cX7_faints 101 = .ok (.ireturn, 1) := by decide +kernel
theorem dX7_faints_102 : decode cX7_faints 102 = .ok (.iload_n 3, 1) := by decide +kernel
theorem dX7_faints_103 : decode cX7_faints 103 = .ok (.ifCond .ne 8, 3) := by decide +kernel
theorem dX7_faints_106 : decode cX7_faints 106 = .ok (.iload 5, 2) := by decide +kernel
theorem dX7_faints_108 : decode cX7_faints 108 = .ok (.goto 5, 3) := by decide +kernel
theorem dX7_faints_111 : decode cX7_faints 111 = .ok (.iload 6, 2) := by decide +kernel
theorem dX7_faints_113 : decode cX7_faints 113 = .ok (.ireturn, 1) := by decide +kernel
theorem dX7_round_0 : decode cX7_round 0 = .ok (.aload_n 0, 1) := by decide +kernel
theorem dX7_round_1 : decode cX7_round 1 = .ok (.iload_n 1, 1) := by decide +kernel
theorem dX7_round_2 : decode cX7_round 2 = .ok (.iconst 0, 1) := by decide +kernel
theorem dX7_round_3 : decode cX7_round 3 = .ok (.invokevirtual 127, 3) := by decide +kernel
theorem dX7_round_6 : decode cX7_round 6 = .ok (.aload_n 0, 1) := by decide +kernel
theorem dX7_round_7 : decode cX7_round 7 = .ok (.getfield 65, 3) := by decide +kernel
theorem dX7_round_10 : decode cX7_round 10 = .ok (.iload_n 1, 1) := by decide +kernel
theorem dX7_round_11 : decode cX7_round 11 = .ok (.invokevirtual 279, 3) := by decide +kernel
theorem dX7_round_14 : decode cX7_round 14 = .ok (.istore_n 2, 1) := by decide +kernel
theorem dX7_round_15 : decode cX7_round 15 = .ok (.aload_n 0, 1) := by decide +kernel
theorem dX7_round_16 : decode cX7_round 16 = .ok (.invokevirtual 223, 3) := by decide +kernel
theorem dX7_round_19 : decode cX7_round 19 = .ok (.astore_n 3, 1) := by decide +kernel
theorem dX7_round_20 : decode cX7_round 20 = .ok (.iconst 0, 1) := by decide +kernel
theorem dX7_round_21 : decode cX7_round 21 = .ok (.istore 4, 2) := by decide +kernel
theorem dX7_round_23 : decode cX7_round 23 = .ok (.iload 4, 2) := by decide +kernel
theorem dX7_round_25 : decode cX7_round 25 = .ok (.bipush 99, 2) := by decide +kernel
theorem dX7_round_27 : decode cX7_round 27 = .ok (.if_icmp .gt 72, 3) := by decide +kernel
theorem dX7_round_30 : decode cX7_round 30 = .ok (.aload_n 3, 1) := by decide +kernel
theorem dX7_round_31 : decode cX7_round 31 = .ok (.iload_n 1, 1) := by decide +kernel
theorem dX7_round_32 : decode cX7_round 32 = .ok (.iconst 0, 1) := by decide +kernel
theorem dX7_round_33 : decode cX7_round 33 = .ok (.invokevirtual 131, 3) := by decide +kernel
theorem dX7_round_36 : decode cX7_round 36 = .ok (.istore 5, 2) := by decide +kernel
theorem dX7_round_38 : decode cX7_round 38 = .ok (.iload 5, 2) := by decide +kernel
theorem dX7_round_40 : decode cX7_round 40 = .ok (.iconst (-1), 1) := by decide +kernel
theorem dX7_round_41 : decode cX7_round 41 = .ok (.if_icmp .eq 12, 3) := by decide +kernel
theorem dX7_round_44 : decode cX7_round 44 = .ok (.iload_n 2, 1) := by decide +kernel
theorem dX7_round_45 : decode cX7_round 45 = .ok (.iconst 1, 1) := by decide +kernel
theorem dX7_round_46 : decode cX7_round 46 = .ok (.iload 5, 2) := by decide +kernel
theorem dX7_round_48 : decode cX7_round 48 = .ok (.ishl, 1) := by decide +kernel
theorem dX7_round_49 : decode cX7_round 49 = .ok (.iconst (-1), 1) := by decide +kernel
theorem dX7_round_50 : decode cX7_round 50 = .ok (.ixor, 1) := by decide +kernel
theorem dX7_round_51 : decode cX7_round 51 = .ok (.iand, 1) := by decide +kernel
theorem dX7_round_52 : decode cX7_round 52 = .ok (.istore_n 2, 1) := by decide +kernel
theorem dX7_round_53 : decode cX7_round 53 = .ok (.iload_n 2, 1) := by decide +kernel
theorem dX7_round_54 : decode cX7_round 54 = .ok (.ifCond .ne 6, 3) := by decide +kernel
theorem dX7_round_57 : decode cX7_round 57 = .ok (.iload 4, 2) := by decide +kernel
theorem dX7_round_59 : decode cX7_round 59 = .ok (.ireturn, 1) := by decide +kernel
theorem dX7_round_60 : decode cX7_round 60 = .ok (.aload_n 3, 1) := by decide +kernel
theorem dX7_round_61 : decode cX7_round 61 = .ok (.iload_n 1, 1) := by decide +kernel
theorem dX7_round_62 : decode cX7_round 62 = .ok (.invokevirtual 282, 3) := by decide +kernel
theorem dX7_round_65 : decode cX7_round 65 = .ok (.istore 5, 2) := by decide +kernel
theorem dX7_round_67 : decode cX7_round 67 = .ok (.iload 5, 2) := by decide +kernel
theorem dX7_round_69 : decode cX7_round 69 = .ok (.iconst (-1), 1) := by decide +kernel
theorem dX7_round_70 : decode cX7_round 70 = .ok (.if_icmp .eq 18, 3) := by decide +kernel
theorem dX7_round_73 : decode cX7_round 73 = .ok (.aload_n 3, 1) := by decide +kernel
theorem dX7_round_74 : decode cX7_round 74 = .ok (.iload 5, 2) := by decide +kernel
theorem dX7_round_76 : decode cX7_round 76 = .ok (.invokevirtual 183, 3) := by decide +kernel
theorem dX7_round_79 : decode cX7_round 79 = .ok (.pop, 1) := by decide +kernel
theorem dX7_round_80 : decode cX7_round 80 = .ok (.aload_n 3, 1) := by decide +kernel
theorem dX7_round_81 : decode cX7_round 81 = .ok (.iload 5, 2) := by decide +kernel
theorem dX7_round_83 : decode cX7_round 83 = .ok (.iload_n 1, 1) := by decide +kernel
theorem dX7_round_84 : decode cX7_round 84 = .ok (.invokevirtual 189, 3) := by decide +kernel
theorem dX7_round_87 : decode cX7_round 87 = .ok (.pop, 1) := by decide +kernel
theorem dX7_round_88 : decode cX7_round 88 = .ok (.aload_n 3, 1) := by decide +kernel
theorem dX7_round_89 : decode cX7_round 89 = .ok (.iconst 0, 1) := by decide +kernel
theorem dX7_round_90 : decode cX7_round 90 = .ok (.invokevirtual 207, 3) := by decide +kernel
theorem dX7_round_93 : decode cX7_round 93 = .ok (.iinc 4 1, 3) := by decide +kernel
theorem dX7_round_96 : decode cX7_round 96 = .ok (.goto (-73), 3) := by decide +kernel
theorem dX7_round_99 : decode cX7_round 99 = .ok (.iconst (-1), 1) := by decide +kernel
theorem dX7_round_100 : decode cX7_round 100 = .ok (.ireturn, 1) := by decide +kernel
theorem dX7_stir_0 : decode cX7_stir 0 = .ok (.iconst (-1), 1) := by decide +kernel
theorem dX7_stir_1 : decode cX7_stir 1 = .ok (.istore_n 1, 1) := by decide +kernel
theorem dX7_stir_2 : decode cX7_stir 2 = .ok (.iconst 0, 1) := by decide +kernel
theorem dX7_stir_3 : decode cX7_stir 3 = .ok (.istore_n 2, 1) := by decide +kernel
theorem dX7_stir_4 : decode cX7_stir 4 = .ok (.iconst 0, 1) := by decide +kernel
theorem dX7_stir_5 : decode cX7_stir 5 = .ok (.istore_n 3, 1) := by decide +kernel
theorem dX7_stir_6 : decode cX7_stir 6 = .ok (.iload_n 3, 1) := by decide +kernel
theorem dX7_stir_7 : decode cX7_stir 7 = .ok (.aload_n 0, 1) := by decide +kernel
theorem dX7_stir_8 : decode cX7_stir 8 = .ok (.getfield 65, 3) := by decide +kernel
theorem dX7_stir_11 : decode cX7_stir 11 = .ok (.getfield 120, 3) := by decide +kernel
theorem dX7_stir_14 : decode cX7_stir 14 = .ok (.getfield 263, 3) := by decide +kernel
theorem dX7_stir_17 : decode cX7_stir 17 = .ok (.if_icmp .ge 41, 3) := by decide +kernel
theorem dX7_stir_20 : decode cX7_stir 20 = .ok (.aload_n 0, 1) := by decide +kernel
theorem dX7_stir_21 : decode cX7_stir 21 = .ok (.getfield 65, 3) := by decide +kernel
theorem dX7_stir_24 : decode cX7_stir 24 = .ok (.iload_n 3, 1) := by decide +kernel
theorem dX7_stir_25 : decode cX7_stir 25 = .ok (.invokevirtual 177, 3) := by decide +kernel
theorem dX7_stir_28 : decode cX7_stir 28 = .ok (.ifCond .ne 24, 3) := by decide +kernel
theorem dX7_stir_31 : decode cX7_stir 31 = .ok (.aload_n 0, 1) := by decide +kernel
theorem dX7_stir_32 : decode cX7_stir 32 = .ok (.invokevirtual 223, 3) := by decide +kernel
theorem dX7_stir_35 : decode cX7_stir 35 = .ok (.iload_n 3, 1) := by decide +kernel
theorem dX7_stir_36 : decode cX7_stir 36 = .ok (.invokevirtual 183, 3) := by decide +kernel
theorem dX7_stir_39 : decode cX7_stir 39 = .ok (.istore 4, 2) := by decide +kernel
theorem dX7_stir_41 : decode cX7_stir 41 = .ok (.iload 4, 2) := by decide +kernel
theorem dX7_stir_43 : decode cX7_stir 43 = .ok (.iload_n 2, 1) := by decide +kernel
theorem dX7_stir_44 : decode cX7_stir 44 = .ok (.if_icmp .le 8, 3) := by decide +kernel
theorem dX7_stir_47 : decode cX7_stir 47 = .ok (.iload 4, 2) := by decide +kernel
theorem dX7_stir_49 : decode cX7_stir 49 = .ok (.istore_n 2, 1) := by decide +kernel
theorem dX7_stir_50 : decode cX7_stir 50 = .ok (.iload_n 3, 1) := by decide +kernel
theorem dX7_stir_51 : decode cX7_stir 51 = .ok (.istore_n 1, 1) := by decide +kernel
theorem dX7_stir_52 : decode cX7_stir 52 = .ok (.iinc 3 1, 3) := by decide +kernel
theorem dX7_stir_55 : decode cX7_stir 55 = .ok (.goto (-49), 3) := by decide +kernel
theorem dX7_stir_58 : decode cX7_stir 58 = .ok (.iload_n 1, 1) := by decide +kernel
theorem dX7_stir_59 : decode cX7_stir 59 = .ok (.ireturn, 1) := by decide +kernel
theorem dX7_hands_0 : decode cX7_hands 0 = .ok (.aload_n 0, 1) := by decide +kernel
theorem dX7_hands_1 : decode cX7_hands 1 = .ok (.iload_n 1, 1) := by decide +kernel
theorem dX7_hands_2 : decode cX7_hands 2 = .ok (.iload_n 2, 1) := by decide +kernel
theorem dX7_hands_3 : decode cX7_hands 3 = .ok (.invokevirtual 285, 3) := by decide +kernel
theorem dX7_hands_6 : decode cX7_hands 6 = .ok (.aload_n 0, 1) := by decide +kernel
theorem dX7_hands_7 : decode cX7_hands 7 = .ok (.getfield 65, 3) := by decide +kernel
theorem dX7_hands_10 : decode cX7_hands 10 = .ok (.iconst 1, 1) := by decide +kernel
theorem dX7_hands_11 : decode cX7_hands 11 = .ok (.iload_n 1, 1) := by decide +kernel
theorem dX7_hands_12 : decode cX7_hands 12 = .ok (.ishl, 1) := by decide +kernel
theorem dX7_hands_13 : decode cX7_hands 13 = .ok (.iload_n 2, 1) := by decide +kernel
theorem dX7_hands_14 : decode cX7_hands 14 = .ok (.iconst 0, 1) := by decide +kernel
theorem dX7_hands_15 : decode cX7_hands 15 = .ok (.invokevirtual 288, 3) := by decide +kernel
theorem dX7_hands_18 : decode cX7_hands 18 = .ok (.ireturn, 1) := by decide +kernel
theorem dX7_relay_0 : decode cX7_relay 0 = .ok (.aload_n 0, 1) := by decide +kernel
theorem dX7_relay_1 : decode cX7_relay 1 = .ok (.iload_n 1, 1) := by decide +kernel
theorem dX7_relay_2 : decode cX7_relay 2 = .ok (.invokevirtual 135, 3) := by decide +kernel
theorem dX7_relay_5 : decode cX7_relay 5 = .ok (.aload_n 0, 1) := by decide +kernel
theorem dX7_relay_6 : decode cX7_relay 6 = .ok (.getfield 65, 3) := by decide +kernel
theorem dX7_relay_9 : decode cX7_relay 9 = .ok (.getfield 141, 3) := by decide +kernel
theorem dX7_relay_12 : decode cX7_relay 12 = .ok (.iload_n 1, 1) := by decide +kernel
theorem dX7_relay_13 : decode cX7_relay 13 = .ok (.iaload, 1) := by decide +kernel
theorem dX7_relay_14 : decode cX7_relay 14 = .ok (.iconst (-1), 1) := by decide +kernel
theorem dX7_relay_15 : decode cX7_relay 15 = .ok (.if_icmp .ne 14, 3) := by decide +kernel
theorem dX7_relay_18 : decode cX7_relay 18 = .ok (.new 291, 3) := by decide +kernel
theorem dX7_relay_21 : decode cX7_relay 21 = .ok (.dup, 1) := by decide +kernel
theorem dX7_relay_22 : decode cX7_relay 22 = .ok (.ldc_w 293, 3) := by decide +kernel
theorem dX7_relay_25 : decode cX7_relay 25 = .ok (.invokespecial 295, 3) := by decide +kernel
theorem dX7_relay_28 : decode cX7_relay 28 = .ok (.athrow, 1) := by decide +kernel
theorem dX7_relay_29 : decode cX7_relay 29 = .ok (.aload_n 0, 1) := by decide +kernel
theorem dX7_relay_30 : decode cX7_relay 30 = .ok (.getfield 65, 3) := by decide +kernel
theorem dX7_relay_33 : decode cX7_relay 33 = .ok (.getfield 120, 3) := by decide +kernel
theorem dX7_relay_36 : decode cX7_relay 36 = .ok (.getfield 266, 3) := by decide +kernel
theorem dX7_relay_39 : decode cX7_relay 39 = .ok (.iconst 1, 1) := by decide +kernel
theorem dX7_relay_40 : decode cX7_relay 40 = .ok (.isub, 1) := by decide +kernel
theorem dX7_relay_41 : decode cX7_relay 41 = .ok (.istore_n 2, 1) := by decide +kernel
theorem dX7_relay_42 : decode cX7_relay 42 = .ok (.aload_n 0, 1) := by decide +kernel
theorem dX7_relay_43 : decode cX7_relay 43 = .ok (.getfield 65, 3) := by decide +kernel
theorem dX7_relay_46 : decode cX7_relay 46 = .ok (.getfield 141, 3) := by decide +kernel
theorem dX7_relay_49 : decode cX7_relay 49 = .ok (.iload_n 1, 1) := by decide +kernel
theorem dX7_relay_50 : decode cX7_relay 50 = .ok (.iaload, 1) := by decide +kernel
theorem dX7_relay_51 : decode cX7_relay 51 = .ok (.iload_n 2, 1) := by decide +kernel
theorem dX7_relay_52 : decode cX7_relay 52 = .ok (.if_icmp .ne 5, 3) := by decide +kernel
theorem dX7_relay_55 : decode cX7_relay 55 = .ok (.iconst 0, 1) := by decide +kernel
theorem dX7_relay_56 : decode cX7_relay 56 = .ok (.ireturn, 1) := by decide +kernel
theorem dX7_relay_57 : decode cX7_relay 57 = .ok (.aload_n 0, 1) := by decide +kernel
theorem dX7_relay_58 : decode cX7_relay 58 = .ok (.getfield 65, 3) := by decide +kernel
theorem dX7_relay_61 : decode cX7_relay 61 = .ok (.aload_n 0, 1) := by decide +kernel
theorem dX7_relay_62 : decode cX7_relay 62 = .ok (.getfield 65, 3) := by decide +kernel
theorem dX7_relay_65 : decode cX7_relay 65 = .ok (.iload_n 2, 1) := by decide +kernel
theorem dX7_relay_66 : decode cX7_relay 66 = .ok (.invokevirtual 298, 3) := by decide +kernel
theorem dX7_relay_69 : decode cX7_relay 69 = .ok (.iload_n 1, 1) := by decide +kernel
theorem dX7_relay_70 : decode cX7_relay 70 = .ok (.iconst 0, 1) := by decide +kernel
theorem dX7_relay_71 : decode cX7_relay 71 = .ok (.invokevirtual 288, 3) := by decide +kernel
theorem dX7_relay_74 : decode cX7_relay 74 = .ok (.ireturn, 1) := by decide +kernel
theorem dX7_cut_0 : decode cX7_cut 0 = .ok (.aload_n 0, 1) := by decide +kernel
theorem dX7_cut_1 : decode cX7_cut 1 = .ok (.iload_n 1, 1) := by decide +kernel
theorem dX7_cut_2 : decode cX7_cut 2 = .ok (.iload_n 2, 1) := by decide +kernel
theorem dX7_cut_3 : decode cX7_cut 3 = .ok (.invokevirtual 285, 3) := by decide +kernel
theorem dX7_cut_6 : decode cX7_cut 6 = .ok (.aload_n 0, 1) := by decide +kernel
theorem dX7_cut_7 : decode cX7_cut 7 = .ok (.getfield 65, 3) := by decide +kernel
theorem dX7_cut_10 : decode cX7_cut 10 = .ok (.iconst 1, 1) := by decide +kernel
theorem dX7_cut_11 : decode cX7_cut 11 = .ok (.iload_n 1, 1) := by decide +kernel
theorem dX7_cut_12 : decode cX7_cut 12 = .ok (.ishl, 1) := by decide +kernel
theorem dX7_cut_13 : decode cX7_cut 13 = .ok (.iload_n 2, 1) := by decide +kernel
theorem dX7_cut_14 : decode cX7_cut 14 = .ok (.iconst 0, 1) := by decide +kernel
theorem dX7_cut_15 : decode cX7_cut 15 = .ok (.invokevirtual 288, 3) := by decide +kernel
theorem dX7_cut_18 : decode cX7_cut 18 = .ok (.iconst (-1), 1) := by decide +kernel
theorem dX7_cut_19 : decode cX7_cut 19 = .ok (.if_icmp .ne 5, 3) := by decide +kernel
theorem dX7_cut_22 : decode cX7_cut 22 = .ok (.iconst 0, 1) := by decide +kernel
theorem dX7_cut_23 : decode cX7_cut 23 = .ok (.ireturn, 1) := by decide +kernel
theorem dX7_cut_24 : decode cX7_cut 24 = .ok (.iconst 0, 1) := by decide +kernel
theorem dX7_cut_25 : decode cX7_cut 25 = .ok (.istore_n 3, 1) := by decide +kernel
theorem dX7_cut_26 : decode cX7_cut 26 = .ok (.iconst 0, 1) := by decide +kernel
theorem dX7_cut_27 : decode cX7_cut 27 = .ok (.istore 4, 2) := by decide +kernel
theorem dX7_cut_29 : decode cX7_cut 29 = .ok (.iload 4, 2) := by decide +kernel
theorem dX7_cut_31 : decode cX7_cut 31 = .ok (.aload_n 0, 1) := by decide +kernel
theorem dX7_cut_32 : decode cX7_cut 32 = .ok (.getfield 65, 3) := by decide +kernel
theorem dX7_cut_35 : decode cX7_cut 35 = .ok (.getfield 120, 3) := by decide +kernel
theorem dX7_cut_38 : decode cX7_cut 38 = .ok (.getfield 263, 3) := by decide +kernel
theorem dX7_cut_41 : decode cX7_cut 41 = .ok (.if_icmp .ge 47, 3) := by decide +kernel
theorem dX7_cut_44 : decode cX7_cut 44 = .ok (.iload 4, 2) := by decide +kernel
theorem dX7_cut_46 : decode cX7_cut 46 = .ok (.iload_n 1, 1) := by decide +kernel
theorem dX7_cut_47 : decode cX7_cut 47 = .ok (.if_icmp .eq 35, 3) := by decide +kernel
theorem dX7_cut_50 : decode cX7_cut 50 = .ok (.iload 4, 2) := by decide +kernel
theorem dX7_cut_52 : decode cX7_cut 52 = .ok (.iload_n 2, 1) := by decide +kernel
theorem dX7_cut_53 : decode cX7_cut 53 = .ok (.if_icmp .eq 29, 3) := by decide +kernel
theorem dX7_cut_56 : decode cX7_cut 56 = .ok (.aload_n 0, 1) := by decide +kernel
theorem dX7_cut_57 : decode cX7_cut 57 = .ok (.getfield 65, 3) := by decide +kernel
theorem dX7_cut_60 : decode cX7_cut 60 = .ok (.iconst 1, 1) := by decide +kernel
theorem dX7_cut_61 : decode cX7_cut 61 = .ok (.iload_n 1, 1) := by decide +kernel
theorem dX7_cut_62 : decode cX7_cut 62 = .ok (.ishl, 1) := by decide +kernel
theorem dX7_cut_63 : decode cX7_cut 63 = .ok (.iload_n 2, 1) := by decide +kernel
theorem dX7_cut_64 : decode cX7_cut 64 = .ok (.iconst 1, 1) := by decide +kernel
theorem dX7_cut_65 : decode cX7_cut 65 = .ok (.iload 4, 2) := by decide +kernel
theorem dX7_cut_67 : decode cX7_cut 67 = .ok (.ishl, 1) := by decide +kernel
theorem dX7_cut_68 : decode cX7_cut 68 = .ok (.invokevirtual 288, 3) := by decide +kernel
theorem dX7_cut_71 : decode cX7_cut 71 = .ok (.iconst (-1), 1) := by decide +kernel
theorem dX7_cut_72 : decode cX7_cut 72 = .ok (.if_icmp .ne 10, 3) := by decide +kernel
theorem dX7_cut_75 : decode cX7_cut 75 = .ok (.iload_n 3, 1) := by decide +kernel
theorem dX7_cut_76 : decode cX7_cut 76 = .ok (.iconst 1, 1) := by decide +kernel
theorem dX7_cut_77 : decode cX7_cut 77 = .ok (.iload 4, 2) := by decide +kernel
theorem dX7_cut_79 : decode cX7_cut 79 = .ok (.ishl, 1) := by decide +kernel
theorem dX7_cut_80 : decode cX7_cut 80 = .ok (.ior, 1) := by decide +kernel
theorem dX7_cut_81 : decode cX7_cut 81 = .ok (.istore_n 3, 1) := by decide +kernel
theorem dX7_cut_82 : decode cX7_cut 82 = .ok (.iinc 4 1, 3) := by decide +kernel
theorem dX7_cut_85 : decode cX7_cut 85 = .ok (.goto (-56), 3) := by decide +kernel
theorem dX7_cut_88 : decode cX7_cut 88 = .ok (.iload_n 3, 1) := by decide +kernel
theorem dX7_cut_89 : decode cX7_cut 89 = .ok (.ireturn, 1) := by decide +kernel
theorem dX7_heaps_0 : decode cX7_heaps 0 = .ok (.aload_n 0, 1) := by decide +kernel
theorem dX7_heaps_1 : decode cX7_heaps 1 = .ok (.getfield 65, 3) := by decide +kernel
theorem dX7_heaps_4 : decode cX7_heaps 4 = .ok (.invokevirtual 301, 3) := by decide +kernel
theorem dX7_heaps_7 : decode cX7_heaps 7 = .ok (.iconst (-1), 1) := by decide +kernel
theorem dX7_heaps_8 : decode cX7_heaps 8 = .ok (.ixor, 1) := by decide +kernel
theorem dX7_heaps_9 : decode cX7_heaps 9 = .ok (.aload_n 0, 1) := by decide +kernel
theorem dX7_heaps_10 : decode cX7_heaps 10 = .ok (.getfield 65, 3) := by decide +kernel
theorem dX7_heaps_13 : decode cX7_heaps 13 = .ok (.getfield 120, 3) := by decide +kernel
theorem dX7_heaps_16 : decode cX7_heaps 16 = .ok (.invokevirtual 304, 3) := by decide +kernel
theorem dX7_heaps_19 : decode cX7_heaps 19 = .ok (.iand, 1) := by decide +kernel
theorem dX7_heaps_20 : decode cX7_heaps 20 = .ok (.istore_n 1, 1) := by decide +kernel
theorem dX7_heaps_21 : decode cX7_heaps 21 = .ok (.iconst 0, 1) := by decide +kernel
theorem dX7_heaps_22 : decode cX7_heaps 22 = .ok (.istore_n 2, 1) := by decide +kernel
theorem dX7_heaps_23 : decode cX7_heaps 23 = .ok (.iconst 0, 1) := by decide +kernel
theorem dX7_heaps_24 : decode cX7_heaps 24 = .ok (.istore_n 3, 1) := by decide +kernel
theorem dX7_heaps_25 : decode cX7_heaps 25 = .ok (.iload_n 3, 1) := by decide +kernel
theorem dX7_heaps_26 : decode cX7_heaps 26 = .ok (.aload_n 0, 1) := by decide +kernel
theorem dX7_heaps_27 : decode cX7_heaps 27 = .ok (.getfield 65, 3) := by decide +kernel
theorem dX7_heaps_30 : decode cX7_heaps 30 = .ok (.getfield 120, 3) := by decide +kernel
theorem dX7_heaps_33 : decode cX7_heaps 33 = .ok (.getfield 263, 3) := by decide +kernel
theorem dX7_heaps_36 : decode cX7_heaps 36 = .ok (.if_icmp .ge 34, 3) := by decide +kernel
theorem dX7_heaps_39 : decode cX7_heaps 39 = .ok (.iload_n 1, 1) := by decide +kernel
theorem dX7_heaps_40 : decode cX7_heaps 40 = .ok (.iload_n 3, 1) := by decide +kernel
theorem dX7_heaps_41 : decode cX7_heaps 41 = .ok (.ishr, 1) := by decide +kernel
theorem dX7_heaps_42 : decode cX7_heaps 42 = .ok (.iconst 1, 1) := by decide +kernel
theorem dX7_heaps_43 : decode cX7_heaps 43 = .ok (.iand, 1) := by decide +kernel
theorem dX7_heaps_44 : decode cX7_heaps 44 = .ok (.iconst 1, 1) := by decide +kernel
theorem dX7_heaps_45 : decode cX7_heaps 45 = .ok (.if_icmp .ne 19, 3) := by decide +kernel
theorem dX7_heaps_48 : decode cX7_heaps 48 = .ok (.iload_n 1, 1) := by decide +kernel
theorem dX7_heaps_49 : decode cX7_heaps 49 = .ok (.aload_n 0, 1) := by decide +kernel
theorem dX7_heaps_50 : decode cX7_heaps 50 = .ok (.getfield 65, 3) := by decide +kernel
theorem dX7_heaps_53 : decode cX7_heaps 53 = .ok (.iload_n 3, 1) := by decide +kernel
theorem dX7_heaps_54 : decode cX7_heaps 54 = .ok (.invokevirtual 307, 3) := by decide +kernel
theorem dX7_heaps_57 : decode cX7_heaps 57 = .ok (.iconst (-1), 1) := by decide +kernel
theorem dX7_heaps_58 : decode cX7_heaps 58 = .ok (.ixor, 1) := by decide +kernel
theorem dX7_heaps_59 : decode cX7_heaps 59 = .ok (.iand, 1) := by decide +kernel
theorem dX7_heaps_60 : decode cX7_heaps 60 = .ok (.istore_n 1, 1) := by decide +kernel
theorem dX7_heaps_61 : decode cX7_heaps 61 = .ok (.iinc 2 1, 3) := by decide +kernel
theorem dX7_heaps_64 : decode cX7_heaps 64 = .ok (.iinc 3 1, 3) := by decide +kernel
theorem dX7_heaps_67 : decode cX7_heaps 67 = .ok (.goto (-42), 3) := by decide +kernel
theorem dX7_heaps_70 : decode cX7_heaps 70 = .ok (.iload_n 2, 1) := by decide +kernel
theorem dX7_heaps_71 : decode cX7_heaps 71 = .ok (.ireturn, 1) := by decide +kernel
theorem dX7_dry_0 : decode cX7_dry 0 = .ok (.aload_n 0, 1) := by decide +kernel
theorem dX7_dry_1 : decode cX7_dry 1 = .ok (.iload_n 1, 1) := by decide +kernel
theorem dX7_dry_2 : decode cX7_dry 2 = .ok (.invokevirtual 135, 3) := by decide +kernel
theorem dX7_dry_5 : decode cX7_dry 5 = .ok (.aload_n 0, 1) := by decide +kernel
theorem dX7_dry_6 : decode cX7_dry 6 = .ok (.iload_n 2, 1) := by decide +kernel
theorem dX7_dry_7 : decode cX7_dry 7 = .ok (.iconst 0, 1) := by decide +kernel
theorem dX7_dry_8 : decode cX7_dry 8 = .ok (.bipush 15, 2) := by decide +kernel
theorem dX7_dry_10 : decode cX7_dry 10 = .ok (.invokevirtual 90, 3) := by decide +kernel
theorem dX7_dry_13 : decode cX7_dry 13 = .ok (.aload_n 0, 1) := by decide +kernel
theorem dX7_dry_14 : decode cX7_dry 14 = .ok (.iload_n 3, 1) := by decide +kernel
theorem dX7_dry_15 : decode cX7_dry 15 = .ok (.iconst 0, 1) := by decide +kernel
theorem dX7_dry_16 : decode cX7_dry 16 = .ok (.iconst 1, 1) := by decide +kernel
theorem dX7_dry_17 : decode cX7_dry 17 = .ok (.invokevirtual 90, 3) := by decide +kernel
theorem dX7_dry_20 : decode cX7_dry 20 = .ok (.aload_n 0, 1) := by decide +kernel
theorem dX7_dry_21 : decode cX7_dry 21 = .ok (.invokevirtual 223, 3) := by decide +kernel
theorem dX7_dry_24 : decode cX7_dry 24 = .ok (.iload_n 1, 1) := by decide +kernel
theorem dX7_dry_25 : decode cX7_dry 25 = .ok (.iload_n 2, 1) := by decide +kernel
theorem dX7_dry_26 : decode cX7_dry 26 = .ok (.invokevirtual 310, 3) := by decide +kernel
theorem dX7_dry_29 : decode cX7_dry 29 = .ok (.lstore 4, 2) := by decide +kernel
theorem dX7_dry_31 : decode cX7_dry 31 = .ok (.lconst 1, 1) := by decide +kernel
theorem dX7_dry_32 : decode cX7_dry 32 = .ok (.lstore 6, 2) := by decide +kernel
theorem dX7_dry_34 : decode cX7_dry 34 = .ok (.iconst 0, 1) := by decide +kernel
theorem dX7_dry_35 : decode cX7_dry 35 = .ok (.istore 8, 2) := by decide +kernel
theorem dX7_dry_37 : decode cX7_dry 37 = .ok (.iload 8, 2) := by decide +kernel
theorem dX7_dry_39 : decode cX7_dry 39 = .ok (.iload_n 2, 1) := by decide +kernel
theorem dX7_dry_40 : decode cX7_dry 40 = .ok (.if_icmp .ge 17, 3) := by decide +kernel
theorem dX7_dry_43 : decode cX7_dry 43 = .ok (.lload 6, 2) := by decide +kernel
theorem dX7_dry_45 : decode cX7_dry 45 = .ok (.ldc2_w 314, 3) := by decide +kernel
theorem dX7_dry_48 : decode cX7_dry 48 = .ok (.lmul, 1) := by decide +kernel
theorem dX7_dry_49 : decode cX7_dry 49 = .ok (.lstore 6, 2) := by decide +kernel
theorem dX7_dry_51 : decode cX7_dry 51 = .ok (.iinc 8 1, 3) := by decide +kernel
theorem dX7_dry_54 : decode cX7_dry 54 = .ok (.goto (-17), 3) := by decide +kernel
theorem dX7_dry_57 : decode cX7_dry 57 = .ok (.lload 4, 2) := by decide +kernel
theorem dX7_dry_59 : decode cX7_dry 59 = .ok (.lload 6, 2) := by decide +kernel
theorem dX7_dry_61 : decode cX7_dry 61 = .ok (.invokestatic 316, 3) := by decide +kernel
theorem dX7_dry_64 : decode cX7_dry 64 = .ok (.lstore 8, 2) := by decide +kernel
theorem dX7_dry_66 : decode cX7_dry 66 = .ok (.lload 8, 2) := by decide +kernel
theorem dX7_dry_68 : decode cX7_dry 68 = .ok (.lconst 0, 1) := by decide +kernel
theorem dX7_dry_69 : decode cX7_dry 69 = .ok (.lcmp, 1) := by decide +kernel
theorem dX7_dry_70 : decode cX7_dry 70 = .ok (.ifCond .ne 7, 3) := by decide +kernel
theorem dX7_dry_73 : decode cX7_dry 73 = .ok (.ldc2_w 320, 3) := by decide +kernel
theorem dX7_dry_76 : decode cX7_dry 76 = .ok (.lreturn, 1) := by decide +kernel
theorem dX7_dry_77 : decode cX7_dry 77 = .ok (.iload_n 3, 1) := by decide +kernel
theorem dX7_dry_78 : decode cX7_dry 78 = .ok (.ifCond .ne 11, 3) := by decide +kernel
theorem dX7_dry_81 : decode cX7_dry 81 = .ok (.lload 4, 2) := by decide +kernel
theorem dX7_dry_83 : decode cX7_dry 83 = .ok (.lload 8, 2) := by decide +kernel
theorem dX7_dry_85 : decode cX7_dry 85 = .ok (.ldiv, 1) := by decide +kernel
theorem dX7_dry_86 : decode cX7_dry 86 = .ok (.goto 8, 3) := by decide +kernel
theorem dX7_dry_89 : decode cX7_dry 89 = .ok (.lload 6, 2) := by decide +kernel
theorem dX7_dry_91 : decode cX7_dry 91 = .ok (.lload 8, 2) := by decide +kernel
theorem dX7_dry_93 : decode cX7_dry 93 = .ok (.ldiv, 1) := by decide +kernel
theorem dX7_dry_94 : decode cX7_dry 94 = .ok (.lreturn, 1) := by decide +kernel
theorem dX7_driest_0 : decode cX7_driest 0 = .ok (.aload_n 0, 1) := by decide +kernel
theorem dX7_driest_1 : decode cX7_driest 1 = .ok (.iload_n 1, 1) := by decide +kernel
theorem dX7_driest_2 : decode cX7_driest 2 = .ok (.iconst 0, 1) := by decide +kernel
theorem dX7_driest_3 : decode cX7_driest 3 = .ok (.bipush 15, 2) := by decide +kernel
theorem dX7_driest_5 : decode cX7_driest 5 = .ok (.invokevirtual 90, 3) := by decide +kernel
theorem dX7_driest_8 : decode cX7_driest 8 = .ok (.iconst (-1), 1) := by decide +kernel
theorem dX7_driest_9 : decode cX7_driest 9 = .ok (.istore_n 2, 1) := by decide +kernel
theorem dX7_driest_10 : decode cX7_driest 10 = .ok (.ldc2_w 320, 3) := by decide +kernel
theorem dX7_driest_13 : decode cX7_driest 13 = .ok (.lstore_n 3, 1) := by decide +kernel
theorem dX7_driest_14 : decode cX7_driest 14 = .ok (.iconst 0, 1) := by decide +kernel
theorem dX7_driest_15 : decode cX7_driest 15 = .ok (.istore 5, 2) := by decide +kernel
theorem dX7_driest_17 : decode cX7_driest 17 = .ok (.iload 5, 2) := by decide +kernel
theorem dX7_driest_19 : decode cX7_driest 19 = .ok (.aload_n 0, 1) := by decide +kernel
theorem dX7_driest_20 : decode cX7_driest 20 = .ok (.getfield 65, 3) := by decide +kernel
theorem dX7_driest_23 : decode cX7_driest 23 = .ok (.getfield 120, 3) := by decide +kernel
theorem dX7_driest_26 : decode cX7_driest 26 = .ok (.getfield 263, 3) := by decide +kernel
theorem dX7_driest_29 : decode cX7_driest 29 = .ok (.if_icmp .ge 34, 3) := by decide +kernel
theorem dX7_driest_32 : decode cX7_driest 32 = .ok (.aload_n 0, 1) := by decide +kernel
theorem dX7_driest_33 : decode cX7_driest 33 = .ok (.invokevirtual 223, 3) := by decide +kernel
theorem dX7_driest_36 : decode cX7_driest 36 = .ok (.iload 5, 2) := by decide +kernel
theorem dX7_driest_38 : decode cX7_driest 38 = .ok (.iload_n 1, 1) := by decide +kernel
theorem dX7_driest_39 : decode cX7_driest 39 = .ok (.invokevirtual 310, 3) := by decide +kernel
theorem dX7_driest_42 : decode cX7_driest 42 = .ok (.lstore 6, 2) := by decide +kernel
theorem dX7_driest_44 : decode cX7_driest 44 = .ok (.lload 6, 2) := by decide +kernel
theorem dX7_driest_46 : decode cX7_driest 46 = .ok (.lload_n 3, 1) := by decide +kernel
theorem dX7_driest_47 : decode cX7_driest 47 = .ok (.lcmp, 1) := by decide +kernel
theorem dX7_driest_48 : decode cX7_driest 48 = .ok (.ifCond .le 9, 3) := by decide +kernel
theorem dX7_driest_51 : decode cX7_driest 51 = .ok (.lload 6, 2) := by decide +kernel
theorem dX7_driest_53 : decode cX7_driest 53 = .ok (.lstore_n 3, 1) := by decide +kernel
theorem dX7_driest_54 : decode cX7_driest 54 = .ok (.iload 5, 2) := by decide +kernel
theorem dX7_driest_56 : decode cX7_driest 56 = .ok (.istore_n 2, 1) := by decide +kernel
theorem dX7_driest_57 : decode cX7_driest 57 = .ok (.iinc 5 1, 3) := by decide +kernel
theorem dX7_driest_60 : decode cX7_driest 60 = .ok (.goto (-43), 3) := by decide +kernel
theorem dX7_driest_63 : decode cX7_driest 63 = .ok (.iload_n 2, 1) := by decide +kernel
theorem dX7_driest_64 : decode cX7_driest 64 = .ok (.ireturn, 1) := by decide +kernel
theorem dX7_where_0 : decode cX7_where 0 = .ok (.aload_n 0, 1) := by decide +kernel
theorem dX7_where_1 : decode cX7_where 1 = .ok (.iload_n 1, 1) := by decide +kernel
theorem dX7_where_2 : decode cX7_where 2 = .ok (.invokevirtual 135, 3) := by decide +kernel
theorem dX7_where_5 : decode cX7_where 5 = .ok (.aload_n 0, 1) := by decide +kernel
theorem dX7_where_6 : decode cX7_where 6 = .ok (.iload_n 2, 1) := by decide +kernel
theorem dX7_where_7 : decode cX7_where 7 = .ok (.iconst 0, 1) := by decide +kernel
theorem dX7_where_8 : decode cX7_where 8 = .ok (.bipush 15, 2) := by decide +kernel
theorem dX7_where_10 : decode cX7_where 10 = .ok (.invokevirtual 90, 3) := by decide +kernel
theorem dX7_where_13 : decode cX7_where 13 = .ok (.aload_n 0, 1) := by decide +kernel
theorem dX7_where_14 : decode cX7_where 14 = .ok (.getfield 65, 3) := by decide +kernel
theorem dX7_where_17 : decode cX7_where 17 = .ok (.getfield 141, 3) := by decide +kernel
theorem dX7_where_20 : decode cX7_where 20 = .ok (.iload_n 1, 1) := by decide +kernel
theorem dX7_where_21 : decode cX7_where 21 = .ok (.iaload, 1) := by decide +kernel
theorem dX7_where_22 : decode cX7_where 22 = .ok (.iconst (-1), 1) := by decide +kernel
theorem dX7_where_23 : decode cX7_where 23 = .ok (.if_icmp .eq 14, 3) := by decide +kernel
theorem dX7_where_26 : decode cX7_where 26 = .ok (.new 291, 3) := by decide +kernel
theorem dX7_where_29 : decode cX7_where 29 = .ok (.dup, 1) := by decide +kernel
theorem dX7_where_30 : decode cX7_where 30 = .ok (.ldc_w 322, 3) := by decide +kernel
theorem dX7_where_33 : decode cX7_where 33 = .ok (.invokespecial 295, 3) := by decide +kernel
theorem dX7_where_36 : decode cX7_where 36 = .ok (.athrow, 1) := by decide +kernel
theorem dX7_where_37 : decode cX7_where 37 = .ok (.iconst (-1), 1) := by decide +kernel
theorem dX7_where_38 : decode cX7_where 38 = .ok (.istore_n 3, 1) := by decide +kernel
theorem dX7_where_39 : decode cX7_where 39 = .ok (.ldc2_w 320, 3) := by decide +kernel
theorem dX7_where_42 : decode cX7_where 42 = .ok (.lstore 4, 2) := by decide +kernel
theorem dX7_where_44 : decode cX7_where 44 = .ok (.iconst 0, 1) := by decide +kernel
theorem dX7_where_45 : decode cX7_where 45 = .ok (.istore 6, 2) := by decide +kernel
theorem dX7_where_47 : decode cX7_where 47 = .ok (.iload 6, 2) := by decide +kernel
theorem dX7_where_49 : decode cX7_where 49 = .ok (.aload_n 0, 1) := by decide +kernel
theorem dX7_where_50 : decode cX7_where 50 = .ok (.getfield 65, 3) := by decide +kernel
theorem dX7_where_53 : decode cX7_where 53 = .ok (.getfield 120, 3) := by decide +kernel
theorem dX7_where_56 : decode cX7_where 56 = .ok (.getfield 324, 3) := by decide +kernel
theorem dX7_where_59 : decode cX7_where 59 = .ok (.if_icmp .ge 51, 3) := by decide +kernel
theorem dX7_where_62 : decode cX7_where 62 = .ok (.aload_n 0, 1) := by decide +kernel
theorem dX7_where_63 : decode cX7_where 63 = .ok (.invokevirtual 223, 3) := by decide +kernel
theorem dX7_where_66 : decode cX7_where 66 = .ok (.astore 7, 2) := by decide +kernel
theorem dX7_where_68 : decode cX7_where 68 = .ok (.aload 7, 2) := by decide +kernel
theorem dX7_where_70 : decode cX7_where 70 = .ok (.iload_n 1, 1) := by decide +kernel
theorem dX7_where_71 : decode cX7_where 71 = .ok (.iload 6, 2) := by decide +kernel
theorem dX7_where_73 : decode cX7_where 73 = .ok (.invokevirtual 189, 3) := by decide +kernel
theorem dX7_where_76 : decode cX7_where 76 = .ok (.iconst (-1), 1) := by decide +kernel
theorem dX7_where_77 : decode cX7_where 77 = .ok (.if_icmp .eq 27, 3) := by decide +kernel
theorem dX7_where_80 : decode cX7_where 80 = .ok (.aload 7, 2) := by decide +kernel
theorem dX7_where_82 : decode cX7_where 82 = .ok (.iload_n 1, 1) := by decide +kernel
theorem dX7_where_83 : decode cX7_where 83 = .ok (.iload_n 2, 1) := by decide +kernel
theorem dX7_where_84 : decode cX7_where 84 = .ok (.invokevirtual 310, 3) := by decide +kernel
theorem dX7_where_87 : decode cX7_where 87 = .ok (.lstore 8, 2) := by decide +kernel
theorem dX7_where_89 : decode cX7_where 89 = .ok (.lload 8, 2) := by decide +kernel
theorem dX7_where_91 : decode cX7_where 91 = .ok (.lload 4, 2) := by decide +kernel
theorem dX7_where_93 : decode cX7_where 93 = .ok (.lcmp, 1) := by decide +kernel
theorem dX7_where_94 : decode cX7_where 94 = .ok (.ifCond .le 10, 3) := by decide +kernel
theorem dX7_where_97 : decode cX7_where 97 = .ok (.lload 8, 2) := by decide +kernel
theorem dX7_where_99 : decode cX7_where 99 = .ok (.lstore 4, 2) := by decide +kernel
theorem dX7_where_101 : decode cX7_where 101 = .ok (.iload 6, 2) := by decide +kernel
theorem dX7_where_103 : decode cX7_where 103 = .ok (.istore_n 3, 1) := by decide +kernel
theorem dX7_where_104 : decode cX7_where 104 = .ok (.iinc 6 1, 3) := by decide +kernel
theorem dX7_where_107 : decode cX7_where 107 = .ok (.goto (-60), 3) := by decide +kernel
theorem dX7_where_110 : decode cX7_where 110 = .ok (.iload_n 3, 1) := by decide +kernel
theorem dX7_where_111 : decode cX7_where 111 = .ok (.ireturn, 1) := by decide +kernel
theorem dX7_changed_0 : decode cX7_changed 0 = .ok (.aload_n 0, 1) := by decide +kernel
theorem dX7_changed_1 : decode cX7_changed 1 = .ok (.iload_n 1, 1) := by decide +kernel
theorem dX7_changed_2 : decode cX7_changed 2 = .ok (.iload_n 2, 1) := by decide +kernel
theorem dX7_changed_3 : decode cX7_changed 3 = .ok (.invokevirtual 327, 3) := by decide +kernel
theorem dX7_changed_6 : decode cX7_changed 6 = .ok (.aload_n 0, 1) := by decide +kernel
theorem dX7_changed_7 : decode cX7_changed 7 = .ok (.iload_n 1, 1) := by decide +kernel
theorem dX7_changed_8 : decode cX7_changed 8 = .ok (.iload_n 2, 1) := by decide +kernel
theorem dX7_changed_9 : decode cX7_changed 9 = .ok (.invokevirtual 330, 3) := by decide +kernel
theorem dX7_changed_12 : decode cX7_changed 12 = .ok (.ireturn, 1) := by decide +kernel
theorem dX7_changedAt_0 : decode cX7_changedAt 0 = .ok (.aload_n 0, 1) := by decide +kernel
theorem dX7_changedAt_1 : decode cX7_changedAt 1 = .ok (.iload_n 1, 1) := by decide +kernel
theorem dX7_changedAt_2 : decode cX7_changedAt 2 = .ok (.iload_n 2, 1) := by decide +kernel
theorem dX7_changedAt_3 : decode cX7_changedAt 3 = .ok (.invokevirtual 327, 3) := by decide +kernel
theorem dX7_changedAt_6 : decode cX7_changedAt 6 = .ok (.iload_n 3, 1) := by decide +kernel
theorem dX7_changedAt_7 : decode cX7_changedAt 7 = .ok (.ifCond .ge 14, 3) := by decide +kernel
theorem dX7_changedAt_10 : decode cX7_changedAt 10 = .ok (.new 333, 3) := by decide +kernel
theorem dX7_changedAt_13 : decode cX7_changedAt 13 = .ok (.dup, 1) := by decide +kernel
theorem dX7_changedAt_14 : decode cX7_changedAt 14 = .ok (.ldc_w 335, 3) := by decide +kernel
theorem dX7_changedAt_17 : decode cX7_changedAt 17 = .ok (.invokespecial 337, 3) := by decide +kernel
theorem dX7_changedAt_20 : decode cX7_changedAt 20 = .ok (.athrow, 1) := by decide +kernel
theorem dX7_changedAt_21 : decode cX7_changedAt 21 = .ok (.iload_n 3, 1) := by decide +kernel
theorem dX7_changedAt_22 : decode cX7_changedAt 22 = .ok (.aload_n 0, 1) := by decide +kernel
theorem dX7_changedAt_23 : decode cX7_changedAt 23 = .ok (.iload_n 1, 1) := by decide +kernel
theorem dX7_changedAt_24 : decode cX7_changedAt 24 = .ok (.iload_n 2, 1) := by decide +kernel
theorem dX7_changedAt_25 : decode cX7_changedAt 25 = .ok (.invokevirtual 330, 3) := by decide +kernel
theorem dX7_changedAt_28 : decode cX7_changedAt 28 = .ok (.if_icmp .ge 21, 3) := by decide +kernel
theorem dX7_changedAt_31 : decode cX7_changedAt 31 = .ok (.iload_n 3, 1) := by decide +kernel
theorem dX7_changedAt_32 : decode cX7_changedAt 32 = .ok (.aload_n 0, 1) := by decide +kernel
theorem dX7_changedAt_33 : decode cX7_changedAt 33 = .ok (.getfield 50, 3) := by decide +kernel
theorem dX7_changedAt_36 : decode cX7_changedAt 36 = .ok (.arraylength, 1) := by decide +kernel
theorem dX7_changedAt_37 : decode cX7_changedAt 37 = .ok (.if_icmp .ge 12, 3) := by decide +kernel
theorem dX7_changedAt_40 : decode cX7_changedAt 40 = .ok (.aload_n 0, 1) := by decide +kernel
theorem dX7_changedAt_41 : decode cX7_changedAt 41 = .ok (.getfield 50, 3) := by decide +kernel
theorem dX7_changedAt_44 : decode cX7_changedAt 44 = .ok (.iload_n 3, 1) := by decide +kernel
theorem dX7_changedAt_45 : decode cX7_changedAt 45 = .ok (.iaload, 1) := by decide +kernel
theorem dX7_changedAt_46 : decode cX7_changedAt 46 = .ok (.goto 4, 3) := by decide +kernel
theorem dX7_changedAt_49 : decode cX7_changedAt 49 = .ok (.iconst (-1), 1) := by decide +kernel
theorem dX7_changedAt_50 : decode cX7_changedAt 50 = .ok (.ireturn, 1) := by decide +kernel
theorem dX7_sure_0 : decode cX7_sure 0 = .ok (.aload_n 0, 1) := by decide +kernel
theorem dX7_sure_1 : decode cX7_sure 1 = .ok (.iload_n 1, 1) := by decide +kernel
theorem dX7_sure_2 : decode cX7_sure 2 = .ok (.iload_n 2, 1) := by decide +kernel
theorem dX7_sure_3 : decode cX7_sure 3 = .ok (.invokevirtual 327, 3) := by decide +kernel
theorem dX7_sure_6 : decode cX7_sure 6 = .ok (.aload_n 0, 1) := by decide +kernel
theorem dX7_sure_7 : decode cX7_sure 7 = .ok (.iload_n 1, 1) := by decide +kernel
theorem dX7_sure_8 : decode cX7_sure 8 = .ok (.iload_n 2, 1) := by decide +kernel
theorem dX7_sure_9 : decode cX7_sure 9 = .ok (.invokevirtual 330, 3) := by decide +kernel
theorem dX7_sure_12 : decode cX7_sure 12 = .ok (.istore_n 3, 1) := by decide +kernel
theorem dX7_sure_13 : decode cX7_sure 13 = .ok (.iload_n 3, 1) := by decide +kernel
theorem dX7_sure_14 : decode cX7_sure 14 = .ok (.ifCond .ne 7, 3) := by decide +kernel
theorem dX7_sure_17 : decode cX7_sure 17 = .ok (.iconst 0, 1) := by decide +kernel
theorem dX7_sure_18 : decode cX7_sure 18 = .ok (.goto 13, 3) := by decide +kernel
theorem dX7_sure_21 : decode cX7_sure 21 = .ok (.aload_n 0, 1) := by decide +kernel
theorem dX7_sure_22 : decode cX7_sure 22 = .ok (.getfield 65, 3) := by decide +kernel
theorem dX7_sure_25 : decode cX7_sure 25 = .ok (.getfield 120, 3) := by decide +kernel
theorem dX7_sure_28 : decode cX7_sure 28 = .ok (.invokevirtual 304, 3) := by decide +kernel
theorem dX7_sure_31 : decode cX7_sure 31 = .ok (.istore 4, 2) := by decide +kernel
theorem dX7_sure_33 : decode cX7_sure 33 = .ok (.iconst 0, 1) := by decide +kernel
theorem dX7_sure_34 : decode cX7_sure 34 = .ok (.istore 5, 2) := by decide +kernel
theorem dX7_sure_36 : decode cX7_sure 36 = .ok (.iload 5, 2) := by decide +kernel
theorem dX7_sure_38 : decode cX7_sure 38 = .ok (.iload_n 3, 1) := by decide +kernel
theorem dX7_sure_39 : decode cX7_sure 39 = .ok (.if_icmp .ge 49, 3) := by decide +kernel
theorem dX7_sure_42 : decode cX7_sure 42 = .ok (.iload 5, 2) := by decide +kernel
theorem dX7_sure_44 : decode cX7_sure 44 = .ok (.aload_n 0, 1) := by decide +kernel
theorem dX7_sure_45 : decode cX7_sure 45 = .ok (.getfield 50, 3) := by decide +kernel
theorem dX7_sure_48 : decode cX7_sure 48 = .ok (.arraylength, 1) := by decide +kernel
theorem dX7_sure_49 : decode cX7_sure 49 = .ok (.if_icmp .ge 39, 3) := by decide +kernel
theorem dX7_sure_52 : decode cX7_sure 52 = .ok (.iload 4, 2) := by decide +kernel
theorem dX7_sure_54 : decode cX7_sure 54 = .ok (.iconst 1, 1) := by decide +kernel
theorem dX7_sure_55 : decode cX7_sure 55 = .ok (.aload_n 0, 1) := by decide +kernel
theorem dX7_sure_56 : decode cX7_sure 56 = .ok (.getfield 50, 3) := by decide +kernel
theorem dX7_sure_59 : decode cX7_sure 59 = .ok (.iload 5, 2) := by decide +kernel
theorem dX7_sure_61 : decode cX7_sure 61 = .ok (.iaload, 1) := by decide +kernel
theorem dX7_sure_62 : decode cX7_sure 62 = .ok (.bipush 10, 2) := by decide +kernel
theorem dX7_sure_64 : decode cX7_sure 64 = .ok (.idiv, 1) := by decide +kernel
theorem dX7_sure_65 : decode cX7_sure 65 = .ok (.ishl, 1) := by decide +kernel
theorem dX7_sure_66 : decode cX7_sure 66 = .ok (.iconst 1, 1) := by decide +kernel
theorem dX7_sure_67 : decode cX7_sure 67 = .ok (.aload_n 0, 1) := by decide +kernel
theorem dX7_sure_68 : decode cX7_sure 68 = .ok (.getfield 50, 3) := by decide +kernel
theorem dX7_sure_71 : decode cX7_sure 71 = .ok (.iload 5, 2) := by decide +kernel
theorem dX7_sure_73 : decode cX7_sure 73 = .ok (.iaload, 1) := by decide +kernel
theorem dX7_sure_74 : decode cX7_sure 74 = .ok (.bipush 10, 2) := by decide +kernel
theorem dX7_sure_76 : decode cX7_sure 76 = .ok (.irem, 1) := by decide +kernel
theorem dX7_sure_77 : decode cX7_sure 77 = .ok (.ishl, 1) := by decide +kernel
theorem dX7_sure_78 : decode cX7_sure 78 = .ok (.ior, 1) := by decide +kernel
theorem dX7_sure_79 : decode cX7_sure 79 = .ok (.iand, 1) := by decide +kernel
theorem dX7_sure_80 : decode cX7_sure 80 = .ok (.istore 4, 2) := by decide +kernel
theorem dX7_sure_82 : decode cX7_sure 82 = .ok (.iinc 5 1, 3) := by decide +kernel
theorem dX7_sure_85 : decode cX7_sure 85 = .ok (.goto (-49), 3) := by decide +kernel
theorem dX7_sure_88 : decode cX7_sure 88 = .ok (.iload 4, 2) := by decide +kernel
theorem dX7_sure_90 : decode cX7_sure 90 = .ok (.ireturn, 1) := by decide +kernel
theorem dX7_look_0 : decode cX7_look 0 = .ok (.aload_n 0, 1) := by decide +kernel
theorem dX7_look_1 : decode cX7_look 1 = .ok (.iload_n 1, 1) := by decide +kernel
theorem dX7_look_2 : decode cX7_look 2 = .ok (.iload_n 2, 1) := by decide +kernel
theorem dX7_look_3 : decode cX7_look 3 = .ok (.invokevirtual 327, 3) := by decide +kernel
theorem dX7_look_6 : decode cX7_look 6 = .ok (.aload_n 0, 1) := by decide +kernel
theorem dX7_look_7 : decode cX7_look 7 = .ok (.iload_n 1, 1) := by decide +kernel
theorem dX7_look_8 : decode cX7_look 8 = .ok (.iload_n 2, 1) := by decide +kernel
theorem dX7_look_9 : decode cX7_look 9 = .ok (.invokevirtual 330, 3) := by decide +kernel
theorem dX7_look_12 : decode cX7_look 12 = .ok (.istore_n 3, 1) := by decide +kernel
theorem dX7_look_13 : decode cX7_look 13 = .ok (.iconst (-1), 1) := by decide +kernel
theorem dX7_look_14 : decode cX7_look 14 = .ok (.istore 4, 2) := by decide +kernel
theorem dX7_look_16 : decode cX7_look 16 = .ok (.bipush 29, 2) := by decide +kernel
theorem dX7_look_18 : decode cX7_look 18 = .ok (.istore 5, 2) := by decide +kernel
theorem dX7_look_20 : decode cX7_look 20 = .ok (.iconst 0, 1) := by decide +kernel
theorem dX7_look_21 : decode cX7_look 21 = .ok (.istore 6, 2) := by decide +kernel
theorem dX7_look_23 : decode cX7_look 23 = .ok (.iload_n 3, 1) := by decide +kernel
theorem dX7_look_24 : decode cX7_look 24 = .ok (.ifCond .le 48, 3) := by decide +kernel
theorem dX7_look_27 : decode cX7_look 27 = .ok (.iload 6, 2) := by decide +kernel
theorem dX7_look_29 : decode cX7_look 29 = .ok (.aload_n 0, 1) := by decide +kernel
theorem dX7_look_30 : decode cX7_look 30 = .ok (.getfield 65, 3) := by decide +kernel
theorem dX7_look_33 : decode cX7_look 33 = .ok (.getfield 120, 3) := by decide +kernel
theorem dX7_look_36 : decode cX7_look 36 = .ok (.getfield 263, 3) := by decide +kernel
theorem dX7_look_39 : decode cX7_look 39 = .ok (.if_icmp .ge 33, 3) := by decide +kernel
theorem dX7_look_42 : decode cX7_look 42 = .ok (.aload_n 0, 1) := by decide +kernel
theorem dX7_look_43 : decode cX7_look 43 = .ok (.iload 6, 2) := by decide +kernel
theorem dX7_look_45 : decode cX7_look 45 = .ok (.iload_n 3, 1) := by decide +kernel
theorem dX7_look_46 : decode cX7_look 46 = .ok (.invokevirtual 338, 3) := by decide +kernel
theorem dX7_look_49 : decode cX7_look 49 = .ok (.istore 7, 2) := by decide +kernel
theorem dX7_look_51 : decode cX7_look 51 = .ok (.iload 7, 2) := by decide +kernel
theorem dX7_look_53 : decode cX7_look 53 = .ok (.iload 5, 2) := by decide +kernel
theorem dX7_look_55 : decode cX7_look 55 = .ok (.if_icmp .ge 11, 3) := by decide +kernel
theorem dX7_look_58 : decode cX7_look 58 = .ok (.iload 7, 2) := by decide +kernel
theorem dX7_look_60 : decode cX7_look 60 = .ok (.istore 5, 2) := by decide +kernel
theorem dX7_look_62 : decode cX7_look 62 = .ok (.iload 6, 2) := by decide +kernel
theorem dX7_look_64 : decode cX7_look 64 = .ok (.istore 4, 2) := by decide +kernel
theorem dX7_look_66 : decode cX7_look 66 = .ok (.iinc 6 1, 3) := by decide +kernel
theorem dX7_look_69 : decode cX7_look 69 = .ok (.goto (-46), 3) := by decide +kernel
theorem dX7_look_72 : decode cX7_look 72 = .ok (.iload 4, 2) := by decide +kernel
theorem dX7_look_74 : decode cX7_look 74 = .ok (.ireturn, 1) := by decide +kernel
theorem dX7_tray_0 : decode cX7_tray 0 = .ok (.aload_n 0, 1) := by decide +kernel
theorem dX7_tray_1 : decode cX7_tray 1 = .ok (.iload_n 1, 1) := by decide +kernel
theorem dX7_tray_2 : decode cX7_tray 2 = .ok (.invokevirtual 217, 3) := by decide +kernel
theorem dX7_tray_5 : decode cX7_tray 5 = .ok (.aload_n 0, 1) := by decide +kernel
theorem dX7_tray_6 : decode cX7_tray 6 = .ok (.iload_n 2, 1) := by decide +kernel
theorem dX7_tray_7 : decode cX7_tray 7 = .ok (.iconst 0, 1) := by decide +kernel
theorem dX7_tray_8 : decode cX7_tray 8 = .ok (.iconst 3, 1) := by decide +kernel
theorem dX7_tray_9 : decode cX7_tray 9 = .ok (.invokevirtual 90, 3) := by decide +kernel
theorem dX7_tray_12 : decode cX7_tray 12 = .ok (.aload_n 0, 1) := by decide +kernel
theorem dX7_tray_13 : decode cX7_tray 13 = .ok (.iload_n 3, 1) := by decide +kernel
theorem dX7_tray_14 : decode cX7_tray 14 = .ok (.iconst 0, 1) := by decide +kernel
theorem dX7_tray_15 : decode cX7_tray 15 = .ok (.bipush 30, 2) := by decide +kernel
theorem dX7_tray_17 : decode cX7_tray 17 = .ok (.invokevirtual 90, 3) := by decide +kernel
theorem dX7_tray_20 : decode cX7_tray 20 = .ok (.aload_n 0, 1) := by decide +kernel
theorem dX7_tray_21 : decode cX7_tray 21 = .ok (.getfield 25, 3) := by decide +kernel
theorem dX7_tray_24 : decode cX7_tray 24 = .ok (.iload_n 1, 1) := by decide +kernel
theorem dX7_tray_25 : decode cX7_tray 25 = .ok (.aaload, 1) := by decide +kernel
theorem dX7_tray_26 : decode cX7_tray 26 = .ok (.iload_n 2, 1) := by decide +kernel
theorem dX7_tray_27 : decode cX7_tray 27 = .ok (.iload_n 3, 1) := by decide +kernel
theorem dX7_tray_28 : decode cX7_tray 28 = .ok (.invokevirtual 341, 3) := by decide +kernel
theorem dX7_tray_31 : decode cX7_tray 31 = .ok (.return_, 1) := by decide +kernel
theorem dX7_write_0 : decode cX7_write 0 = .ok (.aload_n 0, 1) := by decide +kernel
theorem dX7_write_1 : decode cX7_write 1 = .ok (.iload_n 1, 1) := by decide +kernel
theorem dX7_write_2 : decode cX7_write 2 = .ok (.invokevirtual 217, 3) := by decide +kernel
theorem dX7_write_5 : decode cX7_write 5 = .ok (.aload_n 0, 1) := by decide +kernel
theorem dX7_write_6 : decode cX7_write 6 = .ok (.iload_n 1, 1) := by decide +kernel
theorem dX7_write_7 : decode cX7_write 7 = .ok (.invokevirtual 220, 3) := by decide +kernel
theorem dX7_write_10 : decode cX7_write 10 = .ok (.iload_n 2, 1) := by decide +kernel
theorem dX7_write_11 : decode cX7_write 11 = .ok (.ifCond .lt 16, 3) := by decide +kernel
theorem dX7_write_14 : decode cX7_write 14 = .ok (.iload_n 2, 1) := by decide +kernel
theorem dX7_write_15 : decode cX7_write 15 = .ok (.aload_n 0, 1) := by decide +kernel
theorem dX7_write_16 : decode cX7_write 16 = .ok (.getfield 25, 3) := by decide +kernel
theorem dX7_write_19 : decode cX7_write 19 = .ok (.iload_n 1, 1) := by decide +kernel
theorem dX7_write_20 : decode cX7_write 20 = .ok (.aaload, 1) := by decide +kernel
theorem dX7_write_21 : decode cX7_write 21 = .ok (.getfield 227, 3) := by decide +kernel
theorem dX7_write_24 : decode cX7_write 24 = .ok (.if_icmp .lt 14, 3) := by decide +kernel
theorem dX7_write_27 : decode cX7_write 27 = .ok (.new 344, 3) := by decide +kernel
theorem dX7_write_30 : decode cX7_write 30 = .ok (.dup, 1) := by decide +kernel
theorem dX7_write_31 : decode cX7_write 31 = .ok (.ldc_w 346, 3) := by decide +kernel
theorem dX7_write_34 : decode cX7_write 34 = .ok (.invokespecial 348, 3) := by decide +kernel
theorem dX7_write_37 : decode cX7_write 37 = .ok (.athrow, 1) := by decide +kernel
theorem dX7_write_38 : decode cX7_write 38 = .ok (.aload_n 0, 1) := by decide +kernel
theorem dX7_write_39 : decode cX7_write 39 = .ok (.getfield 25, 3) := by decide +kernel
theorem dX7_write_42 : decode cX7_write 42 = .ok (.iload_n 1, 1) := by decide +kernel
theorem dX7_write_43 : decode cX7_write 43 = .ok (.aaload, 1) := by decide +kernel
theorem dX7_write_44 : decode cX7_write 44 = .ok (.iload_n 2, 1) := by decide +kernel
theorem dX7_write_45 : decode cX7_write 45 = .ok (.lload_n 3, 1) := by decide +kernel
theorem dX7_write_46 : decode cX7_write 46 = .ok (.invokevirtual 349, 3) := by decide +kernel
theorem dX7_write_49 : decode cX7_write 49 = .ok (.lreturn, 1) := by decide +kernel
theorem dX7_copy_0 : decode cX7_copy 0 = .ok (.aload_n 0, 1) := by decide +kernel
theorem dX7_copy_1 : decode cX7_copy 1 = .ok (.iload_n 1, 1) := by decide +kernel
theorem dX7_copy_2 : decode cX7_copy 2 = .ok (.invokevirtual 217, 3) := by decide +kernel
theorem dX7_copy_5 : decode cX7_copy 5 = .ok (.aload_n 0, 1) := by decide +kernel
theorem dX7_copy_6 : decode cX7_copy 6 = .ok (.iload_n 2, 1) := by decide +kernel
theorem dX7_copy_7 : decode cX7_copy 7 = .ok (.invokevirtual 135, 3) := by decide +kernel
theorem dX7_copy_10 : decode cX7_copy 10 = .ok (.aload_n 0, 1) := by decide +kernel
theorem dX7_copy_11 : decode cX7_copy 11 = .ok (.iload_n 1, 1) := by decide +kernel
theorem dX7_copy_12 : decode cX7_copy 12 = .ok (.invokevirtual 220, 3) := by decide +kernel
theorem dX7_copy_15 : decode cX7_copy 15 = .ok (.aload_n 0, 1) := by decide +kernel
theorem dX7_copy_16 : decode cX7_copy 16 = .ok (.getfield 25, 3) := by decide +kernel
theorem dX7_copy_19 : decode cX7_copy 19 = .ok (.iload_n 1, 1) := by decide +kernel
theorem dX7_copy_20 : decode cX7_copy 20 = .ok (.aaload, 1) := by decide +kernel
theorem dX7_copy_21 : decode cX7_copy 21 = .ok (.astore_n 3, 1) := by decide +kernel
theorem dX7_copy_22 : decode cX7_copy 22 = .ok (.aload_n 0, 1) := by decide +kernel
theorem dX7_copy_23 : decode cX7_copy 23 = .ok (.invokevirtual 223, 3) := by decide +kernel
theorem dX7_copy_26 : decode cX7_copy 26 = .ok (.astore 4, 2) := by decide +kernel
theorem dX7_copy_28 : decode cX7_copy 28 = .ok (.iconst 0, 1) := by decide +kernel
theorem dX7_copy_29 : decode cX7_copy 29 = .ok (.istore 5, 2) := by decide +kernel
theorem dX7_copy_31 : decode cX7_copy 31 = .ok (.iload 5, 2) := by decide +kernel
theorem dX7_copy_33 : decode cX7_copy 33 = .ok (.aload_n 3, 1) := by decide +kernel
theorem dX7_copy_34 : decode cX7_copy 34 = .ok (.getfield 227, 3) := by decide +kernel
theorem dX7_copy_37 : decode cX7_copy 37 = .ok (.if_icmp .ge 29, 3) := by decide +kernel
theorem dX7_copy_40 : decode cX7_copy 40 = .ok (.aload_n 3, 1) := by decide +kernel
theorem dX7_copy_41 : decode cX7_copy 41 = .ok (.iload 5, 2) := by decide +kernel
theorem dX7_copy_43 : decode cX7_copy 43 = .ok (.aload 4, 2) := by decide +kernel
theorem dX7_copy_45 : decode cX7_copy 45 = .ok (.iload_n 2, 1) := by decide +kernel
theorem dX7_copy_46 : decode cX7_copy 46 = .ok (.invokevirtual 256, 3) := by decide +kernel
theorem dX7_copy_49 : decode cX7_copy 49 = .ok (.i2l, 1) := by decide +kernel
theorem dX7_copy_50 : decode cX7_copy 50 = .ok (.invokevirtual 349, 3) := by decide +kernel
theorem dX7_copy_53 : decode cX7_copy 53 = .ok (.pop2, 1) := by decide +kernel
theorem dX7_copy_54 : decode cX7_copy 54 = .ok (.aload 4, 2) := by decide +kernel
theorem dX7_copy_56 : decode cX7_copy 56 = .ok (.iconst 0, 1) := by decide +kernel
theorem dX7_copy_57 : decode cX7_copy 57 = .ok (.invokevirtual 207, 3) := by decide +kernel
theorem dX7_copy_60 : decode cX7_copy 60 = .ok (.iinc 5 1, 3) := by decide +kernel
theorem dX7_copy_63 : decode cX7_copy 63 = .ok (.goto (-32), 3) := by decide +kernel
theorem dX7_copy_66 : decode cX7_copy 66 = .ok (.aload_n 3, 1) := by decide +kernel
theorem dX7_copy_67 : decode cX7_copy 67 = .ok (.getfield 227, 3) := by decide +kernel
theorem dX7_copy_70 : decode cX7_copy 70 = .ok (.ireturn, 1) := by decide +kernel
theorem dX7_image_0 : decode cX7_image 0 = .ok (.aload_n 0, 1) := by decide +kernel
theorem dX7_image_1 : decode cX7_image 1 = .ok (.iload_n 1, 1) := by decide +kernel
theorem dX7_image_2 : decode cX7_image 2 = .ok (.invokevirtual 353, 3) := by decide +kernel
theorem dX7_image_5 : decode cX7_image 5 = .ok (.aload_n 0, 1) := by decide +kernel
theorem dX7_image_6 : decode cX7_image 6 = .ok (.getfield 31, 3) := by decide +kernel
theorem dX7_image_9 : decode cX7_image 9 = .ok (.iload_n 1, 1) := by decide +kernel
theorem dX7_image_10 : decode cX7_image 10 = .ok (.aaload, 1) := by decide +kernel
theorem dX7_image_11 : decode cX7_image 11 = .ok (.ifnonnull 23, 3) := by decide +kernel
theorem dX7_image_14 : decode cX7_image 14 = .ok (.aload_n 0, 1) := by decide +kernel
theorem dX7_image_15 : decode cX7_image 15 = .ok (.getfield 31, 3) := by decide +kernel
theorem dX7_image_18 : decode cX7_image 18 = .ok (.iload_n 1, 1) := by decide +kernel
theorem dX7_image_19 : decode cX7_image 19 = .ok (.new 29, 3) := by decide +kernel
theorem dX7_image_22 : decode cX7_image 22 = .ok (.dup, 1) := by decide +kernel
theorem dX7_image_23 : decode cX7_image 23 = .ok (.aload_n 0, 1) := by decide +kernel
theorem dX7_image_24 : decode cX7_image 24 = .ok (.getfield 65, 3) := by decide +kernel
theorem dX7_image_27 : decode cX7_image 27 = .ok (.getfield 120, 3) := by decide +kernel
theorem dX7_image_30 : decode cX7_image 30 = .ok (.invokespecial 356, 3) := by decide +kernel
theorem dX7_image_33 : decode cX7_image 33 = .ok (.aastore, 1) := by decide +kernel
theorem dX7_image_34 : decode cX7_image 34 = .ok (.aload_n 0, 1) := by decide +kernel
theorem dX7_image_35 : decode cX7_image 35 = .ok (.getfield 31, 3) := by decide +kernel
theorem dX7_image_38 : decode cX7_image 38 = .ok (.iload_n 1, 1) := by decide +kernel
theorem dX7_image_39 : decode cX7_image 39 = .ok (.aaload, 1) := by decide +kernel
theorem dX7_image_40 : decode cX7_image 40 = .ok (.getfield 357, 3) := by decide +kernel
theorem dX7_image_43 : decode cX7_image 43 = .ok (.aload_n 0, 1) := by decide +kernel
theorem dX7_image_44 : decode cX7_image 44 = .ok (.getfield 65, 3) := by decide +kernel
theorem dX7_image_47 : decode cX7_image 47 = .ok (.invokevirtual 114, 3) := by decide +kernel
theorem dX7_image_50 : decode cX7_image 50 = .ok (.aload_n 0, 1) := by decide +kernel
theorem dX7_image_51 : decode cX7_image 51 = .ok (.getfield 31, 3) := by decide +kernel
theorem dX7_image_54 : decode cX7_image 54 = .ok (.iload_n 1, 1) := by decide +kernel
theorem dX7_image_55 : decode cX7_image 55 = .ok (.aaload, 1) := by decide +kernel
theorem dX7_image_56 : decode cX7_image 56 = .ok (.getfield 358, 3) := by decide +kernel
theorem dX7_image_59 : decode cX7_image 59 = .ok (.aload_n 0, 1) := by decide +kernel
theorem dX7_image_60 : decode cX7_image 60 = .ok (.getfield 72, 3) := by decide +kernel
theorem dX7_image_63 : decode cX7_image 63 = .ok (.invokevirtual 359, 3) := by decide +kernel
theorem dX7_image_66 : decode cX7_image 66 = .ok (.return_, 1) := by decide +kernel
theorem dX7_restore_0 : decode cX7_restore 0 = .ok (.aload_n 0, 1) := by decide +kernel
theorem dX7_restore_1 : decode cX7_restore 1 = .ok (.iload_n 1, 1) := by decide +kernel
theorem dX7_restore_2 : decode cX7_restore 2 = .ok (.invokevirtual 353, 3) := by decide +kernel
theorem dX7_restore_5 : decode cX7_restore 5 = .ok (.aload_n 0, 1) := by decide +kernel
theorem dX7_restore_6 : decode cX7_restore 6 = .ok (.getfield 31, 3) := by decide +kernel
theorem dX7_restore_9 : decode cX7_restore 9 = .ok (.iload_n 1, 1) := by decide +kernel
theorem dX7_restore_10 : decode cX7_restore 10 = .ok (.aaload, 1) := by decide +kernel
theorem dX7_restore_11 : decode cX7_restore 11 = .ok (.ifnonnull 14, 3) := by decide +kernel
theorem dX7_restore_14 : decode cX7_restore 14 = .ok (.new 291, 3) := by decide +kernel
theorem dX7_restore_17 : decode cX7_restore 17 = .ok (.dup, 1) := by decide +kernel
theorem dX7_restore_18 : decode cX7_restore 18 = .ok (.ldc_w 362, 3) := by decide +kernel
theorem dX7_restore_21 : decode cX7_restore 21 = .ok (.invokespecial 295, 3) := by decide +kernel
theorem dX7_restore_24 : decode cX7_restore 24 = .ok (.athrow, 1) := by decide +kernel
theorem dX7_restore_25 : decode cX7_restore 25 = .ok (.aload_n 0, 1) := by decide +kernel
theorem dX7_restore_26 : decode cX7_restore 26 = .ok (.getfield 65, 3) := by decide +kernel
theorem dX7_restore_29 : decode cX7_restore 29 = .ok (.aload_n 0, 1) := by decide +kernel
theorem dX7_restore_30 : decode cX7_restore 30 = .ok (.getfield 31, 3) := by decide +kernel
theorem dX7_restore_33 : decode cX7_restore 33 = .ok (.iload_n 1, 1) := by decide +kernel
theorem dX7_restore_34 : decode cX7_restore 34 = .ok (.aaload, 1) := by decide +kernel
theorem dX7_restore_35 : decode cX7_restore 35 = .ok (.getfield 357, 3) := by decide +kernel
theorem dX7_restore_38 : decode cX7_restore 38 = .ok (.invokevirtual 114, 3) := by decide +kernel
theorem dX7_restore_41 : decode cX7_restore 41 = .ok (.aload_n 0, 1) := by decide +kernel
theorem dX7_restore_42 : decode cX7_restore 42 = .ok (.getfield 72, 3) := by decide +kernel
theorem dX7_restore_45 : decode cX7_restore 45 = .ok (.aload_n 0, 1) := by decide +kernel
theorem dX7_restore_46 : decode cX7_restore 46 = .ok (.getfield 31, 3) := by decide +kernel
theorem dX7_restore_49 : decode cX7_restore 49 = .ok (.iload_n 1, 1) := by decide +kernel
theorem dX7_restore_50 : decode cX7_restore 50 = .ok (.aaload, 1) := by decide +kernel
theorem dX7_restore_51 : decode cX7_restore 51 = .ok (.getfield 358, 3) := by decide +kernel
theorem dX7_restore_54 : decode cX7_restore 54 = .ok (.invokevirtual 359, 3) := by decide +kernel
theorem dX7_restore_57 : decode cX7_restore 57 = .ok (.return_, 1) := by decide +kernel
theorem dX7_count_0 : decode cX7_count 0 = .ok (.aload_n 0, 1) := by decide +kernel
theorem dX7_count_1 : decode cX7_count 1 = .ok (.getfield 65, 3) := by decide +kernel
theorem dX7_count_4 : decode cX7_count 4 = .ok (.getfield 120, 3) := by decide +kernel
theorem dX7_count_7 : decode cX7_count 7 = .ok (.astore_n 2, 1) := by decide +kernel
theorem dX7_count_8 : decode cX7_count 8 = .ok (.iload_n 1, 1) := by decide +kernel
theorem dX7_count_9 : decode cX7_count 9 = .ok (.tableswitch 138 0 9 #[55, 60, 65, 70, 75, 83, 91, 99, 125, 133], 55) := by decide +kernel
theorem dX7_count_64 : decode cX7_count 64 = .ok (.aload_n 2, 1) := by decide +kernel
theorem dX7_count_65 : decode cX7_count 65 = .ok (.getfield 124, 3) := by decide +kernel
theorem dX7_count_68 : decode cX7_count 68 = .ok (.ireturn, 1) := by decide +kernel
theorem dX7_count_69 : decode cX7_count 69 = .ok (.aload_n 2, 1) := by decide +kernel
theorem dX7_count_70 : decode cX7_count 70 = .ok (.getfield 324, 3) := by decide +kernel
theorem dX7_count_73 : decode cX7_count 73 = .ok (.ireturn, 1) := by decide +kernel
theorem dX7_count_74 : decode cX7_count 74 = .ok (.aload_n 2, 1) := by decide +kernel
theorem dX7_count_75 : decode cX7_count 75 = .ok (.getfield 266, 3) := by decide +kernel
theorem dX7_count_78 : decode cX7_count 78 = .ok (.ireturn, 1) := by decide +kernel
theorem dX7_count_79 : decode cX7_count 79 = .ok (.aload_n 2, 1) := by decide +kernel
theorem dX7_count_80 : decode cX7_count 80 = .ok (.getfield 263, 3) := by decide +kernel
theorem dX7_count_83 : decode cX7_count 83 = .ok (.ireturn, 1) := by decide +kernel
theorem dX7_count_84 : decode cX7_count 84 = .ok (.aload_n 0, 1) := by decide +kernel
theorem dX7_count_85 : decode cX7_count 85 = .ok (.getfield 65, 3) := by decide +kernel
theorem dX7_count_88 : decode cX7_count 88 = .ok (.invokevirtual 301, 3) := by decide +kernel
theorem dX7_count_91 : decode cX7_count 91 = .ok (.ireturn, 1) := by decide +kernel
theorem dX7_count_92 : decode cX7_count 92 = .ok (.aload_n 0, 1) := by decide +kernel
theorem dX7_count_93 : decode cX7_count 93 = .ok (.getfield 65, 3) := by decide +kernel
theorem dX7_count_96 : decode cX7_count 96 = .ok (.getfield 150, 3) := by decide +kernel
theorem dX7_count_99 : decode cX7_count 99 = .ok (.ireturn, 1) := by decide +kernel
theorem dX7_count_100 : decode cX7_count 100 = .ok (.aload_n 0, 1) := by decide +kernel
theorem dX7_count_101 : decode cX7_count 101 = .ok (.getfield 65, 3) := by decide +kernel
theorem dX7_count_104 : decode cX7_count 104 = .ok (.getfield 162, 3) := by decide +kernel
theorem dX7_count_107 : decode cX7_count 107 = .ok (.ireturn, 1) := by decide +kernel
theorem dX7_count_108 : decode cX7_count 108 = .ok (.aload_n 2, 1) := by decide +kernel
theorem dX7_count_109 : decode cX7_count 109 = .ok (.getfield 324, 3) := by decide +kernel
theorem dX7_count_112 : decode cX7_count 112 = .ok (.aload_n 2, 1) := by decide +kernel
theorem dX7_count_113 : decode cX7_count 113 = .ok (.getfield 266, 3) := by decide +kernel
theorem dX7_count_116 : decode cX7_count 116 = .ok (.imul, 1) := by decide +kernel
theorem dX7_count_117 : decode cX7_count 117 = .ok (.aload_n 2, 1) := by decide +kernel
theorem dX7_count_118 : decode cX7_count 118 = .ok (.getfield 263, 3) := by decide +kernel
theorem dX7_count_121 : decode cX7_count 121 = .ok (.isub, 1) := by decide +kernel
theorem dX7_count_122 : decode cX7_count 122 = .ok (.aload_n 0, 1) := by decide +kernel
theorem dX7_count_123 : decode cX7_count 123 = .ok (.getfield 65, 3) := by decide +kernel
theorem dX7_count_126 : decode cX7_count 126 = .ok (.invokevirtual 301, 3) := by decide +kernel
theorem dX7_count_129 : decode cX7_count 129 = .ok (.invokestatic 198, 3) := by decide +kernel
theorem dX7_count_132 : decode cX7_count 132 = .ok (.iadd, 1) := by decide +kernel
theorem dX7_count_133 : decode cX7_count 133 = .ok (.ireturn, 1) := by decide +kernel
theorem dX7_count_134 : decode cX7_count 134 = .ok (.aload_n 0, 1) := by decide +kernel
theorem dX7_count_135 : decode cX7_count 135 = .ok (.getfield 72, 3) := by decide +kernel
theorem dX7_count_138 : decode cX7_count 138 = .ok (.getfield 210, 3) := by decide +kernel
theorem dX7_count_141 : decode cX7_count 141 = .ok (.ireturn, 1) := by decide +kernel
theorem dX7_count_142 : decode cX7_count 142 = .ok (.aload_n 0, 1) := by decide +kernel
theorem dX7_count_143 : decode cX7_count 143 = .ok (.getfield 13, 3) := by decide +kernel
theorem dX7_count_146 : decode cX7_count 146 = .ok (.ireturn, 1) := by decide +kernel
theorem dX7_count_147 : decode cX7_count 147 = .ok (.iconst (-1), 1) := by decide +kernel
theorem dX7_count_148 : decode cX7_count 148 = .ok (.ireturn, 1) := by decide +kernel
theorem dX7_needWithin_0 : decode cX7_needWithin 0 = .ok (.iload_n 1, 1) := by decide +kernel
theorem dX7_needWithin_1 : decode cX7_needWithin 1 = .ok (.iload_n 2, 1) := by decide +kernel
theorem dX7_needWithin_2 : decode cX7_needWithin 2 = .ok (.if_icmp .lt 8, 3) := by decide +kernel
theorem dX7_needWithin_5 : decode cX7_needWithin 5 = .ok (.iload_n 1, 1) := by decide +kernel
theorem dX7_needWithin_6 : decode cX7_needWithin 6 = .ok (.iload_n 3, 1) := by decide +kernel
theorem dX7_needWithin_7 : decode cX7_needWithin 7 = .ok (.if_icmp .le 14, 3) := by decide +kernel
theorem dX7_needWithin_10 : decode cX7_needWithin 10 = .ok (.new 333, 3) := by decide +kernel
theorem dX7_needWithin_13 : decode cX7_needWithin 13 = .ok (.dup, 1) := by decide +kernel
theorem dX7_needWithin_14 : decode cX7_needWithin 14 = .ok (.ldc_w 364, 3) := by decide +kernel
theorem dX7_needWithin_17 : decode cX7_needWithin 17 = .ok (.invokespecial 337, 3) := by decide +kernel
theorem dX7_needWithin_20 : decode cX7_needWithin 20 = .ok (.athrow, 1) := by decide +kernel
theorem dX7_needWithin_21 : decode cX7_needWithin 21 = .ok (.return_, 1) := by decide +kernel
theorem dX7_needPerson_0 : decode cX7_needPerson 0 = .ok (.aload_n 0, 1) := by decide +kernel
theorem dX7_needPerson_1 : decode cX7_needPerson 1 = .ok (.getfield 65, 3) := by decide +kernel
theorem dX7_needPerson_4 : decode cX7_needPerson 4 = .ok (.getfield 120, 3) := by decide +kernel
theorem dX7_needPerson_7 : decode cX7_needPerson 7 = .ok (.iload_n 1, 1) := by decide +kernel
theorem dX7_needPerson_8 : decode cX7_needPerson 8 = .ok (.invokevirtual 366, 3) := by decide +kernel
theorem dX7_needPerson_11 : decode cX7_needPerson 11 = .ok (.ifCond .ne 14, 3) := by decide +kernel
theorem dX7_needPerson_14 : decode cX7_needPerson 14 = .ok (.new 370, 3) := by decide +kernel
theorem dX7_needPerson_17 : decode cX7_needPerson 17 = .ok (.dup, 1) := by decide +kernel
theorem dX7_needPerson_18 : decode cX7_needPerson 18 = .ok (.ldc_w 372, 3) := by decide +kernel
theorem dX7_needPerson_21 : decode cX7_needPerson 21 = .ok (.invokespecial 374, 3) := by decide +kernel
theorem dX7_needPerson_24 : decode cX7_needPerson 24 = .ok (.athrow, 1) := by decide +kernel
theorem dX7_needPerson_25 : decode cX7_needPerson 25 = .ok (.return_, 1) := by decide +kernel
theorem dX7_needChair_0 : decode cX7_needChair 0 = .ok (.aload_n 0, 1) := by decide +kernel
theorem dX7_needChair_1 : decode cX7_needChair 1 = .ok (.getfield 65, 3) := by decide +kernel
theorem dX7_needChair_4 : decode cX7_needChair 4 = .ok (.getfield 120, 3) := by decide +kernel
theorem dX7_needChair_7 : decode cX7_needChair 7 = .ok (.iload_n 1, 1) := by decide +kernel
theorem dX7_needChair_8 : decode cX7_needChair 8 = .ok (.iload_n 2, 1) := by decide +kernel
theorem dX7_needChair_9 : decode cX7_needChair 9 = .ok (.invokevirtual 375, 3) := by decide +kernel
theorem dX7_needChair_12 : decode cX7_needChair 12 = .ok (.ifCond .ne 14, 3) := by decide +kernel
theorem dX7_needChair_15 : decode cX7_needChair 15 = .ok (.new 370, 3) := by decide +kernel
theorem dX7_needChair_18 : decode cX7_needChair 18 = .ok (.dup, 1) := by decide +kernel
theorem dX7_needChair_19 : decode cX7_needChair 19 = .ok (.ldc_w 379, 3) := by decide +kernel
theorem dX7_needChair_22 : decode cX7_needChair 22 = .ok (.invokespecial 374, 3) := by decide +kernel
theorem dX7_needChair_25 : decode cX7_needChair 25 = .ok (.athrow, 1) := by decide +kernel
theorem dX7_needChair_26 : decode cX7_needChair 26 = .ok (.return_, 1) := by decide +kernel
theorem dX7_needTwoWhoSit_0 : decode cX7_needTwoWhoSit 0 = .ok (.aload_n 0, 1) := by decide +kernel
theorem dX7_needTwoWhoSit_1 : decode cX7_needTwoWhoSit 1 = .ok (.iload_n 1, 1) := by decide +kernel
theorem dX7_needTwoWhoSit_2 : decode cX7_needTwoWhoSit 2 = .ok (.invokevirtual 135, 3) := by decide +kernel
theorem dX7_needTwoWhoSit_5 : decode cX7_needTwoWhoSit 5 = .ok (.aload_n 0, 1) := by decide +kernel
theorem dX7_needTwoWhoSit_6 : decode cX7_needTwoWhoSit 6 = .ok (.iload_n 2, 1) := by decide +kernel
theorem dX7_needTwoWhoSit_7 : decode cX7_needTwoWhoSit 7 = .ok (.invokevirtual 135, 3) := by decide +kernel
theorem dX7_needTwoWhoSit_10 : decode cX7_needTwoWhoSit 10 = .ok (.iload_n 1, 1) := by decide +kernel
theorem dX7_needTwoWhoSit_11 : decode cX7_needTwoWhoSit 11 = .ok (.iload_n 2, 1) := by decide +kernel
theorem dX7_needTwoWhoSit_12 : decode cX7_needTwoWhoSit 12 = .ok (.if_icmp .ne 14, 3) := by decide +kernel
theorem dX7_needTwoWhoSit_15 : decode cX7_needTwoWhoSit 15 = .ok (.new 333, 3) := by decide +kernel
theorem dX7_needTwoWhoSit_18 : decode cX7_needTwoWhoSit 18 = .ok (.dup, 1) := by decide +kernel
theorem dX7_needTwoWhoSit_19 : decode cX7_needTwoWhoSit 19 = .ok (.ldc_w 381, 3) := by decide +kernel
theorem dX7_needTwoWhoSit_22 : decode cX7_needTwoWhoSit 22 = .ok (.invokespecial 337, 3) := by decide +kernel
theorem dX7_needTwoWhoSit_25 : decode cX7_needTwoWhoSit 25 = .ok (.athrow, 1) := by decide +kernel
theorem dX7_needTwoWhoSit_26 : decode cX7_needTwoWhoSit 26 = .ok (.aload_n 0, 1) := by decide +kernel
theorem dX7_needTwoWhoSit_27 : decode cX7_needTwoWhoSit 27 = .ok (.getfield 65, 3) := by decide +kernel
theorem dX7_needTwoWhoSit_30 : decode cX7_needTwoWhoSit 30 = .ok (.getfield 141, 3) := by decide +kernel
theorem dX7_needTwoWhoSit_33 : decode cX7_needTwoWhoSit 33 = .ok (.iload_n 1, 1) := by decide +kernel
theorem dX7_needTwoWhoSit_34 : decode cX7_needTwoWhoSit 34 = .ok (.iaload, 1) := by decide +kernel
theorem dX7_needTwoWhoSit_35 : decode cX7_needTwoWhoSit 35 = .ok (.iconst (-1), 1) := by decide +kernel
theorem dX7_needTwoWhoSit_36 : decode cX7_needTwoWhoSit 36 = .ok (.if_icmp .eq 16, 3) := by decide +kernel
theorem dX7_needTwoWhoSit_39 : decode cX7_needTwoWhoSit 39 = .ok (.aload_n 0, 1) := by decide +kernel
theorem dX7_needTwoWhoSit_40 : decode cX7_needTwoWhoSit 40 = .ok (.getfield 65, 3) := by decide +kernel
theorem dX7_needTwoWhoSit_43 : decode cX7_needTwoWhoSit 43 = .ok (.getfield 141, 3) := by decide +kernel
theorem dX7_needTwoWhoSit_46 : decode cX7_needTwoWhoSit 46 = .ok (.iload_n 2, 1) := by decide +kernel
theorem dX7_needTwoWhoSit_47 : decode cX7_needTwoWhoSit 47 = .ok (.iaload, 1) := by decide +kernel
theorem dX7_needTwoWhoSit_48 : decode cX7_needTwoWhoSit 48 = .ok (.iconst (-1), 1) := by decide +kernel
theorem dX7_needTwoWhoSit_49 : decode cX7_needTwoWhoSit 49 = .ok (.if_icmp .ne 14, 3) := by decide +kernel
theorem dX7_needTwoWhoSit_52 : decode cX7_needTwoWhoSit 52 = .ok (.new 291, 3) := by decide +kernel
theorem dX7_needTwoWhoSit_55 : decode cX7_needTwoWhoSit 55 = .ok (.dup, 1) := by decide +kernel
theorem dX7_needTwoWhoSit_56 : decode cX7_needTwoWhoSit 56 = .ok (.ldc_w 383, 3) := by decide +kernel
theorem dX7_needTwoWhoSit_59 : decode cX7_needTwoWhoSit 59 = .ok (.invokespecial 295, 3) := by decide +kernel
theorem dX7_needTwoWhoSit_62 : decode cX7_needTwoWhoSit 62 = .ok (.athrow, 1) := by decide +kernel
theorem dX7_needTwoWhoSit_63 : decode cX7_needTwoWhoSit 63 = .ok (.return_, 1) := by decide +kernel
theorem dX7_needTwosAsked_0 : decode cX7_needTwosAsked 0 = .ok (.iload_n 1, 1) := by decide +kernel
theorem dX7_needTwosAsked_1 : decode cX7_needTwosAsked 1 = .ok (.aload_n 0, 1) := by decide +kernel
theorem dX7_needTwosAsked_2 : decode cX7_needTwosAsked 2 = .ok (.getfield 65, 3) := by decide +kernel
theorem dX7_needTwosAsked_5 : decode cX7_needTwosAsked 5 = .ok (.getfield 120, 3) := by decide +kernel
theorem dX7_needTwosAsked_8 : decode cX7_needTwosAsked 8 = .ok (.invokevirtual 304, 3) := by decide +kernel
theorem dX7_needTwosAsked_11 : decode cX7_needTwosAsked 11 = .ok (.iconst (-1), 1) := by decide +kernel
theorem dX7_needTwosAsked_12 : decode cX7_needTwosAsked 12 = .ok (.ixor, 1) := by decide +kernel
theorem dX7_needTwosAsked_13 : decode cX7_needTwosAsked 13 = .ok (.iand, 1) := by decide +kernel
theorem dX7_needTwosAsked_14 : decode cX7_needTwosAsked 14 = .ok (.ifCond .eq 14, 3) := by decide +kernel
theorem dX7_needTwosAsked_17 : decode cX7_needTwosAsked 17 = .ok (.new 333, 3) := by decide +kernel
theorem dX7_needTwosAsked_20 : decode cX7_needTwosAsked 20 = .ok (.dup, 1) := by decide +kernel
theorem dX7_needTwosAsked_21 : decode cX7_needTwosAsked 21 = .ok (.ldc_w 385, 3) := by decide +kernel
theorem dX7_needTwosAsked_24 : decode cX7_needTwosAsked 24 = .ok (.invokespecial 337, 3) := by decide +kernel
theorem dX7_needTwosAsked_27 : decode cX7_needTwosAsked 27 = .ok (.athrow, 1) := by decide +kernel
theorem dX7_needTwosAsked_28 : decode cX7_needTwosAsked 28 = .ok (.aload_n 0, 1) := by decide +kernel
theorem dX7_needTwosAsked_29 : decode cX7_needTwosAsked 29 = .ok (.iload_n 2, 1) := by decide +kernel
theorem dX7_needTwosAsked_30 : decode cX7_needTwosAsked 30 = .ok (.iconst 1, 1) := by decide +kernel
theorem dX7_needTwosAsked_31 : decode cX7_needTwosAsked 31 = .ok (.bipush 60, 2) := by decide +kernel
theorem dX7_needTwosAsked_33 : decode cX7_needTwosAsked 33 = .ok (.invokevirtual 90, 3) := by decide +kernel
theorem dX7_needTwosAsked_36 : decode cX7_needTwosAsked 36 = .ok (.return_, 1) := by decide +kernel
theorem dX7_needTray_0 : decode cX7_needTray 0 = .ok (.iload_n 1, 1) := by decide +kernel
theorem dX7_needTray_1 : decode cX7_needTray 1 = .ok (.ifCond .lt 8, 3) := by decide +kernel
theorem dX7_needTray_4 : decode cX7_needTray 4 = .ok (.iload_n 1, 1) := by decide +kernel
theorem dX7_needTray_5 : decode cX7_needTray 5 = .ok (.iconst 4, 1) := by decide +kernel
theorem dX7_needTray_6 : decode cX7_needTray 6 = .ok (.if_icmp .lt 14, 3) := by decide +kernel
theorem dX7_needTray_9 : decode cX7_needTray 9 = .ok (.new 370, 3) := by decide +kernel
theorem dX7_needTray_12 : decode cX7_needTray 12 = .ok (.dup, 1) := by decide +kernel
theorem dX7_needTray_13 : decode cX7_needTray 13 = .ok (.ldc_w 387, 3) := by decide +kernel
theorem dX7_needTray_16 : decode cX7_needTray 16 = .ok (.invokespecial 374, 3) := by decide +kernel
theorem dX7_needTray_19 : decode cX7_needTray 19 = .ok (.athrow, 1) := by decide +kernel
theorem dX7_needTray_20 : decode cX7_needTray 20 = .ok (.return_, 1) := by decide +kernel
theorem dX7_needLaid_0 : decode cX7_needLaid 0 = .ok (.aload_n 0, 1) := by decide +kernel
theorem dX7_needLaid_1 : decode cX7_needLaid 1 = .ok (.getfield 25, 3) := by decide +kernel
theorem dX7_needLaid_4 : decode cX7_needLaid 4 = .ok (.iload_n 1, 1) := by decide +kernel
theorem dX7_needLaid_5 : decode cX7_needLaid 5 = .ok (.aaload, 1) := by decide +kernel
theorem dX7_needLaid_6 : decode cX7_needLaid 6 = .ok (.invokevirtual 389, 3) := by decide +kernel
theorem dX7_needLaid_9 : decode cX7_needLaid 9 = .ok (.ifCond .eq 14, 3) := by decide +kernel
theorem dX7_needLaid_12 : decode cX7_needLaid 12 = .ok (.new 291, 3) := by decide +kernel
theorem dX7_needLaid_15 : decode cX7_needLaid 15 = .ok (.dup, 1) := by decide +kernel
theorem dX7_needLaid_16 : decode cX7_needLaid 16 = .ok (.ldc_w 392, 3) := by decide +kernel
theorem dX7_needLaid_19 : decode cX7_needLaid 19 = .ok (.invokespecial 295, 3) := by decide +kernel
theorem dX7_needLaid_22 : decode cX7_needLaid 22 = .ok (.athrow, 1) := by decide +kernel
theorem dX7_needLaid_23 : decode cX7_needLaid 23 = .ok (.return_, 1) := by decide +kernel
theorem dX7_needImage_0 : decode cX7_needImage 0 = .ok (.iload_n 1, 1) := by decide +kernel
theorem dX7_needImage_1 : decode cX7_needImage 1 = .ok (.ifCond .lt 8, 3) := by decide +kernel
theorem dX7_needImage_4 : decode cX7_needImage 4 = .ok (.iload_n 1, 1) := by decide +kernel
theorem dX7_needImage_5 : decode cX7_needImage 5 = .ok (.iconst 3, 1) := by decide +kernel
theorem dX7_needImage_6 : decode cX7_needImage 6 = .ok (.if_icmp .lt 14, 3) := by decide +kernel
theorem dX7_needImage_9 : decode cX7_needImage 9 = .ok (.new 370, 3) := by decide +kernel
theorem dX7_needImage_12 : decode cX7_needImage 12 = .ok (.dup, 1) := by decide +kernel
theorem dX7_needImage_13 : decode cX7_needImage 13 = .ok (.ldc_w 394, 3) := by decide +kernel
theorem dX7_needImage_16 : decode cX7_needImage 16 = .ok (.invokespecial 374, 3) := by decide +kernel
theorem dX7_needImage_19 : decode cX7_needImage 19 = .ok (.athrow, 1) := by decide +kernel
theorem dX7_needImage_20 : decode cX7_needImage 20 = .ok (.return_, 1) := by decide +kernel
theorem dX7_append_0 : decode cX7_append 0 = .ok (.bipush 24, 2) := by decide +kernel
theorem dX7_append_2 : decode cX7_append 2 = .ok (.istore_n 2, 1) := by decide +kernel
theorem dX7_append_3 : decode cX7_append 3 = .ok (.iload_n 2, 1) := by decide +kernel
theorem dX7_append_4 : decode cX7_append 4 = .ok (.ifCond .lt 45, 3) := by decide +kernel
theorem dX7_append_7 : decode cX7_append 7 = .ok (.aload_n 0, 1) := by decide +kernel
theorem dX7_append_8 : decode cX7_append 8 = .ok (.getfield 13, 3) := by decide +kernel
theorem dX7_append_11 : decode cX7_append 11 = .ok (.sipush 900, 3) := by decide +kernel
theorem dX7_append_14 : decode cX7_append 14 = .ok (.if_icmp .ge 35, 3) := by decide +kernel
theorem dX7_append_17 : decode cX7_append 17 = .ok (.aload_n 0, 1) := by decide +kernel
theorem dX7_append_18 : decode cX7_append 18 = .ok (.getfield 9, 3) := by decide +kernel
theorem dX7_append_21 : decode cX7_append 21 = .ok (.aload_n 0, 1) := by decide +kernel
theorem dX7_append_22 : decode cX7_append 22 = .ok (.getfield 13, 3) := by decide +kernel
theorem dX7_append_25 : decode cX7_append 25 = .ok (.iload_n 1, 1) := by decide +kernel
theorem dX7_append_26 : decode cX7_append 26 = .ok (.iload_n 2, 1) := by decide +kernel
theorem dX7_append_27 : decode cX7_append 27 = .ok (.iushr, 1) := by decide +kernel
theorem dX7_append_28 : decode cX7_append 28 = .ok (.sipush 255, 3) := by decide +kernel
theorem dX7_append_31 : decode cX7_append 31 = .ok (.iand, 1) := by decide +kernel
theorem dX7_append_32 : decode cX7_append 32 = .ok (.iastore, 1) := by decide +kernel
theorem dX7_append_33 : decode cX7_append 33 = .ok (.aload_n 0, 1) := by decide +kernel
theorem dX7_append_34 : decode cX7_append 34 = .ok (.dup, 1) := by decide +kernel
theorem dX7_append_35 : decode cX7_append 35 = .ok (.getfield 13, 3) := by decide +kernel
theorem dX7_append_38 : decode cX7_append 38 = .ok (.iconst 1, 1) := by decide +kernel
theorem dX7_append_39 : decode cX7_append 39 = .ok (.iadd, 1) := by decide +kernel
theorem dX7_append_40 : decode cX7_append 40 = .ok (.putfield 13, 3) := by decide +kernel
theorem dX7_append_43 : decode cX7_append 43 = .ok (.iinc 2 (-8), 3) := by decide +kernel
theorem dX7_append_46 : decode cX7_append 46 = .ok (.goto (-43), 3) := by decide +kernel
theorem dX7_append_49 : decode cX7_append 49 = .ok (.return_, 1) := by decide +kernel
theorem dX7_trial_0 : decode cX7_trial 0 = .ok (.aload_n 0, 1) := by decide +kernel
theorem dX7_trial_1 : decode cX7_trial 1 = .ok (.getfield 37, 3) := by decide +kernel
theorem dX7_trial_4 : decode cX7_trial 4 = .ok (.iconst 0, 1) := by decide +kernel
theorem dX7_trial_5 : decode cX7_trial 5 = .ok (.aaload, 1) := by decide +kernel
theorem dX7_trial_6 : decode cX7_trial 6 = .ok (.astore_n 1, 1) := by decide +kernel
theorem dX7_trial_7 : decode cX7_trial 7 = .ok (.aload_n 1, 1) := by decide +kernel
theorem dX7_trial_8 : decode cX7_trial 8 = .ok (.aload_n 0, 1) := by decide +kernel
theorem dX7_trial_9 : decode cX7_trial 9 = .ok (.getfield 65, 3) := by decide +kernel
theorem dX7_trial_12 : decode cX7_trial 12 = .ok (.invokevirtual 114, 3) := by decide +kernel
theorem dX7_trial_15 : decode cX7_trial 15 = .ok (.aload_n 1, 1) := by decide +kernel
theorem dX7_trial_16 : decode cX7_trial 16 = .ok (.areturn, 1) := by decide +kernel
theorem dX7_ahead_0 : decode cX7_ahead 0 = .ok (.aload_n 0, 1) := by decide +kernel
theorem dX7_ahead_1 : decode cX7_ahead 1 = .ok (.invokevirtual 223, 3) := by decide +kernel
theorem dX7_ahead_4 : decode cX7_ahead 4 = .ok (.astore_n 2, 1) := by decide +kernel
theorem dX7_ahead_5 : decode cX7_ahead 5 = .ok (.iconst 0, 1) := by decide +kernel
theorem dX7_ahead_6 : decode cX7_ahead 6 = .ok (.istore_n 3, 1) := by decide +kernel
theorem dX7_ahead_7 : decode cX7_ahead 7 = .ok (.iload_n 3, 1) := by decide +kernel
theorem dX7_ahead_8 : decode cX7_ahead 8 = .ok (.iload_n 1, 1) := by decide +kernel
theorem dX7_ahead_9 : decode cX7_ahead 9 = .ok (.if_icmp .ge 14, 3) := by decide +kernel
theorem dX7_ahead_12 : decode cX7_ahead 12 = .ok (.aload_n 2, 1) := by decide +kernel
theorem dX7_ahead_13 : decode cX7_ahead 13 = .ok (.iconst 0, 1) := by decide +kernel
theorem dX7_ahead_14 : decode cX7_ahead 14 = .ok (.invokevirtual 207, 3) := by decide +kernel
theorem dX7_ahead_17 : decode cX7_ahead 17 = .ok (.iinc 3 1, 3) := by decide +kernel
theorem dX7_ahead_20 : decode cX7_ahead 20 = .ok (.goto (-13), 3) := by decide +kernel
theorem dX7_ahead_23 : decode cX7_ahead 23 = .ok (.aload_n 2, 1) := by decide +kernel
theorem dX7_ahead_24 : decode cX7_ahead 24 = .ok (.areturn, 1) := by decide +kernel
theorem dX7_performed_0 : decode cX7_performed 0 = .ok (.aload_n 0, 1) := by decide +kernel
theorem dX7_performed_1 : decode cX7_performed 1 = .ok (.getfield 65, 3) := by decide +kernel
theorem dX7_performed_4 : decode cX7_performed 4 = .ok (.lload_n 1, 1) := by decide +kernel
theorem dX7_performed_5 : decode cX7_performed 5 = .ok (.invokevirtual 234, 3) := by decide +kernel
theorem dX7_performed_8 : decode cX7_performed 8 = .ok (.ifCond .eq 5, 3) := by decide +kernel
theorem dX7_performed_11 : decode cX7_performed 11 = .ok (.iconst 0, 1) := by decide +kernel
theorem dX7_performed_12 : decode cX7_performed 12 = .ok (.ireturn, 1) := by decide +kernel
theorem dX7_performed_13 : decode cX7_performed 13 = .ok (.aload_n 0, 1) := by decide +kernel
theorem dX7_performed_14 : decode cX7_performed 14 = .ok (.getfield 72, 3) := by decide +kernel
theorem dX7_performed_17 : decode cX7_performed 17 = .ok (.aload_n 0, 1) := by decide +kernel
theorem dX7_performed_18 : decode cX7_performed 18 = .ok (.getfield 65, 3) := by decide +kernel
theorem dX7_performed_21 : decode cX7_performed 21 = .ok (.invokevirtual 180, 3) := by decide +kernel
theorem dX7_performed_24 : decode cX7_performed 24 = .ok (.aload_n 0, 1) := by decide +kernel
theorem dX7_performed_25 : decode cX7_performed 25 = .ok (.getfield 65, 3) := by decide +kernel
theorem dX7_performed_28 : decode cX7_performed 28 = .ok (.lload_n 1, 1) := by decide +kernel
theorem dX7_performed_29 : decode cX7_performed 29 = .ok (.invokevirtual 238, 3) := by decide +kernel
theorem dX7_performed_32 : decode cX7_performed 32 = .ok (.iconst 1, 1) := by decide +kernel
theorem dX7_performed_33 : decode cX7_performed 33 = .ok (.ireturn, 1) := by decide +kernel
theorem dX7_draw_0 : decode cX7_draw 0 = .ok (.aload_n 0, 1) := by decide +kernel
theorem dX7_draw_1 : decode cX7_draw 1 = .ok (.ldc_w 396, 3) := by decide +kernel
theorem dX7_draw_4 : decode cX7_draw 4 = .ok (.aload_n 0, 1) := by decide +kernel
theorem dX7_draw_5 : decode cX7_draw 5 = .ok (.getfield 56, 3) := by decide +kernel
theorem dX7_draw_8 : decode cX7_draw 8 = .ok (.imul, 1) := by decide +kernel
theorem dX7_draw_9 : decode cX7_draw 9 = .ok (.sipush 12345, 3) := by decide +kernel
theorem dX7_draw_12 : decode cX7_draw 12 = .ok (.iadd, 1) := by decide +kernel
theorem dX7_draw_13 : decode cX7_draw 13 = .ok (.putfield 56, 3) := by decide +kernel
theorem dX7_draw_16 : decode cX7_draw 16 = .ok (.aload_n 0, 1) := by decide +kernel
theorem dX7_draw_17 : decode cX7_draw 17 = .ok (.getfield 56, 3) := by decide +kernel
theorem dX7_draw_20 : decode cX7_draw 20 = .ok (.bipush 16, 2) := by decide +kernel
theorem dX7_draw_22 : decode cX7_draw 22 = .ok (.iushr, 1) := by decide +kernel
theorem dX7_draw_23 : decode cX7_draw 23 = .ok (.ireturn, 1) := by decide +kernel
theorem dX7_drawnDeed_0 : decode cX7_drawnDeed 0 = .ok (.aload_n 0, 1) := by decide +kernel
theorem dX7_drawnDeed_1 : decode cX7_drawnDeed 1 = .ok (.invokevirtual 397, 3) := by decide +kernel
theorem dX7_drawnDeed_4 : decode cX7_drawnDeed 4 = .ok (.iconst 5, 1) := by decide +kernel
theorem dX7_drawnDeed_5 : decode cX7_drawnDeed 5 = .ok (.irem, 1) := by decide +kernel
theorem dX7_drawnDeed_6 : decode cX7_drawnDeed 6 = .ok (.istore_n 1, 1) := by decide +kernel
theorem dX7_drawnDeed_7 : decode cX7_drawnDeed 7 = .ok (.iload_n 1, 1) := by decide +kernel
theorem dX7_drawnDeed_8 : decode cX7_drawnDeed 8 = .ok (.iconst 2, 1) := by decide +kernel
theorem dX7_drawnDeed_9 : decode cX7_drawnDeed 9 = .ok (.if_icmp .ge 5, 3) := by decide +kernel
theorem dX7_drawnDeed_12 : decode cX7_drawnDeed 12 = .ok (.iconst (-1), 1) := by decide +kernel
theorem dX7_drawnDeed_13 : decode cX7_drawnDeed 13 = .ok (.ireturn, 1) := by decide +kernel
theorem dX7_drawnDeed_14 : decode cX7_drawnDeed 14 = .ok (.aload_n 0, 1) := by decide +kernel
theorem dX7_drawnDeed_15 : decode cX7_drawnDeed 15 = .ok (.invokevirtual 397, 3) := by decide +kernel
theorem dX7_drawnDeed_18 : decode cX7_drawnDeed 18 = .ok (.bipush 8, 2) := by decide +kernel
theorem dX7_drawnDeed_20 : decode cX7_drawnDeed 20 = .ok (.irem, 1) := by decide +kernel
theorem dX7_drawnDeed_21 : decode cX7_drawnDeed 21 = .ok (.istore_n 2, 1) := by decide +kernel
theorem dX7_drawnDeed_22 : decode cX7_drawnDeed 22 = .ok (.iload_n 1, 1) := by decide +kernel
theorem dX7_drawnDeed_23 : decode cX7_drawnDeed 23 = .ok (.iconst 2, 1) := by decide +kernel
theorem dX7_drawnDeed_24 : decode cX7_drawnDeed 24 = .ok (.if_icmp .ne 5, 3) := by decide +kernel
theorem dX7_drawnDeed_27 : decode cX7_drawnDeed 27 = .ok (.iload_n 2, 1) := by decide +kernel
theorem dX7_drawnDeed_28 : decode cX7_drawnDeed 28 = .ok (.ireturn, 1) := by decide +kernel
theorem dX7_drawnDeed_29 : decode cX7_drawnDeed 29 = .ok (.iload_n 1, 1) := by decide +kernel
theorem dX7_drawnDeed_30 : decode cX7_drawnDeed 30 = .ok (.iconst 3, 1) := by decide +kernel
theorem dX7_drawnDeed_31 : decode cX7_drawnDeed 31 = .ok (.if_icmp .ne 20, 3) := by decide +kernel
theorem dX7_drawnDeed_34 : decode cX7_drawnDeed 34 = .ok (.bipush 100, 2) := by decide +kernel
theorem dX7_drawnDeed_36 : decode cX7_drawnDeed 36 = .ok (.bipush 10, 2) := by decide +kernel
theorem dX7_drawnDeed_38 : decode cX7_drawnDeed 38 = .ok (.iload_n 2, 1) := by decide +kernel
theorem dX7_drawnDeed_39 : decode cX7_drawnDeed 39 = .ok (.imul, 1) := by decide +kernel
theorem dX7_drawnDeed_40 : decode cX7_drawnDeed 40 = .ok (.iadd, 1) := by decide +kernel
theorem dX7_drawnDeed_41 : decode cX7_drawnDeed 41 = .ok (.aload_n 0, 1) := by decide +kernel
theorem dX7_drawnDeed_42 : decode cX7_drawnDeed 42 = .ok (.invokevirtual 397, 3) := by decide +kernel
theorem dX7_drawnDeed_45 : decode cX7_drawnDeed 45 = .ok (.iconst 4, 1) := by decide +kernel
theorem dX7_drawnDeed_46 : decode cX7_drawnDeed 46 = .ok (.irem, 1) := by decide +kernel
theorem dX7_drawnDeed_47 : decode cX7_drawnDeed 47 = .ok (.iadd, 1) := by decide +kernel
theorem dX7_drawnDeed_48 : decode cX7_drawnDeed 48 = .ok (.goto 19, 3) := by decide +kernel
theorem dX7_drawnDeed_51 : decode cX7_drawnDeed 51 = .ok (.sipush 200, 3) := by decide +kernel
theorem dX7_drawnDeed_54 : decode cX7_drawnDeed 54 = .ok (.bipush 10, 2) := by decide +kernel
theorem dX7_drawnDeed_56 : decode cX7_drawnDeed 56 = .ok (.iload_n 2, 1) := by decide +kernel
theorem dX7_drawnDeed_57 : decode cX7_drawnDeed 57 = .ok (.imul, 1) := by decide +kernel
theorem dX7_drawnDeed_58 : decode cX7_drawnDeed 58 = .ok (.iadd, 1) := by decide +kernel
theorem dX7_drawnDeed_59 : decode cX7_drawnDeed 59 = .ok (.aload_n 0, 1) := by decide +kernel
theorem dX7_drawnDeed_60 : decode cX7_drawnDeed 60 = .ok (.invokevirtual 397, 3) := by decide +kernel
theorem dX7_drawnDeed_63 : decode cX7_drawnDeed 63 = .ok (.bipush 8, 2) := by decide +kernel
theorem dX7_drawnDeed_65 : decode cX7_drawnDeed 65 = .ok (.irem, 1) := by decide +kernel
theorem dX7_drawnDeed_66 : decode cX7_drawnDeed 66 = .ok (.iadd, 1) := by decide +kernel
theorem dX7_drawnDeed_67 : decode cX7_drawnDeed 67 = .ok (.ireturn, 1) := by decide +kernel
theorem dX7_fewestRisers_0 : decode cX7_fewestRisers 0 = .ok (.aload_n 0, 1) := by decide +kernel
theorem dX7_fewestRisers_1 : decode cX7_fewestRisers 1 = .ok (.getfield 65, 3) := by decide +kernel
theorem dX7_fewestRisers_4 : decode cX7_fewestRisers 4 = .ok (.getfield 141, 3) := by decide +kernel
theorem dX7_fewestRisers_7 : decode cX7_fewestRisers 7 = .ok (.iload_n 1, 1) := by decide +kernel
theorem dX7_fewestRisers_8 : decode cX7_fewestRisers 8 = .ok (.iaload, 1) := by decide +kernel
theorem dX7_fewestRisers_9 : decode cX7_fewestRisers 9 = .ok (.iconst (-1), 1) := by decide +kernel
theorem dX7_fewestRisers_10 : decode cX7_fewestRisers 10 = .ok (.if_icmp .ne 5, 3) := by decide +kernel
theorem dX7_fewestRisers_13 : decode cX7_fewestRisers 13 = .ok (.iconst (-1), 1) := by decide +kernel
theorem dX7_fewestRisers_14 : decode cX7_fewestRisers 14 = .ok (.ireturn, 1) := by decide +kernel
theorem dX7_fewestRisers_15 : decode cX7_fewestRisers 15 = .ok (.aload_n 0, 1) := by decide +kernel
theorem dX7_fewestRisers_16 : decode cX7_fewestRisers 16 = .ok (.getfield 37, 3) := by decide +kernel
theorem dX7_fewestRisers_19 : decode cX7_fewestRisers 19 = .ok (.iconst 0, 1) := by decide +kernel
theorem dX7_fewestRisers_20 : decode cX7_fewestRisers 20 = .ok (.aaload, 1) := by decide +kernel
theorem dX7_fewestRisers_21 : decode cX7_fewestRisers 21 = .ok (.aload_n 0, 1) := by decide +kernel
theorem dX7_fewestRisers_22 : decode cX7_fewestRisers 22 = .ok (.getfield 65, 3) := by decide +kernel
theorem dX7_fewestRisers_25 : decode cX7_fewestRisers 25 = .ok (.invokevirtual 114, 3) := by decide +kernel
theorem dX7_fewestRisers_28 : decode cX7_fewestRisers 28 = .ok (.iconst 0, 1) := by decide +kernel
theorem dX7_fewestRisers_29 : decode cX7_fewestRisers 29 = .ok (.istore_n 3, 1) := by decide +kernel
theorem dX7_fewestRisers_30 : decode cX7_fewestRisers 30 = .ok (.iload_n 3, 1) := by decide +kernel
theorem dX7_fewestRisers_31 : decode cX7_fewestRisers 31 = .ok (.iconst 5, 1) := by decide +kernel
theorem dX7_fewestRisers_32 : decode cX7_fewestRisers 32 = .ok (.if_icmp .ge 22, 3) := by decide +kernel
theorem dX7_fewestRisers_35 : decode cX7_fewestRisers 35 = .ok (.aload_n 0, 1) := by decide +kernel
theorem dX7_fewestRisers_36 : decode cX7_fewestRisers 36 = .ok (.iload_n 1, 1) := by decide +kernel
theorem dX7_fewestRisers_37 : decode cX7_fewestRisers 37 = .ok (.iload_n 2, 1) := by decide +kernel
theorem dX7_fewestRisers_38 : decode cX7_fewestRisers 38 = .ok (.iconst 0, 1) := by decide +kernel
theorem dX7_fewestRisers_39 : decode cX7_fewestRisers 39 = .ok (.iload_n 3, 1) := by decide +kernel
theorem dX7_fewestRisers_40 : decode cX7_fewestRisers 40 = .ok (.invokevirtual 400, 3) := by decide +kernel
theorem dX7_fewestRisers_43 : decode cX7_fewestRisers 43 = .ok (.ifCond .eq 5, 3) := by decide +kernel
theorem dX7_fewestRisers_46 : decode cX7_fewestRisers 46 = .ok (.iload_n 3, 1) := by decide +kernel
theorem dX7_fewestRisers_47 : decode cX7_fewestRisers 47 = .ok (.ireturn, 1) := by decide +kernel
theorem dX7_fewestRisers_48 : decode cX7_fewestRisers 48 = .ok (.iinc 3 1, 3) := by decide +kernel
theorem dX7_fewestRisers_51 : decode cX7_fewestRisers 51 = .ok (.goto (-21), 3) := by decide +kernel
theorem dX7_fewestRisers_54 : decode cX7_fewestRisers 54 = .ok (.iconst (-1), 1) := by decide +kernel
theorem dX7_fewestRisers_55 : decode cX7_fewestRisers 55 = .ok (.ireturn, 1) := by decide +kernel
theorem dX7_risersBring_0 : decode cX7_risersBring 0 = .ok (.iload_n 3, 1) := by decide +kernel
theorem dX7_risersBring_1 : decode cX7_risersBring 1 = .ok (.ifCond .lt 8, 3) := by decide +kernel
theorem dX7_risersBring_4 : decode cX7_risersBring 4 = .ok (.iload_n 3, 1) := by decide +kernel
theorem dX7_risersBring_5 : decode cX7_risersBring 5 = .ok (.iconst 5, 1) := by decide +kernel
theorem dX7_risersBring_6 : decode cX7_risersBring 6 = .ok (.if_icmp .lt 5, 3) := by decide +kernel
theorem dX7_risersBring_9 : decode cX7_risersBring 9 = .ok (.iconst 0, 1) := by decide +kernel
theorem dX7_risersBring_10 : decode cX7_risersBring 10 = .ok (.ireturn, 1) := by decide +kernel
theorem dX7_risersBring_11 : decode cX7_risersBring 11 = .ok (.aload_n 0, 1) := by decide +kernel
theorem dX7_risersBring_12 : decode cX7_risersBring 12 = .ok (.getfield 37, 3) := by decide +kernel
theorem dX7_risersBring_15 : decode cX7_risersBring 15 = .ok (.iload_n 3, 1) := by decide +kernel
theorem dX7_risersBring_16 : decode cX7_risersBring 16 = .ok (.aaload, 1) := by decide +kernel
theorem dX7_risersBring_17 : decode cX7_risersBring 17 = .ok (.astore 5, 2) := by decide +kernel
theorem dX7_risersBring_19 : decode cX7_risersBring 19 = .ok (.iload_n 3, 1) := by decide +kernel
theorem dX7_risersBring_20 : decode cX7_risersBring 20 = .ok (.iload 4, 2) := by decide +kernel
theorem dX7_risersBring_22 : decode cX7_risersBring 22 = .ok (.if_icmp .eq 10, 3) := by decide +kernel
theorem dX7_risersBring_25 : decode cX7_risersBring 25 = .ok (.iload_n 3, 1) := by decide +kernel
theorem dX7_risersBring_26 : decode cX7_risersBring 26 = .ok (.iconst 1, 1) := by decide +kernel
theorem dX7_risersBring_27 : decode cX7_risersBring 27 = .ok (.iadd, 1) := by decide +kernel
theorem dX7_risersBring_28 : decode cX7_risersBring 28 = .ok (.iconst 5, 1) := by decide +kernel
theorem dX7_risersBring_29 : decode cX7_risersBring 29 = .ok (.if_icmp .ne 20, 3) := by decide +kernel
theorem dX7_risersBring_32 : decode cX7_risersBring 32 = .ok (.aload 5, 2) := by decide +kernel
theorem dX7_risersBring_34 : decode cX7_risersBring 34 = .ok (.getfield 141, 3) := by decide +kernel
theorem dX7_risersBring_37 : decode cX7_risersBring 37 = .ok (.iload_n 1, 1) := by decide +kernel
theorem dX7_risersBring_38 : decode cX7_risersBring 38 = .ok (.iaload, 1) := by decide +kernel
theorem dX7_risersBring_39 : decode cX7_risersBring 39 = .ok (.iload_n 2, 1) := by decide +kernel
theorem dX7_risersBring_40 : decode cX7_risersBring 40 = .ok (.if_icmp .gt 7, 3) := by decide +kernel
theorem dX7_risersBring_43 : decode cX7_risersBring 43 = .ok (.iconst 1, 1) := by decide +kernel
theorem dX7_risersBring_44 : decode cX7_risersBring 44 = .ok (.goto 4, 3) := by decide +kernel
theorem dX7_risersBring_47 : decode cX7_risersBring 47 = .ok (.iconst 0, 1) := by decide +kernel
theorem dX7_risersBring_48 : decode cX7_risersBring 48 = .ok (.ireturn, 1) := by decide +kernel
theorem dX7_risersBring_49 : decode cX7_risersBring 49 = .ok (.aload_n 0, 1) := by decide +kernel
theorem dX7_risersBring_50 : decode cX7_risersBring 50 = .ok (.getfield 37, 3) := by decide +kernel
theorem dX7_risersBring_53 : decode cX7_risersBring 53 = .ok (.iload_n 3, 1) := by decide +kernel
theorem dX7_risersBring_54 : decode cX7_risersBring 54 = .ok (.iconst 1, 1) := by decide +kernel
theorem dX7_risersBring_55 : decode cX7_risersBring 55 = .ok (.iadd, 1) := by decide +kernel
theorem dX7_risersBring_56 : decode cX7_risersBring 56 = .ok (.aaload, 1) := by decide +kernel
theorem dX7_risersBring_57 : decode cX7_risersBring 57 = .ok (.astore 6, 2) := by decide +kernel
theorem dX7_risersBring_59 : decode cX7_risersBring 59 = .ok (.iconst 0, 1) := by decide +kernel
theorem dX7_risersBring_60 : decode cX7_risersBring 60 = .ok (.istore 7, 2) := by decide +kernel
theorem dX7_risersBring_62 : decode cX7_risersBring 62 = .ok (.iload 7, 2) := by decide +kernel
theorem dX7_risersBring_64 : decode cX7_risersBring 64 = .ok (.aload 5, 2) := by decide +kernel
theorem dX7_risersBring_66 : decode cX7_risersBring 66 = .ok (.getfield 120, 3) := by decide +kernel
theorem dX7_risersBring_69 : decode cX7_risersBring 69 = .ok (.getfield 263, 3) := by decide +kernel
theorem dX7_risersBring_72 : decode cX7_risersBring 72 = .ok (.if_icmp .ge 82, 3) := by decide +kernel
theorem dX7_risersBring_75 : decode cX7_risersBring 75 = .ok (.iload 7, 2) := by decide +kernel
theorem dX7_risersBring_77 : decode cX7_risersBring 77 = .ok (.iload_n 1, 1) := by decide +kernel
theorem dX7_risersBring_78 : decode cX7_risersBring 78 = .ok (.if_icmp .eq 70, 3) := by decide +kernel
theorem dX7_risersBring_81 : decode cX7_risersBring 81 = .ok (.aload 5, 2) := by decide +kernel
theorem dX7_risersBring_83 : decode cX7_risersBring 83 = .ok (.getfield 138, 3) := by decide +kernel
theorem dX7_risersBring_86 : decode cX7_risersBring 86 = .ok (.iload 7, 2) := by decide +kernel
theorem dX7_risersBring_88 : decode cX7_risersBring 88 = .ok (.iaload, 1) := by decide +kernel
theorem dX7_risersBring_89 : decode cX7_risersBring 89 = .ok (.aload 5, 2) := by decide +kernel
theorem dX7_risersBring_91 : decode cX7_risersBring 91 = .ok (.getfield 138, 3) := by decide +kernel
theorem dX7_risersBring_94 : decode cX7_risersBring 94 = .ok (.iload_n 1, 1) := by decide +kernel
theorem dX7_risersBring_95 : decode cX7_risersBring 95 = .ok (.iaload, 1) := by decide +kernel
theorem dX7_risersBring_96 : decode cX7_risersBring 96 = .ok (.if_icmp .ne 52, 3) := by decide +kernel
theorem dX7_risersBring_99 : decode cX7_risersBring 99 = .ok (.aload 5, 2) := by decide +kernel
theorem dX7_risersBring_101 : decode cX7_risersBring 101 = .ok (.iload 7, 2) := by decide +kernel
theorem dX7_risersBring_103 : decode cX7_risersBring 103 = .ok (.invokevirtual 177, 3) := by decide +kernel
theorem dX7_risersBring_106 : decode cX7_risersBring 106 = .ok (.ifCond .ne 42, 3) := by decide +kernel
theorem dX7_risersBring_109 : decode cX7_risersBring 109 = .ok (.aload 6, 2) := by decide +kernel
theorem dX7_risersBring_111 : decode cX7_risersBring 111 = .ok (.aload 5, 2) := by decide +kernel
theorem dX7_risersBring_113 : decode cX7_risersBring 113 = .ok (.invokevirtual 114, 3) := by decide +kernel
theorem dX7_risersBring_116 : decode cX7_risersBring 116 = .ok (.aload 6, 2) := by decide +kernel
theorem dX7_risersBring_118 : decode cX7_risersBring 118 = .ok (.iload 7, 2) := by decide +kernel
theorem dX7_risersBring_120 : decode cX7_risersBring 120 = .ok (.invokevirtual 183, 3) := by decide +kernel
theorem dX7_risersBring_123 : decode cX7_risersBring 123 = .ok (.pop, 1) := by decide +kernel
theorem dX7_risersBring_124 : decode cX7_risersBring 124 = .ok (.aload_n 0, 1) := by decide +kernel
theorem dX7_risersBring_125 : decode cX7_risersBring 125 = .ok (.getfield 41, 3) := by decide +kernel
theorem dX7_risersBring_128 : decode cX7_risersBring 128 = .ok (.iload_n 3, 1) := by decide +kernel
theorem dX7_risersBring_129 : decode cX7_risersBring 129 = .ok (.iload 7, 2) := by decide +kernel
theorem dX7_risersBring_131 : decode cX7_risersBring 131 = .ok (.iastore, 1) := by decide +kernel
theorem dX7_risersBring_132 : decode cX7_risersBring 132 = .ok (.aload_n 0, 1) := by decide +kernel
theorem dX7_risersBring_133 : decode cX7_risersBring 133 = .ok (.iload_n 1, 1) := by decide +kernel
theorem dX7_risersBring_134 : decode cX7_risersBring 134 = .ok (.iload_n 2, 1) := by decide +kernel
theorem dX7_risersBring_135 : decode cX7_risersBring 135 = .ok (.iload_n 3, 1) := by decide +kernel
theorem dX7_risersBring_136 : decode cX7_risersBring 136 = .ok (.iconst 1, 1) := by decide +kernel
theorem dX7_risersBring_137 : decode cX7_risersBring 137 = .ok (.iadd, 1) := by decide +kernel
theorem dX7_risersBring_138 : decode cX7_risersBring 138 = .ok (.iload 4, 2) := by decide +kernel
theorem dX7_risersBring_140 : decode cX7_risersBring 140 = .ok (.invokevirtual 400, 3) := by decide +kernel
theorem dX7_risersBring_143 : decode cX7_risersBring 143 = .ok (.ifCond .eq 5, 3) := by decide +kernel
theorem dX7_risersBring_146 : decode cX7_risersBring 146 = .ok (.iconst 1, 1) := by decide +kernel
theorem dX7_risersBring_147 : decode cX7_risersBring 147 = .ok (.ireturn, 1) := by decide +kernel
theorem dX7_risersBring_148 : decode cX7_risersBring 148 = .ok (.iinc 7 1, 3) := by decide +kernel
theorem dX7_risersBring_151 : decode cX7_risersBring 151 = .ok (.goto (-89), 3) := by decide +kernel
theorem dX7_risersBring_154 : decode cX7_risersBring 154 = .ok (.iconst 0, 1) := by decide +kernel
theorem dX7_risersBring_155 : decode cX7_risersBring 155 = .ok (.ireturn, 1) := by decide +kernel
theorem dX7_neighboursWhoCanRise_0 : decode cX7_neighboursWhoCanRise 0 = .ok (.iconst 0, 1) := by decide +kernel
theorem dX7_neighboursWhoCanRise_1 : decode cX7_neighboursWhoCanRise 1 = .ok (.istore_n 2, 1) := by decide +kernel
theorem dX7_neighboursWhoCanRise_2 : decode cX7_neighboursWhoCanRise 2 = .ok (.iconst 0, 1) := by decide +kernel
theorem dX7_neighboursWhoCanRise_3 : decode cX7_neighboursWhoCanRise 3 = .ok (.istore_n 3, 1) := by decide +kernel
theorem dX7_neighboursWhoCanRise_4 : decode cX7_neighboursWhoCanRise 4 = .ok (.iload_n 3, 1) := by decide +kernel
theorem dX7_neighboursWhoCanRise_5 : decode cX7_neighboursWhoCanRise 5 = .ok (.aload_n 0, 1) := by decide +kernel
theorem dX7_neighboursWhoCanRise_6 : decode cX7_neighboursWhoCanRise 6 = .ok (.getfield 65, 3) := by decide +kernel
theorem dX7_neighboursWhoCanRise_9 : decode cX7_neighboursWhoCanRise 9 = .ok (.getfield 120, 3) := by decide +kernel
theorem dX7_neighboursWhoCanRise_12 : decode cX7_neighboursWhoCanRise 12 = .ok (.getfield 263, 3) := by decide +kernel
theorem dX7_neighboursWhoCanRise_15 : decode cX7_neighboursWhoCanRise 15 = .ok (.if_icmp .ge 52, 3) := by decide +kernel
theorem dX7_neighboursWhoCanRise_18 : decode cX7_neighboursWhoCanRise 18 = .ok (.iload_n 3, 1) := by decide +kernel
theorem dX7_neighboursWhoCanRise_19 : decode cX7_neighboursWhoCanRise 19 = .ok (.iload_n 1, 1) := by decide +kernel
theorem dX7_neighboursWhoCanRise_20 : decode cX7_neighboursWhoCanRise 20 = .ok (.if_icmp .eq 41, 3) := by decide +kernel
theorem dX7_neighboursWhoCanRise_23 : decode cX7_neighboursWhoCanRise 23 = .ok (.aload_n 0, 1) := by decide +kernel
theorem dX7_neighboursWhoCanRise_24 : decode cX7_neighboursWhoCanRise 24 = .ok (.getfield 65, 3) := by decide +kernel
theorem dX7_neighboursWhoCanRise_27 : decode cX7_neighboursWhoCanRise 27 = .ok (.getfield 138, 3) := by decide +kernel
theorem dX7_neighboursWhoCanRise_30 : decode cX7_neighboursWhoCanRise 30 = .ok (.iload_n 3, 1) := by decide +kernel
theorem dX7_neighboursWhoCanRise_31 : decode cX7_neighboursWhoCanRise 31 = .ok (.iaload, 1) := by decide +kernel
theorem dX7_neighboursWhoCanRise_32 : decode cX7_neighboursWhoCanRise 32 = .ok (.aload_n 0, 1) := by decide +kernel
theorem dX7_neighboursWhoCanRise_33 : decode cX7_neighboursWhoCanRise 33 = .ok (.getfield 65, 3) := by decide +kernel
theorem dX7_neighboursWhoCanRise_36 : decode cX7_neighboursWhoCanRise 36 = .ok (.getfield 138, 3) := by decide +kernel
theorem dX7_neighboursWhoCanRise_39 : decode cX7_neighboursWhoCanRise 39 = .ok (.iload_n 1, 1) := by decide +kernel
theorem dX7_neighboursWhoCanRise_40 : decode cX7_neighboursWhoCanRise 40 = .ok (.iaload, 1) := by decide +kernel
theorem dX7_neighboursWhoCanRise_41 : decode cX7_neighboursWhoCanRise 41 = .ok (.if_icmp .ne 20, 3) := by decide +kernel
theorem dX7_neighboursWhoCanRise_44 : decode cX7_neighboursWhoCanRise 44 = .ok (.aload_n 0, 1) := by decide +kernel
theorem dX7_neighboursWhoCanRise_45 : decode cX7_neighboursWhoCanRise 45 = .ok (.getfield 65, 3) := by decide +kernel
theorem dX7_neighboursWhoCanRise_48 : decode cX7_neighboursWhoCanRise 48 = .ok (.iload_n 3, 1) := by decide +kernel
theorem dX7_neighboursWhoCanRise_49 : decode cX7_neighboursWhoCanRise 49 = .ok (.invokevirtual 177, 3) := by decide +kernel
theorem dX7_neighboursWhoCanRise_52 : decode cX7_neighboursWhoCanRise 52 = .ok (.ifCond .ne 9, 3) := by decide +kernel
theorem dX7_neighboursWhoCanRise_55 : decode cX7_neighboursWhoCanRise 55 = .ok (.iload_n 2, 1) := by decide +kernel
theorem dX7_neighboursWhoCanRise_56 : decode cX7_neighboursWhoCanRise 56 = .ok (.iconst 1, 1) := by decide +kernel
theorem dX7_neighboursWhoCanRise_57 : decode cX7_neighboursWhoCanRise 57 = .ok (.iload_n 3, 1) := by decide +kernel
theorem dX7_neighboursWhoCanRise_58 : decode cX7_neighboursWhoCanRise 58 = .ok (.ishl, 1) := by decide +kernel
theorem dX7_neighboursWhoCanRise_59 : decode cX7_neighboursWhoCanRise 59 = .ok (.ior, 1) := by decide +kernel
theorem dX7_neighboursWhoCanRise_60 : decode cX7_neighboursWhoCanRise 60 = .ok (.istore_n 2, 1) := by decide +kernel
theorem dX7_neighboursWhoCanRise_61 : decode cX7_neighboursWhoCanRise 61 = .ok (.iinc 3 1, 3) := by decide +kernel
theorem dX7_neighboursWhoCanRise_64 : decode cX7_neighboursWhoCanRise 64 = .ok (.goto (-60), 3) := by decide +kernel
theorem dX7_neighboursWhoCanRise_67 : decode cX7_neighboursWhoCanRise 67 = .ok (.iload_n 2, 1) := by decide +kernel
theorem dX7_neighboursWhoCanRise_68 : decode cX7_neighboursWhoCanRise 68 = .ok (.ireturn, 1) := by decide +kernel
theorem dX7_bringsToFront_0 : decode cX7_bringsToFront 0 = .ok (.aload_n 0, 1) := by decide +kernel
theorem dX7_bringsToFront_1 : decode cX7_bringsToFront 1 = .ok (.invokevirtual 223, 3) := by decide +kernel
theorem dX7_bringsToFront_4 : decode cX7_bringsToFront 4 = .ok (.astore 4, 2) := by decide +kernel
theorem dX7_bringsToFront_6 : decode cX7_bringsToFront 6 = .ok (.iconst 0, 1) := by decide +kernel
theorem dX7_bringsToFront_7 : decode cX7_bringsToFront 7 = .ok (.istore 5, 2) := by decide +kernel
theorem dX7_bringsToFront_9 : decode cX7_bringsToFront 9 = .ok (.iload 5, 2) := by decide +kernel
theorem dX7_bringsToFront_11 : decode cX7_bringsToFront 11 = .ok (.aload 4, 2) := by decide +kernel
theorem dX7_bringsToFront_13 : decode cX7_bringsToFront 13 = .ok (.getfield 120, 3) := by decide +kernel
theorem dX7_bringsToFront_16 : decode cX7_bringsToFront 16 = .ok (.getfield 263, 3) := by decide +kernel
theorem dX7_bringsToFront_19 : decode cX7_bringsToFront 19 = .ok (.if_icmp .ge 27, 3) := by decide +kernel
theorem dX7_bringsToFront_22 : decode cX7_bringsToFront 22 = .ok (.iload_n 1, 1) := by decide +kernel
theorem dX7_bringsToFront_23 : decode cX7_bringsToFront 23 = .ok (.iload 5, 2) := by decide +kernel
theorem dX7_bringsToFront_25 : decode cX7_bringsToFront 25 = .ok (.ishr, 1) := by decide +kernel
theorem dX7_bringsToFront_26 : decode cX7_bringsToFront 26 = .ok (.iconst 1, 1) := by decide +kernel
theorem dX7_bringsToFront_27 : decode cX7_bringsToFront 27 = .ok (.iand, 1) := by decide +kernel
theorem dX7_bringsToFront_28 : decode cX7_bringsToFront 28 = .ok (.iconst 1, 1) := by decide +kernel
theorem dX7_bringsToFront_29 : decode cX7_bringsToFront 29 = .ok (.if_icmp .ne 11, 3) := by decide +kernel
theorem dX7_bringsToFront_32 : decode cX7_bringsToFront 32 = .ok (.aload 4, 2) := by decide +kernel
theorem dX7_bringsToFront_34 : decode cX7_bringsToFront 34 = .ok (.iload 5, 2) := by decide +kernel
theorem dX7_bringsToFront_36 : decode cX7_bringsToFront 36 = .ok (.invokevirtual 183, 3) := by decide +kernel
theorem dX7_bringsToFront_39 : decode cX7_bringsToFront 39 = .ok (.pop, 1) := by decide +kernel
theorem dX7_bringsToFront_40 : decode cX7_bringsToFront 40 = .ok (.iinc 5 1, 3) := by decide +kernel
theorem dX7_bringsToFront_43 : decode cX7_bringsToFront 43 = .ok (.goto (-34), 3) := by decide +kernel
theorem dX7_bringsToFront_46 : decode cX7_bringsToFront 46 = .ok (.iconst 0, 1) := by decide +kernel
theorem dX7_bringsToFront_47 : decode cX7_bringsToFront 47 = .ok (.istore 5, 2) := by decide +kernel
theorem dX7_bringsToFront_49 : decode cX7_bringsToFront 49 = .ok (.iload 5, 2) := by decide +kernel
theorem dX7_bringsToFront_51 : decode cX7_bringsToFront 51 = .ok (.iload_n 3, 1) := by decide +kernel
theorem dX7_bringsToFront_52 : decode cX7_bringsToFront 52 = .ok (.if_icmp .ge 15, 3) := by decide +kernel
theorem dX7_bringsToFront_55 : decode cX7_bringsToFront 55 = .ok (.aload 4, 2) := by decide +kernel
theorem dX7_bringsToFront_57 : decode cX7_bringsToFront 57 = .ok (.iconst 0, 1) := by decide +kernel
theorem dX7_bringsToFront_58 : decode cX7_bringsToFront 58 = .ok (.invokevirtual 207, 3) := by decide +kernel
theorem dX7_bringsToFront_61 : decode cX7_bringsToFront 61 = .ok (.iinc 5 1, 3) := by decide +kernel
theorem dX7_bringsToFront_64 : decode cX7_bringsToFront 64 = .ok (.goto (-15), 3) := by decide +kernel
theorem dX7_bringsToFront_67 : decode cX7_bringsToFront 67 = .ok (.aload 4, 2) := by decide +kernel
theorem dX7_bringsToFront_69 : decode cX7_bringsToFront 69 = .ok (.getfield 141, 3) := by decide +kernel
theorem dX7_bringsToFront_72 : decode cX7_bringsToFront 72 = .ok (.iload_n 2, 1) := by decide +kernel
theorem dX7_bringsToFront_73 : decode cX7_bringsToFront 73 = .ok (.iaload, 1) := by decide +kernel
theorem dX7_bringsToFront_74 : decode cX7_bringsToFront 74 = .ok (.ifCond .ne 7, 3) := by decide +kernel
theorem dX7_bringsToFront_77 : decode cX7_bringsToFront 77 = .ok (.iconst 1, 1) := by decide +kernel
theorem dX7_bringsToFront_78 : decode cX7_bringsToFront 78 = .ok (.goto 4, 3) := by decide +kernel
theorem dX7_bringsToFront_81 : decode cX7_bringsToFront 81 = .ok (.iconst 0, 1) := by decide +kernel
theorem dX7_bringsToFront_82 : decode cX7_bringsToFront 82 = .ok (.ireturn, 1) := by decide +kernel
theorem dX7_commonDivisor_0 : decode cX7_commonDivisor 0 = .ok (.iconst 0, 1) := by decide +kernel
theorem dX7_commonDivisor_1 : decode cX7_commonDivisor 1 = .ok (.istore 4, 2) := by decide +kernel
theorem dX7_commonDivisor_3 : decode cX7_commonDivisor 3 = .ok (.iload 4, 2) := by decide +kernel
theorem dX7_commonDivisor_5 : decode cX7_commonDivisor 5 = .ok (.bipush 100, 2) := by decide +kernel
theorem dX7_commonDivisor_7 : decode cX7_commonDivisor 7 = .ok (.if_icmp .ge 25, 3) := by decide +kernel
theorem dX7_commonDivisor_10 : decode cX7_commonDivisor 10 = .ok (.lload_n 2, 1) := by decide +kernel
theorem dX7_commonDivisor_11 : decode cX7_commonDivisor 11 = .ok (.lconst 0, 1) := by decide +kernel
theorem dX7_commonDivisor_12 : decode cX7_commonDivisor 12 = .ok (.lcmp, 1) := by decide +kernel
theorem dX7_commonDivisor_13 : decode cX7_commonDivisor 13 = .ok (.ifCond .eq 19, 3) := by decide +kernel
theorem dX7_commonDivisor_16 : decode cX7_commonDivisor 16 = .ok (.lload_n 0, 1) := by decide +kernel
theorem dX7_commonDivisor_17 : decode cX7_commonDivisor 17 = .ok (.lload_n 2, 1) := by decide +kernel
theorem dX7_commonDivisor_18 : decode cX7_commonDivisor 18 = .ok (.lrem, 1) := by decide +kernel
theorem dX7_commonDivisor_19 : decode cX7_commonDivisor 19 = .ok (.lstore 5, 2) := by decide +kernel
theorem dX7_commonDivisor_21 : decode cX7_commonDivisor 21 = .ok (.lload_n 2, 1) := by decide +kernel
theorem dX7_commonDivisor_22 : decode cX7_commonDivisor 22 = .ok (.lstore_n 0, 1) := by decide +kernel
theorem dX7_commonDivisor_23 : decode cX7_commonDivisor 23 = .ok (.lload 5, 2) := by decide +kernel
theorem dX7_commonDivisor_25 : decode cX7_commonDivisor 25 = .ok (.lstore_n 2, 1) := by decide +kernel
theorem dX7_commonDivisor_26 : decode cX7_commonDivisor 26 = .ok (.iinc 4 1, 3) := by decide +kernel
theorem dX7_commonDivisor_29 : decode cX7_commonDivisor 29 = .ok (.goto (-26), 3) := by decide +kernel
theorem dX7_commonDivisor_32 : decode cX7_commonDivisor 32 = .ok (.lload_n 0, 1) := by decide +kernel
theorem dX7_commonDivisor_33 : decode cX7_commonDivisor 33 = .ok (.lreturn, 1) := by decide +kernel
theorem dX7_collectTwos_0 : decode cX7_collectTwos 0 = .ok (.iconst 0, 1) := by decide +kernel
theorem dX7_collectTwos_1 : decode cX7_collectTwos 1 = .ok (.istore_n 3, 1) := by decide +kernel
theorem dX7_collectTwos_2 : decode cX7_collectTwos 2 = .ok (.iload_n 3, 1) := by decide +kernel
theorem dX7_collectTwos_3 : decode cX7_collectTwos 3 = .ok (.iload_n 2, 1) := by decide +kernel
theorem dX7_collectTwos_4 : decode cX7_collectTwos 4 = .ok (.if_icmp .ge 40, 3) := by decide +kernel
theorem dX7_collectTwos_7 : decode cX7_collectTwos 7 = .ok (.iload_n 3, 1) := by decide +kernel
theorem dX7_collectTwos_8 : decode cX7_collectTwos 8 = .ok (.bipush 60, 2) := by decide +kernel
theorem dX7_collectTwos_10 : decode cX7_collectTwos 10 = .ok (.if_icmp .ge 34, 3) := by decide +kernel
theorem dX7_collectTwos_13 : decode cX7_collectTwos 13 = .ok (.aload_n 0, 1) := by decide +kernel
theorem dX7_collectTwos_14 : decode cX7_collectTwos 14 = .ok (.getfield 47, 3) := by decide +kernel
theorem dX7_collectTwos_17 : decode cX7_collectTwos 17 = .ok (.iload_n 3, 1) := by decide +kernel
theorem dX7_collectTwos_18 : decode cX7_collectTwos 18 = .ok (.aload_n 0, 1) := by decide +kernel
theorem dX7_collectTwos_19 : decode cX7_collectTwos 19 = .ok (.getfield 65, 3) := by decide +kernel
theorem dX7_collectTwos_22 : decode cX7_collectTwos 22 = .ok (.getfield 120, 3) := by decide +kernel
theorem dX7_collectTwos_25 : decode cX7_collectTwos 25 = .ok (.aload_n 0, 1) := by decide +kernel
theorem dX7_collectTwos_26 : decode cX7_collectTwos 26 = .ok (.getfield 65, 3) := by decide +kernel
theorem dX7_collectTwos_29 : decode cX7_collectTwos 29 = .ok (.getfield 162, 3) := by decide +kernel
theorem dX7_collectTwos_32 : decode cX7_collectTwos 32 = .ok (.iload_n 3, 1) := by decide +kernel
theorem dX7_collectTwos_33 : decode cX7_collectTwos 33 = .ok (.iadd, 1) := by decide +kernel
theorem dX7_collectTwos_34 : decode cX7_collectTwos 34 = .ok (.invokevirtual 165, 3) := by decide +kernel
theorem dX7_collectTwos_37 : decode cX7_collectTwos 37 = .ok (.iastore, 1) := by decide +kernel
theorem dX7_collectTwos_38 : decode cX7_collectTwos 38 = .ok (.iinc 3 1, 3) := by decide +kernel
theorem dX7_collectTwos_41 : decode cX7_collectTwos 41 = .ok (.goto (-39), 3) := by decide +kernel
theorem dX7_collectTwos_44 : decode cX7_collectTwos 44 = .ok (.iconst 0, 1) := by decide +kernel
theorem dX7_collectTwos_45 : decode cX7_collectTwos 45 = .ok (.istore_n 3, 1) := by decide +kernel
theorem dX7_collectTwos_46 : decode cX7_collectTwos 46 = .ok (.iconst 0, 1) := by decide +kernel
theorem dX7_collectTwos_47 : decode cX7_collectTwos 47 = .ok (.istore 4, 2) := by decide +kernel
theorem dX7_collectTwos_49 : decode cX7_collectTwos 49 = .ok (.iload 4, 2) := by decide +kernel
theorem dX7_collectTwos_51 : decode cX7_collectTwos 51 = .ok (.aload_n 0, 1) := by decide +kernel
theorem dX7_collectTwos_52 : decode cX7_collectTwos 52 = .ok (.getfield 65, 3) := by decide +kernel
theorem dX7_collectTwos_55 : decode cX7_collectTwos 55 = .ok (.getfield 120, 3) := by decide +kernel
theorem dX7_collectTwos_58 : decode cX7_collectTwos 58 = .ok (.getfield 263, 3) := by decide +kernel
theorem dX7_collectTwos_61 : decode cX7_collectTwos 61 = .ok (.if_icmp .ge 110, 3) := by decide +kernel
theorem dX7_collectTwos_64 : decode cX7_collectTwos 64 = .ok (.iload 4, 2) := by decide +kernel
theorem dX7_collectTwos_66 : decode cX7_collectTwos 66 = .ok (.iconst 1, 1) := by decide +kernel
theorem dX7_collectTwos_67 : decode cX7_collectTwos 67 = .ok (.iadd, 1) := by decide +kernel
theorem dX7_collectTwos_68 : decode cX7_collectTwos 68 = .ok (.istore 5, 2) := by decide +kernel
theorem dX7_collectTwos_70 : decode cX7_collectTwos 70 = .ok (.iload 5, 2) := by decide +kernel
theorem dX7_collectTwos_72 : decode cX7_collectTwos 72 = .ok (.aload_n 0, 1) := by decide +kernel
theorem dX7_collectTwos_73 : decode cX7_collectTwos 73 = .ok (.getfield 65, 3) := by decide +kernel
theorem dX7_collectTwos_76 : decode cX7_collectTwos 76 = .ok (.getfield 120, 3) := by decide +kernel
theorem dX7_collectTwos_79 : decode cX7_collectTwos 79 = .ok (.getfield 263, 3) := by decide +kernel
theorem dX7_collectTwos_82 : decode cX7_collectTwos 82 = .ok (.if_icmp .ge 83, 3) := by decide +kernel
theorem dX7_collectTwos_85 : decode cX7_collectTwos 85 = .ok (.aload_n 0, 1) := by decide +kernel
theorem dX7_collectTwos_86 : decode cX7_collectTwos 86 = .ok (.getfield 65, 3) := by decide +kernel
theorem dX7_collectTwos_89 : decode cX7_collectTwos 89 = .ok (.iload 4, 2) := by decide +kernel
theorem dX7_collectTwos_91 : decode cX7_collectTwos 91 = .ok (.iload 5, 2) := by decide +kernel
theorem dX7_collectTwos_93 : decode cX7_collectTwos 93 = .ok (.invokevirtual 192, 3) := by decide +kernel
theorem dX7_collectTwos_96 : decode cX7_collectTwos 96 = .ok (.ifCond .ne 63, 3) := by decide +kernel
theorem dX7_collectTwos_99 : decode cX7_collectTwos 99 = .ok (.iload_n 3, 1) := by decide +kernel
theorem dX7_collectTwos_100 : decode cX7_collectTwos 100 = .ok (.bipush 28, 2) := by decide +kernel
theorem dX7_collectTwos_102 : decode cX7_collectTwos 102 = .ok (.if_icmp .ge 57, 3) := by decide +kernel
theorem dX7_collectTwos_105 : decode cX7_collectTwos 105 = .ok (.aload_n 0, 1) := by decide +kernel
theorem dX7_collectTwos_106 : decode cX7_collectTwos 106 = .ok (.iload 4, 2) := by decide +kernel
theorem dX7_collectTwos_108 : decode cX7_collectTwos 108 = .ok (.iload 5, 2) := by decide +kernel
theorem dX7_collectTwos_110 : decode cX7_collectTwos 110 = .ok (.iload_n 2, 1) := by decide +kernel
theorem dX7_collectTwos_111 : decode cX7_collectTwos 111 = .ok (.invokevirtual 403, 3) := by decide +kernel
theorem dX7_collectTwos_114 : decode cX7_collectTwos 114 = .ok (.astore 6, 2) := by decide +kernel
theorem dX7_collectTwos_116 : decode cX7_collectTwos 116 = .ok (.aload 6, 2) := by decide +kernel
theorem dX7_collectTwos_118 : decode cX7_collectTwos 118 = .ok (.getfield 150, 3) := by decide +kernel
theorem dX7_collectTwos_121 : decode cX7_collectTwos 121 = .ok (.aload_n 0, 1) := by decide +kernel
theorem dX7_collectTwos_122 : decode cX7_collectTwos 122 = .ok (.getfield 65, 3) := by decide +kernel
theorem dX7_collectTwos_125 : decode cX7_collectTwos 125 = .ok (.getfield 150, 3) := by decide +kernel
theorem dX7_collectTwos_128 : decode cX7_collectTwos 128 = .ok (.iconst (-1), 1) := by decide +kernel
theorem dX7_collectTwos_129 : decode cX7_collectTwos 129 = .ok (.ixor, 1) := by decide +kernel
theorem dX7_collectTwos_130 : decode cX7_collectTwos 130 = .ok (.iand, 1) := by decide +kernel
theorem dX7_collectTwos_131 : decode cX7_collectTwos 131 = .ok (.iload_n 1, 1) := by decide +kernel
theorem dX7_collectTwos_132 : decode cX7_collectTwos 132 = .ok (.if_icmp .ne 27, 3) := by decide +kernel
theorem dX7_collectTwos_135 : decode cX7_collectTwos 135 = .ok (.aload_n 0, 1) := by decide +kernel
theorem dX7_collectTwos_136 : decode cX7_collectTwos 136 = .ok (.getfield 50, 3) := by decide +kernel
theorem dX7_collectTwos_139 : decode cX7_collectTwos 139 = .ok (.iload_n 3, 1) := by decide +kernel
theorem dX7_collectTwos_140 : decode cX7_collectTwos 140 = .ok (.bipush 10, 2) := by decide +kernel
theorem dX7_collectTwos_142 : decode cX7_collectTwos 142 = .ok (.iload 4, 2) := by decide +kernel
theorem dX7_collectTwos_144 : decode cX7_collectTwos 144 = .ok (.imul, 1) := by decide +kernel
theorem dX7_collectTwos_145 : decode cX7_collectTwos 145 = .ok (.iload 5, 2) := by decide +kernel
theorem dX7_collectTwos_147 : decode cX7_collectTwos 147 = .ok (.iadd, 1) := by decide +kernel
theorem dX7_collectTwos_148 : decode cX7_collectTwos 148 = .ok (.iastore, 1) := by decide +kernel
theorem dX7_collectTwos_149 : decode cX7_collectTwos 149 = .ok (.aload_n 0, 1) := by decide +kernel
theorem dX7_collectTwos_150 : decode cX7_collectTwos 150 = .ok (.aload 6, 2) := by decide +kernel
theorem dX7_collectTwos_152 : decode cX7_collectTwos 152 = .ok (.iload_n 3, 1) := by decide +kernel
theorem dX7_collectTwos_153 : decode cX7_collectTwos 153 = .ok (.invokevirtual 407, 3) := by decide +kernel
theorem dX7_collectTwos_156 : decode cX7_collectTwos 156 = .ok (.iinc 3 1, 3) := by decide +kernel
theorem dX7_collectTwos_159 : decode cX7_collectTwos 159 = .ok (.iinc 5 1, 3) := by decide +kernel
theorem dX7_collectTwos_162 : decode cX7_collectTwos 162 = .ok (.goto (-92), 3) := by decide +kernel
theorem dX7_collectTwos_165 : decode cX7_collectTwos 165 = .ok (.iinc 4 1, 3) := by decide +kernel
theorem dX7_collectTwos_168 : decode cX7_collectTwos 168 = .ok (.goto (-119), 3) := by decide +kernel
theorem dX7_collectTwos_171 : decode cX7_collectTwos 171 = .ok (.iload_n 3, 1) := by decide +kernel
theorem dX7_collectTwos_172 : decode cX7_collectTwos 172 = .ok (.ireturn, 1) := by decide +kernel
theorem dX7_exchangedAhead_0 : decode cX7_exchangedAhead 0 = .ok (.aload_n 0, 1) := by decide +kernel
theorem dX7_exchangedAhead_1 : decode cX7_exchangedAhead 1 = .ok (.invokevirtual 223, 3) := by decide +kernel
theorem dX7_exchangedAhead_4 : decode cX7_exchangedAhead 4 = .ok (.astore 4, 2) := by decide +kernel
theorem dX7_exchangedAhead_6 : decode cX7_exchangedAhead 6 = .ok (.aload 4, 2) := by decide +kernel
theorem dX7_exchangedAhead_8 : decode cX7_exchangedAhead 8 = .ok (.iload_n 1, 1) := by decide +kernel
theorem dX7_exchangedAhead_9 : decode cX7_exchangedAhead 9 = .ok (.iload_n 2, 1) := by decide +kernel
theorem dX7_exchangedAhead_10 : decode cX7_exchangedAhead 10 = .ok (.invokevirtual 195, 3) := by decide +kernel
theorem dX7_exchangedAhead_13 : decode cX7_exchangedAhead 13 = .ok (.iconst 0, 1) := by decide +kernel
theorem dX7_exchangedAhead_14 : decode cX7_exchangedAhead 14 = .ok (.istore 5, 2) := by decide +kernel
theorem dX7_exchangedAhead_16 : decode cX7_exchangedAhead 16 = .ok (.iload 5, 2) := by decide +kernel
theorem dX7_exchangedAhead_18 : decode cX7_exchangedAhead 18 = .ok (.iload_n 3, 1) := by decide +kernel
theorem dX7_exchangedAhead_19 : decode cX7_exchangedAhead 19 = .ok (.if_icmp .ge 28, 3) := by decide +kernel
theorem dX7_exchangedAhead_22 : decode cX7_exchangedAhead 22 = .ok (.iload 5, 2) := by decide +kernel
theorem dX7_exchangedAhead_24 : decode cX7_exchangedAhead 24 = .ok (.bipush 60, 2) := by decide +kernel
theorem dX7_exchangedAhead_26 : decode cX7_exchangedAhead 26 = .ok (.if_icmp .ge 21, 3) := by decide +kernel
theorem dX7_exchangedAhead_29 : decode cX7_exchangedAhead 29 = .ok (.aload 4, 2) := by decide +kernel
theorem dX7_exchangedAhead_31 : decode cX7_exchangedAhead 31 = .ok (.aload_n 0, 1) := by decide +kernel
theorem dX7_exchangedAhead_32 : decode cX7_exchangedAhead 32 = .ok (.getfield 47, 3) := by decide +kernel
theorem dX7_exchangedAhead_35 : decode cX7_exchangedAhead 35 = .ok (.iload 5, 2) := by decide +kernel
theorem dX7_exchangedAhead_37 : decode cX7_exchangedAhead 37 = .ok (.iaload, 1) := by decide +kernel
theorem dX7_exchangedAhead_38 : decode cX7_exchangedAhead 38 = .ok (.invokevirtual 207, 3) := by decide +kernel
theorem dX7_exchangedAhead_41 : decode cX7_exchangedAhead 41 = .ok (.iinc 5 1, 3) := by decide +kernel
theorem dX7_exchangedAhead_44 : decode cX7_exchangedAhead 44 = .ok (.goto (-28), 3) := by decide +kernel
theorem dX7_exchangedAhead_47 : decode cX7_exchangedAhead 47 = .ok (.aload 4, 2) := by decide +kernel
theorem dX7_exchangedAhead_49 : decode cX7_exchangedAhead 49 = .ok (.areturn, 1) := by decide +kernel
theorem dX7_keepEnds_0 : decode cX7_keepEnds 0 = .ok (.iconst 0, 1) := by decide +kernel
theorem dX7_keepEnds_1 : decode cX7_keepEnds 1 = .ok (.istore_n 3, 1) := by decide +kernel
theorem dX7_keepEnds_2 : decode cX7_keepEnds 2 = .ok (.iload_n 3, 1) := by decide +kernel
theorem dX7_keepEnds_3 : decode cX7_keepEnds 3 = .ok (.aload_n 1, 1) := by decide +kernel
theorem dX7_keepEnds_4 : decode cX7_keepEnds 4 = .ok (.getfield 120, 3) := by decide +kernel
theorem dX7_keepEnds_7 : decode cX7_keepEnds 7 = .ok (.getfield 263, 3) := by decide +kernel
theorem dX7_keepEnds_10 : decode cX7_keepEnds 10 = .ok (.if_icmp .ge 25, 3) := by decide +kernel
theorem dX7_keepEnds_13 : decode cX7_keepEnds 13 = .ok (.aload_n 0, 1) := by decide +kernel
theorem dX7_keepEnds_14 : decode cX7_keepEnds 14 = .ok (.getfield 53, 3) := by decide +kernel
theorem dX7_keepEnds_17 : decode cX7_keepEnds 17 = .ok (.iload_n 2, 1) := by decide +kernel
theorem dX7_keepEnds_18 : decode cX7_keepEnds 18 = .ok (.bipush 8, 2) := by decide +kernel
theorem dX7_keepEnds_20 : decode cX7_keepEnds 20 = .ok (.imul, 1) := by decide +kernel
theorem dX7_keepEnds_21 : decode cX7_keepEnds 21 = .ok (.iload_n 3, 1) := by decide +kernel
theorem dX7_keepEnds_22 : decode cX7_keepEnds 22 = .ok (.iadd, 1) := by decide +kernel
theorem dX7_keepEnds_23 : decode cX7_keepEnds 23 = .ok (.aload_n 1, 1) := by decide +kernel
theorem dX7_keepEnds_24 : decode cX7_keepEnds 24 = .ok (.iload_n 3, 1) := by decide +kernel
theorem dX7_keepEnds_25 : decode cX7_keepEnds 25 = .ok (.invokevirtual 256, 3) := by decide +kernel
theorem dX7_keepEnds_28 : decode cX7_keepEnds 28 = .ok (.iastore, 1) := by decide +kernel
theorem dX7_keepEnds_29 : decode cX7_keepEnds 29 = .ok (.iinc 3 1, 3) := by decide +kernel
theorem dX7_keepEnds_32 : decode cX7_keepEnds 32 = .ok (.goto (-30), 3) := by decide +kernel
theorem dX7_keepEnds_35 : decode cX7_keepEnds 35 = .ok (.return_, 1) := by decide +kernel
theorem dX7_mostAlike_0 : decode cX7_mostAlike 0 = .ok (.iconst 0, 1) := by decide +kernel
theorem dX7_mostAlike_1 : decode cX7_mostAlike 1 = .ok (.istore_n 3, 1) := by decide +kernel
theorem dX7_mostAlike_2 : decode cX7_mostAlike 2 = .ok (.iconst 0, 1) := by decide +kernel
theorem dX7_mostAlike_3 : decode cX7_mostAlike 3 = .ok (.istore 4, 2) := by decide +kernel
theorem dX7_mostAlike_5 : decode cX7_mostAlike 5 = .ok (.iload 4, 2) := by decide +kernel
theorem dX7_mostAlike_7 : decode cX7_mostAlike 7 = .ok (.iload_n 2, 1) := by decide +kernel
theorem dX7_mostAlike_8 : decode cX7_mostAlike 8 = .ok (.if_icmp .ge 64, 3) := by decide +kernel
theorem dX7_mostAlike_11 : decode cX7_mostAlike 11 = .ok (.iconst 0, 1) := by decide +kernel
theorem dX7_mostAlike_12 : decode cX7_mostAlike 12 = .ok (.istore 5, 2) := by decide +kernel
theorem dX7_mostAlike_14 : decode cX7_mostAlike 14 = .ok (.iconst 0, 1) := by decide +kernel
theorem dX7_mostAlike_15 : decode cX7_mostAlike 15 = .ok (.istore 6, 2) := by decide +kernel
theorem dX7_mostAlike_17 : decode cX7_mostAlike 17 = .ok (.iload 6, 2) := by decide +kernel
theorem dX7_mostAlike_19 : decode cX7_mostAlike 19 = .ok (.iload_n 2, 1) := by decide +kernel
theorem dX7_mostAlike_20 : decode cX7_mostAlike 20 = .ok (.if_icmp .ge 39, 3) := by decide +kernel
theorem dX7_mostAlike_23 : decode cX7_mostAlike 23 = .ok (.aload_n 0, 1) := by decide +kernel
theorem dX7_mostAlike_24 : decode cX7_mostAlike 24 = .ok (.getfield 53, 3) := by decide +kernel
theorem dX7_mostAlike_27 : decode cX7_mostAlike 27 = .ok (.iload 6, 2) := by decide +kernel
theorem dX7_mostAlike_29 : decode cX7_mostAlike 29 = .ok (.bipush 8, 2) := by decide +kernel
theorem dX7_mostAlike_31 : decode cX7_mostAlike 31 = .ok (.imul, 1) := by decide +kernel
theorem dX7_mostAlike_32 : decode cX7_mostAlike 32 = .ok (.iload_n 1, 1) := by decide +kernel
theorem dX7_mostAlike_33 : decode cX7_mostAlike 33 = .ok (.iadd, 1) := by decide +kernel
theorem dX7_mostAlike_34 : decode cX7_mostAlike 34 = .ok (.iaload, 1) := by decide +kernel
theorem dX7_mostAlike_35 : decode cX7_mostAlike 35 = .ok (.aload_n 0, 1) := by decide +kernel
theorem dX7_mostAlike_36 : decode cX7_mostAlike 36 = .ok (.getfield 53, 3) := by decide +kernel
theorem dX7_mostAlike_39 : decode cX7_mostAlike 39 = .ok (.iload 4, 2) := by decide +kernel
theorem dX7_mostAlike_41 : decode cX7_mostAlike 41 = .ok (.bipush 8, 2) := by decide +kernel
theorem dX7_mostAlike_43 : decode cX7_mostAlike 43 = .ok (.imul, 1) := by decide +kernel
theorem dX7_mostAlike_44 : decode cX7_mostAlike 44 = .ok (.iload_n 1, 1) := by decide +kernel
theorem dX7_mostAlike_45 : decode cX7_mostAlike 45 = .ok (.iadd, 1) := by decide +kernel
theorem dX7_mostAlike_46 : decode cX7_mostAlike 46 = .ok (.iaload, 1) := by decide +kernel
theorem dX7_mostAlike_47 : decode cX7_mostAlike 47 = .ok (.if_icmp .ne 6, 3) := by decide +kernel
theorem dX7_mostAlike_50 : decode cX7_mostAlike 50 = .ok (.iinc 5 1, 3) := by decide +kernel
theorem dX7_mostAlike_53 : decode cX7_mostAlike 53 = .ok (.iinc 6 1, 3) := by decide +kernel
theorem dX7_mostAlike_56 : decode cX7_mostAlike 56 = .ok (.goto (-39), 3) := by decide +kernel
theorem dX7_mostAlike_59 : decode cX7_mostAlike 59 = .ok (.iload_n 3, 1) := by decide +kernel
theorem dX7_mostAlike_60 : decode cX7_mostAlike 60 = .ok (.iload 5, 2) := by decide +kernel
theorem dX7_mostAlike_62 : decode cX7_mostAlike 62 = .ok (.invokestatic 411, 3) := by decide +kernel
theorem dX7_mostAlike_65 : decode cX7_mostAlike 65 = .ok (.istore_n 3, 1) := by decide +kernel
theorem dX7_mostAlike_66 : decode cX7_mostAlike 66 = .ok (.iinc 4 1, 3) := by decide +kernel
theorem dX7_mostAlike_69 : decode cX7_mostAlike 69 = .ok (.goto (-64), 3) := by decide +kernel
theorem dX7_mostAlike_72 : decode cX7_mostAlike 72 = .ok (.iload_n 3, 1) := by decide +kernel
theorem dX7_mostAlike_73 : decode cX7_mostAlike 73 = .ok (.ireturn, 1) := by decide +kernel
