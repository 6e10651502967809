theorem dX8_init_0 : decode cX8_init 0 = .ok (.aload_n 0, 1) := by decide +kernel
theorem dX8_init_1 : decode cX8_init 1 = .ok (.invokespecial 1, 3) := by decide +kernel
theorem dX8_init_4 : decode cX8_init 4 = .ok (.aload_n 0, 1) := by decide +kernel
theorem dX8_init_5 : decode cX8_init 5 = .ok (.sipush 3020, 3) := by decide +kernel
theorem dX8_init_8 : decode cX8_init 8 = .ok (.newarray .int, 2) := by decide +kernel
theorem dX8_init_10 : decode cX8_init 10 = .ok (.putfield 9, 3) := by decide +kernel
theorem dX8_init_13 : decode cX8_init 13 = .ok (.aload_n 0, 1) := by decide +kernel
theorem dX8_init_14 : decode cX8_init 14 = .ok (.sipush 3020, 3) := by decide +kernel
theorem dX8_init_17 : decode cX8_init 17 = .ok (.newarray .int, 2) := by decide +kernel
theorem dX8_init_19 : decode cX8_init 19 = .ok (.putfield 13, 3) := by decide +kernel
theorem dX8_init_22 : decode cX8_init 22 = .ok (.aload_n 0, 1) := by decide +kernel
theorem dX8_init_23 : decode cX8_init 23 = .ok (.sipush 9060, 3) := by decide +kernel
theorem dX8_init_26 : decode cX8_init 26 = .ok (.newarray .int, 2) := by decide +kernel
theorem dX8_init_28 : decode cX8_init 28 = .ok (.putfield 16, 3) := by decide +kernel
theorem dX8_init_31 : decode cX8_init 31 = .ok (.aload_n 0, 1) := by decide +kernel
theorem dX8_init_32 : decode cX8_init 32 = .ok (.iconst 3, 1) := by decide +kernel
theorem dX8_init_33 : decode cX8_init 33 = .ok (.newarray .boolean, 2) := by decide +kernel
theorem dX8_init_35 : decode cX8_init 35 = .ok (.putfield 19, 3) := by decide +kernel
theorem dX8_init_38 : decode cX8_init 38 = .ok (.aload_n 0, 1) := by decide +kernel
theorem dX8_init_39 : decode cX8_init 39 = .ok (.sipush 900, 3) := by decide +kernel
theorem dX8_init_42 : decode cX8_init 42 = .ok (.newarray .int, 2) := by decide +kernel
theorem dX8_init_44 : decode cX8_init 44 = .ok (.putfield 23, 3) := by decide +kernel
theorem dX8_init_47 : decode cX8_init 47 = .ok (.aload_n 0, 1) := by decide +kernel
theorem dX8_init_48 : decode cX8_init 48 = .ok (.iconst (-1), 1) := by decide +kernel
theorem dX8_init_49 : decode cX8_init 49 = .ok (.putfield 26, 3) := by decide +kernel
theorem dX8_init_52 : decode cX8_init 52 = .ok (.aload_n 0, 1) := by decide +kernel
theorem dX8_init_53 : decode cX8_init 53 = .ok (.bipush 64, 2) := by decide +kernel
theorem dX8_init_55 : decode cX8_init 55 = .ok (.newarray .int, 2) := by decide +kernel
theorem dX8_init_57 : decode cX8_init 57 = .ok (.putfield 30, 3) := by decide +kernel
theorem dX8_init_60 : decode cX8_init 60 = .ok (.aload_n 0, 1) := by decide +kernel
theorem dX8_init_61 : decode cX8_init 61 = .ok (.iconst 5, 1) := by decide +kernel
theorem dX8_init_62 : decode cX8_init 62 = .ok (.newarray .int, 2) := by decide +kernel
theorem dX8_init_64 : decode cX8_init 64 = .ok (.putfield 33, 3) := by decide +kernel
theorem dX8_init_67 : decode cX8_init 67 = .ok (.aload_n 0, 1) := by decide +kernel
theorem dX8_init_68 : decode cX8_init 68 = .ok (.bipush 26, 2) := by decide +kernel
theorem dX8_init_70 : decode cX8_init 70 = .ok (.newarray .int, 2) := by decide +kernel
theorem dX8_init_72 : decode cX8_init 72 = .ok (.putfield 36, 3) := by decide +kernel
theorem dX8_init_75 : decode cX8_init 75 = .ok (.aload_n 0, 1) := by decide +kernel
theorem dX8_init_76 : decode cX8_init 76 = .ok (.bipush 8, 2) := by decide +kernel
theorem dX8_init_78 : decode cX8_init 78 = .ok (.newarray .int, 2) := by decide +kernel
theorem dX8_init_80 : decode cX8_init 80 = .ok (.putfield 39, 3) := by decide +kernel
theorem dX8_init_83 : decode cX8_init 83 = .ok (.aload_n 0, 1) := by decide +kernel
theorem dX8_init_84 : decode cX8_init 84 = .ok (.bipush 8, 2) := by decide +kernel
theorem dX8_init_86 : decode cX8_init 86 = .ok (.newarray .int, 2) := by decide +kernel
theorem dX8_init_88 : decode cX8_init 88 = .ok (.putfield 42, 3) := by decide +kernel
theorem dX8_init_91 : decode cX8_init 91 = .ok (.aload_n 0, 1) := by decide +kernel
theorem dX8_init_92 : decode cX8_init 92 = .ok (.sipush 234, 3) := by decide +kernel
theorem dX8_init_95 : decode cX8_init 95 = .ok (.newarray .int, 2) := by decide +kernel
theorem dX8_init_97 : decode cX8_init 97 = .ok (.putfield 45, 3) := by decide +kernel
theorem dX8_init_100 : decode cX8_init 100 = .ok (.aload_n 0, 1) := by decide +kernel
theorem dX8_init_101 : decode cX8_init 101 = .ok (.bipush 28, 2) := by decide +kernel
theorem dX8_init_103 : decode cX8_init 103 = .ok (.newarray .int, 2) := by decide +kernel
theorem dX8_init_105 : decode cX8_init 105 = .ok (.putfield 48, 3) := by decide +kernel
theorem dX8_init_108 : decode cX8_init 108 = .ok (.aload_n 0, 1) := by decide +kernel
theorem dX8_init_109 : decode cX8_init 109 = .ok (.sipush 224, 3) := by decide +kernel
theorem dX8_init_112 : decode cX8_init 112 = .ok (.newarray .int, 2) := by decide +kernel
theorem dX8_init_114 : decode cX8_init 114 = .ok (.putfield 51, 3) := by decide +kernel
theorem dX8_init_117 : decode cX8_init 117 = .ok (.aload_n 0, 1) := by decide +kernel
theorem dX8_init_118 : decode cX8_init 118 = .ok (.iconst 4, 1) := by decide +kernel
theorem dX8_init_119 : decode cX8_init 119 = .ok (.newarray .int, 2) := by decide +kernel
theorem dX8_init_121 : decode cX8_init 121 = .ok (.dup, 1) := by decide +kernel
theorem dX8_init_122 : decode cX8_init 122 = .ok (.iconst 0, 1) := by decide +kernel
theorem dX8_init_123 : decode cX8_init 123 = .ok (.iconst (-1), 1) := by decide +kernel
theorem dX8_init_124 : decode cX8_init 124 = .ok (.iastore, 1) := by decide +kernel
theorem dX8_init_125 : decode cX8_init 125 = .ok (.dup, 1) := by decide +kernel
theorem dX8_init_126 : decode cX8_init 126 = .ok (.iconst 1, 1) := by decide +kernel
theorem dX8_init_127 : decode cX8_init 127 = .ok (.iconst (-1), 1) := by decide +kernel
theorem dX8_init_128 : decode cX8_init 128 = .ok (.iastore, 1) := by decide +kernel
theorem dX8_init_129 : decode cX8_init 129 = .ok (.dup, 1) := by decide +kernel
theorem dX8_init_130 : decode cX8_init 130 = .ok (.iconst 2, 1) := by decide +kernel
theorem dX8_init_131 : decode cX8_init 131 = .ok (.iconst (-1), 1) := by decide +kernel
theorem dX8_init_132 : decode cX8_init 132 = .ok (.iastore, 1) := by decide +kernel
theorem dX8_init_133 : decode cX8_init 133 = .ok (.dup, 1) := by decide +kernel
theorem dX8_init_134 : decode cX8_init 134 = .ok (.iconst 3, 1) := by decide +kernel
theorem dX8_init_135 : decode cX8_init 135 = .ok (.iconst (-1), 1) := by decide +kernel
theorem dX8_init_136 : decode cX8_init 136 = .ok (.iastore, 1) := by decide +kernel
theorem dX8_init_137 : decode cX8_init 137 = .ok (.putfield 54, 3) := by decide +kernel
theorem dX8_init_140 : decode cX8_init 140 = .ok (.aload_n 0, 1) := by decide +kernel
theorem dX8_init_141 : decode cX8_init 141 = .ok (.iconst 4, 1) := by decide +kernel
theorem dX8_init_142 : decode cX8_init 142 = .ok (.newarray .int, 2) := by decide +kernel
theorem dX8_init_144 : decode cX8_init 144 = .ok (.putfield 57, 3) := by decide +kernel
theorem dX8_init_147 : decode cX8_init 147 = .ok (.aload_n 0, 1) := by decide +kernel
theorem dX8_init_148 : decode cX8_init 148 = .ok (.bipush 120, 2) := by decide +kernel
theorem dX8_init_150 : decode cX8_init 150 = .ok (.newarray .long, 2) := by decide +kernel
theorem dX8_init_152 : decode cX8_init 152 = .ok (.putfield 60, 3) := by decide +kernel
theorem dX8_init_155 : decode cX8_init 155 = .ok (.aload_n 0, 1) := by decide +kernel
theorem dX8_init_156 : decode cX8_init 156 = .ok (.getfield 9, 3) := by decide +kernel
theorem dX8_init_159 : decode cX8_init 159 = .ok (.iconst 1, 1) := by decide +kernel
theorem dX8_init_160 : decode cX8_init 160 = .ok (.iconst 1, 1) := by decide +kernel
theorem dX8_init_161 : decode cX8_init 161 = .ok (.iastore, 1) := by decide +kernel
theorem dX8_init_162 : decode cX8_init 162 = .ok (.aload_n 0, 1) := by decide +kernel
theorem dX8_init_163 : decode cX8_init 163 = .ok (.getfield 9, 3) := by decide +kernel
theorem dX8_init_166 : decode cX8_init 166 = .ok (.iconst 2, 1) := by decide +kernel
theorem dX8_init_167 : decode cX8_init 167 = .ok (.iconst 1, 1) := by decide +kernel
theorem dX8_init_168 : decode cX8_init 168 = .ok (.iastore, 1) := by decide +kernel
theorem dX8_init_169 : decode cX8_init 169 = .ok (.return_, 1) := by decide +kernel
theorem dX8_thrown_0 : decode cX8_thrown 0 = .ok (.aload_n 0, 1) := by decide +kernel
theorem dX8_thrown_1 : decode cX8_thrown 1 = .ok (.getfield 64, 3) := by decide +kernel
theorem dX8_thrown_4 : decode cX8_thrown 4 = .ok (.ireturn, 1) := by decide +kernel
theorem dX8_fails_0 : decode cX8_fails 0 = .ok (.aload_n 0, 1) := by decide +kernel
theorem dX8_fails_1 : decode cX8_fails 1 = .ok (.iload_n 1, 1) := by decide +kernel
theorem dX8_fails_2 : decode cX8_fails 2 = .ok (.putfield 64, 3) := by decide +kernel
theorem dX8_fails_5 : decode cX8_fails 5 = .ok (.iconst 0, 1) := by decide +kernel
theorem dX8_fails_6 : decode cX8_fails 6 = .ok (.ireturn, 1) := by decide +kernel
theorem dX8_within_0 : decode cX8_within 0 = .ok (.lload_n 0, 1) := by decide +kernel
theorem dX8_within_1 : decode cX8_within 1 = .ok (.lload_n 2, 1) := by decide +kernel
theorem dX8_within_2 : decode cX8_within 2 = .ok (.lcmp, 1) := by decide +kernel
theorem dX8_within_3 : decode cX8_within 3 = .ok (.ifCond .lt 14, 3) := by decide +kernel
theorem dX8_within_6 : decode cX8_within 6 = .ok (.lload_n 0, 1) := by decide +kernel
theorem dX8_within_7 : decode cX8_within 7 = .ok (.lload 4, 2) := by decide +kernel
theorem dX8_within_9 : decode cX8_within 9 = .ok (.lcmp, 1) := by decide +kernel
theorem dX8_within_10 : decode cX8_within 10 = .ok (.ifCond .gt 7, 3) := by decide +kernel
theorem dX8_within_13 : decode cX8_within 13 = .ok (.iconst 1, 1) := by decide +kernel
theorem dX8_within_14 : decode cX8_within 14 = .ok (.goto 4, 3) := by decide +kernel
theorem dX8_within_17 : decode cX8_within 17 = .ok (.iconst 0, 1) := by decide +kernel
theorem dX8_within_18 : decode cX8_within 18 = .ok (.ireturn, 1) := by decide +kernel
theorem dX8_has_0 : decode cX8_has 0 = .ok (.iload_n 0, 1) := by decide +kernel
theorem dX8_has_1 : decode cX8_has 1 = .ok (.iload_n 1, 1) := by decide +kernel
theorem dX8_has_2 : decode cX8_has 2 = .ok (.ishr, 1) := by decide +kernel
theorem dX8_has_3 : decode cX8_has 3 = .ok (.iconst 1, 1) := by decide +kernel
theorem dX8_has_4 : decode cX8_has 4 = .ok (.iand, 1) := by decide +kernel
theorem dX8_has_5 : decode cX8_has 5 = .ok (.iconst 1, 1) := by decide +kernel
theorem dX8_has_6 : decode cX8_has 6 = .ok (.if_icmp .ne 7, 3) := by decide +kernel
theorem dX8_has_9 : decode cX8_has 9 = .ok (.iconst 1, 1) := by decide +kernel
theorem dX8_has_10 : decode cX8_has 10 = .ok (.goto 4, 3) := by decide +kernel
theorem dX8_has_13 : decode cX8_has 13 = .ok (.iconst 0, 1) := by decide +kernel
theorem dX8_has_14 : decode cX8_has 14 = .ok (.ireturn, 1) := by decide +kernel
theorem dX8_size_0 : decode cX8_size 0 = .ok (.iconst 0, 1) := by decide +kernel
theorem dX8_size_1 : decode cX8_size 1 = .ok (.istore_n 1, 1) := by decide +kernel
theorem dX8_size_2 : decode cX8_size 2 = .ok (.iload_n 0, 1) := by decide +kernel
theorem dX8_size_3 : decode cX8_size 3 = .ok (.istore_n 2, 1) := by decide +kernel
theorem dX8_size_4 : decode cX8_size 4 = .ok (.iload_n 2, 1) := by decide +kernel
theorem dX8_size_5 : decode cX8_size 5 = .ok (.ifCond .eq 15, 3) := by decide +kernel
theorem dX8_size_8 : decode cX8_size 8 = .ok (.iinc 1 1, 3) := by decide +kernel
theorem dX8_size_11 : decode cX8_size 11 = .ok (.iload_n 2, 1) := by decide +kernel
theorem dX8_size_12 : decode cX8_size 12 = .ok (.iload_n 2, 1) := by decide +kernel
theorem dX8_size_13 : decode cX8_size 13 = .ok (.iconst 1, 1) := by decide +kernel
theorem dX8_size_14 : decode cX8_size 14 = .ok (.isub, 1) := by decide +kernel
theorem dX8_size_15 : decode cX8_size 15 = .ok (.iand, 1) := by decide +kernel
theorem dX8_size_16 : decode cX8_size 16 = .ok (.istore_n 2, 1) := by decide +kernel
theorem dX8_size_17 : decode cX8_size 17 = .ok (.goto (-13), 3) := by decide +kernel
theorem dX8_size_20 : decode cX8_size 20 = .ok (.iload_n 1, 1) := by decide +kernel
theorem dX8_size_21 : decode cX8_size 21 = .ok (.ireturn, 1) := by decide +kernel
theorem dX8_feed_0 : decode cX8_feed 0 = .ok (.aload_n 0, 1) := by decide +kernel
theorem dX8_feed_1 : decode cX8_feed 1 = .ok (.iconst 0, 1) := by decide +kernel
theorem dX8_feed_2 : decode cX8_feed 2 = .ok (.putfield 64, 3) := by decide +kernel
theorem dX8_feed_5 : decode cX8_feed 5 = .ok (.aload_n 0, 1) := by decide +kernel
theorem dX8_feed_6 : decode cX8_feed 6 = .ok (.getfield 67, 3) := by decide +kernel
theorem dX8_feed_9 : decode cX8_feed 9 = .ok (.bipush 20, 2) := by decide +kernel
theorem dX8_feed_11 : decode cX8_feed 11 = .ok (.iadd, 1) := by decide +kernel
theorem dX8_feed_12 : decode cX8_feed 12 = .ok (.sipush 900, 3) := by decide +kernel
theorem dX8_feed_15 : decode cX8_feed 15 = .ok (.if_icmp .le 5, 3) := by decide +kernel
theorem dX8_feed_18 : decode cX8_feed 18 = .ok (.iconst (-1), 1) := by decide +kernel
theorem dX8_feed_19 : decode cX8_feed 19 = .ok (.ireturn, 1) := by decide +kernel
theorem dX8_feed_20 : decode cX8_feed 20 = .ok (.iconst 0, 1) := by decide +kernel
theorem dX8_feed_21 : decode cX8_feed 21 = .ok (.istore 6, 2) := by decide +kernel
theorem dX8_feed_23 : decode cX8_feed 23 = .ok (.iload 6, 2) := by decide +kernel
theorem dX8_feed_25 : decode cX8_feed 25 = .ok (.bipush 20, 2) := by decide +kernel
theorem dX8_feed_27 : decode cX8_feed 27 = .ok (.if_icmp .ge 93, 3) := by decide +kernel
theorem dX8_feed_30 : decode cX8_feed 30 = .ok (.iload 6, 2) := by decide +kernel
theorem dX8_feed_32 : decode cX8_feed 32 = .ok (.iconst 4, 1) := by decide +kernel
theorem dX8_feed_33 : decode cX8_feed 33 = .ok (.if_icmp .ge 7, 3) := by decide +kernel
theorem dX8_feed_36 : decode cX8_feed 36 = .ok (.iload_n 1, 1) := by decide +kernel
theorem dX8_feed_37 : decode cX8_feed 37 = .ok (.goto 39, 3) := by decide +kernel
theorem dX8_feed_40 : decode cX8_feed 40 = .ok (.iload 6, 2) := by decide +kernel
theorem dX8_feed_42 : decode cX8_feed 42 = .ok (.bipush 8, 2) := by decide +kernel
theorem dX8_feed_44 : decode cX8_feed 44 = .ok (.if_icmp .ge 7, 3) := by decide +kernel
theorem dX8_feed_47 : decode cX8_feed 47 = .ok (.iload_n 2, 1) := by decide +kernel
theorem dX8_feed_48 : decode cX8_feed 48 = .ok (.goto 28, 3) := by decide +kernel
theorem dX8_feed_51 : decode cX8_feed 51 = .ok (.iload 6, 2) := by decide +kernel
theorem dX8_feed_53 : decode cX8_feed 53 = .ok (.bipush 12, 2) := by decide +kernel
theorem dX8_feed_55 : decode cX8_feed 55 = .ok (.if_icmp .ge 7, 3) := by decide +kernel
theorem dX8_feed_58 : decode cX8_feed 58 = .ok (.iload_n 3, 1) := by decide +kernel
theorem dX8_feed_59 : decode cX8_feed 59 = .ok (.goto 17, 3) := by decide +kernel
theorem dX8_feed_62 : decode cX8_feed 62 = .ok (.iload 6, 2) := by decide +kernel
theorem dX8_feed_64 : decode cX8_feed 64 = .ok (.bipush 16, 2) := by decide +kernel
theorem dX8_feed_66 : decode cX8_feed 66 = .ok (.if_icmp .ge 8, 3) := by decide +kernel
theorem dX8_feed_69 : decode cX8_feed 69 = .ok (.iload 4, 2) := by decide +kernel
theorem dX8_feed_71 : decode cX8_feed 71 = .ok (.goto 5, 3) := by decide +kernel
theorem dX8_feed_74 : decode cX8_feed 74 = .ok (.iload 5, 2) := by decide +kernel
theorem dX8_feed_76 : decode cX8_feed 76 = .ok (.istore 7, 2) := by decide +kernel
theorem dX8_feed_78 : decode cX8_feed 78 = .ok (.aload_n 0, 1) := by decide +kernel
theorem dX8_feed_79 : decode cX8_feed 79 = .ok (.getfield 23, 3) := by decide +kernel
theorem dX8_feed_82 : decode cX8_feed 82 = .ok (.aload_n 0, 1) := by decide +kernel
theorem dX8_feed_83 : decode cX8_feed 83 = .ok (.getfield 67, 3) := by decide +kernel
theorem dX8_feed_86 : decode cX8_feed 86 = .ok (.iload 7, 2) := by decide +kernel
theorem dX8_feed_88 : decode cX8_feed 88 = .ok (.bipush 24, 2) := by decide +kernel
theorem dX8_feed_90 : decode cX8_feed 90 = .ok (.bipush 8, 2) := by decide +kernel
theorem dX8_feed_92 : decode cX8_feed 92 = .ok (.iload 6, 2) := by decide +kernel
theorem dX8_feed_94 : decode cX8_feed 94 = .ok (.iconst 3, 1) := by decide +kernel
theorem dX8_feed_95 : decode cX8_feed 95 = .ok (.iand, 1) := by decide +kernel
theorem dX8_feed_96 : decode cX8_feed 96 = .ok (.imul, 1) := by decide +kernel
theorem dX8_feed_97 : decode cX8_feed 97 = .ok (.isub, 1) := by decide +kernel
theorem dX8_feed_98 : decode cX8_feed 98 = .ok (.iushr, 1) := by decide +kernel
theorem dX8_feed_99 : decode cX8_feed 99 = .ok (.sipush 255, 3) := by decide +kernel
theorem dX8_feed_102 : decode cX8_feed 102 = .ok (.iand, 1) := by decide +kernel
theorem dX8_feed_103 : decode cX8_feed 103 = .ok (.iastore, 1) := by decide +kernel
theorem dX8_feed_104 : decode cX8_feed 104 = .ok (.aload_n 0, 1) := by decide +kernel
theorem dX8_feed_105 : decode cX8_feed 105 = .ok (.dup, 1) := by decide +kernel
theorem dX8_feed_106 : decode cX8_feed 106 = .ok (.getfield 67, 3) := by decide +kernel
theorem dX8_feed_109 : decode cX8_feed 109 = .ok (.iconst 1, 1) := by decide +kernel
theorem dX8_feed_110 : decode cX8_feed 110 = .ok (.iadd, 1) := by decide +kernel
theorem dX8_feed_111 : decode cX8_feed 111 = .ok (.putfield 67, 3) := by decide +kernel
theorem dX8_feed_114 : decode cX8_feed 114 = .ok (.iinc 6 1, 3) := by decide +kernel
theorem dX8_feed_117 : decode cX8_feed 117 = .ok (.goto (-94), 3) := by decide +kernel
theorem dX8_feed_120 : decode cX8_feed 120 = .ok (.aload_n 0, 1) := by decide +kernel
theorem dX8_feed_121 : decode cX8_feed 121 = .ok (.getfield 67, 3) := by decide +kernel
theorem dX8_feed_124 : decode cX8_feed 124 = .ok (.ireturn, 1) := by decide +kernel
theorem dX8_see_0 : decode cX8_see 0 = .ok (.iload_n 1, 1) := by decide +kernel
theorem dX8_see_1 : decode cX8_see 1 = .ok (.aload_n 0, 1) := by decide +kernel
theorem dX8_see_2 : decode cX8_see 2 = .ok (.getfield 70, 3) := by decide +kernel
theorem dX8_see_5 : decode cX8_see 5 = .ok (.if_icmp .ge 12, 3) := by decide +kernel
theorem dX8_see_8 : decode cX8_see 8 = .ok (.aload_n 0, 1) := by decide +kernel
theorem dX8_see_9 : decode cX8_see 9 = .ok (.getfield 23, 3) := by decide +kernel
theorem dX8_see_12 : decode cX8_see 12 = .ok (.iload_n 1, 1) := by decide +kernel
theorem dX8_see_13 : decode cX8_see 13 = .ok (.iaload, 1) := by decide +kernel
theorem dX8_see_14 : decode cX8_see 14 = .ok (.goto 4, 3) := by decide +kernel
theorem dX8_see_17 : decode cX8_see 17 = .ok (.iconst 0, 1) := by decide +kernel
theorem dX8_see_18 : decode cX8_see 18 = .ok (.ireturn, 1) := by decide +kernel
theorem dX8_isLetter_0 : decode cX8_isLetter 0 = .ok (.iload_n 0, 1) := by decide +kernel
theorem dX8_isLetter_1 : decode cX8_isLetter 1 = .ok (.bipush 97, 2) := by decide +kernel
theorem dX8_isLetter_3 : decode cX8_isLetter 3 = .ok (.if_icmp .lt 13, 3) := by decide +kernel
theorem dX8_isLetter_6 : decode cX8_isLetter 6 = .ok (.iload_n 0, 1) := by decide +kernel
theorem dX8_isLetter_7 : decode cX8_isLetter 7 = .ok (.bipush 122, 2) := by decide +kernel
theorem dX8_isLetter_9 : decode cX8_isLetter 9 = .ok (.if_icmp .gt 7, 3) := by decide +kernel
theorem dX8_isLetter_12 : decode cX8_isLetter 12 = .ok (.iconst 1, 1) := by decide +kernel
theorem dX8_isLetter_13 : decode cX8_isLetter 13 = .ok (.goto 4, 3) := by decide +kernel
theorem dX8_isLetter_16 : decode cX8_isLetter 16 = .ok (.iconst 0, 1) := by decide +kernel
theorem dX8_isLetter_17 : decode cX8_isLetter 17 = .ok (.ireturn, 1) := by decide +kernel
theorem dX8_isDigit_0 : decode cX8_isDigit 0 = .ok (.iload_n 0, 1) := by decide +kernel
theorem dX8_isDigit_1 : decode cX8_isDigit 1 = .ok (.bipush 48, 2) := by decide +kernel
theorem dX8_isDigit_3 : decode cX8_isDigit 3 = .ok (.if_icmp .lt 13, 3) := by decide +kernel
theorem dX8_isDigit_6 : decode cX8_isDigit 6 = .ok (.iload_n 0, 1) := by decide +kernel
theorem dX8_isDigit_7 : decode cX8_isDigit 7 = .ok (.bipush 57, 2) := by decide +kernel
theorem dX8_isDigit_9 : decode cX8_isDigit 9 = .ok (.if_icmp .gt 7, 3) := by decide +kernel
theorem dX8_isDigit_12 : decode cX8_isDigit 12 = .ok (.iconst 1, 1) := by decide +kernel
theorem dX8_isDigit_13 : decode cX8_isDigit 13 = .ok (.goto 4, 3) := by decide +kernel
theorem dX8_isDigit_16 : decode cX8_isDigit 16 = .ok (.iconst 0, 1) := by decide +kernel
theorem dX8_isDigit_17 : decode cX8_isDigit 17 = .ok (.ireturn, 1) := by decide +kernel
theorem dX8_isSignByte_0 : decode cX8_isSignByte 0 = .ok (.iload_n 0, 1) := by decide +kernel
theorem dX8_isSignByte_1 : decode cX8_isSignByte 1 = .ok (.bipush 91, 2) := by decide +kernel
theorem dX8_isSignByte_3 : decode cX8_isSignByte 3 = .ok (.if_icmp .eq 33, 3) := by decide +kernel
theorem dX8_isSignByte_6 : decode cX8_isSignByte 6 = .ok (.iload_n 0, 1) := by decide +kernel
theorem dX8_isSignByte_7 : decode cX8_isSignByte 7 = .ok (.bipush 93, 2) := by decide +kernel
theorem dX8_isSignByte_9 : decode cX8_isSignByte 9 = .ok (.if_icmp .eq 27, 3) := by decide +kernel
theorem dX8_isSignByte_12 : decode cX8_isSignByte 12 = .ok (.iload_n 0, 1) := by decide +kernel
theorem dX8_isSignByte_13 : decode cX8_isSignByte 13 = .ok (.bipush 61, 2) := by decide +kernel
theorem dX8_isSignByte_15 : decode cX8_isSignByte 15 = .ok (.if_icmp .eq 21, 3) := by decide +kernel
theorem dX8_isSignByte_18 : decode cX8_isSignByte 18 = .ok (.iload_n 0, 1) := by decide +kernel
theorem dX8_isSignByte_19 : decode cX8_isSignByte 19 = .ok (.bipush 60, 2) := by decide +kernel
theorem dX8_isSignByte_21 : decode cX8_isSignByte 21 = .ok (.if_icmp .eq 15, 3) := by decide +kernel
theorem dX8_isSignByte_24 : decode cX8_isSignByte 24 = .ok (.iload_n 0, 1) := by decide +kernel
theorem dX8_isSignByte_25 : decode cX8_isSignByte 25 = .ok (.bipush 62, 2) := by decide +kernel
theorem dX8_isSignByte_27 : decode cX8_isSignByte 27 = .ok (.if_icmp .eq 9, 3) := by decide +kernel
theorem dX8_isSignByte_30 : decode cX8_isSignByte 30 = .ok (.iload_n 0, 1) := by decide +kernel
theorem dX8_isSignByte_31 : decode cX8_isSignByte 31 = .ok (.bipush 58, 2) := by decide +kernel
theorem dX8_isSignByte_33 : decode cX8_isSignByte 33 = .ok (.if_icmp .ne 7, 3) := by decide +kernel
theorem dX8_isSignByte_36 : decode cX8_isSignByte 36 = .ok (.iconst 1, 1) := by decide +kernel
theorem dX8_isSignByte_37 : decode cX8_isSignByte 37 = .ok (.goto 4, 3) := by decide +kernel
theorem dX8_isSignByte_40 : decode cX8_isSignByte 40 = .ok (.iconst 0, 1) := by decide +kernel
theorem dX8_isSignByte_41 : decode cX8_isSignByte 41 = .ok (.istore_n 1, 1) := by decide +kernel
theorem dX8_isSignByte_42 : decode cX8_isSignByte 42 = .ok (.iload_n 1, 1) := by decide +kernel
theorem dX8_isSignByte_43 : decode cX8_isSignByte 43 = .ok (.ifCond .ne 39, 3) := by decide +kernel
theorem dX8_isSignByte_46 : decode cX8_isSignByte 46 = .ok (.iload_n 0, 1) := by decide +kernel
theorem dX8_isSignByte_47 : decode cX8_isSignByte 47 = .ok (.bipush 59, 2) := by decide +kernel
theorem dX8_isSignByte_49 : decode cX8_isSignByte 49 = .ok (.if_icmp .eq 33, 3) := by decide +kernel
theorem dX8_isSignByte_52 : decode cX8_isSignByte 52 = .ok (.iload_n 0, 1) := by decide +kernel
theorem dX8_isSignByte_53 : decode cX8_isSignByte 53 = .ok (.bipush 43, 2) := by decide +kernel
theorem dX8_isSignByte_55 : decode cX8_isSignByte 55 = .ok (.if_icmp .eq 27, 3) := by decide +kernel
theorem dX8_isSignByte_58 : decode cX8_isSignByte 58 = .ok (.iload_n 0, 1) := by decide +kernel
theorem dX8_isSignByte_59 : decode cX8_isSignByte 59 = .ok (.bipush 45, 2) := by decide +kernel
theorem dX8_isSignByte_61 : decode cX8_isSignByte 61 = .ok (.if_icmp .eq 21, 3) := by decide +kernel
theorem dX8_isSignByte_64 : decode cX8_isSignByte 64 = .ok (.iload_n 0, 1) := by decide +kernel
theorem dX8_isSignByte_65 : decode cX8_isSignByte 65 = .ok (.bipush 42, 2) := by decide +kernel
theorem dX8_isSignByte_67 : decode cX8_isSignByte 67 = .ok (.if_icmp .eq 15, 3) := by decide +kernel
theorem dX8_isSignByte_70 : decode cX8_isSignByte 70 = .ok (.iload_n 0, 1) := by decide +kernel
theorem dX8_isSignByte_71 : decode cX8_isSignByte 71 = .ok (.bipush 40, 2) := by decide +kernel
theorem dX8_isSignByte_73 : decode cX8_isSignByte 73 = .ok (.if_icmp .eq 9, 3) := by decide +kernel
theorem dX8_isSignByte_76 : decode cX8_isSignByte 76 = .ok (.iload_n 0, 1) := by decide +kernel
theorem dX8_isSignByte_77 : decode cX8_isSignByte 77 = .ok (.bipush 41, 2) := by decide +kernel
theorem dX8_isSignByte_79 : decode cX8_isSignByte 79 = .ok (.if_icmp .ne 7, 3) := by decide +kernel
theorem dX8_isSignByte_82 : decode cX8_isSignByte 82 = .ok (.iconst 1, 1) := by decide +kernel
theorem dX8_isSignByte_83 : decode cX8_isSignByte 83 = .ok (.goto 4, 3) := by decide +kernel
theorem dX8_isSignByte_86 : decode cX8_isSignByte 86 = .ok (.iconst 0, 1) := by decide +kernel
theorem dX8_isSignByte_87 : decode cX8_isSignByte 87 = .ok (.ireturn, 1) := by decide +kernel
theorem dX8_readsOn_0 : decode cX8_readsOn 0 = .ok (.aload_n 0, 1) := by decide +kernel
theorem dX8_readsOn_1 : decode cX8_readsOn 1 = .ok (.getfield 73, 3) := by decide +kernel
theorem dX8_readsOn_4 : decode cX8_readsOn 4 = .ok (.aload_n 0, 1) := by decide +kernel
theorem dX8_readsOn_5 : decode cX8_readsOn 5 = .ok (.getfield 70, 3) := by decide +kernel
theorem dX8_readsOn_8 : decode cX8_readsOn 8 = .ok (.if_icmp .ge 44, 3) := by decide +kernel
theorem dX8_readsOn_11 : decode cX8_readsOn 11 = .ok (.aload_n 0, 1) := by decide +kernel
theorem dX8_readsOn_12 : decode cX8_readsOn 12 = .ok (.getfield 23, 3) := by decide +kernel
theorem dX8_readsOn_15 : decode cX8_readsOn 15 = .ok (.aload_n 0, 1) := by decide +kernel
theorem dX8_readsOn_16 : decode cX8_readsOn 16 = .ok (.getfield 73, 3) := by decide +kernel
theorem dX8_readsOn_19 : decode cX8_readsOn 19 = .ok (.iaload, 1) := by decide +kernel
theorem dX8_readsOn_20 : decode cX8_readsOn 20 = .ok (.bipush 32, 2) := by decide +kernel
theorem dX8_readsOn_22 : decode cX8_readsOn 22 = .ok (.if_icmp .eq 17, 3) := by decide +kernel
theorem dX8_readsOn_25 : decode cX8_readsOn 25 = .ok (.aload_n 0, 1) := by decide +kernel
theorem dX8_readsOn_26 : decode cX8_readsOn 26 = .ok (.getfield 23, 3) := by decide +kernel
theorem dX8_readsOn_29 : decode cX8_readsOn 29 = .ok (.aload_n 0, 1) := by decide +kernel
theorem dX8_readsOn_30 : decode cX8_readsOn 30 = .ok (.getfield 73, 3) := by decide +kernel
theorem dX8_readsOn_33 : decode cX8_readsOn 33 = .ok (.iaload, 1) := by decide +kernel
theorem dX8_readsOn_34 : decode cX8_readsOn 34 = .ok (.bipush 10, 2) := by decide +kernel
theorem dX8_readsOn_36 : decode cX8_readsOn 36 = .ok (.if_icmp .ne 16, 3) := by decide +kernel
theorem dX8_readsOn_39 : decode cX8_readsOn 39 = .ok (.aload_n 0, 1) := by decide +kernel
theorem dX8_readsOn_40 : decode cX8_readsOn 40 = .ok (.dup, 1) := by decide +kernel
theorem dX8_readsOn_41 : decode cX8_readsOn 41 = .ok (.getfield 73, 3) := by decide +kernel
theorem dX8_readsOn_44 : decode cX8_readsOn 44 = .ok (.iconst 1, 1) := by decide +kernel
theorem dX8_readsOn_45 : decode cX8_readsOn 45 = .ok (.iadd, 1) := by decide +kernel
theorem dX8_readsOn_46 : decode cX8_readsOn 46 = .ok (.putfield 73, 3) := by decide +kernel
theorem dX8_readsOn_49 : decode cX8_readsOn 49 = .ok (.goto (-49), 3) := by decide +kernel
theorem dX8_readsOn_52 : decode cX8_readsOn 52 = .ok (.aload_n 0, 1) := by decide +kernel
theorem dX8_readsOn_53 : decode cX8_readsOn 53 = .ok (.aload_n 0, 1) := by decide +kernel
theorem dX8_readsOn_54 : decode cX8_readsOn 54 = .ok (.getfield 73, 3) := by decide +kernel
theorem dX8_readsOn_57 : decode cX8_readsOn 57 = .ok (.putfield 76, 3) := by decide +kernel
theorem dX8_readsOn_60 : decode cX8_readsOn 60 = .ok (.aload_n 0, 1) := by decide +kernel
theorem dX8_readsOn_61 : decode cX8_readsOn 61 = .ok (.getfield 73, 3) := by decide +kernel
theorem dX8_readsOn_64 : decode cX8_readsOn 64 = .ok (.aload_n 0, 1) := by decide +kernel
theorem dX8_readsOn_65 : decode cX8_readsOn 65 = .ok (.getfield 70, 3) := by decide +kernel
theorem dX8_readsOn_68 : decode cX8_readsOn 68 = .ok (.if_icmp .lt 9, 3) := by decide +kernel
theorem dX8_readsOn_71 : decode cX8_readsOn 71 = .ok (.aload_n 0, 1) := by decide +kernel
theorem dX8_readsOn_72 : decode cX8_readsOn 72 = .ok (.iconst 0, 1) := by decide +kernel
theorem dX8_readsOn_73 : decode cX8_readsOn 73 = .ok (.putfield 79, 3) := by decide +kernel
theorem dX8_readsOn_76 : decode cX8_readsOn 76 = .ok (.return_, 1) := by decide +kernel
theorem dX8_readsOn_77 : decode cX8_readsOn 77 = .ok (.aload_n 0, 1) := by decide +kernel
theorem dX8_readsOn_78 : decode cX8_readsOn 78 = .ok (.getfield 23, 3) := by decide +kernel
theorem dX8_readsOn_81 : decode cX8_readsOn 81 = .ok (.aload_n 0, 1) := by decide +kernel
theorem dX8_readsOn_82 : decode cX8_readsOn 82 = .ok (.getfield 73, 3) := by decide +kernel
theorem dX8_readsOn_85 : decode cX8_readsOn 85 = .ok (.iaload, 1) := by decide +kernel
theorem dX8_readsOn_86 : decode cX8_readsOn 86 = .ok (.istore_n 1, 1) := by decide +kernel
theorem dX8_readsOn_87 : decode cX8_readsOn 87 = .ok (.iload_n 1, 1) := by decide +kernel
theorem dX8_readsOn_88 : decode cX8_readsOn 88 = .ok (.invokestatic 82, 3) := by decide +kernel
theorem dX8_readsOn_91 : decode cX8_readsOn 91 = .ok (.ifCond .eq 38, 3) := by decide +kernel
theorem dX8_readsOn_94 : decode cX8_readsOn 94 = .ok (.aload_n 0, 1) := by decide +kernel
theorem dX8_readsOn_95 : decode cX8_readsOn 95 = .ok (.aload_n 0, 1) := by decide +kernel
theorem dX8_readsOn_96 : decode cX8_readsOn 96 = .ok (.getfield 73, 3) := by decide +kernel
theorem dX8_readsOn_99 : decode cX8_readsOn 99 = .ok (.invokevirtual 86, 3) := by decide +kernel
theorem dX8_readsOn_102 : decode cX8_readsOn 102 = .ok (.invokestatic 82, 3) := by decide +kernel
theorem dX8_readsOn_105 : decode cX8_readsOn 105 = .ok (.ifCond .eq 16, 3) := by decide +kernel
theorem dX8_readsOn_108 : decode cX8_readsOn 108 = .ok (.aload_n 0, 1) := by decide +kernel
theorem dX8_readsOn_109 : decode cX8_readsOn 109 = .ok (.dup, 1) := by decide +kernel
theorem dX8_readsOn_110 : decode cX8_readsOn 110 = .ok (.getfield 73, 3) := by decide +kernel
theorem dX8_readsOn_113 : decode cX8_readsOn 113 = .ok (.iconst 1, 1) := by decide +kernel
theorem dX8_readsOn_114 : decode cX8_readsOn 114 = .ok (.iadd, 1) := by decide +kernel
theorem dX8_readsOn_115 : decode cX8_readsOn 115 = .ok (.putfield 73, 3) := by decide +kernel
theorem dX8_readsOn_118 : decode cX8_readsOn 118 = .ok (.goto (-24), 3) := by decide +kernel
theorem dX8_readsOn_121 : decode cX8_readsOn 121 = .ok (.aload_n 0, 1) := by decide +kernel
theorem dX8_readsOn_122 : decode cX8_readsOn 122 = .ok (.iconst 1, 1) := by decide +kernel
theorem dX8_readsOn_123 : decode cX8_readsOn 123 = .ok (.putfield 79, 3) := by decide +kernel
theorem dX8_readsOn_126 : decode cX8_readsOn 126 = .ok (.goto 137, 3) := by decide +kernel
theorem dX8_readsOn_129 : decode cX8_readsOn 129 = .ok (.iload_n 1, 1) := by decide +kernel
theorem dX8_readsOn_130 : decode cX8_readsOn 130 = .ok (.invokestatic 90, 3) := by decide +kernel
theorem dX8_readsOn_133 : decode cX8_readsOn 133 = .ok (.ifCond .eq 104, 3) := by decide +kernel
theorem dX8_readsOn_136 : decode cX8_readsOn 136 = .ok (.aload_n 0, 1) := by decide +kernel
theorem dX8_readsOn_137 : decode cX8_readsOn 137 = .ok (.iconst 0, 1) := by decide +kernel
theorem dX8_readsOn_138 : decode cX8_readsOn 138 = .ok (.putfield 93, 3) := by decide +kernel
theorem dX8_readsOn_141 : decode cX8_readsOn 141 = .ok (.aload_n 0, 1) := by decide +kernel
theorem dX8_readsOn_142 : decode cX8_readsOn 142 = .ok (.aload_n 0, 1) := by decide +kernel
theorem dX8_readsOn_143 : decode cX8_readsOn 143 = .ok (.getfield 73, 3) := by decide +kernel
theorem dX8_readsOn_146 : decode cX8_readsOn 146 = .ok (.invokevirtual 86, 3) := by decide +kernel
theorem dX8_readsOn_149 : decode cX8_readsOn 149 = .ok (.invokestatic 90, 3) := by decide +kernel
theorem dX8_readsOn_152 : decode cX8_readsOn 152 = .ok (.ifCond .eq 60, 3) := by decide +kernel
theorem dX8_readsOn_155 : decode cX8_readsOn 155 = .ok (.aload_n 0, 1) := by decide +kernel
theorem dX8_readsOn_156 : decode cX8_readsOn 156 = .ok (.aload_n 0, 1) := by decide +kernel
theorem dX8_readsOn_157 : decode cX8_readsOn 157 = .ok (.getfield 73, 3) := by decide +kernel
theorem dX8_readsOn_160 : decode cX8_readsOn 160 = .ok (.aload_n 0, 1) := by decide +kernel
theorem dX8_readsOn_161 : decode cX8_readsOn 161 = .ok (.getfield 76, 3) := by decide +kernel
theorem dX8_readsOn_164 : decode cX8_readsOn 164 = .ok (.isub, 1) := by decide +kernel
theorem dX8_readsOn_165 : decode cX8_readsOn 165 = .ok (.iconst 3, 1) := by decide +kernel
theorem dX8_readsOn_166 : decode cX8_readsOn 166 = .ok (.if_icmp .ge 26, 3) := by decide +kernel
theorem dX8_readsOn_169 : decode cX8_readsOn 169 = .ok (.bipush 10, 2) := by decide +kernel
theorem dX8_readsOn_171 : decode cX8_readsOn 171 = .ok (.aload_n 0, 1) := by decide +kernel
theorem dX8_readsOn_172 : decode cX8_readsOn 172 = .ok (.getfield 93, 3) := by decide +kernel
theorem dX8_readsOn_175 : decode cX8_readsOn 175 = .ok (.imul, 1) := by decide +kernel
theorem dX8_readsOn_176 : decode cX8_readsOn 176 = .ok (.aload_n 0, 1) := by decide +kernel
theorem dX8_readsOn_177 : decode cX8_readsOn 177 = .ok (.getfield 23, 3) := by decide +kernel
theorem dX8_readsOn_180 : decode cX8_readsOn 180 = .ok (.aload_n 0, 1) := by decide +kernel
theorem dX8_readsOn_181 : decode cX8_readsOn 181 = .ok (.getfield 73, 3) := by decide +kernel
theorem dX8_readsOn_184 : decode cX8_readsOn 184 = .ok (.iaload, 1) := by decide +kernel
theorem dX8_readsOn_185 : decode cX8_readsOn 185 = .ok (.iadd, 1) := by decide +kernel
theorem dX8_readsOn_186 : decode cX8_readsOn 186 = .ok (.bipush 48, 2) := by decide +kernel
theorem dX8_readsOn_188 : decode cX8_readsOn 188 = .ok (.isub, 1) := by decide +kernel
theorem dX8_readsOn_189 : decode cX8_readsOn 189 = .ok (.goto 7, 3) := by decide +kernel
theorem dX8_readsOn_192 : decode cX8_readsOn 192 = .ok (.aload_n 0, 1) := by decide +kernel
theorem dX8_readsOn_193 : decode cX8_readsOn 193 = .ok (.getfield 93, 3) := by decide +kernel
theorem dX8_readsOn_196 : decode cX8_readsOn 196 = .ok (.putfield 93, 3) := by decide +kernel
theorem dX8_readsOn_199 : decode cX8_readsOn 199 = .ok (.aload_n 0, 1) := by decide +kernel
theorem dX8_readsOn_200 : decode cX8_readsOn 200 = .ok (.dup, 1) := by decide +kernel
theorem dX8_readsOn_201 : decode cX8_readsOn 201 = .ok (.getfield 73, 3) := by decide +kernel
theorem dX8_readsOn_204 : decode cX8_readsOn 204 = .ok (.iconst 1, 1) := by decide +kernel
theorem dX8_readsOn_205 : decode cX8_readsOn 205 = .ok (.iadd, 1) := by decide +kernel
theorem dX8_readsOn_206 : decode cX8_readsOn 206 = .ok (.putfield 73, 3) := by decide +kernel
theorem dX8_readsOn_209 : decode cX8_readsOn 209 = .ok (.goto (-68), 3) := by decide +kernel
theorem dX8_readsOn_212 : decode cX8_readsOn 212 = .ok (.aload_n 0, 1) := by decide +kernel
theorem dX8_readsOn_213 : decode cX8_readsOn 213 = .ok (.aload_n 0, 1) := by decide +kernel
theorem dX8_readsOn_214 : decode cX8_readsOn 214 = .ok (.getfield 73, 3) := by decide +kernel
theorem dX8_readsOn_217 : decode cX8_readsOn 217 = .ok (.aload_n 0, 1) := by decide +kernel
theorem dX8_readsOn_218 : decode cX8_readsOn 218 = .ok (.getfield 76, 3) := by decide +kernel
theorem dX8_readsOn_221 : decode cX8_readsOn 221 = .ok (.isub, 1) := by decide +kernel
theorem dX8_readsOn_222 : decode cX8_readsOn 222 = .ok (.iconst 3, 1) := by decide +kernel
theorem dX8_readsOn_223 : decode cX8_readsOn 223 = .ok (.if_icmp .le 7, 3) := by decide +kernel
theorem dX8_readsOn_226 : decode cX8_readsOn 226 = .ok (.iconst 3, 1) := by decide +kernel
theorem dX8_readsOn_227 : decode cX8_readsOn 227 = .ok (.goto 4, 3) := by decide +kernel
theorem dX8_readsOn_230 : decode cX8_readsOn 230 = .ok (.iconst 2, 1) := by decide +kernel
theorem dX8_readsOn_231 : decode cX8_readsOn 231 = .ok (.putfield 79, 3) := by decide +kernel
theorem dX8_readsOn_234 : decode cX8_readsOn 234 = .ok (.goto 29, 3) := by decide +kernel
theorem dX8_readsOn_237 : decode cX8_readsOn 237 = .ok (.aload_n 0, 1) := by decide +kernel
theorem dX8_readsOn_238 : decode cX8_readsOn 238 = .ok (.iload_n 1, 1) := by decide +kernel
theorem dX8_readsOn_239 : decode cX8_readsOn 239 = .ok (.invokestatic 96, 3) := by decide +kernel
theorem dX8_readsOn_242 : decode cX8_readsOn 242 = .ok (.ifCond .eq 7, 3) := by decide +kernel
theorem dX8_readsOn_245 : decode cX8_readsOn 245 = .ok (.iload_n 1, 1) := by decide +kernel
theorem dX8_readsOn_246 : decode cX8_readsOn 246 = .ok (.goto 4, 3) := by decide +kernel
theorem dX8_readsOn_249 : decode cX8_readsOn 249 = .ok (.iconst 3, 1) := by decide +kernel
theorem dX8_readsOn_250 : decode cX8_readsOn 250 = .ok (.putfield 79, 3) := by decide +kernel
theorem dX8_readsOn_253 : decode cX8_readsOn 253 = .ok (.aload_n 0, 1) := by decide +kernel
theorem dX8_readsOn_254 : decode cX8_readsOn 254 = .ok (.dup, 1) := by decide +kernel
theorem dX8_readsOn_255 : decode cX8_readsOn 255 = .ok (.getfield 73, 3) := by decide +kernel
theorem dX8_readsOn_258 : decode cX8_readsOn 258 = .ok (.iconst 1, 1) := by decide +kernel
theorem dX8_readsOn_259 : decode cX8_readsOn 259 = .ok (.iadd, 1) := by decide +kernel
theorem dX8_readsOn_260 : decode cX8_readsOn 260 = .ok (.putfield 73, 3) := by decide +kernel
theorem dX8_readsOn_263 : decode cX8_readsOn 263 = .ok (.return_, 1) := by decide +kernel
theorem dX8_blames_0 : decode cX8_blames 0 = .ok (.aload_n 0, 1) := by decide +kernel
theorem dX8_blames_1 : decode cX8_blames 1 = .ok (.getfield 99, 3) := by decide +kernel
theorem dX8_blames_4 : decode cX8_blames 4 = .ok (.ifCond .eq 4, 3) := by decide +kernel
theorem dX8_blames_7 : decode cX8_blames 7 = .ok (.return_, 1) := by decide +kernel
theorem dX8_blames_8 : decode cX8_blames 8 = .ok (.aload_n 0, 1) := by decide +kernel
theorem dX8_blames_9 : decode cX8_blames 9 = .ok (.aload_n 0, 1) := by decide +kernel
theorem dX8_blames_10 : decode cX8_blames 10 = .ok (.getfield 79, 3) := by decide +kernel
theorem dX8_blames_13 : decode cX8_blames 13 = .ok (.iconst 3, 1) := by decide +kernel
theorem dX8_blames_14 : decode cX8_blames 14 = .ok (.if_icmp .ne 7, 3) := by decide +kernel
theorem dX8_blames_17 : decode cX8_blames 17 = .ok (.iconst 1, 1) := by decide +kernel
theorem dX8_blames_18 : decode cX8_blames 18 = .ok (.goto 4, 3) := by decide +kernel
theorem dX8_blames_21 : decode cX8_blames 21 = .ok (.iload_n 1, 1) := by decide +kernel
theorem dX8_blames_22 : decode cX8_blames 22 = .ok (.putfield 99, 3) := by decide +kernel
theorem dX8_blames_25 : decode cX8_blames 25 = .ok (.aload_n 0, 1) := by decide +kernel
theorem dX8_blames_26 : decode cX8_blames 26 = .ok (.aload_n 0, 1) := by decide +kernel
theorem dX8_blames_27 : decode cX8_blames 27 = .ok (.getfield 76, 3) := by decide +kernel
theorem dX8_blames_30 : decode cX8_blames 30 = .ok (.putfield 102, 3) := by decide +kernel
theorem dX8_blames_33 : decode cX8_blames 33 = .ok (.return_, 1) := by decide +kernel
theorem dX8_isWord_0 : decode cX8_isWord 0 = .ok (.aload_n 0, 1) := by decide +kernel
theorem dX8_isWord_1 : decode cX8_isWord 1 = .ok (.getfield 99, 3) := by decide +kernel
theorem dX8_isWord_4 : decode cX8_isWord 4 = .ok (.ifCond .ne 31, 3) := by decide +kernel
theorem dX8_isWord_7 : decode cX8_isWord 7 = .ok (.aload_n 0, 1) := by decide +kernel
theorem dX8_isWord_8 : decode cX8_isWord 8 = .ok (.getfield 79, 3) := by decide +kernel
theorem dX8_isWord_11 : decode cX8_isWord 11 = .ok (.iconst 1, 1) := by decide +kernel
theorem dX8_isWord_12 : decode cX8_isWord 12 = .ok (.if_icmp .ne 23, 3) := by decide +kernel
theorem dX8_isWord_15 : decode cX8_isWord 15 = .ok (.aload_n 0, 1) := by decide +kernel
theorem dX8_isWord_16 : decode cX8_isWord 16 = .ok (.getfield 73, 3) := by decide +kernel
theorem dX8_isWord_19 : decode cX8_isWord 19 = .ok (.aload_n 0, 1) := by decide +kernel
theorem dX8_isWord_20 : decode cX8_isWord 20 = .ok (.getfield 76, 3) := by decide +kernel
theorem dX8_isWord_23 : decode cX8_isWord 23 = .ok (.isub, 1) := by decide +kernel
theorem dX8_isWord_24 : decode cX8_isWord 24 = .ok (.aload_n 1, 1) := by decide +kernel
theorem dX8_isWord_25 : decode cX8_isWord 25 = .ok (.invokevirtual 105, 3) := by decide +kernel
theorem dX8_isWord_28 : decode cX8_isWord 28 = .ok (.if_icmp .ne 7, 3) := by decide +kernel
theorem dX8_isWord_31 : decode cX8_isWord 31 = .ok (.iconst 1, 1) := by decide +kernel
theorem dX8_isWord_32 : decode cX8_isWord 32 = .ok (.goto 4, 3) := by decide +kernel
theorem dX8_isWord_35 : decode cX8_isWord 35 = .ok (.iconst 0, 1) := by decide +kernel
theorem dX8_isWord_36 : decode cX8_isWord 36 = .ok (.istore_n 2, 1) := by decide +kernel
theorem dX8_isWord_37 : decode cX8_isWord 37 = .ok (.iconst 0, 1) := by decide +kernel
theorem dX8_isWord_38 : decode cX8_isWord 38 = .ok (.istore_n 3, 1) := by decide +kernel
theorem dX8_isWord_39 : decode cX8_isWord 39 = .ok (.iload_n 2, 1) := by decide +kernel
theorem dX8_isWord_40 : decode cX8_isWord 40 = .ok (.ifCond .eq 42, 3) := by decide +kernel
theorem dX8_isWord_43 : decode cX8_isWord 43 = .ok (.iload_n 3, 1) := by decide +kernel
theorem dX8_isWord_44 : decode cX8_isWord 44 = .ok (.aload_n 1, 1) := by decide +kernel
theorem dX8_isWord_45 : decode cX8_isWord 45 = .ok (.invokevirtual 105, 3) := by decide +kernel
theorem dX8_isWord_48 : decode cX8_isWord 48 = .ok (.if_icmp .ge 34, 3) := by decide +kernel
theorem dX8_isWord_51 : decode cX8_isWord 51 = .ok (.aload_n 0, 1) := by decide +kernel
theorem dX8_isWord_52 : decode cX8_isWord 52 = .ok (.getfield 23, 3) := by decide +kernel
theorem dX8_isWord_55 : decode cX8_isWord 55 = .ok (.aload_n 0, 1) := by decide +kernel
theorem dX8_isWord_56 : decode cX8_isWord 56 = .ok (.getfield 76, 3) := by decide +kernel
theorem dX8_isWord_59 : decode cX8_isWord 59 = .ok (.iload_n 3, 1) := by decide +kernel
theorem dX8_isWord_60 : decode cX8_isWord 60 = .ok (.iadd, 1) := by decide +kernel
theorem dX8_isWord_61 : decode cX8_isWord 61 = .ok (.iaload, 1) := by decide +kernel
theorem dX8_isWord_62 : decode cX8_isWord 62 = .ok (.aload_n 1, 1) := by decide +kernel
theorem dX8_isWord_63 : decode cX8_isWord 63 = .ok (.iload_n 3, 1) := by decide +kernel
theorem dX8_isWord_64 : decode cX8_isWord 64 = .ok (.invokevirtual 110, 3) := by decide +kernel
theorem dX8_isWord_67 : decode cX8_isWord 67 = .ok (.if_icmp .ne 7, 3) := by decide +kernel
theorem dX8_isWord_70 : decode cX8_isWord 70 = .ok (.iconst 1, 1) := by decide +kernel
theorem dX8_isWord_71 : decode cX8_isWord 71 = .ok (.goto 4, 3) := by decide +kernel
theorem dX8_isWord_74 : decode cX8_isWord 74 = .ok (.iconst 0, 1) := by decide +kernel
theorem dX8_isWord_75 : decode cX8_isWord 75 = .ok (.istore_n 2, 1) := by decide +kernel
theorem dX8_isWord_76 : decode cX8_isWord 76 = .ok (.iinc 3 1, 3) := by decide +kernel
theorem dX8_isWord_79 : decode cX8_isWord 79 = .ok (.goto (-40), 3) := by decide +kernel
theorem dX8_isWord_82 : decode cX8_isWord 82 = .ok (.iload_n 2, 1) := by decide +kernel
theorem dX8_isWord_83 : decode cX8_isWord 83 = .ok (.ireturn, 1) := by decide +kernel
theorem dX8_took_0 : decode cX8_took 0 = .ok (.aload_n 0, 1) := by decide +kernel
theorem dX8_took_1 : decode cX8_took 1 = .ok (.aload_n 1, 1) := by decide +kernel
theorem dX8_took_2 : decode cX8_took 2 = .ok (.invokevirtual 114, 3) := by decide +kernel
theorem dX8_took_5 : decode cX8_took 5 = .ok (.istore_n 2, 1) := by decide +kernel
theorem dX8_took_6 : decode cX8_took 6 = .ok (.iload_n 2, 1) := by decide +kernel
theorem dX8_took_7 : decode cX8_took 7 = .ok (.ifCond .eq 7, 3) := by decide +kernel
theorem dX8_took_10 : decode cX8_took 10 = .ok (.aload_n 0, 1) := by decide +kernel
theorem dX8_took_11 : decode cX8_took 11 = .ok (.invokevirtual 118, 3) := by decide +kernel
theorem dX8_took_14 : decode cX8_took 14 = .ok (.iload_n 2, 1) := by decide +kernel
theorem dX8_took_15 : decode cX8_took 15 = .ok (.ireturn, 1) := by decide +kernel
theorem dX8_isSign_0 : decode cX8_isSign 0 = .ok (.aload_n 0, 1) := by decide +kernel
theorem dX8_isSign_1 : decode cX8_isSign 1 = .ok (.getfield 99, 3) := by decide +kernel
theorem dX8_isSign_4 : decode cX8_isSign 4 = .ok (.ifCond .ne 15, 3) := by decide +kernel
theorem dX8_isSign_7 : decode cX8_isSign 7 = .ok (.aload_n 0, 1) := by decide +kernel
theorem dX8_isSign_8 : decode cX8_isSign 8 = .ok (.getfield 79, 3) := by decide +kernel
theorem dX8_isSign_11 : decode cX8_isSign 11 = .ok (.iload_n 1, 1) := by decide +kernel
theorem dX8_isSign_12 : decode cX8_isSign 12 = .ok (.if_icmp .ne 7, 3) := by decide +kernel
theorem dX8_isSign_15 : decode cX8_isSign 15 = .ok (.iconst 1, 1) := by decide +kernel
theorem dX8_isSign_16 : decode cX8_isSign 16 = .ok (.goto 4, 3) := by decide +kernel
theorem dX8_isSign_19 : decode cX8_isSign 19 = .ok (.iconst 0, 1) := by decide +kernel
theorem dX8_isSign_20 : decode cX8_isSign 20 = .ok (.ireturn, 1) := by decide +kernel
theorem dX8_mustSign_0 : decode cX8_mustSign 0 = .ok (.aload_n 0, 1) := by decide +kernel
theorem dX8_mustSign_1 : decode cX8_mustSign 1 = .ok (.getfield 79, 3) := by decide +kernel
theorem dX8_mustSign_4 : decode cX8_mustSign 4 = .ok (.iload_n 1, 1) := by decide +kernel
theorem dX8_mustSign_5 : decode cX8_mustSign 5 = .ok (.if_icmp .eq 8, 3) := by decide +kernel
theorem dX8_mustSign_8 : decode cX8_mustSign 8 = .ok (.aload_n 0, 1) := by decide +kernel
theorem dX8_mustSign_9 : decode cX8_mustSign 9 = .ok (.iconst 2, 1) := by decide +kernel
theorem dX8_mustSign_10 : decode cX8_mustSign 10 = .ok (.invokevirtual 121, 3) := by decide +kernel
theorem dX8_mustSign_13 : decode cX8_mustSign 13 = .ok (.aload_n 0, 1) := by decide +kernel
theorem dX8_mustSign_14 : decode cX8_mustSign 14 = .ok (.getfield 99, 3) := by decide +kernel
theorem dX8_mustSign_17 : decode cX8_mustSign 17 = .ok (.ifCond .ne 7, 3) := by decide +kernel
theorem dX8_mustSign_20 : decode cX8_mustSign 20 = .ok (.aload_n 0, 1) := by decide +kernel
theorem dX8_mustSign_21 : decode cX8_mustSign 21 = .ok (.invokevirtual 118, 3) := by decide +kernel
theorem dX8_mustSign_24 : decode cX8_mustSign 24 = .ok (.return_, 1) := by decide +kernel
theorem dX8_number_0 : decode cX8_number 0 = .ok (.aload_n 0, 1) := by decide +kernel
theorem dX8_number_1 : decode cX8_number 1 = .ok (.getfield 79, 3) := by decide +kernel
theorem dX8_number_4 : decode cX8_number 4 = .ok (.iconst 2, 1) := by decide +kernel
theorem dX8_number_5 : decode cX8_number 5 = .ok (.if_icmp .eq 11, 3) := by decide +kernel
theorem dX8_number_8 : decode cX8_number 8 = .ok (.aload_n 0, 1) := by decide +kernel
theorem dX8_number_9 : decode cX8_number 9 = .ok (.iconst 2, 1) := by decide +kernel
theorem dX8_number_10 : decode cX8_number 10 = .ok (.invokevirtual 121, 3) := by decide +kernel
theorem dX8_number_13 : decode cX8_number 13 = .ok (.goto 23, 3) := by decide +kernel
theorem dX8_number_16 : decode cX8_number 16 = .ok (.aload_n 0, 1) := by decide +kernel
theorem dX8_number_17 : decode cX8_number 17 = .ok (.getfield 93, 3) := by decide +kernel
theorem dX8_number_20 : decode cX8_number 20 = .ok (.i2l, 1) := by decide +kernel
theorem dX8_number_21 : decode cX8_number 21 = .ok (.iload_n 1, 1) := by decide +kernel
theorem dX8_number_22 : decode cX8_number 22 = .ok (.i2l, 1) := by decide +kernel
theorem dX8_number_23 : decode cX8_number 23 = .ok (.iload_n 2, 1) := by decide +kernel
theorem dX8_number_24 : decode cX8_number 24 = .ok (.i2l, 1) := by decide +kernel
theorem dX8_number_25 : decode cX8_number 25 = .ok (.invokestatic 125, 3) := by decide +kernel
theorem dX8_number_28 : decode cX8_number 28 = .ok (.ifCond .ne 8, 3) := by decide +kernel
theorem dX8_number_31 : decode cX8_number 31 = .ok (.aload_n 0, 1) := by decide +kernel
theorem dX8_number_32 : decode cX8_number 32 = .ok (.iconst 3, 1) := by decide +kernel
theorem dX8_number_33 : decode cX8_number 33 = .ok (.invokevirtual 121, 3) := by decide +kernel
theorem dX8_number_36 : decode cX8_number 36 = .ok (.aload_n 0, 1) := by decide +kernel
theorem dX8_number_37 : decode cX8_number 37 = .ok (.getfield 93, 3) := by decide +kernel
theorem dX8_number_40 : decode cX8_number 40 = .ok (.istore_n 3, 1) := by decide +kernel
theorem dX8_number_41 : decode cX8_number 41 = .ok (.aload_n 0, 1) := by decide +kernel
theorem dX8_number_42 : decode cX8_number 42 = .ok (.getfield 99, 3) := by decide +kernel
theorem dX8_number_45 : decode cX8_number 45 = .ok (.ifCond .ne 7, 3) := by decide +kernel
theorem dX8_number_48 : decode cX8_number 48 = .ok (.aload_n 0, 1) := by decide +kernel
theorem dX8_number_49 : decode cX8_number 49 = .ok (.invokevirtual 118, 3) := by decide +kernel
theorem dX8_number_52 : decode cX8_number 52 = .ok (.aload_n 0, 1) := by decide +kernel
theorem dX8_number_53 : decode cX8_number 53 = .ok (.getfield 99, 3) := by decide +kernel
theorem dX8_number_56 : decode cX8_number 56 = .ok (.ifCond .ne 7, 3) := by decide +kernel
theorem dX8_number_59 : decode cX8_number 59 = .ok (.iload_n 3, 1) := by decide +kernel
theorem dX8_number_60 : decode cX8_number 60 = .ok (.goto 4, 3) := by decide +kernel
theorem dX8_number_63 : decode cX8_number 63 = .ok (.iload_n 1, 1) := by decide +kernel
theorem dX8_number_64 : decode cX8_number 64 = .ok (.ireturn, 1) := by decide +kernel
theorem dX8_mustWord_0 : decode cX8_mustWord 0 = .ok (.aload_n 0, 1) := by decide +kernel
theorem dX8_mustWord_1 : decode cX8_mustWord 1 = .ok (.aload_n 1, 1) := by decide +kernel
theorem dX8_mustWord_2 : decode cX8_mustWord 2 = .ok (.invokevirtual 129, 3) := by decide +kernel
theorem dX8_mustWord_5 : decode cX8_mustWord 5 = .ok (.ifCond .ne 8, 3) := by decide +kernel
theorem dX8_mustWord_8 : decode cX8_mustWord 8 = .ok (.aload_n 0, 1) := by decide +kernel
theorem dX8_mustWord_9 : decode cX8_mustWord 9 = .ok (.iconst 2, 1) := by decide +kernel
theorem dX8_mustWord_10 : decode cX8_mustWord 10 = .ok (.invokevirtual 121, 3) := by decide +kernel
theorem dX8_mustWord_13 : decode cX8_mustWord 13 = .ok (.return_, 1) := by decide +kernel
theorem dX8_laysStep_0 : decode cX8_laysStep 0 = .ok (.aload_n 0, 1) := by decide +kernel
theorem dX8_laysStep_1 : decode cX8_laysStep 1 = .ok (.getfield 99, 3) := by decide +kernel
theorem dX8_laysStep_4 : decode cX8_laysStep 4 = .ok (.ifCond .eq 4, 3) := by decide +kernel
theorem dX8_laysStep_7 : decode cX8_laysStep 7 = .ok (.return_, 1) := by decide +kernel
theorem dX8_laysStep_8 : decode cX8_laysStep 8 = .ok (.aload_n 0, 1) := by decide +kernel
theorem dX8_laysStep_9 : decode cX8_laysStep 9 = .ok (.getfield 13, 3) := by decide +kernel
theorem dX8_laysStep_12 : decode cX8_laysStep 12 = .ok (.aload_n 0, 1) := by decide +kernel
theorem dX8_laysStep_13 : decode cX8_laysStep 13 = .ok (.getfield 132, 3) := by decide +kernel
theorem dX8_laysStep_16 : decode cX8_laysStep 16 = .ok (.aload_n 0, 1) := by decide +kernel
theorem dX8_laysStep_17 : decode cX8_laysStep 17 = .ok (.getfield 13, 3) := by decide +kernel
theorem dX8_laysStep_20 : decode cX8_laysStep 20 = .ok (.aload_n 0, 1) := by decide +kernel
theorem dX8_laysStep_21 : decode cX8_laysStep 21 = .ok (.getfield 135, 3) := by decide +kernel
theorem dX8_laysStep_24 : decode cX8_laysStep 24 = .ok (.iaload, 1) := by decide +kernel
theorem dX8_laysStep_25 : decode cX8_laysStep 25 = .ok (.iadd, 1) := by decide +kernel
theorem dX8_laysStep_26 : decode cX8_laysStep 26 = .ok (.iload_n 1, 1) := by decide +kernel
theorem dX8_laysStep_27 : decode cX8_laysStep 27 = .ok (.iastore, 1) := by decide +kernel
theorem dX8_laysStep_28 : decode cX8_laysStep 28 = .ok (.aload_n 0, 1) := by decide +kernel
theorem dX8_laysStep_29 : decode cX8_laysStep 29 = .ok (.getfield 13, 3) := by decide +kernel
theorem dX8_laysStep_32 : decode cX8_laysStep 32 = .ok (.aload_n 0, 1) := by decide +kernel
theorem dX8_laysStep_33 : decode cX8_laysStep 33 = .ok (.getfield 135, 3) := by decide +kernel
theorem dX8_laysStep_36 : decode cX8_laysStep 36 = .ok (.dup2, 1) := by decide +kernel
theorem dX8_laysStep_37 : decode cX8_laysStep 37 = .ok (.iaload, 1) := by decide +kernel
theorem dX8_laysStep_38 : decode cX8_laysStep 38 = .ok (.iconst 1, 1) := by decide +kernel
theorem dX8_laysStep_39 : decode cX8_laysStep 39 = .ok (.iadd, 1) := by decide +kernel
theorem dX8_laysStep_40 : decode cX8_laysStep 40 = .ok (.iastore, 1) := by decide +kernel
theorem dX8_laysStep_41 : decode cX8_laysStep 41 = .ok (.return_, 1) := by decide +kernel
theorem dX8_beginsLaw_0 : decode cX8_beginsLaw 0 = .ok (.aload_n 0, 1) := by decide +kernel
theorem dX8_beginsLaw_1 : decode cX8_beginsLaw 1 = .ok (.iload_n 1, 1) := by decide +kernel
theorem dX8_beginsLaw_2 : decode cX8_beginsLaw 2 = .ok (.putfield 135, 3) := by decide +kernel
theorem dX8_beginsLaw_5 : decode cX8_beginsLaw 5 = .ok (.aload_n 0, 1) := by decide +kernel
theorem dX8_beginsLaw_6 : decode cX8_beginsLaw 6 = .ok (.iload_n 2, 1) := by decide +kernel
theorem dX8_beginsLaw_7 : decode cX8_beginsLaw 7 = .ok (.putfield 132, 3) := by decide +kernel
theorem dX8_beginsLaw_10 : decode cX8_beginsLaw 10 = .ok (.aload_n 0, 1) := by decide +kernel
theorem dX8_beginsLaw_11 : decode cX8_beginsLaw 11 = .ok (.getfield 13, 3) := by decide +kernel
theorem dX8_beginsLaw_14 : decode cX8_beginsLaw 14 = .ok (.iload_n 1, 1) := by decide +kernel
theorem dX8_beginsLaw_15 : decode cX8_beginsLaw 15 = .ok (.iconst 0, 1) := by decide +kernel
theorem dX8_beginsLaw_16 : decode cX8_beginsLaw 16 = .ok (.iastore, 1) := by decide +kernel
theorem dX8_beginsLaw_17 : decode cX8_beginsLaw 17 = .ok (.aload_n 0, 1) := by decide +kernel
theorem dX8_beginsLaw_18 : decode cX8_beginsLaw 18 = .ok (.bipush 58, 2) := by decide +kernel
theorem dX8_beginsLaw_20 : decode cX8_beginsLaw 20 = .ok (.invokevirtual 138, 3) := by decide +kernel
theorem dX8_beginsLaw_23 : decode cX8_beginsLaw 23 = .ok (.return_, 1) := by decide +kernel
theorem dX8_goesIn_0 : decode cX8_goesIn 0 = .ok (.aload_n 0, 1) := by decide +kernel
theorem dX8_goesIn_1 : decode cX8_goesIn 1 = .ok (.getfield 141, 3) := by decide +kernel
theorem dX8_goesIn_4 : decode cX8_goesIn 4 = .ok (.bipush 6, 2) := by decide +kernel
theorem dX8_goesIn_6 : decode cX8_goesIn 6 = .ok (.if_icmp .ne 8, 3) := by decide +kernel
theorem dX8_goesIn_9 : decode cX8_goesIn 9 = .ok (.aload_n 0, 1) := by decide +kernel
theorem dX8_goesIn_10 : decode cX8_goesIn 10 = .ok (.iconst 4, 1) := by decide +kernel
theorem dX8_goesIn_11 : decode cX8_goesIn 11 = .ok (.invokevirtual 121, 3) := by decide +kernel
theorem dX8_goesIn_14 : decode cX8_goesIn 14 = .ok (.aload_n 0, 1) := by decide +kernel
theorem dX8_goesIn_15 : decode cX8_goesIn 15 = .ok (.dup, 1) := by decide +kernel
theorem dX8_goesIn_16 : decode cX8_goesIn 16 = .ok (.getfield 141, 3) := by decide +kernel
theorem dX8_goesIn_19 : decode cX8_goesIn 19 = .ok (.iconst 1, 1) := by decide +kernel
theorem dX8_goesIn_20 : decode cX8_goesIn 20 = .ok (.iadd, 1) := by decide +kernel
theorem dX8_goesIn_21 : decode cX8_goesIn 21 = .ok (.putfield 141, 3) := by decide +kernel
theorem dX8_goesIn_24 : decode cX8_goesIn 24 = .ok (.aload_n 0, 1) := by decide +kernel
theorem dX8_goesIn_25 : decode cX8_goesIn 25 = .ok (.getfield 99, 3) := by decide +kernel
theorem dX8_goesIn_28 : decode cX8_goesIn 28 = .ok (.ifCond .ne 7, 3) := by decide +kernel
theorem dX8_goesIn_31 : decode cX8_goesIn 31 = .ok (.aload_n 0, 1) := by decide +kernel
theorem dX8_goesIn_32 : decode cX8_goesIn 32 = .ok (.invokevirtual 118, 3) := by decide +kernel
theorem dX8_goesIn_35 : decode cX8_goesIn 35 = .ok (.return_, 1) := by decide +kernel
theorem dX8_readTruth_0 : decode cX8_readTruth 0 = .ok (.aload_n 0, 1) := by decide +kernel
theorem dX8_readTruth_1 : decode cX8_readTruth 1 = .ok (.invokevirtual 144, 3) := by decide +kernel
theorem dX8_readTruth_4 : decode cX8_readTruth 4 = .ok (.aload_n 0, 1) := by decide +kernel
theorem dX8_readTruth_5 : decode cX8_readTruth 5 = .ok (.ldc 147, 2) := by decide +kernel
theorem dX8_readTruth_7 : decode cX8_readTruth 7 = .ok (.invokevirtual 129, 3) := by decide +kernel
theorem dX8_readTruth_10 : decode cX8_readTruth 10 = .ok (.ifCond .eq 16, 3) := by decide +kernel
theorem dX8_readTruth_13 : decode cX8_readTruth 13 = .ok (.aload_n 0, 1) := by decide +kernel
theorem dX8_readTruth_14 : decode cX8_readTruth 14 = .ok (.invokevirtual 144, 3) := by decide +kernel
theorem dX8_readTruth_17 : decode cX8_readTruth 17 = .ok (.aload_n 0, 1) := by decide +kernel
theorem dX8_readTruth_18 : decode cX8_readTruth 18 = .ok (.bipush 17, 2) := by decide +kernel
theorem dX8_readTruth_20 : decode cX8_readTruth 20 = .ok (.invokevirtual 149, 3) := by decide +kernel
theorem dX8_readTruth_23 : decode cX8_readTruth 23 = .ok (.goto (-19), 3) := by decide +kernel
theorem dX8_readTruth_26 : decode cX8_readTruth 26 = .ok (.return_, 1) := by decide +kernel
theorem dX8_readBoth_0 : decode cX8_readBoth 0 = .ok (.aload_n 0, 1) := by decide +kernel
theorem dX8_readBoth_1 : decode cX8_readBoth 1 = .ok (.invokevirtual 152, 3) := by decide +kernel
theorem dX8_readBoth_4 : decode cX8_readBoth 4 = .ok (.aload_n 0, 1) := by decide +kernel
theorem dX8_readBoth_5 : decode cX8_readBoth 5 = .ok (.ldc 155, 2) := by decide +kernel
theorem dX8_readBoth_7 : decode cX8_readBoth 7 = .ok (.invokevirtual 129, 3) := by decide +kernel
theorem dX8_readBoth_10 : decode cX8_readBoth 10 = .ok (.ifCond .eq 16, 3) := by decide +kernel
theorem dX8_readBoth_13 : decode cX8_readBoth 13 = .ok (.aload_n 0, 1) := by decide +kernel
theorem dX8_readBoth_14 : decode cX8_readBoth 14 = .ok (.invokevirtual 152, 3) := by decide +kernel
theorem dX8_readBoth_17 : decode cX8_readBoth 17 = .ok (.aload_n 0, 1) := by decide +kernel
theorem dX8_readBoth_18 : decode cX8_readBoth 18 = .ok (.bipush 16, 2) := by decide +kernel
theorem dX8_readBoth_20 : decode cX8_readBoth 20 = .ok (.invokevirtual 149, 3) := by decide +kernel
theorem dX8_readBoth_23 : decode cX8_readBoth 23 = .ok (.goto (-19), 3) := by decide +kernel
theorem dX8_readBoth_26 : decode cX8_readBoth 26 = .ok (.return_, 1) := by decide +kernel
theorem dX8_readUnit_0 : decode cX8_readUnit 0 = .ok (.aload_n 0, 1) := by decide +kernel
theorem dX8_readUnit_1 : decode cX8_readUnit 1 = .ok (.getfield 99, 3) := by decide +kernel
theorem dX8_readUnit_4 : decode cX8_readUnit 4 = .ok (.ifCond .eq 4, 3) := by decide +kernel
theorem dX8_readUnit_7 : decode cX8_readUnit 7 = .ok (.return_, 1) := by decide +kernel
theorem dX8_readUnit_8 : decode cX8_readUnit 8 = .ok (.aload_n 0, 1) := by decide +kernel
theorem dX8_readUnit_9 : decode cX8_readUnit 9 = .ok (.ldc 157, 2) := by decide +kernel
theorem dX8_readUnit_11 : decode cX8_readUnit 11 = .ok (.invokevirtual 114, 3) := by decide +kernel
theorem dX8_readUnit_14 : decode cX8_readUnit 14 = .ok (.ifCond .eq 30, 3) := by decide +kernel
theorem dX8_readUnit_17 : decode cX8_readUnit 17 = .ok (.aload_n 0, 1) := by decide +kernel
theorem dX8_readUnit_18 : decode cX8_readUnit 18 = .ok (.invokevirtual 159, 3) := by decide +kernel
theorem dX8_readUnit_21 : decode cX8_readUnit 21 = .ok (.aload_n 0, 1) := by decide +kernel
theorem dX8_readUnit_22 : decode cX8_readUnit 22 = .ok (.invokevirtual 152, 3) := by decide +kernel
theorem dX8_readUnit_25 : decode cX8_readUnit 25 = .ok (.aload_n 0, 1) := by decide +kernel
theorem dX8_readUnit_26 : decode cX8_readUnit 26 = .ok (.bipush 18, 2) := by decide +kernel
theorem dX8_readUnit_28 : decode cX8_readUnit 28 = .ok (.invokevirtual 149, 3) := by decide +kernel
theorem dX8_readUnit_31 : decode cX8_readUnit 31 = .ok (.aload_n 0, 1) := by decide +kernel
theorem dX8_readUnit_32 : decode cX8_readUnit 32 = .ok (.dup, 1) := by decide +kernel
theorem dX8_readUnit_33 : decode cX8_readUnit 33 = .ok (.getfield 141, 3) := by decide +kernel
theorem dX8_readUnit_36 : decode cX8_readUnit 36 = .ok (.iconst 1, 1) := by decide +kernel
theorem dX8_readUnit_37 : decode cX8_readUnit 37 = .ok (.isub, 1) := by decide +kernel
theorem dX8_readUnit_38 : decode cX8_readUnit 38 = .ok (.putfield 141, 3) := by decide +kernel
theorem dX8_readUnit_41 : decode cX8_readUnit 41 = .ok (.goto 114, 3) := by decide +kernel
theorem dX8_readUnit_44 : decode cX8_readUnit 44 = .ok (.aload_n 0, 1) := by decide +kernel
theorem dX8_readUnit_45 : decode cX8_readUnit 45 = .ok (.bipush 91, 2) := by decide +kernel
theorem dX8_readUnit_47 : decode cX8_readUnit 47 = .ok (.invokevirtual 162, 3) := by decide +kernel
theorem dX8_readUnit_50 : decode cX8_readUnit 50 = .ok (.ifCond .eq 30, 3) := by decide +kernel
theorem dX8_readUnit_53 : decode cX8_readUnit 53 = .ok (.aload_n 0, 1) := by decide +kernel
theorem dX8_readUnit_54 : decode cX8_readUnit 54 = .ok (.invokevirtual 159, 3) := by decide +kernel
theorem dX8_readUnit_57 : decode cX8_readUnit 57 = .ok (.aload_n 0, 1) := by decide +kernel
theorem dX8_readUnit_58 : decode cX8_readUnit 58 = .ok (.invokevirtual 165, 3) := by decide +kernel
theorem dX8_readUnit_61 : decode cX8_readUnit 61 = .ok (.aload_n 0, 1) := by decide +kernel
theorem dX8_readUnit_62 : decode cX8_readUnit 62 = .ok (.bipush 93, 2) := by decide +kernel
theorem dX8_readUnit_64 : decode cX8_readUnit 64 = .ok (.invokevirtual 138, 3) := by decide +kernel
theorem dX8_readUnit_67 : decode cX8_readUnit 67 = .ok (.aload_n 0, 1) := by decide +kernel
theorem dX8_readUnit_68 : decode cX8_readUnit 68 = .ok (.dup, 1) := by decide +kernel
theorem dX8_readUnit_69 : decode cX8_readUnit 69 = .ok (.getfield 141, 3) := by decide +kernel
theorem dX8_readUnit_72 : decode cX8_readUnit 72 = .ok (.iconst 1, 1) := by decide +kernel
theorem dX8_readUnit_73 : decode cX8_readUnit 73 = .ok (.isub, 1) := by decide +kernel
theorem dX8_readUnit_74 : decode cX8_readUnit 74 = .ok (.putfield 141, 3) := by decide +kernel
theorem dX8_readUnit_77 : decode cX8_readUnit 77 = .ok (.goto 78, 3) := by decide +kernel
theorem dX8_readUnit_80 : decode cX8_readUnit 80 = .ok (.aload_n 0, 1) := by decide +kernel
theorem dX8_readUnit_81 : decode cX8_readUnit 81 = .ok (.invokevirtual 168, 3) := by decide +kernel
theorem dX8_readUnit_84 : decode cX8_readUnit 84 = .ok (.aload_n 0, 1) := by decide +kernel
theorem dX8_readUnit_85 : decode cX8_readUnit 85 = .ok (.getfield 79, 3) := by decide +kernel
theorem dX8_readUnit_88 : decode cX8_readUnit 88 = .ok (.istore_n 1, 1) := by decide +kernel
theorem dX8_readUnit_89 : decode cX8_readUnit 89 = .ok (.iload_n 1, 1) := by decide +kernel
theorem dX8_readUnit_90 : decode cX8_readUnit 90 = .ok (.bipush 61, 2) := by decide +kernel
theorem dX8_readUnit_92 : decode cX8_readUnit 92 = .ok (.if_icmp .eq 20, 3) := by decide +kernel
theorem dX8_readUnit_95 : decode cX8_readUnit 95 = .ok (.iload_n 1, 1) := by decide +kernel
theorem dX8_readUnit_96 : decode cX8_readUnit 96 = .ok (.bipush 60, 2) := by decide +kernel
theorem dX8_readUnit_98 : decode cX8_readUnit 98 = .ok (.if_icmp .eq 14, 3) := by decide +kernel
theorem dX8_readUnit_101 : decode cX8_readUnit 101 = .ok (.iload_n 1, 1) := by decide +kernel
theorem dX8_readUnit_102 : decode cX8_readUnit 102 = .ok (.bipush 62, 2) := by decide +kernel
theorem dX8_readUnit_104 : decode cX8_readUnit 104 = .ok (.if_icmp .eq 8, 3) := by decide +kernel
theorem dX8_readUnit_107 : decode cX8_readUnit 107 = .ok (.aload_n 0, 1) := by decide +kernel
theorem dX8_readUnit_108 : decode cX8_readUnit 108 = .ok (.iconst 2, 1) := by decide +kernel
theorem dX8_readUnit_109 : decode cX8_readUnit 109 = .ok (.invokevirtual 121, 3) := by decide +kernel
theorem dX8_readUnit_112 : decode cX8_readUnit 112 = .ok (.aload_n 0, 1) := by decide +kernel
theorem dX8_readUnit_113 : decode cX8_readUnit 113 = .ok (.getfield 99, 3) := by decide +kernel
theorem dX8_readUnit_116 : decode cX8_readUnit 116 = .ok (.ifCond .ne 7, 3) := by decide +kernel
theorem dX8_readUnit_119 : decode cX8_readUnit 119 = .ok (.aload_n 0, 1) := by decide +kernel
theorem dX8_readUnit_120 : decode cX8_readUnit 120 = .ok (.invokevirtual 118, 3) := by decide +kernel
theorem dX8_readUnit_123 : decode cX8_readUnit 123 = .ok (.aload_n 0, 1) := by decide +kernel
theorem dX8_readUnit_124 : decode cX8_readUnit 124 = .ok (.invokevirtual 168, 3) := by decide +kernel
theorem dX8_readUnit_127 : decode cX8_readUnit 127 = .ok (.aload_n 0, 1) := by decide +kernel
theorem dX8_readUnit_128 : decode cX8_readUnit 128 = .ok (.iload_n 1, 1) := by decide +kernel
theorem dX8_readUnit_129 : decode cX8_readUnit 129 = .ok (.bipush 61, 2) := by decide +kernel
theorem dX8_readUnit_131 : decode cX8_readUnit 131 = .ok (.if_icmp .ne 8, 3) := by decide +kernel
theorem dX8_readUnit_134 : decode cX8_readUnit 134 = .ok (.bipush 13, 2) := by decide +kernel
theorem dX8_readUnit_136 : decode cX8_readUnit 136 = .ok (.goto 16, 3) := by decide +kernel
theorem dX8_readUnit_139 : decode cX8_readUnit 139 = .ok (.iload_n 1, 1) := by decide +kernel
theorem dX8_readUnit_140 : decode cX8_readUnit 140 = .ok (.bipush 60, 2) := by decide +kernel
theorem dX8_readUnit_142 : decode cX8_readUnit 142 = .ok (.if_icmp .ne 8, 3) := by decide +kernel
theorem dX8_readUnit_145 : decode cX8_readUnit 145 = .ok (.bipush 14, 2) := by decide +kernel
theorem dX8_readUnit_147 : decode cX8_readUnit 147 = .ok (.goto 5, 3) := by decide +kernel
theorem dX8_readUnit_150 : decode cX8_readUnit 150 = .ok (.bipush 15, 2) := by decide +kernel
theorem dX8_readUnit_152 : decode cX8_readUnit 152 = .ok (.invokevirtual 149, 3) := by decide +kernel
theorem dX8_readUnit_155 : decode cX8_readUnit 155 = .ok (.return_, 1) := by decide +kernel
theorem dX8_readSum_0 : decode cX8_readSum 0 = .ok (.aload_n 0, 1) := by decide +kernel
theorem dX8_readSum_1 : decode cX8_readSum 1 = .ok (.invokevirtual 171, 3) := by decide +kernel
theorem dX8_readSum_4 : decode cX8_readSum 4 = .ok (.aload_n 0, 1) := by decide +kernel
theorem dX8_readSum_5 : decode cX8_readSum 5 = .ok (.bipush 43, 2) := by decide +kernel
theorem dX8_readSum_7 : decode cX8_readSum 7 = .ok (.invokevirtual 162, 3) := by decide +kernel
theorem dX8_readSum_10 : decode cX8_readSum 10 = .ok (.ifCond .ne 12, 3) := by decide +kernel
theorem dX8_readSum_13 : decode cX8_readSum 13 = .ok (.aload_n 0, 1) := by decide +kernel
theorem dX8_readSum_14 : decode cX8_readSum 14 = .ok (.bipush 45, 2) := by decide +kernel
theorem dX8_readSum_16 : decode cX8_readSum 16 = .ok (.invokevirtual 162, 3) := by decide +kernel
theorem dX8_readSum_19 : decode cX8_readSum 19 = .ok (.ifCond .eq 36, 3) := by decide +kernel
theorem dX8_readSum_22 : decode cX8_readSum 22 = .ok (.aload_n 0, 1) := by decide +kernel
theorem dX8_readSum_23 : decode cX8_readSum 23 = .ok (.getfield 79, 3) := by decide +kernel
theorem dX8_readSum_26 : decode cX8_readSum 26 = .ok (.istore_n 1, 1) := by decide +kernel
theorem dX8_readSum_27 : decode cX8_readSum 27 = .ok (.aload_n 0, 1) := by decide +kernel
theorem dX8_readSum_28 : decode cX8_readSum 28 = .ok (.invokevirtual 118, 3) := by decide +kernel
theorem dX8_readSum_31 : decode cX8_readSum 31 = .ok (.aload_n 0, 1) := by decide +kernel
theorem dX8_readSum_32 : decode cX8_readSum 32 = .ok (.invokevirtual 171, 3) := by decide +kernel
theorem dX8_readSum_35 : decode cX8_readSum 35 = .ok (.aload_n 0, 1) := by decide +kernel
theorem dX8_readSum_36 : decode cX8_readSum 36 = .ok (.iload_n 1, 1) := by decide +kernel
theorem dX8_readSum_37 : decode cX8_readSum 37 = .ok (.bipush 43, 2) := by decide +kernel
theorem dX8_readSum_39 : decode cX8_readSum 39 = .ok (.if_icmp .ne 8, 3) := by decide +kernel
theorem dX8_readSum_42 : decode cX8_readSum 42 = .ok (.bipush 10, 2) := by decide +kernel
theorem dX8_readSum_44 : decode cX8_readSum 44 = .ok (.goto 5, 3) := by decide +kernel
theorem dX8_readSum_47 : decode cX8_readSum 47 = .ok (.bipush 11, 2) := by decide +kernel
theorem dX8_readSum_49 : decode cX8_readSum 49 = .ok (.invokevirtual 149, 3) := by decide +kernel
theorem dX8_readSum_52 : decode cX8_readSum 52 = .ok (.goto (-48), 3) := by decide +kernel
theorem dX8_readSum_55 : decode cX8_readSum 55 = .ok (.return_, 1) := by decide +kernel
theorem dX8_readTerm_0 : decode cX8_readTerm 0 = .ok (.aload_n 0, 1) := by decide +kernel
theorem dX8_readTerm_1 : decode cX8_readTerm 1 = .ok (.invokevirtual 174, 3) := by decide +kernel
theorem dX8_readTerm_4 : decode cX8_readTerm 4 = .ok (.aload_n 0, 1) := by decide +kernel
theorem dX8_readTerm_5 : decode cX8_readTerm 5 = .ok (.bipush 42, 2) := by decide +kernel
theorem dX8_readTerm_7 : decode cX8_readTerm 7 = .ok (.invokevirtual 162, 3) := by decide +kernel
theorem dX8_readTerm_10 : decode cX8_readTerm 10 = .ok (.ifCond .eq 20, 3) := by decide +kernel
theorem dX8_readTerm_13 : decode cX8_readTerm 13 = .ok (.aload_n 0, 1) := by decide +kernel
theorem dX8_readTerm_14 : decode cX8_readTerm 14 = .ok (.invokevirtual 118, 3) := by decide +kernel
theorem dX8_readTerm_17 : decode cX8_readTerm 17 = .ok (.aload_n 0, 1) := by decide +kernel
theorem dX8_readTerm_18 : decode cX8_readTerm 18 = .ok (.invokevirtual 174, 3) := by decide +kernel
theorem dX8_readTerm_21 : decode cX8_readTerm 21 = .ok (.aload_n 0, 1) := by decide +kernel
theorem dX8_readTerm_22 : decode cX8_readTerm 22 = .ok (.bipush 12, 2) := by decide +kernel
theorem dX8_readTerm_24 : decode cX8_readTerm 24 = .ok (.invokevirtual 149, 3) := by decide +kernel
theorem dX8_readTerm_27 : decode cX8_readTerm 27 = .ok (.goto (-23), 3) := by decide +kernel
theorem dX8_readTerm_30 : decode cX8_readTerm 30 = .ok (.return_, 1) := by decide +kernel
theorem dX8_lawWord_0 : decode cX8_lawWord 0 = .ok (.aload_n 0, 1) := by decide +kernel
theorem dX8_lawWord_1 : decode cX8_lawWord 1 = .ok (.ldc 177, 2) := by decide +kernel
theorem dX8_lawWord_3 : decode cX8_lawWord 3 = .ok (.invokevirtual 129, 3) := by decide +kernel
theorem dX8_lawWord_6 : decode cX8_lawWord 6 = .ok (.ifCond .eq 5, 3) := by decide +kernel
theorem dX8_lawWord_9 : decode cX8_lawWord 9 = .ok (.iconst 0, 1) := by decide +kernel
theorem dX8_lawWord_10 : decode cX8_lawWord 10 = .ok (.ireturn, 1) := by decide +kernel
theorem dX8_lawWord_11 : decode cX8_lawWord 11 = .ok (.aload_n 0, 1) := by decide +kernel
theorem dX8_lawWord_12 : decode cX8_lawWord 12 = .ok (.getfield 135, 3) := by decide +kernel
theorem dX8_lawWord_15 : decode cX8_lawWord 15 = .ok (.iconst 5, 1) := by decide +kernel
theorem dX8_lawWord_16 : decode cX8_lawWord 16 = .ok (.if_icmp .ne 5, 3) := by decide +kernel
theorem dX8_lawWord_19 : decode cX8_lawWord 19 = .ok (.iconst (-1), 1) := by decide +kernel
theorem dX8_lawWord_20 : decode cX8_lawWord 20 = .ok (.ireturn, 1) := by decide +kernel
theorem dX8_lawWord_21 : decode cX8_lawWord 21 = .ok (.aload_n 0, 1) := by decide +kernel
theorem dX8_lawWord_22 : decode cX8_lawWord 22 = .ok (.ldc 179, 2) := by decide +kernel
theorem dX8_lawWord_24 : decode cX8_lawWord 24 = .ok (.invokevirtual 129, 3) := by decide +kernel
theorem dX8_lawWord_27 : decode cX8_lawWord 27 = .ok (.ifCond .eq 5, 3) := by decide +kernel
theorem dX8_lawWord_30 : decode cX8_lawWord 30 = .ok (.iconst 1, 1) := by decide +kernel
theorem dX8_lawWord_31 : decode cX8_lawWord 31 = .ok (.ireturn, 1) := by decide +kernel
theorem dX8_lawWord_32 : decode cX8_lawWord 32 = .ok (.aload_n 0, 1) := by decide +kernel
theorem dX8_lawWord_33 : decode cX8_lawWord 33 = .ok (.ldc 181, 2) := by decide +kernel
theorem dX8_lawWord_35 : decode cX8_lawWord 35 = .ok (.invokevirtual 129, 3) := by decide +kernel
theorem dX8_lawWord_38 : decode cX8_lawWord 38 = .ok (.ifCond .eq 5, 3) := by decide +kernel
theorem dX8_lawWord_41 : decode cX8_lawWord 41 = .ok (.iconst 2, 1) := by decide +kernel
theorem dX8_lawWord_42 : decode cX8_lawWord 42 = .ok (.ireturn, 1) := by decide +kernel
theorem dX8_lawWord_43 : decode cX8_lawWord 43 = .ok (.aload_n 0, 1) := by decide +kernel
theorem dX8_lawWord_44 : decode cX8_lawWord 44 = .ok (.getfield 135, 3) := by decide +kernel
theorem dX8_lawWord_47 : decode cX8_lawWord 47 = .ok (.bipush 6, 2) := by decide +kernel
theorem dX8_lawWord_49 : decode cX8_lawWord 49 = .ok (.if_icmp .ne 5, 3) := by decide +kernel
theorem dX8_lawWord_52 : decode cX8_lawWord 52 = .ok (.iconst (-1), 1) := by decide +kernel
theorem dX8_lawWord_53 : decode cX8_lawWord 53 = .ok (.ireturn, 1) := by decide +kernel
theorem dX8_lawWord_54 : decode cX8_lawWord 54 = .ok (.aload_n 0, 1) := by decide +kernel
theorem dX8_lawWord_55 : decode cX8_lawWord 55 = .ok (.ldc 183, 2) := by decide +kernel
theorem dX8_lawWord_57 : decode cX8_lawWord 57 = .ok (.invokevirtual 129, 3) := by decide +kernel
theorem dX8_lawWord_60 : decode cX8_lawWord 60 = .ok (.ifCond .eq 5, 3) := by decide +kernel
theorem dX8_lawWord_63 : decode cX8_lawWord 63 = .ok (.iconst 3, 1) := by decide +kernel
theorem dX8_lawWord_64 : decode cX8_lawWord 64 = .ok (.ireturn, 1) := by decide +kernel
theorem dX8_lawWord_65 : decode cX8_lawWord 65 = .ok (.aload_n 0, 1) := by decide +kernel
theorem dX8_lawWord_66 : decode cX8_lawWord 66 = .ok (.ldc 185, 2) := by decide +kernel
theorem dX8_lawWord_68 : decode cX8_lawWord 68 = .ok (.invokevirtual 129, 3) := by decide +kernel
theorem dX8_lawWord_71 : decode cX8_lawWord 71 = .ok (.ifCond .eq 7, 3) := by decide +kernel
theorem dX8_lawWord_74 : decode cX8_lawWord 74 = .ok (.iconst 4, 1) := by decide +kernel
theorem dX8_lawWord_75 : decode cX8_lawWord 75 = .ok (.goto 4, 3) := by decide +kernel
theorem dX8_lawWord_78 : decode cX8_lawWord 78 = .ok (.iconst (-1), 1) := by decide +kernel
theorem dX8_lawWord_79 : decode cX8_lawWord 79 = .ok (.ireturn, 1) := by decide +kernel
theorem dX8_readAtom_0 : decode cX8_readAtom 0 = .ok (.aload_n 0, 1) := by decide +kernel
theorem dX8_readAtom_1 : decode cX8_readAtom 1 = .ok (.getfield 99, 3) := by decide +kernel
theorem dX8_readAtom_4 : decode cX8_readAtom 4 = .ok (.ifCond .eq 4, 3) := by decide +kernel
theorem dX8_readAtom_7 : decode cX8_readAtom 7 = .ok (.return_, 1) := by decide +kernel
theorem dX8_readAtom_8 : decode cX8_readAtom 8 = .ok (.aload_n 0, 1) := by decide +kernel
theorem dX8_readAtom_9 : decode cX8_readAtom 9 = .ok (.invokevirtual 187, 3) := by decide +kernel
theorem dX8_readAtom_12 : decode cX8_readAtom 12 = .ok (.istore_n 1, 1) := by decide +kernel
theorem dX8_readAtom_13 : decode cX8_readAtom 13 = .ok (.iload_n 1, 1) := by decide +kernel
theorem dX8_readAtom_14 : decode cX8_readAtom 14 = .ok (.iconst (-1), 1) := by decide +kernel
theorem dX8_readAtom_15 : decode cX8_readAtom 15 = .ok (.if_icmp .eq 14, 3) := by decide +kernel
theorem dX8_readAtom_18 : decode cX8_readAtom 18 = .ok (.aload_n 0, 1) := by decide +kernel
theorem dX8_readAtom_19 : decode cX8_readAtom 19 = .ok (.bipush 100, 2) := by decide +kernel
theorem dX8_readAtom_21 : decode cX8_readAtom 21 = .ok (.iload_n 1, 1) := by decide +kernel
theorem dX8_readAtom_22 : decode cX8_readAtom 22 = .ok (.iadd, 1) := by decide +kernel
theorem dX8_readAtom_23 : decode cX8_readAtom 23 = .ok (.invokevirtual 149, 3) := by decide +kernel
theorem dX8_readAtom_26 : decode cX8_readAtom 26 = .ok (.goto 57, 3) := by decide +kernel
theorem dX8_readAtom_29 : decode cX8_readAtom 29 = .ok (.aload_n 0, 1) := by decide +kernel
theorem dX8_readAtom_30 : decode cX8_readAtom 30 = .ok (.bipush 40, 2) := by decide +kernel
theorem dX8_readAtom_32 : decode cX8_readAtom 32 = .ok (.invokevirtual 162, 3) := by decide +kernel
theorem dX8_readAtom_35 : decode cX8_readAtom 35 = .ok (.ifCond .eq 30, 3) := by decide +kernel
theorem dX8_readAtom_38 : decode cX8_readAtom 38 = .ok (.aload_n 0, 1) := by decide +kernel
theorem dX8_readAtom_39 : decode cX8_readAtom 39 = .ok (.invokevirtual 159, 3) := by decide +kernel
theorem dX8_readAtom_42 : decode cX8_readAtom 42 = .ok (.aload_n 0, 1) := by decide +kernel
theorem dX8_readAtom_43 : decode cX8_readAtom 43 = .ok (.invokevirtual 168, 3) := by decide +kernel
theorem dX8_readAtom_46 : decode cX8_readAtom 46 = .ok (.aload_n 0, 1) := by decide +kernel
theorem dX8_readAtom_47 : decode cX8_readAtom 47 = .ok (.bipush 41, 2) := by decide +kernel
theorem dX8_readAtom_49 : decode cX8_readAtom 49 = .ok (.invokevirtual 138, 3) := by decide +kernel
theorem dX8_readAtom_52 : decode cX8_readAtom 52 = .ok (.aload_n 0, 1) := by decide +kernel
theorem dX8_readAtom_53 : decode cX8_readAtom 53 = .ok (.dup, 1) := by decide +kernel
theorem dX8_readAtom_54 : decode cX8_readAtom 54 = .ok (.getfield 141, 3) := by decide +kernel
theorem dX8_readAtom_57 : decode cX8_readAtom 57 = .ok (.iconst 1, 1) := by decide +kernel
theorem dX8_readAtom_58 : decode cX8_readAtom 58 = .ok (.isub, 1) := by decide +kernel
theorem dX8_readAtom_59 : decode cX8_readAtom 59 = .ok (.putfield 141, 3) := by decide +kernel
theorem dX8_readAtom_62 : decode cX8_readAtom 62 = .ok (.goto 21, 3) := by decide +kernel
theorem dX8_readAtom_65 : decode cX8_readAtom 65 = .ok (.aload_n 0, 1) := by decide +kernel
theorem dX8_readAtom_66 : decode cX8_readAtom 66 = .ok (.iconst 0, 1) := by decide +kernel
theorem dX8_readAtom_67 : decode cX8_readAtom 67 = .ok (.sipush 999, 3) := by decide +kernel
theorem dX8_readAtom_70 : decode cX8_readAtom 70 = .ok (.invokevirtual 190, 3) := by decide +kernel
theorem dX8_readAtom_73 : decode cX8_readAtom 73 = .ok (.istore_n 2, 1) := by decide +kernel
theorem dX8_readAtom_74 : decode cX8_readAtom 74 = .ok (.aload_n 0, 1) := by decide +kernel
theorem dX8_readAtom_75 : decode cX8_readAtom 75 = .ok (.sipush 1000, 3) := by decide +kernel
theorem dX8_readAtom_78 : decode cX8_readAtom 78 = .ok (.iload_n 2, 1) := by decide +kernel
theorem dX8_readAtom_79 : decode cX8_readAtom 79 = .ok (.iadd, 1) := by decide +kernel
theorem dX8_readAtom_80 : decode cX8_readAtom 80 = .ok (.invokevirtual 149, 3) := by decide +kernel
theorem dX8_readAtom_83 : decode cX8_readAtom 83 = .ok (.return_, 1) := by decide +kernel
theorem dX8_isSeatTold_0 : decode cX8_isSeatTold 0 = .ok (.iconst 0, 1) := by decide +kernel
theorem dX8_isSeatTold_1 : decode cX8_isSeatTold 1 = .ok (.istore_n 3, 1) := by decide +kernel
theorem dX8_isSeatTold_2 : decode cX8_isSeatTold 2 = .ok (.iload_n 3, 1) := by decide +kernel
theorem dX8_isSeatTold_3 : decode cX8_isSeatTold 3 = .ok (.aload_n 0, 1) := by decide +kernel
theorem dX8_isSeatTold_4 : decode cX8_isSeatTold 4 = .ok (.getfield 13, 3) := by decide +kernel
theorem dX8_isSeatTold_7 : decode cX8_isSeatTold 7 = .ok (.iconst 3, 1) := by decide +kernel
theorem dX8_isSeatTold_8 : decode cX8_isSeatTold 8 = .ok (.iaload, 1) := by decide +kernel
theorem dX8_isSeatTold_9 : decode cX8_isSeatTold 9 = .ok (.if_icmp .ge 37, 3) := by decide +kernel
theorem dX8_isSeatTold_12 : decode cX8_isSeatTold 12 = .ok (.aload_n 0, 1) := by decide +kernel
theorem dX8_isSeatTold_13 : decode cX8_isSeatTold 13 = .ok (.getfield 13, 3) := by decide +kernel
theorem dX8_isSeatTold_16 : decode cX8_isSeatTold 16 = .ok (.bipush 8, 2) := by decide +kernel
theorem dX8_isSeatTold_18 : decode cX8_isSeatTold 18 = .ok (.iload_n 3, 1) := by decide +kernel
theorem dX8_isSeatTold_19 : decode cX8_isSeatTold 19 = .ok (.iadd, 1) := by decide +kernel
theorem dX8_isSeatTold_20 : decode cX8_isSeatTold 20 = .ok (.iaload, 1) := by decide +kernel
theorem dX8_isSeatTold_21 : decode cX8_isSeatTold 21 = .ok (.iload_n 1, 1) := by decide +kernel
theorem dX8_isSeatTold_22 : decode cX8_isSeatTold 22 = .ok (.if_icmp .ne 18, 3) := by decide +kernel
theorem dX8_isSeatTold_25 : decode cX8_isSeatTold 25 = .ok (.aload_n 0, 1) := by decide +kernel
theorem dX8_isSeatTold_26 : decode cX8_isSeatTold 26 = .ok (.getfield 13, 3) := by decide +kernel
theorem dX8_isSeatTold_29 : decode cX8_isSeatTold 29 = .ok (.bipush 16, 2) := by decide +kernel
theorem dX8_isSeatTold_31 : decode cX8_isSeatTold 31 = .ok (.iload_n 3, 1) := by decide +kernel
theorem dX8_isSeatTold_32 : decode cX8_isSeatTold 32 = .ok (.iadd, 1) := by decide +kernel
theorem dX8_isSeatTold_33 : decode cX8_isSeatTold 33 = .ok (.iaload, 1) := by decide +kernel
theorem dX8_isSeatTold_34 : decode cX8_isSeatTold 34 = .ok (.iload_n 2, 1) := by decide +kernel
theorem dX8_isSeatTold_35 : decode cX8_isSeatTold 35 = .ok (.if_icmp .ne 5, 3) := by decide +kernel
theorem dX8_isSeatTold_38 : decode cX8_isSeatTold 38 = .ok (.iconst 1, 1) := by decide +kernel
theorem dX8_isSeatTold_39 : decode cX8_isSeatTold 39 = .ok (.ireturn, 1) := by decide +kernel
theorem dX8_isSeatTold_40 : decode cX8_isSeatTold 40 = .ok (.iinc 3 1, 3) := by decide +kernel
theorem dX8_isSeatTold_43 : decode cX8_isSeatTold 43 = .ok (.goto (-41), 3) := by decide +kernel
theorem dX8_isSeatTold_46 : decode cX8_isSeatTold 46 = .ok (.iconst 0, 1) := by decide +kernel
theorem dX8_isSeatTold_47 : decode cX8_isSeatTold 47 = .ok (.ireturn, 1) := by decide +kernel
theorem dX8_readPerson_0 : decode cX8_readPerson 0 = .ok (.aload_n 0, 1) := by decide +kernel
theorem dX8_readPerson_1 : decode cX8_readPerson 1 = .ok (.getfield 13, 3) := by decide +kernel
theorem dX8_readPerson_4 : decode cX8_readPerson 4 = .ok (.iconst 3, 1) := by decide +kernel
theorem dX8_readPerson_5 : decode cX8_readPerson 5 = .ok (.iaload, 1) := by decide +kernel
theorem dX8_readPerson_6 : decode cX8_readPerson 6 = .ok (.bipush 8, 2) := by decide +kernel
theorem dX8_readPerson_8 : decode cX8_readPerson 8 = .ok (.if_icmp .ne 8, 3) := by decide +kernel
theorem dX8_readPerson_11 : decode cX8_readPerson 11 = .ok (.aload_n 0, 1) := by decide +kernel
theorem dX8_readPerson_12 : decode cX8_readPerson 12 = .ok (.iconst 4, 1) := by decide +kernel
theorem dX8_readPerson_13 : decode cX8_readPerson 13 = .ok (.invokevirtual 121, 3) := by decide +kernel
theorem dX8_readPerson_16 : decode cX8_readPerson 16 = .ok (.aload_n 0, 1) := by decide +kernel
theorem dX8_readPerson_17 : decode cX8_readPerson 17 = .ok (.getfield 99, 3) := by decide +kernel
theorem dX8_readPerson_20 : decode cX8_readPerson 20 = .ok (.ifCond .ne 7, 3) := by decide +kernel
theorem dX8_readPerson_23 : decode cX8_readPerson 23 = .ok (.aload_n 0, 1) := by decide +kernel
theorem dX8_readPerson_24 : decode cX8_readPerson 24 = .ok (.invokevirtual 118, 3) := by decide +kernel
theorem dX8_readPerson_27 : decode cX8_readPerson 27 = .ok (.aload_n 0, 1) := by decide +kernel
theorem dX8_readPerson_28 : decode cX8_readPerson 28 = .ok (.getfield 99, 3) := by decide +kernel
theorem dX8_readPerson_31 : decode cX8_readPerson 31 = .ok (.ifCond .eq 4, 3) := by decide +kernel
theorem dX8_readPerson_34 : decode cX8_readPerson 34 = .ok (.return_, 1) := by decide +kernel
theorem dX8_readPerson_35 : decode cX8_readPerson 35 = .ok (.aload_n 0, 1) := by decide +kernel
theorem dX8_readPerson_36 : decode cX8_readPerson 36 = .ok (.getfield 13, 3) := by decide +kernel
theorem dX8_readPerson_39 : decode cX8_readPerson 39 = .ok (.iconst 3, 1) := by decide +kernel
theorem dX8_readPerson_40 : decode cX8_readPerson 40 = .ok (.iaload, 1) := by decide +kernel
theorem dX8_readPerson_41 : decode cX8_readPerson 41 = .ok (.istore_n 1, 1) := by decide +kernel
theorem dX8_readPerson_42 : decode cX8_readPerson 42 = .ok (.aload_n 0, 1) := by decide +kernel
theorem dX8_readPerson_43 : decode cX8_readPerson 43 = .ok (.ldc 194, 2) := by decide +kernel
theorem dX8_readPerson_45 : decode cX8_readPerson 45 = .ok (.invokevirtual 196, 3) := by decide +kernel
theorem dX8_readPerson_48 : decode cX8_readPerson 48 = .ok (.aload_n 0, 1) := by decide +kernel
theorem dX8_readPerson_49 : decode cX8_readPerson 49 = .ok (.iconst 0, 1) := by decide +kernel
theorem dX8_readPerson_50 : decode cX8_readPerson 50 = .ok (.aload_n 0, 1) := by decide +kernel
theorem dX8_readPerson_51 : decode cX8_readPerson 51 = .ok (.getfield 13, 3) := by decide +kernel
theorem dX8_readPerson_54 : decode cX8_readPerson 54 = .ok (.iconst 1, 1) := by decide +kernel
theorem dX8_readPerson_55 : decode cX8_readPerson 55 = .ok (.iaload, 1) := by decide +kernel
theorem dX8_readPerson_56 : decode cX8_readPerson 56 = .ok (.iconst 1, 1) := by decide +kernel
theorem dX8_readPerson_57 : decode cX8_readPerson 57 = .ok (.isub, 1) := by decide +kernel
theorem dX8_readPerson_58 : decode cX8_readPerson 58 = .ok (.invokevirtual 190, 3) := by decide +kernel
theorem dX8_readPerson_61 : decode cX8_readPerson 61 = .ok (.istore_n 2, 1) := by decide +kernel
theorem dX8_readPerson_62 : decode cX8_readPerson 62 = .ok (.aload_n 0, 1) := by decide +kernel
theorem dX8_readPerson_63 : decode cX8_readPerson 63 = .ok (.getfield 99, 3) := by decide +kernel
theorem dX8_readPerson_66 : decode cX8_readPerson 66 = .ok (.ifCond .ne 28, 3) := by decide +kernel
theorem dX8_readPerson_69 : decode cX8_readPerson 69 = .ok (.aload_n 0, 1) := by decide +kernel
theorem dX8_readPerson_70 : decode cX8_readPerson 70 = .ok (.getfield 79, 3) := by decide +kernel
theorem dX8_readPerson_73 : decode cX8_readPerson 73 = .ok (.iconst 2, 1) := by decide +kernel
theorem dX8_readPerson_74 : decode cX8_readPerson 74 = .ok (.if_icmp .ne 20, 3) := by decide +kernel
theorem dX8_readPerson_77 : decode cX8_readPerson 77 = .ok (.aload_n 0, 1) := by decide +kernel
theorem dX8_readPerson_78 : decode cX8_readPerson 78 = .ok (.iload_n 2, 1) := by decide +kernel
theorem dX8_readPerson_79 : decode cX8_readPerson 79 = .ok (.aload_n 0, 1) := by decide +kernel
theorem dX8_readPerson_80 : decode cX8_readPerson 80 = .ok (.getfield 93, 3) := by decide +kernel
theorem dX8_readPerson_83 : decode cX8_readPerson 83 = .ok (.invokevirtual 200, 3) := by decide +kernel
theorem dX8_readPerson_86 : decode cX8_readPerson 86 = .ok (.ifCond .eq 8, 3) := by decide +kernel
theorem dX8_readPerson_89 : decode cX8_readPerson 89 = .ok (.aload_n 0, 1) := by decide +kernel
theorem dX8_readPerson_90 : decode cX8_readPerson 90 = .ok (.iconst 3, 1) := by decide +kernel
theorem dX8_readPerson_91 : decode cX8_readPerson 91 = .ok (.invokevirtual 121, 3) := by decide +kernel
theorem dX8_readPerson_94 : decode cX8_readPerson 94 = .ok (.aload_n 0, 1) := by decide +kernel
theorem dX8_readPerson_95 : decode cX8_readPerson 95 = .ok (.iconst 0, 1) := by decide +kernel
theorem dX8_readPerson_96 : decode cX8_readPerson 96 = .ok (.aload_n 0, 1) := by decide +kernel
theorem dX8_readPerson_97 : decode cX8_readPerson 97 = .ok (.getfield 13, 3) := by decide +kernel
theorem dX8_readPerson_100 : decode cX8_readPerson 100 = .ok (.iconst 2, 1) := by decide +kernel
theorem dX8_readPerson_101 : decode cX8_readPerson 101 = .ok (.iaload, 1) := by decide +kernel
theorem dX8_readPerson_102 : decode cX8_readPerson 102 = .ok (.iconst 1, 1) := by decide +kernel
theorem dX8_readPerson_103 : decode cX8_readPerson 103 = .ok (.isub, 1) := by decide +kernel
theorem dX8_readPerson_104 : decode cX8_readPerson 104 = .ok (.invokevirtual 190, 3) := by decide +kernel
theorem dX8_readPerson_107 : decode cX8_readPerson 107 = .ok (.istore_n 3, 1) := by decide +kernel
theorem dX8_readPerson_108 : decode cX8_readPerson 108 = .ok (.aload_n 0, 1) := by decide +kernel
theorem dX8_readPerson_109 : decode cX8_readPerson 109 = .ok (.getfield 13, 3) := by decide +kernel
theorem dX8_readPerson_112 : decode cX8_readPerson 112 = .ok (.bipush 34, 2) := by decide +kernel
theorem dX8_readPerson_114 : decode cX8_readPerson 114 = .ok (.iload_n 1, 1) := by decide +kernel
theorem dX8_readPerson_115 : decode cX8_readPerson 115 = .ok (.iadd, 1) := by decide +kernel
theorem dX8_readPerson_116 : decode cX8_readPerson 116 = .ok (.iconst 0, 1) := by decide +kernel
theorem dX8_readPerson_117 : decode cX8_readPerson 117 = .ok (.iastore, 1) := by decide +kernel
theorem dX8_readPerson_118 : decode cX8_readPerson 118 = .ok (.aload_n 0, 1) := by decide +kernel
theorem dX8_readPerson_119 : decode cX8_readPerson 119 = .ok (.getfield 13, 3) := by decide +kernel
theorem dX8_readPerson_122 : decode cX8_readPerson 122 = .ok (.bipush 43, 2) := by decide +kernel
theorem dX8_readPerson_124 : decode cX8_readPerson 124 = .ok (.iload_n 1, 1) := by decide +kernel
theorem dX8_readPerson_125 : decode cX8_readPerson 125 = .ok (.iadd, 1) := by decide +kernel
theorem dX8_readPerson_126 : decode cX8_readPerson 126 = .ok (.iconst (-1), 1) := by decide +kernel
theorem dX8_readPerson_127 : decode cX8_readPerson 127 = .ok (.iastore, 1) := by decide +kernel
theorem dX8_readPerson_128 : decode cX8_readPerson 128 = .ok (.aload_n 0, 1) := by decide +kernel
theorem dX8_readPerson_129 : decode cX8_readPerson 129 = .ok (.getfield 13, 3) := by decide +kernel
theorem dX8_readPerson_132 : decode cX8_readPerson 132 = .ok (.bipush 51, 2) := by decide +kernel
theorem dX8_readPerson_134 : decode cX8_readPerson 134 = .ok (.iload_n 1, 1) := by decide +kernel
theorem dX8_readPerson_135 : decode cX8_readPerson 135 = .ok (.iadd, 1) := by decide +kernel
theorem dX8_readPerson_136 : decode cX8_readPerson 136 = .ok (.iconst (-1), 1) := by decide +kernel
theorem dX8_readPerson_137 : decode cX8_readPerson 137 = .ok (.iastore, 1) := by decide +kernel
theorem dX8_readPerson_138 : decode cX8_readPerson 138 = .ok (.iconst 1, 1) := by decide +kernel
theorem dX8_readPerson_139 : decode cX8_readPerson 139 = .ok (.istore 4, 2) := by decide +kernel
theorem dX8_readPerson_141 : decode cX8_readPerson 141 = .ok (.aload_n 0, 1) := by decide +kernel
theorem dX8_readPerson_142 : decode cX8_readPerson 142 = .ok (.getfield 99, 3) := by decide +kernel
theorem dX8_readPerson_145 : decode cX8_readPerson 145 = .ok (.ifCond .ne 84, 3) := by decide +kernel
theorem dX8_readPerson_148 : decode cX8_readPerson 148 = .ok (.iload 4, 2) := by decide +kernel
theorem dX8_readPerson_150 : decode cX8_readPerson 150 = .ok (.ifCond .eq 79, 3) := by decide +kernel
theorem dX8_readPerson_153 : decode cX8_readPerson 153 = .ok (.aload_n 0, 1) := by decide +kernel
theorem dX8_readPerson_154 : decode cX8_readPerson 154 = .ok (.ldc 185, 2) := by decide +kernel
theorem dX8_readPerson_156 : decode cX8_readPerson 156 = .ok (.invokevirtual 129, 3) := by decide +kernel
theorem dX8_readPerson_159 : decode cX8_readPerson 159 = .ok (.ifCond .eq 22, 3) := by decide +kernel
theorem dX8_readPerson_162 : decode cX8_readPerson 162 = .ok (.aload_n 0, 1) := by decide +kernel
theorem dX8_readPerson_163 : decode cX8_readPerson 163 = .ok (.getfield 13, 3) := by decide +kernel
theorem dX8_readPerson_166 : decode cX8_readPerson 166 = .ok (.bipush 34, 2) := by decide +kernel
theorem dX8_readPerson_168 : decode cX8_readPerson 168 = .ok (.iload_n 1, 1) := by decide +kernel
theorem dX8_readPerson_169 : decode cX8_readPerson 169 = .ok (.iadd, 1) := by decide +kernel
theorem dX8_readPerson_170 : decode cX8_readPerson 170 = .ok (.aload_n 0, 1) := by decide +kernel
theorem dX8_readPerson_171 : decode cX8_readPerson 171 = .ok (.iconst 0, 1) := by decide +kernel
theorem dX8_readPerson_172 : decode cX8_readPerson 172 = .ok (.bipush 99, 2) := by decide +kernel
theorem dX8_readPerson_174 : decode cX8_readPerson 174 = .ok (.invokevirtual 190, 3) := by decide +kernel
theorem dX8_readPerson_177 : decode cX8_readPerson 177 = .ok (.iastore, 1) := by decide +kernel
theorem dX8_readPerson_178 : decode cX8_readPerson 178 = .ok (.goto (-37), 3) := by decide +kernel
theorem dX8_readPerson_181 : decode cX8_readPerson 181 = .ok (.aload_n 0, 1) := by decide +kernel
theorem dX8_readPerson_182 : decode cX8_readPerson 182 = .ok (.ldc 204, 2) := by decide +kernel
theorem dX8_readPerson_184 : decode cX8_readPerson 184 = .ok (.invokevirtual 129, 3) := by decide +kernel
theorem dX8_readPerson_187 : decode cX8_readPerson 187 = .ok (.ifCond .eq 19, 3) := by decide +kernel
theorem dX8_readPerson_190 : decode cX8_readPerson 190 = .ok (.aload_n 0, 1) := by decide +kernel
theorem dX8_readPerson_191 : decode cX8_readPerson 191 = .ok (.getfield 13, 3) := by decide +kernel
theorem dX8_readPerson_194 : decode cX8_readPerson 194 = .ok (.bipush 42, 2) := by decide +kernel
theorem dX8_readPerson_196 : decode cX8_readPerson 196 = .ok (.dup2, 1) := by decide +kernel
theorem dX8_readPerson_197 : decode cX8_readPerson 197 = .ok (.iaload, 1) := by decide +kernel
theorem dX8_readPerson_198 : decode cX8_readPerson 198 = .ok (.iconst 1, 1) := by decide +kernel
theorem dX8_readPerson_199 : decode cX8_readPerson 199 = .ok (.iload_n 1, 1) := by decide +kernel
theorem dX8_readPerson_200 : decode cX8_readPerson 200 = .ok (.ishl, 1) := by decide +kernel
theorem dX8_readPerson_201 : decode cX8_readPerson 201 = .ok (.ior, 1) := by decide +kernel
theorem dX8_readPerson_202 : decode cX8_readPerson 202 = .ok (.iastore, 1) := by decide +kernel
theorem dX8_readPerson_203 : decode cX8_readPerson 203 = .ok (.goto (-62), 3) := by decide +kernel
theorem dX8_readPerson_206 : decode cX8_readPerson 206 = .ok (.aload_n 0, 1) := by decide +kernel
theorem dX8_readPerson_207 : decode cX8_readPerson 207 = .ok (.ldc 206, 2) := by decide +kernel
theorem dX8_readPerson_209 : decode cX8_readPerson 209 = .ok (.invokevirtual 129, 3) := by decide +kernel
theorem dX8_readPerson_212 : decode cX8_readPerson 212 = .ok (.ifCond .eq 11, 3) := by decide +kernel
theorem dX8_readPerson_215 : decode cX8_readPerson 215 = .ok (.aload_n 0, 1) := by decide +kernel
theorem dX8_readPerson_216 : decode cX8_readPerson 216 = .ok (.iload_n 1, 1) := by decide +kernel
theorem dX8_readPerson_217 : decode cX8_readPerson 217 = .ok (.invokevirtual 208, 3) := by decide +kernel
theorem dX8_readPerson_220 : decode cX8_readPerson 220 = .ok (.goto (-79), 3) := by decide +kernel
theorem dX8_readPerson_223 : decode cX8_readPerson 223 = .ok (.iconst 0, 1) := by decide +kernel
theorem dX8_readPerson_224 : decode cX8_readPerson 224 = .ok (.istore 4, 2) := by decide +kernel
theorem dX8_readPerson_226 : decode cX8_readPerson 226 = .ok (.goto (-85), 3) := by decide +kernel
theorem dX8_readPerson_229 : decode cX8_readPerson 229 = .ok (.aload_n 0, 1) := by decide +kernel
theorem dX8_readPerson_230 : decode cX8_readPerson 230 = .ok (.getfield 99, 3) := by decide +kernel
theorem dX8_readPerson_233 : decode cX8_readPerson 233 = .ok (.ifCond .eq 4, 3) := by decide +kernel
theorem dX8_readPerson_236 : decode cX8_readPerson 236 = .ok (.return_, 1) := by decide +kernel
theorem dX8_readPerson_237 : decode cX8_readPerson 237 = .ok (.aload_n 0, 1) := by decide +kernel
theorem dX8_readPerson_238 : decode cX8_readPerson 238 = .ok (.getfield 13, 3) := by decide +kernel
theorem dX8_readPerson_241 : decode cX8_readPerson 241 = .ok (.bipush 8, 2) := by decide +kernel
theorem dX8_readPerson_243 : decode cX8_readPerson 243 = .ok (.iload_n 1, 1) := by decide +kernel
theorem dX8_readPerson_244 : decode cX8_readPerson 244 = .ok (.iadd, 1) := by decide +kernel
theorem dX8_readPerson_245 : decode cX8_readPerson 245 = .ok (.iload_n 2, 1) := by decide +kernel
theorem dX8_readPerson_246 : decode cX8_readPerson 246 = .ok (.iastore, 1) := by decide +kernel
theorem dX8_readPerson_247 : decode cX8_readPerson 247 = .ok (.aload_n 0, 1) := by decide +kernel
theorem dX8_readPerson_248 : decode cX8_readPerson 248 = .ok (.getfield 13, 3) := by decide +kernel
theorem dX8_readPerson_251 : decode cX8_readPerson 251 = .ok (.bipush 16, 2) := by decide +kernel
theorem dX8_readPerson_253 : decode cX8_readPerson 253 = .ok (.iload_n 1, 1) := by decide +kernel
theorem dX8_readPerson_254 : decode cX8_readPerson 254 = .ok (.iadd, 1) := by decide +kernel
theorem dX8_readPerson_255 : decode cX8_readPerson 255 = .ok (.iload_n 3, 1) := by decide +kernel
theorem dX8_readPerson_256 : decode cX8_readPerson 256 = .ok (.iastore, 1) := by decide +kernel
theorem dX8_readPerson_257 : decode cX8_readPerson 257 = .ok (.aload_n 0, 1) := by decide +kernel
theorem dX8_readPerson_258 : decode cX8_readPerson 258 = .ok (.getfield 13, 3) := by decide +kernel
theorem dX8_readPerson_261 : decode cX8_readPerson 261 = .ok (.bipush 24, 2) := by decide +kernel
theorem dX8_readPerson_263 : decode cX8_readPerson 263 = .ok (.iload_n 1, 1) := by decide +kernel
theorem dX8_readPerson_264 : decode cX8_readPerson 264 = .ok (.iadd, 1) := by decide +kernel
theorem dX8_readPerson_265 : decode cX8_readPerson 265 = .ok (.iconst (-1), 1) := by decide +kernel
theorem dX8_readPerson_266 : decode cX8_readPerson 266 = .ok (.iastore, 1) := by decide +kernel
theorem dX8_readPerson_267 : decode cX8_readPerson 267 = .ok (.aload_n 0, 1) := by decide +kernel
theorem dX8_readPerson_268 : decode cX8_readPerson 268 = .ok (.getfield 13, 3) := by decide +kernel
theorem dX8_readPerson_271 : decode cX8_readPerson 271 = .ok (.iconst 3, 1) := by decide +kernel
theorem dX8_readPerson_272 : decode cX8_readPerson 272 = .ok (.dup2, 1) := by decide +kernel
theorem dX8_readPerson_273 : decode cX8_readPerson 273 = .ok (.iaload, 1) := by decide +kernel
theorem dX8_readPerson_274 : decode cX8_readPerson 274 = .ok (.iconst 1, 1) := by decide +kernel
theorem dX8_readPerson_275 : decode cX8_readPerson 275 = .ok (.iadd, 1) := by decide +kernel
theorem dX8_readPerson_276 : decode cX8_readPerson 276 = .ok (.iastore, 1) := by decide +kernel
theorem dX8_readPerson_277 : decode cX8_readPerson 277 = .ok (.return_, 1) := by decide +kernel
theorem dX8_readPlan_0 : decode cX8_readPlan 0 = .ok (.aload_n 0, 1) := by decide +kernel
theorem dX8_readPlan_1 : decode cX8_readPlan 1 = .ok (.getfield 13, 3) := by decide +kernel
theorem dX8_readPlan_4 : decode cX8_readPlan 4 = .ok (.bipush 43, 2) := by decide +kernel
theorem dX8_readPlan_6 : decode cX8_readPlan 6 = .ok (.iload_n 1, 1) := by decide +kernel
theorem dX8_readPlan_7 : decode cX8_readPlan 7 = .ok (.iadd, 1) := by decide +kernel
theorem dX8_readPlan_8 : decode cX8_readPlan 8 = .ok (.aload_n 0, 1) := by decide +kernel
theorem dX8_readPlan_9 : decode cX8_readPlan 9 = .ok (.iconst 0, 1) := by decide +kernel
theorem dX8_readPlan_10 : decode cX8_readPlan 10 = .ok (.sipush 999, 3) := by decide +kernel
theorem dX8_readPlan_13 : decode cX8_readPlan 13 = .ok (.invokevirtual 190, 3) := by decide +kernel
theorem dX8_readPlan_16 : decode cX8_readPlan 16 = .ok (.iastore, 1) := by decide +kernel
theorem dX8_readPlan_17 : decode cX8_readPlan 17 = .ok (.aload_n 0, 1) := by decide +kernel
theorem dX8_readPlan_18 : decode cX8_readPlan 18 = .ok (.ldc 211, 2) := by decide +kernel
theorem dX8_readPlan_20 : decode cX8_readPlan 20 = .ok (.invokevirtual 196, 3) := by decide +kernel
theorem dX8_readPlan_23 : decode cX8_readPlan 23 = .ok (.aload_n 0, 1) := by decide +kernel
theorem dX8_readPlan_24 : decode cX8_readPlan 24 = .ok (.getfield 13, 3) := by decide +kernel
theorem dX8_readPlan_27 : decode cX8_readPlan 27 = .ok (.bipush 51, 2) := by decide +kernel
theorem dX8_readPlan_29 : decode cX8_readPlan 29 = .ok (.iload_n 1, 1) := by decide +kernel
theorem dX8_readPlan_30 : decode cX8_readPlan 30 = .ok (.iadd, 1) := by decide +kernel
theorem dX8_readPlan_31 : decode cX8_readPlan 31 = .ok (.aload_n 0, 1) := by decide +kernel
theorem dX8_readPlan_32 : decode cX8_readPlan 32 = .ok (.iconst 1, 1) := by decide +kernel
theorem dX8_readPlan_33 : decode cX8_readPlan 33 = .ok (.bipush 99, 2) := by decide +kernel
theorem dX8_readPlan_35 : decode cX8_readPlan 35 = .ok (.invokevirtual 190, 3) := by decide +kernel
theorem dX8_readPlan_38 : decode cX8_readPlan 38 = .ok (.iastore, 1) := by decide +kernel
theorem dX8_readPlan_39 : decode cX8_readPlan 39 = .ok (.return_, 1) := by decide +kernel
theorem dX8_readStop_0 : decode cX8_readStop 0 = .ok (.aload_n 0, 1) := by decide +kernel
theorem dX8_readStop_1 : decode cX8_readStop 1 = .ok (.bipush 59, 2) := by decide +kernel
theorem dX8_readStop_3 : decode cX8_readStop 3 = .ok (.invokevirtual 138, 3) := by decide +kernel
theorem dX8_readStop_6 : decode cX8_readStop 6 = .ok (.aload_n 0, 1) := by decide +kernel
theorem dX8_readStop_7 : decode cX8_readStop 7 = .ok (.getfield 99, 3) := by decide +kernel
theorem dX8_readStop_10 : decode cX8_readStop 10 = .ok (.ifCond .ne 13, 3) := by decide +kernel
theorem dX8_readStop_13 : decode cX8_readStop 13 = .ok (.aload_n 0, 1) := by decide +kernel
theorem dX8_readStop_14 : decode cX8_readStop 14 = .ok (.getfield 13, 3) := by decide +kernel
theorem dX8_readStop_17 : decode cX8_readStop 17 = .ok (.iconst 0, 1) := by decide +kernel
theorem dX8_readStop_18 : decode cX8_readStop 18 = .ok (.dup2, 1) := by decide +kernel
theorem dX8_readStop_19 : decode cX8_readStop 19 = .ok (.iaload, 1) := by decide +kernel
theorem dX8_readStop_20 : decode cX8_readStop 20 = .ok (.iconst 1, 1) := by decide +kernel
theorem dX8_readStop_21 : decode cX8_readStop 21 = .ok (.iadd, 1) := by decide +kernel
theorem dX8_readStop_22 : decode cX8_readStop 22 = .ok (.iastore, 1) := by decide +kernel
theorem dX8_readStop_23 : decode cX8_readStop 23 = .ok (.return_, 1) := by decide +kernel
theorem dX8_readLine_0 : decode cX8_readLine 0 = .ok (.aload_n 0, 1) := by decide +kernel
theorem dX8_readLine_1 : decode cX8_readLine 1 = .ok (.ldc 213, 2) := by decide +kernel
theorem dX8_readLine_3 : decode cX8_readLine 3 = .ok (.invokevirtual 114, 3) := by decide +kernel
theorem dX8_readLine_6 : decode cX8_readLine 6 = .ok (.ifCond .eq 10, 3) := by decide +kernel
theorem dX8_readLine_9 : decode cX8_readLine 9 = .ok (.aload_n 0, 1) := by decide +kernel
theorem dX8_readLine_10 : decode cX8_readLine 10 = .ok (.invokevirtual 215, 3) := by decide +kernel
theorem dX8_readLine_13 : decode cX8_readLine 13 = .ok (.goto 108, 3) := by decide +kernel
theorem dX8_readLine_16 : decode cX8_readLine 16 = .ok (.aload_n 0, 1) := by decide +kernel
theorem dX8_readLine_17 : decode cX8_readLine 17 = .ok (.ldc 177, 2) := by decide +kernel
theorem dX8_readLine_19 : decode cX8_readLine 19 = .ok (.invokevirtual 129, 3) := by decide +kernel
theorem dX8_readLine_22 : decode cX8_readLine 22 = .ok (.ifCond .eq 21, 3) := by decide +kernel
theorem dX8_readLine_25 : decode cX8_readLine 25 = .ok (.aload_n 0, 1) := by decide +kernel
theorem dX8_readLine_26 : decode cX8_readLine 26 = .ok (.getfield 13, 3) := by decide +kernel
theorem dX8_readLine_29 : decode cX8_readLine 29 = .ok (.bipush 33, 2) := by decide +kernel
theorem dX8_readLine_31 : decode cX8_readLine 31 = .ok (.aload_n 0, 1) := by decide +kernel
theorem dX8_readLine_32 : decode cX8_readLine 32 = .ok (.iconst 0, 1) := by decide +kernel
theorem dX8_readLine_33 : decode cX8_readLine 33 = .ok (.sipush 999, 3) := by decide +kernel
theorem dX8_readLine_36 : decode cX8_readLine 36 = .ok (.invokevirtual 190, 3) := by decide +kernel
theorem dX8_readLine_39 : decode cX8_readLine 39 = .ok (.iastore, 1) := by decide +kernel
theorem dX8_readLine_40 : decode cX8_readLine 40 = .ok (.goto 81, 3) := by decide +kernel
theorem dX8_readLine_43 : decode cX8_readLine 43 = .ok (.aload_n 0, 1) := by decide +kernel
theorem dX8_readLine_44 : decode cX8_readLine 44 = .ok (.ldc 218, 2) := by decide +kernel
theorem dX8_readLine_46 : decode cX8_readLine 46 = .ok (.invokevirtual 129, 3) := by decide +kernel
theorem dX8_readLine_49 : decode cX8_readLine 49 = .ok (.ifCond .eq 18, 3) := by decide +kernel
theorem dX8_readLine_52 : decode cX8_readLine 52 = .ok (.aload_n 0, 1) := by decide +kernel
theorem dX8_readLine_53 : decode cX8_readLine 53 = .ok (.iconst 4, 1) := by decide +kernel
theorem dX8_readLine_54 : decode cX8_readLine 54 = .ok (.sipush 319, 3) := by decide +kernel
theorem dX8_readLine_57 : decode cX8_readLine 57 = .ok (.invokevirtual 220, 3) := by decide +kernel
theorem dX8_readLine_60 : decode cX8_readLine 60 = .ok (.aload_n 0, 1) := by decide +kernel
theorem dX8_readLine_61 : decode cX8_readLine 61 = .ok (.invokevirtual 165, 3) := by decide +kernel
theorem dX8_readLine_64 : decode cX8_readLine 64 = .ok (.goto 57, 3) := by decide +kernel
theorem dX8_readLine_67 : decode cX8_readLine 67 = .ok (.aload_n 0, 1) := by decide +kernel
theorem dX8_readLine_68 : decode cX8_readLine 68 = .ok (.ldc 224, 2) := by decide +kernel
theorem dX8_readLine_70 : decode cX8_readLine 70 = .ok (.invokevirtual 129, 3) := by decide +kernel
theorem dX8_readLine_73 : decode cX8_readLine 73 = .ok (.ifCond .eq 18, 3) := by decide +kernel
theorem dX8_readLine_76 : decode cX8_readLine 76 = .ok (.aload_n 0, 1) := by decide +kernel
theorem dX8_readLine_77 : decode cX8_readLine 77 = .ok (.iconst 5, 1) := by decide +kernel
theorem dX8_readLine_78 : decode cX8_readLine 78 = .ok (.sipush 1219, 3) := by decide +kernel
theorem dX8_readLine_81 : decode cX8_readLine 81 = .ok (.invokevirtual 220, 3) := by decide +kernel
theorem dX8_readLine_84 : decode cX8_readLine 84 = .ok (.aload_n 0, 1) := by decide +kernel
theorem dX8_readLine_85 : decode cX8_readLine 85 = .ok (.invokevirtual 168, 3) := by decide +kernel
theorem dX8_readLine_88 : decode cX8_readLine 88 = .ok (.goto 33, 3) := by decide +kernel
theorem dX8_readLine_91 : decode cX8_readLine 91 = .ok (.aload_n 0, 1) := by decide +kernel
theorem dX8_readLine_92 : decode cX8_readLine 92 = .ok (.ldc 226, 2) := by decide +kernel
theorem dX8_readLine_94 : decode cX8_readLine 94 = .ok (.invokevirtual 129, 3) := by decide +kernel
theorem dX8_readLine_97 : decode cX8_readLine 97 = .ok (.ifCond .eq 19, 3) := by decide +kernel
theorem dX8_readLine_100 : decode cX8_readLine 100 = .ok (.aload_n 0, 1) := by decide +kernel
theorem dX8_readLine_101 : decode cX8_readLine 101 = .ok (.bipush 6, 2) := by decide +kernel
theorem dX8_readLine_103 : decode cX8_readLine 103 = .ok (.sipush 2119, 3) := by decide +kernel
theorem dX8_readLine_106 : decode cX8_readLine 106 = .ok (.invokevirtual 220, 3) := by decide +kernel
theorem dX8_readLine_109 : decode cX8_readLine 109 = .ok (.aload_n 0, 1) := by decide +kernel
theorem dX8_readLine_110 : decode cX8_readLine 110 = .ok (.invokevirtual 168, 3) := by decide +kernel
theorem dX8_readLine_113 : decode cX8_readLine 113 = .ok (.goto 8, 3) := by decide +kernel
theorem dX8_readLine_116 : decode cX8_readLine 116 = .ok (.aload_n 0, 1) := by decide +kernel
theorem dX8_readLine_117 : decode cX8_readLine 117 = .ok (.iconst 2, 1) := by decide +kernel
theorem dX8_readLine_118 : decode cX8_readLine 118 = .ok (.invokevirtual 121, 3) := by decide +kernel
theorem dX8_readLine_121 : decode cX8_readLine 121 = .ok (.aload_n 0, 1) := by decide +kernel
theorem dX8_readLine_122 : decode cX8_readLine 122 = .ok (.invokevirtual 228, 3) := by decide +kernel
theorem dX8_readLine_125 : decode cX8_readLine 125 = .ok (.return_, 1) := by decide +kernel
theorem dX8_beach_0 : decode cX8_beach 0 = .ok (.aload_n 0, 1) := by decide +kernel
theorem dX8_beach_1 : decode cX8_beach 1 = .ok (.iconst 0, 1) := by decide +kernel
theorem dX8_beach_2 : decode cX8_beach 2 = .ok (.putfield 64, 3) := by decide +kernel
theorem dX8_beach_5 : decode cX8_beach 5 = .ok (.iload_n 1, 1) := by decide +kernel
theorem dX8_beach_6 : decode cX8_beach 6 = .ok (.i2l, 1) := by decide +kernel
theorem dX8_beach_7 : decode cX8_beach 7 = .ok (.lconst 0, 1) := by decide +kernel
theorem dX8_beach_8 : decode cX8_beach 8 = .ok (.aload_n 0, 1) := by decide +kernel
theorem dX8_beach_9 : decode cX8_beach 9 = .ok (.getfield 67, 3) := by decide +kernel
theorem dX8_beach_12 : decode cX8_beach 12 = .ok (.i2l, 1) := by decide +kernel
theorem dX8_beach_13 : decode cX8_beach 13 = .ok (.invokestatic 125, 3) := by decide +kernel
theorem dX8_beach_16 : decode cX8_beach 16 = .ok (.ifCond .ne 9, 3) := by decide +kernel
theorem dX8_beach_19 : decode cX8_beach 19 = .ok (.aload_n 0, 1) := by decide +kernel
theorem dX8_beach_20 : decode cX8_beach 20 = .ok (.iconst 1, 1) := by decide +kernel
theorem dX8_beach_21 : decode cX8_beach 21 = .ok (.invokevirtual 231, 3) := by decide +kernel
theorem dX8_beach_24 : decode cX8_beach 24 = .ok (.ireturn, 1) := by decide +kernel
theorem dX8_beach_25 : decode cX8_beach 25 = .ok (.aload_n 0, 1) := by decide +kernel
theorem dX8_beach_26 : decode cX8_beach 26 = .ok (.iload_n 1, 1) := by decide +kernel
theorem dX8_beach_27 : decode cX8_beach 27 = .ok (.putfield 70, 3) := by decide +kernel
theorem dX8_beach_30 : decode cX8_beach 30 = .ok (.aload_n 0, 1) := by decide +kernel
theorem dX8_beach_31 : decode cX8_beach 31 = .ok (.iconst 0, 1) := by decide +kernel
theorem dX8_beach_32 : decode cX8_beach 32 = .ok (.putfield 67, 3) := by decide +kernel
theorem dX8_beach_35 : decode cX8_beach 35 = .ok (.aload_n 0, 1) := by decide +kernel
theorem dX8_beach_36 : decode cX8_beach 36 = .ok (.iconst 0, 1) := by decide +kernel
theorem dX8_beach_37 : decode cX8_beach 37 = .ok (.putfield 73, 3) := by decide +kernel
theorem dX8_beach_40 : decode cX8_beach 40 = .ok (.aload_n 0, 1) := by decide +kernel
theorem dX8_beach_41 : decode cX8_beach 41 = .ok (.iconst 0, 1) := by decide +kernel
theorem dX8_beach_42 : decode cX8_beach 42 = .ok (.putfield 99, 3) := by decide +kernel
theorem dX8_beach_45 : decode cX8_beach 45 = .ok (.aload_n 0, 1) := by decide +kernel
theorem dX8_beach_46 : decode cX8_beach 46 = .ok (.iconst 0, 1) := by decide +kernel
theorem dX8_beach_47 : decode cX8_beach 47 = .ok (.putfield 141, 3) := by decide +kernel
theorem dX8_beach_50 : decode cX8_beach 50 = .ok (.iconst 0, 1) := by decide +kernel
theorem dX8_beach_51 : decode cX8_beach 51 = .ok (.istore_n 2, 1) := by decide +kernel
theorem dX8_beach_52 : decode cX8_beach 52 = .ok (.iload_n 2, 1) := by decide +kernel
theorem dX8_beach_53 : decode cX8_beach 53 = .ok (.sipush 3020, 3) := by decide +kernel
theorem dX8_beach_56 : decode cX8_beach 56 = .ok (.if_icmp .ge 16, 3) := by decide +kernel
theorem dX8_beach_59 : decode cX8_beach 59 = .ok (.aload_n 0, 1) := by decide +kernel
theorem dX8_beach_60 : decode cX8_beach 60 = .ok (.getfield 13, 3) := by decide +kernel
theorem dX8_beach_63 : decode cX8_beach 63 = .ok (.iload_n 2, 1) := by decide +kernel
theorem dX8_beach_64 : decode cX8_beach 64 = .ok (.iconst 0, 1) := by decide +kernel
theorem dX8_beach_65 : decode cX8_beach 65 = .ok (.iastore, 1) := by decide +kernel
theorem dX8_beach_66 : decode cX8_beach 66 = .ok (.iinc 2 1, 3) := by decide +kernel
theorem dX8_beach_69 : decode cX8_beach 69 = .ok (.goto (-17), 3) := by decide +kernel
theorem dX8_beach_72 : decode cX8_beach 72 = .ok (.aload_n 0, 1) := by decide +kernel
theorem dX8_beach_73 : decode cX8_beach 73 = .ok (.invokevirtual 118, 3) := by decide +kernel
theorem dX8_beach_76 : decode cX8_beach 76 = .ok (.aload_n 0, 1) := by decide +kernel
theorem dX8_beach_77 : decode cX8_beach 77 = .ok (.ldc 234, 2) := by decide +kernel
theorem dX8_beach_79 : decode cX8_beach 79 = .ok (.invokevirtual 196, 3) := by decide +kernel
theorem dX8_beach_82 : decode cX8_beach 82 = .ok (.aload_n 0, 1) := by decide +kernel
theorem dX8_beach_83 : decode cX8_beach 83 = .ok (.getfield 13, 3) := by decide +kernel
theorem dX8_beach_86 : decode cX8_beach 86 = .ok (.iconst 1, 1) := by decide +kernel
theorem dX8_beach_87 : decode cX8_beach 87 = .ok (.aload_n 0, 1) := by decide +kernel
theorem dX8_beach_88 : decode cX8_beach 88 = .ok (.iconst 1, 1) := by decide +kernel
theorem dX8_beach_89 : decode cX8_beach 89 = .ok (.iconst 4, 1) := by decide +kernel
theorem dX8_beach_90 : decode cX8_beach 90 = .ok (.invokevirtual 190, 3) := by decide +kernel
theorem dX8_beach_93 : decode cX8_beach 93 = .ok (.iastore, 1) := by decide +kernel
theorem dX8_beach_94 : decode cX8_beach 94 = .ok (.aload_n 0, 1) := by decide +kernel
theorem dX8_beach_95 : decode cX8_beach 95 = .ok (.getfield 13, 3) := by decide +kernel
theorem dX8_beach_98 : decode cX8_beach 98 = .ok (.iconst 2, 1) := by decide +kernel
theorem dX8_beach_99 : decode cX8_beach 99 = .ok (.aload_n 0, 1) := by decide +kernel
theorem dX8_beach_100 : decode cX8_beach 100 = .ok (.iconst 1, 1) := by decide +kernel
theorem dX8_beach_101 : decode cX8_beach 101 = .ok (.iconst 5, 1) := by decide +kernel
theorem dX8_beach_102 : decode cX8_beach 102 = .ok (.invokevirtual 190, 3) := by decide +kernel
theorem dX8_beach_105 : decode cX8_beach 105 = .ok (.iastore, 1) := by decide +kernel
theorem dX8_beach_106 : decode cX8_beach 106 = .ok (.aload_n 0, 1) := by decide +kernel
theorem dX8_beach_107 : decode cX8_beach 107 = .ok (.invokevirtual 228, 3) := by decide +kernel
theorem dX8_beach_110 : decode cX8_beach 110 = .ok (.aload_n 0, 1) := by decide +kernel
theorem dX8_beach_111 : decode cX8_beach 111 = .ok (.getfield 99, 3) := by decide +kernel
theorem dX8_beach_114 : decode cX8_beach 114 = .ok (.ifCond .ne 17, 3) := by decide +kernel
theorem dX8_beach_117 : decode cX8_beach 117 = .ok (.aload_n 0, 1) := by decide +kernel
theorem dX8_beach_118 : decode cX8_beach 118 = .ok (.getfield 79, 3) := by decide +kernel
theorem dX8_beach_121 : decode cX8_beach 121 = .ok (.ifCond .eq 10, 3) := by decide +kernel
theorem dX8_beach_124 : decode cX8_beach 124 = .ok (.aload_n 0, 1) := by decide +kernel
theorem dX8_beach_125 : decode cX8_beach 125 = .ok (.invokevirtual 236, 3) := by decide +kernel
theorem dX8_beach_128 : decode cX8_beach 128 = .ok (.goto (-18), 3) := by decide +kernel
theorem dX8_beach_131 : decode cX8_beach 131 = .ok (.aload_n 0, 1) := by decide +kernel
theorem dX8_beach_132 : decode cX8_beach 132 = .ok (.aload_n 0, 1) := by decide +kernel
theorem dX8_beach_133 : decode cX8_beach 133 = .ok (.getfield 99, 3) := by decide +kernel
theorem dX8_beach_136 : decode cX8_beach 136 = .ok (.putfield 239, 3) := by decide +kernel
theorem dX8_beach_139 : decode cX8_beach 139 = .ok (.aload_n 0, 1) := by decide +kernel
theorem dX8_beach_140 : decode cX8_beach 140 = .ok (.aload_n 0, 1) := by decide +kernel
theorem dX8_beach_141 : decode cX8_beach 141 = .ok (.getfield 99, 3) := by decide +kernel
theorem dX8_beach_144 : decode cX8_beach 144 = .ok (.ifCond .ne 7, 3) := by decide +kernel
theorem dX8_beach_147 : decode cX8_beach 147 = .ok (.iconst (-1), 1) := by decide +kernel
theorem dX8_beach_148 : decode cX8_beach 148 = .ok (.goto 7, 3) := by decide +kernel
theorem dX8_beach_151 : decode cX8_beach 151 = .ok (.aload_n 0, 1) := by decide +kernel
theorem dX8_beach_152 : decode cX8_beach 152 = .ok (.getfield 102, 3) := by decide +kernel
theorem dX8_beach_155 : decode cX8_beach 155 = .ok (.putfield 26, 3) := by decide +kernel
theorem dX8_beach_158 : decode cX8_beach 158 = .ok (.aload_n 0, 1) := by decide +kernel
theorem dX8_beach_159 : decode cX8_beach 159 = .ok (.getfield 99, 3) := by decide +kernel
theorem dX8_beach_162 : decode cX8_beach 162 = .ok (.ifCond .eq 11, 3) := by decide +kernel
theorem dX8_beach_165 : decode cX8_beach 165 = .ok (.bipush (-10), 2) := by decide +kernel
theorem dX8_beach_167 : decode cX8_beach 167 = .ok (.aload_n 0, 1) := by decide +kernel
theorem dX8_beach_168 : decode cX8_beach 168 = .ok (.getfield 99, 3) := by decide +kernel
theorem dX8_beach_171 : decode cX8_beach 171 = .ok (.isub, 1) := by decide +kernel
theorem dX8_beach_172 : decode cX8_beach 172 = .ok (.ireturn, 1) := by decide +kernel
theorem dX8_beach_173 : decode cX8_beach 173 = .ok (.iconst 0, 1) := by decide +kernel
theorem dX8_beach_174 : decode cX8_beach 174 = .ok (.istore_n 2, 1) := by decide +kernel
theorem dX8_beach_175 : decode cX8_beach 175 = .ok (.iload_n 2, 1) := by decide +kernel
theorem dX8_beach_176 : decode cX8_beach 176 = .ok (.sipush 3020, 3) := by decide +kernel
theorem dX8_beach_179 : decode cX8_beach 179 = .ok (.if_icmp .ge 21, 3) := by decide +kernel
theorem dX8_beach_182 : decode cX8_beach 182 = .ok (.aload_n 0, 1) := by decide +kernel
theorem dX8_beach_183 : decode cX8_beach 183 = .ok (.getfield 9, 3) := by decide +kernel
theorem dX8_beach_186 : decode cX8_beach 186 = .ok (.iload_n 2, 1) := by decide +kernel
theorem dX8_beach_187 : decode cX8_beach 187 = .ok (.aload_n 0, 1) := by decide +kernel
theorem dX8_beach_188 : decode cX8_beach 188 = .ok (.getfield 13, 3) := by decide +kernel
theorem dX8_beach_191 : decode cX8_beach 191 = .ok (.iload_n 2, 1) := by decide +kernel
theorem dX8_beach_192 : decode cX8_beach 192 = .ok (.iaload, 1) := by decide +kernel
theorem dX8_beach_193 : decode cX8_beach 193 = .ok (.iastore, 1) := by decide +kernel
theorem dX8_beach_194 : decode cX8_beach 194 = .ok (.iinc 2 1, 3) := by decide +kernel
theorem dX8_beach_197 : decode cX8_beach 197 = .ok (.goto (-22), 3) := by decide +kernel
theorem dX8_beach_200 : decode cX8_beach 200 = .ok (.aload_n 0, 1) := by decide +kernel
theorem dX8_beach_201 : decode cX8_beach 201 = .ok (.getfield 9, 3) := by decide +kernel
theorem dX8_beach_204 : decode cX8_beach 204 = .ok (.iconst 0, 1) := by decide +kernel
theorem dX8_beach_205 : decode cX8_beach 205 = .ok (.iaload, 1) := by decide +kernel
theorem dX8_beach_206 : decode cX8_beach 206 = .ok (.ireturn, 1) := by decide +kernel
theorem dX8_fault_0 : decode cX8_fault 0 = .ok (.aload_n 0, 1) := by decide +kernel
theorem dX8_fault_1 : decode cX8_fault 1 = .ok (.iconst 0, 1) := by decide +kernel
theorem dX8_fault_2 : decode cX8_fault 2 = .ok (.putfield 64, 3) := by decide +kernel
theorem dX8_fault_5 : decode cX8_fault 5 = .ok (.iload_n 1, 1) := by decide +kernel
theorem dX8_fault_6 : decode cX8_fault 6 = .ok (.ifCond .ne 10, 3) := by decide +kernel
theorem dX8_fault_9 : decode cX8_fault 9 = .ok (.aload_n 0, 1) := by decide +kernel
theorem dX8_fault_10 : decode cX8_fault 10 = .ok (.getfield 239, 3) := by decide +kernel
theorem dX8_fault_13 : decode cX8_fault 13 = .ok (.goto 16, 3) := by decide +kernel
theorem dX8_fault_16 : decode cX8_fault 16 = .ok (.iload_n 1, 1) := by decide +kernel
theorem dX8_fault_17 : decode cX8_fault 17 = .ok (.iconst 1, 1) := by decide +kernel
theorem dX8_fault_18 : decode cX8_fault 18 = .ok (.if_icmp .ne 10, 3) := by decide +kernel
theorem dX8_fault_21 : decode cX8_fault 21 = .ok (.aload_n 0, 1) := by decide +kernel
theorem dX8_fault_22 : decode cX8_fault 22 = .ok (.getfield 26, 3) := by decide +kernel
theorem dX8_fault_25 : decode cX8_fault 25 = .ok (.goto 4, 3) := by decide +kernel
theorem dX8_fault_28 : decode cX8_fault 28 = .ok (.iconst (-1), 1) := by decide +kernel
theorem dX8_fault_29 : decode cX8_fault 29 = .ok (.ireturn, 1) := by decide +kernel
theorem dX8_people_0 : decode cX8_people 0 = .ok (.aload_n 0, 1) := by decide +kernel
theorem dX8_people_1 : decode cX8_people 1 = .ok (.getfield 9, 3) := by decide +kernel
theorem dX8_people_4 : decode cX8_people 4 = .ok (.iconst 3, 1) := by decide +kernel
theorem dX8_people_5 : decode cX8_people 5 = .ok (.iaload, 1) := by decide +kernel
theorem dX8_people_6 : decode cX8_people 6 = .ok (.ireturn, 1) := by decide +kernel
theorem dX8_isPerson_0 : decode cX8_isPerson 0 = .ok (.lload_n 1, 1) := by decide +kernel
theorem dX8_isPerson_1 : decode cX8_isPerson 1 = .ok (.lconst 0, 1) := by decide +kernel
theorem dX8_isPerson_2 : decode cX8_isPerson 2 = .ok (.aload_n 0, 1) := by decide +kernel
theorem dX8_isPerson_3 : decode cX8_isPerson 3 = .ok (.invokevirtual 242, 3) := by decide +kernel
theorem dX8_isPerson_6 : decode cX8_isPerson 6 = .ok (.iconst 1, 1) := by decide +kernel
theorem dX8_isPerson_7 : decode cX8_isPerson 7 = .ok (.isub, 1) := by decide +kernel
theorem dX8_isPerson_8 : decode cX8_isPerson 8 = .ok (.i2l, 1) := by decide +kernel
theorem dX8_isPerson_9 : decode cX8_isPerson 9 = .ok (.invokestatic 125, 3) := by decide +kernel
theorem dX8_isPerson_12 : decode cX8_isPerson 12 = .ok (.ireturn, 1) := by decide +kernel
theorem dX8_isColumn_0 : decode cX8_isColumn 0 = .ok (.lload_n 1, 1) := by decide +kernel
theorem dX8_isColumn_1 : decode cX8_isColumn 1 = .ok (.lconst 0, 1) := by decide +kernel
theorem dX8_isColumn_2 : decode cX8_isColumn 2 = .ok (.aload_n 0, 1) := by decide +kernel
theorem dX8_isColumn_3 : decode cX8_isColumn 3 = .ok (.getfield 9, 3) := by decide +kernel
theorem dX8_isColumn_6 : decode cX8_isColumn 6 = .ok (.iconst 1, 1) := by decide +kernel
theorem dX8_isColumn_7 : decode cX8_isColumn 7 = .ok (.iaload, 1) := by decide +kernel
theorem dX8_isColumn_8 : decode cX8_isColumn 8 = .ok (.iconst 1, 1) := by decide +kernel
theorem dX8_isColumn_9 : decode cX8_isColumn 9 = .ok (.isub, 1) := by decide +kernel
theorem dX8_isColumn_10 : decode cX8_isColumn 10 = .ok (.i2l, 1) := by decide +kernel
theorem dX8_isColumn_11 : decode cX8_isColumn 11 = .ok (.invokestatic 125, 3) := by decide +kernel
theorem dX8_isColumn_14 : decode cX8_isColumn 14 = .ok (.ireturn, 1) := by decide +kernel
theorem dX8_isChair_0 : decode cX8_isChair 0 = .ok (.aload_n 0, 1) := by decide +kernel
theorem dX8_isChair_1 : decode cX8_isChair 1 = .ok (.iload_n 1, 1) := by decide +kernel
theorem dX8_isChair_2 : decode cX8_isChair 2 = .ok (.i2l, 1) := by decide +kernel
theorem dX8_isChair_3 : decode cX8_isChair 3 = .ok (.invokevirtual 245, 3) := by decide +kernel
theorem dX8_isChair_6 : decode cX8_isChair 6 = .ok (.ifCond .eq 25, 3) := by decide +kernel
theorem dX8_isChair_9 : decode cX8_isChair 9 = .ok (.iload_n 2, 1) := by decide +kernel
theorem dX8_isChair_10 : decode cX8_isChair 10 = .ok (.i2l, 1) := by decide +kernel
theorem dX8_isChair_11 : decode cX8_isChair 11 = .ok (.lconst 0, 1) := by decide +kernel
theorem dX8_isChair_12 : decode cX8_isChair 12 = .ok (.aload_n 0, 1) := by decide +kernel
theorem dX8_isChair_13 : decode cX8_isChair 13 = .ok (.getfield 9, 3) := by decide +kernel
theorem dX8_isChair_16 : decode cX8_isChair 16 = .ok (.iconst 2, 1) := by decide +kernel
theorem dX8_isChair_17 : decode cX8_isChair 17 = .ok (.iaload, 1) := by decide +kernel
theorem dX8_isChair_18 : decode cX8_isChair 18 = .ok (.iconst 1, 1) := by decide +kernel
theorem dX8_isChair_19 : decode cX8_isChair 19 = .ok (.isub, 1) := by decide +kernel
theorem dX8_isChair_20 : decode cX8_isChair 20 = .ok (.i2l, 1) := by decide +kernel
theorem dX8_isChair_21 : decode cX8_isChair 21 = .ok (.invokestatic 125, 3) := by decide +kernel
theorem dX8_isChair_24 : decode cX8_isChair 24 = .ok (.ifCond .eq 7, 3) := by decide +kernel
theorem dX8_isChair_27 : decode cX8_isChair 27 = .ok (.iconst 1, 1) := by decide +kernel
theorem dX8_isChair_28 : decode cX8_isChair 28 = .ok (.goto 4, 3) := by decide +kernel
theorem dX8_isChair_31 : decode cX8_isChair 31 = .ok (.iconst 0, 1) := by decide +kernel
theorem dX8_isChair_32 : decode cX8_isChair 32 = .ok (.ireturn, 1) := by decide +kernel
theorem dX8_isUp_0 : decode cX8_isUp 0 = .ok (.aload_n 0, 1) := by decide +kernel
theorem dX8_isUp_1 : decode cX8_isUp 1 = .ok (.getfield 9, 3) := by decide +kernel
theorem dX8_isUp_4 : decode cX8_isUp 4 = .ok (.bipush 16, 2) := by decide +kernel
theorem dX8_isUp_6 : decode cX8_isUp 6 = .ok (.iload_n 1, 1) := by decide +kernel
theorem dX8_isUp_7 : decode cX8_isUp 7 = .ok (.iadd, 1) := by decide +kernel
theorem dX8_isUp_8 : decode cX8_isUp 8 = .ok (.iaload, 1) := by decide +kernel
theorem dX8_isUp_9 : decode cX8_isUp 9 = .ok (.iconst (-1), 1) := by decide +kernel
theorem dX8_isUp_10 : decode cX8_isUp 10 = .ok (.if_icmp .ne 7, 3) := by decide +kernel
theorem dX8_isUp_13 : decode cX8_isUp 13 = .ok (.iconst 1, 1) := by decide +kernel
theorem dX8_isUp_14 : decode cX8_isUp 14 = .ok (.goto 4, 3) := by decide +kernel
theorem dX8_isUp_17 : decode cX8_isUp 17 = .ok (.iconst 0, 1) := by decide +kernel
theorem dX8_isUp_18 : decode cX8_isUp 18 = .ok (.ireturn, 1) := by decide +kernel
theorem dX8_isAsleep_0 : decode cX8_isAsleep 0 = .ok (.aload_n 0, 1) := by decide +kernel
theorem dX8_isAsleep_1 : decode cX8_isAsleep 1 = .ok (.getfield 9, 3) := by decide +kernel
theorem dX8_isAsleep_4 : decode cX8_isAsleep 4 = .ok (.bipush 42, 2) := by decide +kernel
theorem dX8_isAsleep_6 : decode cX8_isAsleep 6 = .ok (.iaload, 1) := by decide +kernel
theorem dX8_isAsleep_7 : decode cX8_isAsleep 7 = .ok (.iload_n 1, 1) := by decide +kernel
theorem dX8_isAsleep_8 : decode cX8_isAsleep 8 = .ok (.invokestatic 249, 3) := by decide +kernel
theorem dX8_isAsleep_11 : decode cX8_isAsleep 11 = .ok (.ireturn, 1) := by decide +kernel
theorem dX8_sitter_0 : decode cX8_sitter 0 = .ok (.iconst 0, 1) := by decide +kernel
theorem dX8_sitter_1 : decode cX8_sitter 1 = .ok (.istore_n 3, 1) := by decide +kernel
theorem dX8_sitter_2 : decode cX8_sitter 2 = .ok (.iload_n 3, 1) := by decide +kernel
theorem dX8_sitter_3 : decode cX8_sitter 3 = .ok (.aload_n 0, 1) := by decide +kernel
theorem dX8_sitter_4 : decode cX8_sitter 4 = .ok (.invokevirtual 242, 3) := by decide +kernel
theorem dX8_sitter_7 : decode cX8_sitter 7 = .ok (.if_icmp .ge 42, 3) := by decide +kernel
theorem dX8_sitter_10 : decode cX8_sitter 10 = .ok (.aload_n 0, 1) := by decide +kernel
theorem dX8_sitter_11 : decode cX8_sitter 11 = .ok (.getfield 9, 3) := by decide +kernel
theorem dX8_sitter_14 : decode cX8_sitter 14 = .ok (.bipush 16, 2) := by decide +kernel
theorem dX8_sitter_16 : decode cX8_sitter 16 = .ok (.iload_n 3, 1) := by decide +kernel
theorem dX8_sitter_17 : decode cX8_sitter 17 = .ok (.iadd, 1) := by decide +kernel
theorem dX8_sitter_18 : decode cX8_sitter 18 = .ok (.iaload, 1) := by decide +kernel
theorem dX8_sitter_19 : decode cX8_sitter 19 = .ok (.iload_n 2, 1) := by decide +kernel
theorem dX8_sitter_20 : decode cX8_sitter 20 = .ok (.if_icmp .ne 23, 3) := by decide +kernel
theorem dX8_sitter_23 : decode cX8_sitter 23 = .ok (.aload_n 0, 1) := by decide +kernel
theorem dX8_sitter_24 : decode cX8_sitter 24 = .ok (.getfield 9, 3) := by decide +kernel
theorem dX8_sitter_27 : decode cX8_sitter 27 = .ok (.bipush 8, 2) := by decide +kernel
theorem dX8_sitter_29 : decode cX8_sitter 29 = .ok (.iload_n 3, 1) := by decide +kernel
theorem dX8_sitter_30 : decode cX8_sitter 30 = .ok (.iadd, 1) := by decide +kernel
theorem dX8_sitter_31 : decode cX8_sitter 31 = .ok (.iaload, 1) := by decide +kernel
theorem dX8_sitter_32 : decode cX8_sitter 32 = .ok (.iload_n 1, 1) := by decide +kernel
theorem dX8_sitter_33 : decode cX8_sitter 33 = .ok (.if_icmp .ne 10, 3) := by decide +kernel
theorem dX8_sitter_36 : decode cX8_sitter 36 = .ok (.iload_n 2, 1) := by decide +kernel
theorem dX8_sitter_37 : decode cX8_sitter 37 = .ok (.iconst (-1), 1) := by decide +kernel
theorem dX8_sitter_38 : decode cX8_sitter 38 = .ok (.if_icmp .eq 5, 3) := by decide +kernel
theorem dX8_sitter_41 : decode cX8_sitter 41 = .ok (.iload_n 3, 1) := by decide +kernel
theorem dX8_sitter_42 : decode cX8_sitter 42 = .ok (.ireturn, 1) := by decide +kernel
theorem dX8_sitter_43 : decode cX8_sitter 43 = .ok (.iinc 3 1, 3) := by decide +kernel
theorem dX8_sitter_46 : decode cX8_sitter 46 = .ok (.goto (-44), 3) := by decide +kernel
theorem dX8_sitter_49 : decode cX8_sitter 49 = .ok (.iconst (-1), 1) := by decide +kernel
theorem dX8_sitter_50 : decode cX8_sitter 50 = .ok (.ireturn, 1) := by decide +kernel
theorem dX8_bound_0 : decode cX8_bound 0 = .ok (.ldc2_w 252, 3) := by decide +kernel
theorem dX8_bound_3 : decode cX8_bound 3 = .ok (.ldc2_w 254, 3) := by decide +kernel
theorem dX8_bound_6 : decode cX8_bound 6 = .ok (.lload_n 0, 1) := by decide +kernel
theorem dX8_bound_7 : decode cX8_bound 7 = .ok (.invokestatic 256, 3) := by decide +kernel
theorem dX8_bound_10 : decode cX8_bound 10 = .ok (.invokestatic 262, 3) := by decide +kernel
theorem dX8_bound_13 : decode cX8_bound 13 = .ok (.l2i, 1) := by decide +kernel
theorem dX8_bound_14 : decode cX8_bound 14 = .ok (.ireturn, 1) := by decide +kernel
theorem dX8_done_0 : decode cX8_done 0 = .ok (.iload_n 0, 1) := by decide +kernel
theorem dX8_done_1 : decode cX8_done 1 = .ok (.tableswitch 114 10 16 #[43, 50, 57, 64, 76, 88, 100], 43) := by decide +kernel
theorem dX8_done_44 : decode cX8_done 44 = .ok (.lload_n 1, 1) := by decide +kernel
theorem dX8_done_45 : decode cX8_done 45 = .ok (.lload_n 3, 1) := by decide +kernel
theorem dX8_done_46 : decode cX8_done 46 = .ok (.ladd, 1) := by decide +kernel
theorem dX8_done_47 : decode cX8_done 47 = .ok (.invokestatic 265, 3) := by decide +kernel
theorem dX8_done_50 : decode cX8_done 50 = .ok (.ireturn, 1) := by decide +kernel
theorem dX8_done_51 : decode cX8_done 51 = .ok (.lload_n 1, 1) := by decide +kernel
theorem dX8_done_52 : decode cX8_done 52 = .ok (.lload_n 3, 1) := by decide +kernel
theorem dX8_done_53 : decode cX8_done 53 = .ok (.lsub, 1) := by decide +kernel
theorem dX8_done_54 : decode cX8_done 54 = .ok (.invokestatic 265, 3) := by decide +kernel
theorem dX8_done_57 : decode cX8_done 57 = .ok (.ireturn, 1) := by decide +kernel
theorem dX8_done_58 : decode cX8_done 58 = .ok (.lload_n 1, 1) := by decide +kernel
theorem dX8_done_59 : decode cX8_done 59 = .ok (.lload_n 3, 1) := by decide +kernel
theorem dX8_done_60 : decode cX8_done 60 = .ok (.lmul, 1) := by decide +kernel
theorem dX8_done_61 : decode cX8_done 61 = .ok (.invokestatic 265, 3) := by decide +kernel
theorem dX8_done_64 : decode cX8_done 64 = .ok (.ireturn, 1) := by decide +kernel
theorem dX8_done_65 : decode cX8_done 65 = .ok (.lload_n 1, 1) := by decide +kernel
theorem dX8_done_66 : decode cX8_done 66 = .ok (.lload_n 3, 1) := by decide +kernel
theorem dX8_done_67 : decode cX8_done 67 = .ok (.lcmp, 1) := by decide +kernel
theorem dX8_done_68 : decode cX8_done 68 = .ok (.ifCond .ne 7, 3) := by decide +kernel
theorem dX8_done_71 : decode cX8_done 71 = .ok (.iconst 1, 1) := by decide +kernel
theorem dX8_done_72 : decode cX8_done 72 = .ok (.goto 4, 3) := by decide +kernel
theorem dX8_done_75 : decode cX8_done 75 = .ok (.iconst 0, 1) := by decide +kernel
theorem dX8_done_76 : decode cX8_done 76 = .ok (.ireturn, 1) := by decide +kernel
theorem dX8_done_77 : decode cX8_done 77 = .ok (.lload_n 1, 1) := by decide +kernel
theorem dX8_done_78 : decode cX8_done 78 = .ok (.lload_n 3, 1) := by decide +kernel
theorem dX8_done_79 : decode cX8_done 79 = .ok (.lcmp, 1) := by decide +kernel
theorem dX8_done_80 : decode cX8_done 80 = .ok (.ifCond .ge 7, 3) := by decide +kernel
theorem dX8_done_83 : decode cX8_done 83 = .ok (.iconst 1, 1) := by decide +kernel
theorem dX8_done_84 : decode cX8_done 84 = .ok (.goto 4, 3) := by decide +kernel
theorem dX8_done_87 : decode cX8_done 87 = .ok (.iconst 0, 1) := by decide +kernel
theorem dX8_done_88 : decode cX8_done 88 = .ok (.ireturn, 1) := by decide +kernel
theorem dX8_done_89 : decode cX8_done 89 = .ok (.lload_n 1, 1) := by decide +kernel
theorem dX8_done_90 : decode cX8_done 90 = .ok (.lload_n 3, 1) := by decide +kernel
theorem dX8_done_91 : decode cX8_done 91 = .ok (.lcmp, 1) := by decide +kernel
theorem dX8_done_92 : decode cX8_done 92 = .ok (.ifCond .le 7, 3) := by decide +kernel
theorem dX8_done_95 : decode cX8_done 95 = .ok (.iconst 1, 1) := by decide +kernel
theorem dX8_done_96 : decode cX8_done 96 = .ok (.goto 4, 3) := by decide +kernel
theorem dX8_done_99 : decode cX8_done 99 = .ok (.iconst 0, 1) := by decide +kernel
theorem dX8_done_100 : decode cX8_done 100 = .ok (.ireturn, 1) := by decide +kernel
theorem dX8_done_101 : decode cX8_done 101 = .ok (.lload_n 1, 1) := by decide +kernel
theorem dX8_done_102 : decode cX8_done 102 = .ok (.lload_n 3, 1) := by decide +kernel
theorem dX8_done_103 : decode cX8_done 103 = .ok (.ladd, 1) := by decide +kernel
theorem dX8_done_104 : decode cX8_done 104 = .ok (.lconst 1, 1) := by decide +kernel
theorem dX8_done_105 : decode cX8_done 105 = .ok (.lcmp, 1) := by decide +kernel
theorem dX8_done_106 : decode cX8_done 106 = .ok (.ifCond .le 7, 3) := by decide +kernel
theorem dX8_done_109 : decode cX8_done 109 = .ok (.iconst 1, 1) := by decide +kernel
theorem dX8_done_110 : decode cX8_done 110 = .ok (.goto 4, 3) := by decide +kernel
theorem dX8_done_113 : decode cX8_done 113 = .ok (.iconst 0, 1) := by decide +kernel
theorem dX8_done_114 : decode cX8_done 114 = .ok (.ireturn, 1) := by decide +kernel
theorem dX8_done_115 : decode cX8_done 115 = .ok (.lload_n 1, 1) := by decide +kernel
theorem dX8_done_116 : decode cX8_done 116 = .ok (.lload_n 3, 1) := by decide +kernel
theorem dX8_done_117 : decode cX8_done 117 = .ok (.ladd, 1) := by decide +kernel
theorem dX8_done_118 : decode cX8_done 118 = .ok (.lconst 0, 1) := by decide +kernel
theorem dX8_done_119 : decode cX8_done 119 = .ok (.lcmp, 1) := by decide +kernel
theorem dX8_done_120 : decode cX8_done 120 = .ok (.ifCond .le 7, 3) := by decide +kernel
theorem dX8_done_123 : decode cX8_done 123 = .ok (.iconst 1, 1) := by decide +kernel
theorem dX8_done_124 : decode cX8_done 124 = .ok (.goto 4, 3) := by decide +kernel
theorem dX8_done_127 : decode cX8_done 127 = .ok (.iconst 0, 1) := by decide +kernel
theorem dX8_done_128 : decode cX8_done 128 = .ok (.ireturn, 1) := by decide +kernel
theorem dX8_lawOf_0 : decode cX8_lawOf 0 = .ok (.iconst 0, 1) := by decide +kernel
theorem dX8_lawOf_1 : decode cX8_lawOf 1 = .ok (.istore_n 3, 1) := by decide +kernel
theorem dX8_lawOf_2 : decode cX8_lawOf 2 = .ok (.iconst 0, 1) := by decide +kernel
theorem dX8_lawOf_3 : decode cX8_lawOf 3 = .ok (.istore 4, 2) := by decide +kernel
theorem dX8_lawOf_5 : decode cX8_lawOf 5 = .ok (.iload 4, 2) := by decide +kernel
theorem dX8_lawOf_7 : decode cX8_lawOf 7 = .ok (.aload_n 0, 1) := by decide +kernel
theorem dX8_lawOf_8 : decode cX8_lawOf 8 = .ok (.getfield 9, 3) := by decide +kernel
theorem dX8_lawOf_11 : decode cX8_lawOf 11 = .ok (.iload_n 1, 1) := by decide +kernel
theorem dX8_lawOf_12 : decode cX8_lawOf 12 = .ok (.iaload, 1) := by decide +kernel
theorem dX8_lawOf_13 : decode cX8_lawOf 13 = .ok (.if_icmp .ge 126, 3) := by decide +kernel
theorem dX8_lawOf_16 : decode cX8_lawOf 16 = .ok (.aload_n 0, 1) := by decide +kernel
theorem dX8_lawOf_17 : decode cX8_lawOf 17 = .ok (.getfield 9, 3) := by decide +kernel
theorem dX8_lawOf_20 : decode cX8_lawOf 20 = .ok (.iload_n 2, 1) := by decide +kernel
theorem dX8_lawOf_21 : decode cX8_lawOf 21 = .ok (.iload 4, 2) := by decide +kernel
theorem dX8_lawOf_23 : decode cX8_lawOf 23 = .ok (.iadd, 1) := by decide +kernel
theorem dX8_lawOf_24 : decode cX8_lawOf 24 = .ok (.iaload, 1) := by decide +kernel
theorem dX8_lawOf_25 : decode cX8_lawOf 25 = .ok (.istore 5, 2) := by decide +kernel
theorem dX8_lawOf_27 : decode cX8_lawOf 27 = .ok (.iload 5, 2) := by decide +kernel
theorem dX8_lawOf_29 : decode cX8_lawOf 29 = .ok (.bipush 100, 2) := by decide +kernel
theorem dX8_lawOf_31 : decode cX8_lawOf 31 = .ok (.if_icmp .lt 42, 3) := by decide +kernel
theorem dX8_lawOf_34 : decode cX8_lawOf 34 = .ok (.aload_n 0, 1) := by decide +kernel
theorem dX8_lawOf_35 : decode cX8_lawOf 35 = .ok (.getfield 30, 3) := by decide +kernel
theorem dX8_lawOf_38 : decode cX8_lawOf 38 = .ok (.iload_n 3, 1) := by decide +kernel
theorem dX8_lawOf_39 : decode cX8_lawOf 39 = .ok (.iload 5, 2) := by decide +kernel
theorem dX8_lawOf_41 : decode cX8_lawOf 41 = .ok (.sipush 1000, 3) := by decide +kernel
theorem dX8_lawOf_44 : decode cX8_lawOf 44 = .ok (.if_icmp .lt 12, 3) := by decide +kernel
theorem dX8_lawOf_47 : decode cX8_lawOf 47 = .ok (.iload 5, 2) := by decide +kernel
theorem dX8_lawOf_49 : decode cX8_lawOf 49 = .ok (.sipush 1000, 3) := by decide +kernel
theorem dX8_lawOf_52 : decode cX8_lawOf 52 = .ok (.isub, 1) := by decide +kernel
theorem dX8_lawOf_53 : decode cX8_lawOf 53 = .ok (.goto 13, 3) := by decide +kernel
theorem dX8_lawOf_56 : decode cX8_lawOf 56 = .ok (.aload_n 0, 1) := by decide +kernel
theorem dX8_lawOf_57 : decode cX8_lawOf 57 = .ok (.getfield 33, 3) := by decide +kernel
theorem dX8_lawOf_60 : decode cX8_lawOf 60 = .ok (.iload 5, 2) := by decide +kernel
theorem dX8_lawOf_62 : decode cX8_lawOf 62 = .ok (.bipush 100, 2) := by decide +kernel
theorem dX8_lawOf_64 : decode cX8_lawOf 64 = .ok (.isub, 1) := by decide +kernel
theorem dX8_lawOf_65 : decode cX8_lawOf 65 = .ok (.iaload, 1) := by decide +kernel
theorem dX8_lawOf_66 : decode cX8_lawOf 66 = .ok (.iastore, 1) := by decide +kernel
theorem dX8_lawOf_67 : decode cX8_lawOf 67 = .ok (.iinc 3 1, 3) := by decide +kernel
theorem dX8_lawOf_70 : decode cX8_lawOf 70 = .ok (.goto 63, 3) := by decide +kernel
theorem dX8_lawOf_73 : decode cX8_lawOf 73 = .ok (.iload 5, 2) := by decide +kernel
theorem dX8_lawOf_75 : decode cX8_lawOf 75 = .ok (.bipush 18, 2) := by decide +kernel
theorem dX8_lawOf_77 : decode cX8_lawOf 77 = .ok (.if_icmp .ne 24, 3) := by decide +kernel
theorem dX8_lawOf_80 : decode cX8_lawOf 80 = .ok (.aload_n 0, 1) := by decide +kernel
theorem dX8_lawOf_81 : decode cX8_lawOf 81 = .ok (.getfield 30, 3) := by decide +kernel
theorem dX8_lawOf_84 : decode cX8_lawOf 84 = .ok (.iload_n 3, 1) := by decide +kernel
theorem dX8_lawOf_85 : decode cX8_lawOf 85 = .ok (.iconst 1, 1) := by decide +kernel
theorem dX8_lawOf_86 : decode cX8_lawOf 86 = .ok (.isub, 1) := by decide +kernel
theorem dX8_lawOf_87 : decode cX8_lawOf 87 = .ok (.iconst 1, 1) := by decide +kernel
theorem dX8_lawOf_88 : decode cX8_lawOf 88 = .ok (.aload_n 0, 1) := by decide +kernel
theorem dX8_lawOf_89 : decode cX8_lawOf 89 = .ok (.getfield 30, 3) := by decide +kernel
theorem dX8_lawOf_92 : decode cX8_lawOf 92 = .ok (.iload_n 3, 1) := by decide +kernel
theorem dX8_lawOf_93 : decode cX8_lawOf 93 = .ok (.iconst 1, 1) := by decide +kernel
theorem dX8_lawOf_94 : decode cX8_lawOf 94 = .ok (.isub, 1) := by decide +kernel
theorem dX8_lawOf_95 : decode cX8_lawOf 95 = .ok (.iaload, 1) := by decide +kernel
theorem dX8_lawOf_96 : decode cX8_lawOf 96 = .ok (.isub, 1) := by decide +kernel
theorem dX8_lawOf_97 : decode cX8_lawOf 97 = .ok (.iastore, 1) := by decide +kernel
theorem dX8_lawOf_98 : decode cX8_lawOf 98 = .ok (.goto 35, 3) := by decide +kernel
theorem dX8_lawOf_101 : decode cX8_lawOf 101 = .ok (.iinc 3 (-1), 3) := by decide +kernel
theorem dX8_lawOf_104 : decode cX8_lawOf 104 = .ok (.aload_n 0, 1) := by decide +kernel
theorem dX8_lawOf_105 : decode cX8_lawOf 105 = .ok (.getfield 30, 3) := by decide +kernel
theorem dX8_lawOf_108 : decode cX8_lawOf 108 = .ok (.iload_n 3, 1) := by decide +kernel
theorem dX8_lawOf_109 : decode cX8_lawOf 109 = .ok (.iconst 1, 1) := by decide +kernel
theorem dX8_lawOf_110 : decode cX8_lawOf 110 = .ok (.isub, 1) := by decide +kernel
theorem dX8_lawOf_111 : decode cX8_lawOf 111 = .ok (.iload 5, 2) := by decide +kernel
theorem dX8_lawOf_113 : decode cX8_lawOf 113 = .ok (.aload_n 0, 1) := by decide +kernel
theorem dX8_lawOf_114 : decode cX8_lawOf 114 = .ok (.getfield 30, 3) := by decide +kernel
theorem dX8_lawOf_117 : decode cX8_lawOf 117 = .ok (.iload_n 3, 1) := by decide +kernel
theorem dX8_lawOf_118 : decode cX8_lawOf 118 = .ok (.iconst 1, 1) := by decide +kernel
theorem dX8_lawOf_119 : decode cX8_lawOf 119 = .ok (.isub, 1) := by decide +kernel
theorem dX8_lawOf_120 : decode cX8_lawOf 120 = .ok (.iaload, 1) := by decide +kernel
theorem dX8_lawOf_121 : decode cX8_lawOf 121 = .ok (.i2l, 1) := by decide +kernel
theorem dX8_lawOf_122 : decode cX8_lawOf 122 = .ok (.aload_n 0, 1) := by decide +kernel
theorem dX8_lawOf_123 : decode cX8_lawOf 123 = .ok (.getfield 30, 3) := by decide +kernel
theorem dX8_lawOf_126 : decode cX8_lawOf 126 = .ok (.iload_n 3, 1) := by decide +kernel
theorem dX8_lawOf_127 : decode cX8_lawOf 127 = .ok (.iaload, 1) := by decide +kernel
theorem dX8_lawOf_128 : decode cX8_lawOf 128 = .ok (.i2l, 1) := by decide +kernel
theorem dX8_lawOf_129 : decode cX8_lawOf 129 = .ok (.invokestatic 269, 3) := by decide +kernel
theorem dX8_lawOf_132 : decode cX8_lawOf 132 = .ok (.iastore, 1) := by decide +kernel
theorem dX8_lawOf_133 : decode cX8_lawOf 133 = .ok (.iinc 4 1, 3) := by decide +kernel
theorem dX8_lawOf_136 : decode cX8_lawOf 136 = .ok (.goto (-131), 3) := by decide +kernel
theorem dX8_lawOf_139 : decode cX8_lawOf 139 = .ok (.aload_n 0, 1) := by decide +kernel
theorem dX8_lawOf_140 : decode cX8_lawOf 140 = .ok (.getfield 30, 3) := by decide +kernel
theorem dX8_lawOf_143 : decode cX8_lawOf 143 = .ok (.iconst 0, 1) := by decide +kernel
theorem dX8_lawOf_144 : decode cX8_lawOf 144 = .ok (.iaload, 1) := by decide +kernel
theorem dX8_lawOf_145 : decode cX8_lawOf 145 = .ok (.ireturn, 1) := by decide +kernel
theorem dX8_comesTo_0 : decode cX8_comesTo 0 = .ok (.aload_n 0, 1) := by decide +kernel
theorem dX8_comesTo_1 : decode cX8_comesTo 1 = .ok (.getfield 9, 3) := by decide +kernel
theorem dX8_comesTo_4 : decode cX8_comesTo 4 = .ok (.iconst 4, 1) := by decide +kernel
theorem dX8_comesTo_5 : decode cX8_comesTo 5 = .ok (.iaload, 1) := by decide +kernel
theorem dX8_comesTo_6 : decode cX8_comesTo 6 = .ok (.ifCond .ne 5, 3) := by decide +kernel
theorem dX8_comesTo_9 : decode cX8_comesTo 9 = .ok (.iconst 1, 1) := by decide +kernel
theorem dX8_comesTo_10 : decode cX8_comesTo 10 = .ok (.ireturn, 1) := by decide +kernel
theorem dX8_comesTo_11 : decode cX8_comesTo 11 = .ok (.aload_n 0, 1) := by decide +kernel
theorem dX8_comesTo_12 : decode cX8_comesTo 12 = .ok (.getfield 33, 3) := by decide +kernel
theorem dX8_comesTo_15 : decode cX8_comesTo 15 = .ok (.iconst 0, 1) := by decide +kernel
theorem dX8_comesTo_16 : decode cX8_comesTo 16 = .ok (.aload_n 0, 1) := by decide +kernel
theorem dX8_comesTo_17 : decode cX8_comesTo 17 = .ok (.getfield 9, 3) := by decide +kernel
theorem dX8_comesTo_20 : decode cX8_comesTo 20 = .ok (.bipush 33, 2) := by decide +kernel
theorem dX8_comesTo_22 : decode cX8_comesTo 22 = .ok (.iaload, 1) := by decide +kernel
theorem dX8_comesTo_23 : decode cX8_comesTo 23 = .ok (.iastore, 1) := by decide +kernel
theorem dX8_comesTo_24 : decode cX8_comesTo 24 = .ok (.aload_n 0, 1) := by decide +kernel
theorem dX8_comesTo_25 : decode cX8_comesTo 25 = .ok (.getfield 33, 3) := by decide +kernel
theorem dX8_comesTo_28 : decode cX8_comesTo 28 = .ok (.iconst 1, 1) := by decide +kernel
theorem dX8_comesTo_29 : decode cX8_comesTo 29 = .ok (.iload_n 2, 1) := by decide +kernel
theorem dX8_comesTo_30 : decode cX8_comesTo 30 = .ok (.iastore, 1) := by decide +kernel
theorem dX8_comesTo_31 : decode cX8_comesTo 31 = .ok (.aload_n 0, 1) := by decide +kernel
theorem dX8_comesTo_32 : decode cX8_comesTo 32 = .ok (.getfield 33, 3) := by decide +kernel
theorem dX8_comesTo_35 : decode cX8_comesTo 35 = .ok (.iconst 2, 1) := by decide +kernel
theorem dX8_comesTo_36 : decode cX8_comesTo 36 = .ok (.iload_n 3, 1) := by decide +kernel
theorem dX8_comesTo_37 : decode cX8_comesTo 37 = .ok (.iastore, 1) := by decide +kernel
theorem dX8_comesTo_38 : decode cX8_comesTo 38 = .ok (.aload_n 0, 1) := by decide +kernel
theorem dX8_comesTo_39 : decode cX8_comesTo 39 = .ok (.getfield 33, 3) := by decide +kernel
theorem dX8_comesTo_42 : decode cX8_comesTo 42 = .ok (.iconst 3, 1) := by decide +kernel
theorem dX8_comesTo_43 : decode cX8_comesTo 43 = .ok (.iload_n 1, 1) := by decide +kernel
theorem dX8_comesTo_44 : decode cX8_comesTo 44 = .ok (.iastore, 1) := by decide +kernel
theorem dX8_comesTo_45 : decode cX8_comesTo 45 = .ok (.aload_n 0, 1) := by decide +kernel
theorem dX8_comesTo_46 : decode cX8_comesTo 46 = .ok (.getfield 33, 3) := by decide +kernel
theorem dX8_comesTo_49 : decode cX8_comesTo 49 = .ok (.iconst 4, 1) := by decide +kernel
theorem dX8_comesTo_50 : decode cX8_comesTo 50 = .ok (.aload_n 0, 1) := by decide +kernel
theorem dX8_comesTo_51 : decode cX8_comesTo 51 = .ok (.getfield 9, 3) := by decide +kernel
theorem dX8_comesTo_54 : decode cX8_comesTo 54 = .ok (.bipush 34, 2) := by decide +kernel
theorem dX8_comesTo_56 : decode cX8_comesTo 56 = .ok (.iload_n 1, 1) := by decide +kernel
theorem dX8_comesTo_57 : decode cX8_comesTo 57 = .ok (.iadd, 1) := by decide +kernel
theorem dX8_comesTo_58 : decode cX8_comesTo 58 = .ok (.iaload, 1) := by decide +kernel
theorem dX8_comesTo_59 : decode cX8_comesTo 59 = .ok (.iastore, 1) := by decide +kernel
theorem dX8_comesTo_60 : decode cX8_comesTo 60 = .ok (.aload_n 0, 1) := by decide +kernel
theorem dX8_comesTo_61 : decode cX8_comesTo 61 = .ok (.iconst 4, 1) := by decide +kernel
theorem dX8_comesTo_62 : decode cX8_comesTo 62 = .ok (.sipush 319, 3) := by decide +kernel
theorem dX8_comesTo_65 : decode cX8_comesTo 65 = .ok (.invokevirtual 273, 3) := by decide +kernel
theorem dX8_comesTo_68 : decode cX8_comesTo 68 = .ok (.iconst 1, 1) := by decide +kernel
theorem dX8_comesTo_69 : decode cX8_comesTo 69 = .ok (.if_icmp .ne 7, 3) := by decide +kernel
theorem dX8_comesTo_72 : decode cX8_comesTo 72 = .ok (.iconst 1, 1) := by decide +kernel
theorem dX8_comesTo_73 : decode cX8_comesTo 73 = .ok (.goto 4, 3) := by decide +kernel
theorem dX8_comesTo_76 : decode cX8_comesTo 76 = .ok (.iconst 0, 1) := by decide +kernel
theorem dX8_comesTo_77 : decode cX8_comesTo 77 = .ok (.ireturn, 1) := by decide +kernel
theorem dX8_tideIn_0 : decode cX8_tideIn 0 = .ok (.aload_n 0, 1) := by decide +kernel
theorem dX8_tideIn_1 : decode cX8_tideIn 1 = .ok (.getfield 9, 3) := by decide +kernel
theorem dX8_tideIn_4 : decode cX8_tideIn 4 = .ok (.iconst 5, 1) := by decide +kernel
theorem dX8_tideIn_5 : decode cX8_tideIn 5 = .ok (.iaload, 1) := by decide +kernel
theorem dX8_tideIn_6 : decode cX8_tideIn 6 = .ok (.ifCond .ne 5, 3) := by decide +kernel
theorem dX8_tideIn_9 : decode cX8_tideIn 9 = .ok (.iconst 0, 1) := by decide +kernel
theorem dX8_tideIn_10 : decode cX8_tideIn 10 = .ok (.ireturn, 1) := by decide +kernel
theorem dX8_tideIn_11 : decode cX8_tideIn 11 = .ok (.aload_n 0, 1) := by decide +kernel
theorem dX8_tideIn_12 : decode cX8_tideIn 12 = .ok (.getfield 33, 3) := by decide +kernel
theorem dX8_tideIn_15 : decode cX8_tideIn 15 = .ok (.iconst 0, 1) := by decide +kernel
theorem dX8_tideIn_16 : decode cX8_tideIn 16 = .ok (.iload_n 1, 1) := by decide +kernel
theorem dX8_tideIn_17 : decode cX8_tideIn 17 = .ok (.iastore, 1) := by decide +kernel
theorem dX8_tideIn_18 : decode cX8_tideIn 18 = .ok (.iconst 0, 1) := by decide +kernel
theorem dX8_tideIn_19 : decode cX8_tideIn 19 = .ok (.aload_n 0, 1) := by decide +kernel
theorem dX8_tideIn_20 : decode cX8_tideIn 20 = .ok (.getfield 9, 3) := by decide +kernel
theorem dX8_tideIn_23 : decode cX8_tideIn 23 = .ok (.iconst 2, 1) := by decide +kernel
theorem dX8_tideIn_24 : decode cX8_tideIn 24 = .ok (.iaload, 1) := by decide +kernel
theorem dX8_tideIn_25 : decode cX8_tideIn 25 = .ok (.aload_n 0, 1) := by decide +kernel
theorem dX8_tideIn_26 : decode cX8_tideIn 26 = .ok (.iconst 5, 1) := by decide +kernel
theorem dX8_tideIn_27 : decode cX8_tideIn 27 = .ok (.sipush 1219, 3) := by decide +kernel
theorem dX8_tideIn_30 : decode cX8_tideIn 30 = .ok (.invokevirtual 273, 3) := by decide +kernel
theorem dX8_tideIn_33 : decode cX8_tideIn 33 = .ok (.invokestatic 276, 3) := by decide +kernel
theorem dX8_tideIn_36 : decode cX8_tideIn 36 = .ok (.invokestatic 278, 3) := by decide +kernel
theorem dX8_tideIn_39 : decode cX8_tideIn 39 = .ok (.ireturn, 1) := by decide +kernel
theorem dX8_wetsHow_0 : decode cX8_wetsHow 0 = .ok (.aload_n 0, 1) := by decide +kernel
theorem dX8_wetsHow_1 : decode cX8_wetsHow 1 = .ok (.getfield 9, 3) := by decide +kernel
theorem dX8_wetsHow_4 : decode cX8_wetsHow 4 = .ok (.bipush 6, 2) := by decide +kernel
theorem dX8_wetsHow_6 : decode cX8_wetsHow 6 = .ok (.iaload, 1) := by decide +kernel
theorem dX8_wetsHow_7 : decode cX8_wetsHow 7 = .ok (.ifCond .ne 13, 3) := by decide +kernel
theorem dX8_wetsHow_10 : decode cX8_wetsHow 10 = .ok (.iload_n 2, 1) := by decide +kernel
theorem dX8_wetsHow_11 : decode cX8_wetsHow 11 = .ok (.ifCond .ne 7, 3) := by decide +kernel
theorem dX8_wetsHow_14 : decode cX8_wetsHow 14 = .ok (.iconst 5, 1) := by decide +kernel
theorem dX8_wetsHow_15 : decode cX8_wetsHow 15 = .ok (.goto 4, 3) := by decide +kernel
theorem dX8_wetsHow_18 : decode cX8_wetsHow 18 = .ok (.iconst 0, 1) := by decide +kernel
theorem dX8_wetsHow_19 : decode cX8_wetsHow 19 = .ok (.ireturn, 1) := by decide +kernel
theorem dX8_wetsHow_20 : decode cX8_wetsHow 20 = .ok (.aload_n 0, 1) := by decide +kernel
theorem dX8_wetsHow_21 : decode cX8_wetsHow 21 = .ok (.getfield 33, 3) := by decide +kernel
theorem dX8_wetsHow_24 : decode cX8_wetsHow 24 = .ok (.iconst 0, 1) := by decide +kernel
theorem dX8_wetsHow_25 : decode cX8_wetsHow 25 = .ok (.iload_n 3, 1) := by decide +kernel
theorem dX8_wetsHow_26 : decode cX8_wetsHow 26 = .ok (.iastore, 1) := by decide +kernel
theorem dX8_wetsHow_27 : decode cX8_wetsHow 27 = .ok (.aload_n 0, 1) := by decide +kernel
theorem dX8_wetsHow_28 : decode cX8_wetsHow 28 = .ok (.getfield 33, 3) := by decide +kernel
theorem dX8_wetsHow_31 : decode cX8_wetsHow 31 = .ok (.iconst 1, 1) := by decide +kernel
theorem dX8_wetsHow_32 : decode cX8_wetsHow 32 = .ok (.iload_n 1, 1) := by decide +kernel
theorem dX8_wetsHow_33 : decode cX8_wetsHow 33 = .ok (.iastore, 1) := by decide +kernel
theorem dX8_wetsHow_34 : decode cX8_wetsHow 34 = .ok (.aload_n 0, 1) := by decide +kernel
theorem dX8_wetsHow_35 : decode cX8_wetsHow 35 = .ok (.getfield 33, 3) := by decide +kernel
theorem dX8_wetsHow_38 : decode cX8_wetsHow 38 = .ok (.iconst 2, 1) := by decide +kernel
theorem dX8_wetsHow_39 : decode cX8_wetsHow 39 = .ok (.iload_n 2, 1) := by decide +kernel
theorem dX8_wetsHow_40 : decode cX8_wetsHow 40 = .ok (.iastore, 1) := by decide +kernel
theorem dX8_wetsHow_41 : decode cX8_wetsHow 41 = .ok (.iconst 0, 1) := by decide +kernel
theorem dX8_wetsHow_42 : decode cX8_wetsHow 42 = .ok (.bipush 10, 2) := by decide +kernel
theorem dX8_wetsHow_44 : decode cX8_wetsHow 44 = .ok (.aload_n 0, 1) := by decide +kernel
theorem dX8_wetsHow_45 : decode cX8_wetsHow 45 = .ok (.bipush 6, 2) := by decide +kernel
theorem dX8_wetsHow_47 : decode cX8_wetsHow 47 = .ok (.sipush 2119, 3) := by decide +kernel
theorem dX8_wetsHow_50 : decode cX8_wetsHow 50 = .ok (.invokevirtual 273, 3) := by decide +kernel
theorem dX8_wetsHow_53 : decode cX8_wetsHow 53 = .ok (.invokestatic 276, 3) := by decide +kernel
theorem dX8_wetsHow_56 : decode cX8_wetsHow 56 = .ok (.invokestatic 278, 3) := by decide +kernel
theorem dX8_wetsHow_59 : decode cX8_wetsHow 59 = .ok (.ireturn, 1) := by decide +kernel
theorem dX8_comer_0 : decode cX8_comer 0 = .ok (.iload_n 2, 1) := by decide +kernel
theorem dX8_comer_1 : decode cX8_comer 1 = .ok (.iconst 1, 1) := by decide +kernel
theorem dX8_comer_2 : decode cX8_comer 2 = .ok (.iadd, 1) := by decide +kernel
theorem dX8_comer_3 : decode cX8_comer 3 = .ok (.istore_n 3, 1) := by decide +kernel
theorem dX8_comer_4 : decode cX8_comer 4 = .ok (.iload_n 3, 1) := by decide +kernel
theorem dX8_comer_5 : decode cX8_comer 5 = .ok (.aload_n 0, 1) := by decide +kernel
theorem dX8_comer_6 : decode cX8_comer 6 = .ok (.getfield 9, 3) := by decide +kernel
theorem dX8_comer_9 : decode cX8_comer 9 = .ok (.iconst 2, 1) := by decide +kernel
theorem dX8_comer_10 : decode cX8_comer 10 = .ok (.iaload, 1) := by decide +kernel
theorem dX8_comer_11 : decode cX8_comer 11 = .ok (.if_icmp .ge 46, 3) := by decide +kernel
theorem dX8_comer_14 : decode cX8_comer 14 = .ok (.aload_n 0, 1) := by decide +kernel
theorem dX8_comer_15 : decode cX8_comer 15 = .ok (.iload_n 1, 1) := by decide +kernel
theorem dX8_comer_16 : decode cX8_comer 16 = .ok (.iload_n 3, 1) := by decide +kernel
theorem dX8_comer_17 : decode cX8_comer 17 = .ok (.invokevirtual 280, 3) := by decide +kernel
theorem dX8_comer_20 : decode cX8_comer 20 = .ok (.istore 4, 2) := by decide +kernel
theorem dX8_comer_22 : decode cX8_comer 22 = .ok (.iload 4, 2) := by decide +kernel
theorem dX8_comer_24 : decode cX8_comer 24 = .ok (.iconst (-1), 1) := by decide +kernel
theorem dX8_comer_25 : decode cX8_comer 25 = .ok (.if_icmp .eq 26, 3) := by decide +kernel
theorem dX8_comer_28 : decode cX8_comer 28 = .ok (.aload_n 0, 1) := by decide +kernel
theorem dX8_comer_29 : decode cX8_comer 29 = .ok (.iload 4, 2) := by decide +kernel
theorem dX8_comer_31 : decode cX8_comer 31 = .ok (.invokevirtual 283, 3) := by decide +kernel
theorem dX8_comer_34 : decode cX8_comer 34 = .ok (.ifCond .ne 17, 3) := by decide +kernel
theorem dX8_comer_37 : decode cX8_comer 37 = .ok (.aload_n 0, 1) := by decide +kernel
theorem dX8_comer_38 : decode cX8_comer 38 = .ok (.iload 4, 2) := by decide +kernel
theorem dX8_comer_40 : decode cX8_comer 40 = .ok (.iload_n 1, 1) := by decide +kernel
theorem dX8_comer_41 : decode cX8_comer 41 = .ok (.iload_n 2, 1) := by decide +kernel
theorem dX8_comer_42 : decode cX8_comer 42 = .ok (.invokevirtual 286, 3) := by decide +kernel
theorem dX8_comer_45 : decode cX8_comer 45 = .ok (.ifCond .eq 6, 3) := by decide +kernel
theorem dX8_comer_48 : decode cX8_comer 48 = .ok (.iload 4, 2) := by decide +kernel
theorem dX8_comer_50 : decode cX8_comer 50 = .ok (.ireturn, 1) := by decide +kernel
theorem dX8_comer_51 : decode cX8_comer 51 = .ok (.iinc 3 1, 3) := by decide +kernel
theorem dX8_comer_54 : decode cX8_comer 54 = .ok (.goto (-50), 3) := by decide +kernel
theorem dX8_comer_57 : decode cX8_comer 57 = .ok (.iconst (-1), 1) := by decide +kernel
theorem dX8_comer_58 : decode cX8_comer 58 = .ok (.ireturn, 1) := by decide +kernel
theorem dX8_rises_0 : decode cX8_rises 0 = .ok (.aload_n 0, 1) := by decide +kernel
theorem dX8_rises_1 : decode cX8_rises 1 = .ok (.getfield 9, 3) := by decide +kernel
theorem dX8_rises_4 : decode cX8_rises 4 = .ok (.bipush 8, 2) := by decide +kernel
theorem dX8_rises_6 : decode cX8_rises 6 = .ok (.iload_n 1, 1) := by decide +kernel
theorem dX8_rises_7 : decode cX8_rises 7 = .ok (.iadd, 1) := by decide +kernel
theorem dX8_rises_8 : decode cX8_rises 8 = .ok (.iaload, 1) := by decide +kernel
theorem dX8_rises_9 : decode cX8_rises 9 = .ok (.istore_n 3, 1) := by decide +kernel
theorem dX8_rises_10 : decode cX8_rises 10 = .ok (.aload_n 0, 1) := by decide +kernel
theorem dX8_rises_11 : decode cX8_rises 11 = .ok (.getfield 9, 3) := by decide +kernel
theorem dX8_rises_14 : decode cX8_rises 14 = .ok (.bipush 16, 2) := by decide +kernel
theorem dX8_rises_16 : decode cX8_rises 16 = .ok (.iload_n 1, 1) := by decide +kernel
theorem dX8_rises_17 : decode cX8_rises 17 = .ok (.iadd, 1) := by decide +kernel
theorem dX8_rises_18 : decode cX8_rises 18 = .ok (.iaload, 1) := by decide +kernel
theorem dX8_rises_19 : decode cX8_rises 19 = .ok (.istore 4, 2) := by decide +kernel
theorem dX8_rises_21 : decode cX8_rises 21 = .ok (.aload_n 0, 1) := by decide +kernel
theorem dX8_rises_22 : decode cX8_rises 22 = .ok (.getfield 9, 3) := by decide +kernel
theorem dX8_rises_25 : decode cX8_rises 25 = .ok (.bipush 16, 2) := by decide +kernel
theorem dX8_rises_27 : decode cX8_rises 27 = .ok (.iload_n 1, 1) := by decide +kernel
theorem dX8_rises_28 : decode cX8_rises 28 = .ok (.iadd, 1) := by decide +kernel
theorem dX8_rises_29 : decode cX8_rises 29 = .ok (.iconst (-1), 1) := by decide +kernel
theorem dX8_rises_30 : decode cX8_rises 30 = .ok (.iastore, 1) := by decide +kernel
theorem dX8_rises_31 : decode cX8_rises 31 = .ok (.aload_n 0, 1) := by decide +kernel
theorem dX8_rises_32 : decode cX8_rises 32 = .ok (.getfield 9, 3) := by decide +kernel
theorem dX8_rises_35 : decode cX8_rises 35 = .ok (.bipush 24, 2) := by decide +kernel
theorem dX8_rises_37 : decode cX8_rises 37 = .ok (.iload_n 1, 1) := by decide +kernel
theorem dX8_rises_38 : decode cX8_rises 38 = .ok (.iadd, 1) := by decide +kernel
theorem dX8_rises_39 : decode cX8_rises 39 = .ok (.iload_n 2, 1) := by decide +kernel
theorem dX8_rises_40 : decode cX8_rises 40 = .ok (.iastore, 1) := by decide +kernel
theorem dX8_rises_41 : decode cX8_rises 41 = .ok (.iconst 0, 1) := by decide +kernel
theorem dX8_rises_42 : decode cX8_rises 42 = .ok (.istore 5, 2) := by decide +kernel
theorem dX8_rises_44 : decode cX8_rises 44 = .ok (.aload_n 0, 1) := by decide +kernel
theorem dX8_rises_45 : decode cX8_rises 45 = .ok (.iload_n 3, 1) := by decide +kernel
theorem dX8_rises_46 : decode cX8_rises 46 = .ok (.iload 4, 2) := by decide +kernel
theorem dX8_rises_48 : decode cX8_rises 48 = .ok (.invokevirtual 290, 3) := by decide +kernel
theorem dX8_rises_51 : decode cX8_rises 51 = .ok (.istore 6, 2) := by decide +kernel
theorem dX8_rises_53 : decode cX8_rises 53 = .ok (.iload 6, 2) := by decide +kernel
theorem dX8_rises_55 : decode cX8_rises 55 = .ok (.iconst (-1), 1) := by decide +kernel
theorem dX8_rises_56 : decode cX8_rises 56 = .ok (.if_icmp .eq 46, 3) := by decide +kernel
theorem dX8_rises_59 : decode cX8_rises 59 = .ok (.aload_n 0, 1) := by decide +kernel
theorem dX8_rises_60 : decode cX8_rises 60 = .ok (.getfield 9, 3) := by decide +kernel
theorem dX8_rises_63 : decode cX8_rises 63 = .ok (.bipush 16, 2) := by decide +kernel
theorem dX8_rises_65 : decode cX8_rises 65 = .ok (.iload 6, 2) := by decide +kernel
theorem dX8_rises_67 : decode cX8_rises 67 = .ok (.iadd, 1) := by decide +kernel
theorem dX8_rises_68 : decode cX8_rises 68 = .ok (.iaload, 1) := by decide +kernel
theorem dX8_rises_69 : decode cX8_rises 69 = .ok (.istore 7, 2) := by decide +kernel
theorem dX8_rises_71 : decode cX8_rises 71 = .ok (.aload_n 0, 1) := by decide +kernel
theorem dX8_rises_72 : decode cX8_rises 72 = .ok (.getfield 9, 3) := by decide +kernel
theorem dX8_rises_75 : decode cX8_rises 75 = .ok (.bipush 16, 2) := by decide +kernel
theorem dX8_rises_77 : decode cX8_rises 77 = .ok (.iload 6, 2) := by decide +kernel
theorem dX8_rises_79 : decode cX8_rises 79 = .ok (.iadd, 1) := by decide +kernel
theorem dX8_rises_80 : decode cX8_rises 80 = .ok (.iload 4, 2) := by decide +kernel
theorem dX8_rises_82 : decode cX8_rises 82 = .ok (.iastore, 1) := by decide +kernel
theorem dX8_rises_83 : decode cX8_rises 83 = .ok (.iload 7, 2) := by decide +kernel
theorem dX8_rises_85 : decode cX8_rises 85 = .ok (.istore 4, 2) := by decide +kernel
theorem dX8_rises_87 : decode cX8_rises 87 = .ok (.iinc 5 1, 3) := by decide +kernel
theorem dX8_rises_90 : decode cX8_rises 90 = .ok (.aload_n 0, 1) := by decide +kernel
theorem dX8_rises_91 : decode cX8_rises 91 = .ok (.iload_n 3, 1) := by decide +kernel
theorem dX8_rises_92 : decode cX8_rises 92 = .ok (.iload 4, 2) := by decide +kernel
theorem dX8_rises_94 : decode cX8_rises 94 = .ok (.invokevirtual 290, 3) := by decide +kernel
theorem dX8_rises_97 : decode cX8_rises 97 = .ok (.istore 6, 2) := by decide +kernel
theorem dX8_rises_99 : decode cX8_rises 99 = .ok (.goto (-46), 3) := by decide +kernel
theorem dX8_rises_102 : decode cX8_rises 102 = .ok (.iload 5, 2) := by decide +kernel
theorem dX8_rises_104 : decode cX8_rises 104 = .ok (.ireturn, 1) := by decide +kernel
theorem dX8_lastFree_0 : decode cX8_lastFree 0 = .ok (.aload_n 0, 1) := by decide +kernel
theorem dX8_lastFree_1 : decode cX8_lastFree 1 = .ok (.getfield 9, 3) := by decide +kernel
theorem dX8_lastFree_4 : decode cX8_lastFree 4 = .ok (.iconst 2, 1) := by decide +kernel
theorem dX8_lastFree_5 : decode cX8_lastFree 5 = .ok (.iaload, 1) := by decide +kernel
theorem dX8_lastFree_6 : decode cX8_lastFree 6 = .ok (.iconst 1, 1) := by decide +kernel
theorem dX8_lastFree_7 : decode cX8_lastFree 7 = .ok (.isub, 1) := by decide +kernel
theorem dX8_lastFree_8 : decode cX8_lastFree 8 = .ok (.istore_n 2, 1) := by decide +kernel
theorem dX8_lastFree_9 : decode cX8_lastFree 9 = .ok (.iload_n 2, 1) := by decide +kernel
theorem dX8_lastFree_10 : decode cX8_lastFree 10 = .ok (.ifCond .lt 19, 3) := by decide +kernel
theorem dX8_lastFree_13 : decode cX8_lastFree 13 = .ok (.aload_n 0, 1) := by decide +kernel
theorem dX8_lastFree_14 : decode cX8_lastFree 14 = .ok (.iload_n 1, 1) := by decide +kernel
theorem dX8_lastFree_15 : decode cX8_lastFree 15 = .ok (.iload_n 2, 1) := by decide +kernel
theorem dX8_lastFree_16 : decode cX8_lastFree 16 = .ok (.invokevirtual 280, 3) := by decide +kernel
theorem dX8_lastFree_19 : decode cX8_lastFree 19 = .ok (.iconst (-1), 1) := by decide +kernel
theorem dX8_lastFree_20 : decode cX8_lastFree 20 = .ok (.if_icmp .eq 9, 3) := by decide +kernel
theorem dX8_lastFree_23 : decode cX8_lastFree 23 = .ok (.iinc 2 (-1), 3) := by decide +kernel
theorem dX8_lastFree_26 : decode cX8_lastFree 26 = .ok (.goto (-17), 3) := by decide +kernel
theorem dX8_lastFree_29 : decode cX8_lastFree 29 = .ok (.iload_n 2, 1) := by decide +kernel
theorem dX8_lastFree_30 : decode cX8_lastFree 30 = .ok (.ireturn, 1) := by decide +kernel
theorem dX8_sitsDown_0 : decode cX8_sitsDown 0 = .ok (.aload_n 0, 1) := by decide +kernel
theorem dX8_sitsDown_1 : decode cX8_sitsDown 1 = .ok (.getfield 9, 3) := by decide +kernel
theorem dX8_sitsDown_4 : decode cX8_sitsDown 4 = .ok (.bipush 16, 2) := by decide +kernel
theorem dX8_sitsDown_6 : decode cX8_sitsDown 6 = .ok (.iload_n 1, 1) := by decide +kernel
theorem dX8_sitsDown_7 : decode cX8_sitsDown 7 = .ok (.iadd, 1) := by decide +kernel
theorem dX8_sitsDown_8 : decode cX8_sitsDown 8 = .ok (.aload_n 0, 1) := by decide +kernel
theorem dX8_sitsDown_9 : decode cX8_sitsDown 9 = .ok (.iload_n 2, 1) := by decide +kernel
theorem dX8_sitsDown_10 : decode cX8_sitsDown 10 = .ok (.invokevirtual 293, 3) := by decide +kernel
theorem dX8_sitsDown_13 : decode cX8_sitsDown 13 = .ok (.iastore, 1) := by decide +kernel
theorem dX8_sitsDown_14 : decode cX8_sitsDown 14 = .ok (.aload_n 0, 1) := by decide +kernel
theorem dX8_sitsDown_15 : decode cX8_sitsDown 15 = .ok (.getfield 9, 3) := by decide +kernel
theorem dX8_sitsDown_18 : decode cX8_sitsDown 18 = .ok (.bipush 8, 2) := by decide +kernel
theorem dX8_sitsDown_20 : decode cX8_sitsDown 20 = .ok (.iload_n 1, 1) := by decide +kernel
theorem dX8_sitsDown_21 : decode cX8_sitsDown 21 = .ok (.iadd, 1) := by decide +kernel
theorem dX8_sitsDown_22 : decode cX8_sitsDown 22 = .ok (.iload_n 2, 1) := by decide +kernel
theorem dX8_sitsDown_23 : decode cX8_sitsDown 23 = .ok (.iastore, 1) := by decide +kernel
theorem dX8_sitsDown_24 : decode cX8_sitsDown 24 = .ok (.aload_n 0, 1) := by decide +kernel
theorem dX8_sitsDown_25 : decode cX8_sitsDown 25 = .ok (.getfield 9, 3) := by decide +kernel
theorem dX8_sitsDown_28 : decode cX8_sitsDown 28 = .ok (.bipush 24, 2) := by decide +kernel
theorem dX8_sitsDown_30 : decode cX8_sitsDown 30 = .ok (.iload_n 1, 1) := by decide +kernel
theorem dX8_sitsDown_31 : decode cX8_sitsDown 31 = .ok (.iadd, 1) := by decide +kernel
theorem dX8_sitsDown_32 : decode cX8_sitsDown 32 = .ok (.iconst (-1), 1) := by decide +kernel
theorem dX8_sitsDown_33 : decode cX8_sitsDown 33 = .ok (.iastore, 1) := by decide +kernel
theorem dX8_sitsDown_34 : decode cX8_sitsDown 34 = .ok (.aload_n 0, 1) := by decide +kernel
theorem dX8_sitsDown_35 : decode cX8_sitsDown 35 = .ok (.getfield 9, 3) := by decide +kernel
theorem dX8_sitsDown_38 : decode cX8_sitsDown 38 = .ok (.bipush 16, 2) := by decide +kernel
theorem dX8_sitsDown_40 : decode cX8_sitsDown 40 = .ok (.iload_n 1, 1) := by decide +kernel
theorem dX8_sitsDown_41 : decode cX8_sitsDown 41 = .ok (.iadd, 1) := by decide +kernel
theorem dX8_sitsDown_42 : decode cX8_sitsDown 42 = .ok (.iaload, 1) := by decide +kernel
theorem dX8_sitsDown_43 : decode cX8_sitsDown 43 = .ok (.ireturn, 1) := by decide +kernel
theorem dX8_swaps_0 : decode cX8_swaps 0 = .ok (.iconst 0, 1) := by decide +kernel
theorem dX8_swaps_1 : decode cX8_swaps 1 = .ok (.istore_n 3, 1) := by decide +kernel
theorem dX8_swaps_2 : decode cX8_swaps 2 = .ok (.iload_n 3, 1) := by decide +kernel
theorem dX8_swaps_3 : decode cX8_swaps 3 = .ok (.bipush 9, 2) := by decide +kernel
theorem dX8_swaps_5 : decode cX8_swaps 5 = .ok (.if_icmp .ge 57, 3) := by decide +kernel
theorem dX8_swaps_8 : decode cX8_swaps 8 = .ok (.aload_n 0, 1) := by decide +kernel
theorem dX8_swaps_9 : decode cX8_swaps 9 = .ok (.getfield 9, 3) := by decide +kernel
theorem dX8_swaps_12 : decode cX8_swaps 12 = .ok (.bipush 8, 2) := by decide +kernel
theorem dX8_swaps_14 : decode cX8_swaps 14 = .ok (.iload_n 3, 1) := by decide +kernel
theorem dX8_swaps_15 : decode cX8_swaps 15 = .ok (.iadd, 1) := by decide +kernel
theorem dX8_swaps_16 : decode cX8_swaps 16 = .ok (.iload_n 1, 1) := by decide +kernel
theorem dX8_swaps_17 : decode cX8_swaps 17 = .ok (.iadd, 1) := by decide +kernel
theorem dX8_swaps_18 : decode cX8_swaps 18 = .ok (.iaload, 1) := by decide +kernel
theorem dX8_swaps_19 : decode cX8_swaps 19 = .ok (.istore 4, 2) := by decide +kernel
theorem dX8_swaps_21 : decode cX8_swaps 21 = .ok (.aload_n 0, 1) := by decide +kernel
theorem dX8_swaps_22 : decode cX8_swaps 22 = .ok (.getfield 9, 3) := by decide +kernel
theorem dX8_swaps_25 : decode cX8_swaps 25 = .ok (.bipush 8, 2) := by decide +kernel
theorem dX8_swaps_27 : decode cX8_swaps 27 = .ok (.iload_n 3, 1) := by decide +kernel
theorem dX8_swaps_28 : decode cX8_swaps 28 = .ok (.iadd, 1) := by decide +kernel
theorem dX8_swaps_29 : decode cX8_swaps 29 = .ok (.iload_n 1, 1) := by decide +kernel
theorem dX8_swaps_30 : decode cX8_swaps 30 = .ok (.iadd, 1) := by decide +kernel
theorem dX8_swaps_31 : decode cX8_swaps 31 = .ok (.aload_n 0, 1) := by decide +kernel
theorem dX8_swaps_32 : decode cX8_swaps 32 = .ok (.getfield 9, 3) := by decide +kernel
theorem dX8_swaps_35 : decode cX8_swaps 35 = .ok (.bipush 8, 2) := by decide +kernel
theorem dX8_swaps_37 : decode cX8_swaps 37 = .ok (.iload_n 3, 1) := by decide +kernel
theorem dX8_swaps_38 : decode cX8_swaps 38 = .ok (.iadd, 1) := by decide +kernel
theorem dX8_swaps_39 : decode cX8_swaps 39 = .ok (.iload_n 2, 1) := by decide +kernel
theorem dX8_swaps_40 : decode cX8_swaps 40 = .ok (.iadd, 1) := by decide +kernel
theorem dX8_swaps_41 : decode cX8_swaps 41 = .ok (.iaload, 1) := by decide +kernel
theorem dX8_swaps_42 : decode cX8_swaps 42 = .ok (.iastore, 1) := by decide +kernel
theorem dX8_swaps_43 : decode cX8_swaps 43 = .ok (.aload_n 0, 1) := by decide +kernel
theorem dX8_swaps_44 : decode cX8_swaps 44 = .ok (.getfield 9, 3) := by decide +kernel
theorem dX8_swaps_47 : decode cX8_swaps 47 = .ok (.bipush 8, 2) := by decide +kernel
theorem dX8_swaps_49 : decode cX8_swaps 49 = .ok (.iload_n 3, 1) := by decide +kernel
theorem dX8_swaps_50 : decode cX8_swaps 50 = .ok (.iadd, 1) := by decide +kernel
theorem dX8_swaps_51 : decode cX8_swaps 51 = .ok (.iload_n 2, 1) := by decide +kernel
theorem dX8_swaps_52 : decode cX8_swaps 52 = .ok (.iadd, 1) := by decide +kernel
theorem dX8_swaps_53 : decode cX8_swaps 53 = .ok (.iload 4, 2) := by decide +kernel
theorem dX8_swaps_55 : decode cX8_swaps 55 = .ok (.iastore, 1) := by decide +kernel
theorem dX8_swaps_56 : decode cX8_swaps 56 = .ok (.iinc 3 8, 3) := by decide +kernel
theorem dX8_swaps_59 : decode cX8_swaps 59 = .ok (.goto (-57), 3) := by decide +kernel
theorem dX8_swaps_62 : decode cX8_swaps 62 = .ok (.return_, 1) := by decide +kernel
theorem dX8_minute_0 : decode cX8_minute 0 = .ok (.aload_n 0, 1) := by decide +kernel
theorem dX8_minute_1 : decode cX8_minute 1 = .ok (.getfield 9, 3) := by decide +kernel
theorem dX8_minute_4 : decode cX8_minute 4 = .ok (.bipush 33, 2) := by decide +kernel
theorem dX8_minute_6 : decode cX8_minute 6 = .ok (.iaload, 1) := by decide +kernel
theorem dX8_minute_7 : decode cX8_minute 7 = .ok (.istore_n 1, 1) := by decide +kernel
theorem dX8_minute_8 : decode cX8_minute 8 = .ok (.iconst 0, 1) := by decide +kernel
theorem dX8_minute_9 : decode cX8_minute 9 = .ok (.istore_n 2, 1) := by decide +kernel
theorem dX8_minute_10 : decode cX8_minute 10 = .ok (.iload_n 2, 1) := by decide +kernel
theorem dX8_minute_11 : decode cX8_minute 11 = .ok (.aload_n 0, 1) := by decide +kernel
theorem dX8_minute_12 : decode cX8_minute 12 = .ok (.invokevirtual 242, 3) := by decide +kernel
theorem dX8_minute_15 : decode cX8_minute 15 = .ok (.if_icmp .ge 75, 3) := by decide +kernel
theorem dX8_minute_18 : decode cX8_minute 18 = .ok (.aload_n 0, 1) := by decide +kernel
theorem dX8_minute_19 : decode cX8_minute 19 = .ok (.iload_n 2, 1) := by decide +kernel
theorem dX8_minute_20 : decode cX8_minute 20 = .ok (.invokevirtual 296, 3) := by decide +kernel
theorem dX8_minute_23 : decode cX8_minute 23 = .ok (.ifCond .eq 61, 3) := by decide +kernel
theorem dX8_minute_26 : decode cX8_minute 26 = .ok (.aload_n 0, 1) := by decide +kernel
theorem dX8_minute_27 : decode cX8_minute 27 = .ok (.getfield 9, 3) := by decide +kernel
theorem dX8_minute_30 : decode cX8_minute 30 = .ok (.bipush 24, 2) := by decide +kernel
theorem dX8_minute_32 : decode cX8_minute 32 = .ok (.iload_n 2, 1) := by decide +kernel
theorem dX8_minute_33 : decode cX8_minute 33 = .ok (.iadd, 1) := by decide +kernel
theorem dX8_minute_34 : decode cX8_minute 34 = .ok (.iaload, 1) := by decide +kernel
theorem dX8_minute_35 : decode cX8_minute 35 = .ok (.iconst (-1), 1) := by decide +kernel
theorem dX8_minute_36 : decode cX8_minute 36 = .ok (.if_icmp .eq 48, 3) := by decide +kernel
theorem dX8_minute_39 : decode cX8_minute 39 = .ok (.aload_n 0, 1) := by decide +kernel
theorem dX8_minute_40 : decode cX8_minute 40 = .ok (.getfield 9, 3) := by decide +kernel
theorem dX8_minute_43 : decode cX8_minute 43 = .ok (.bipush 24, 2) := by decide +kernel
theorem dX8_minute_45 : decode cX8_minute 45 = .ok (.iload_n 2, 1) := by decide +kernel
theorem dX8_minute_46 : decode cX8_minute 46 = .ok (.iadd, 1) := by decide +kernel
theorem dX8_minute_47 : decode cX8_minute 47 = .ok (.iaload, 1) := by decide +kernel
theorem dX8_minute_48 : decode cX8_minute 48 = .ok (.iload_n 1, 1) := by decide +kernel
theorem dX8_minute_49 : decode cX8_minute 49 = .ok (.if_icmp .gt 35, 3) := by decide +kernel
theorem dX8_minute_52 : decode cX8_minute 52 = .ok (.aload_n 0, 1) := by decide +kernel
theorem dX8_minute_53 : decode cX8_minute 53 = .ok (.aload_n 0, 1) := by decide +kernel
theorem dX8_minute_54 : decode cX8_minute 54 = .ok (.getfield 9, 3) := by decide +kernel
theorem dX8_minute_57 : decode cX8_minute 57 = .ok (.bipush 8, 2) := by decide +kernel
theorem dX8_minute_59 : decode cX8_minute 59 = .ok (.iload_n 2, 1) := by decide +kernel
theorem dX8_minute_60 : decode cX8_minute 60 = .ok (.iadd, 1) := by decide +kernel
theorem dX8_minute_61 : decode cX8_minute 61 = .ok (.iaload, 1) := by decide +kernel
theorem dX8_minute_62 : decode cX8_minute 62 = .ok (.invokevirtual 293, 3) := by decide +kernel
theorem dX8_minute_65 : decode cX8_minute 65 = .ok (.iconst (-1), 1) := by decide +kernel
theorem dX8_minute_66 : decode cX8_minute 66 = .ok (.if_icmp .eq 18, 3) := by decide +kernel
theorem dX8_minute_69 : decode cX8_minute 69 = .ok (.aload_n 0, 1) := by decide +kernel
theorem dX8_minute_70 : decode cX8_minute 70 = .ok (.iload_n 2, 1) := by decide +kernel
theorem dX8_minute_71 : decode cX8_minute 71 = .ok (.aload_n 0, 1) := by decide +kernel
theorem dX8_minute_72 : decode cX8_minute 72 = .ok (.getfield 9, 3) := by decide +kernel
theorem dX8_minute_75 : decode cX8_minute 75 = .ok (.bipush 8, 2) := by decide +kernel
theorem dX8_minute_77 : decode cX8_minute 77 = .ok (.iload_n 2, 1) := by decide +kernel
theorem dX8_minute_78 : decode cX8_minute 78 = .ok (.iadd, 1) := by decide +kernel
theorem dX8_minute_79 : decode cX8_minute 79 = .ok (.iaload, 1) := by decide +kernel
theorem dX8_minute_80 : decode cX8_minute 80 = .ok (.invokevirtual 299, 3) := by decide +kernel
theorem dX8_minute_83 : decode cX8_minute 83 = .ok (.pop, 1) := by decide +kernel
theorem dX8_minute_84 : decode cX8_minute 84 = .ok (.iinc 2 1, 3) := by decide +kernel
theorem dX8_minute_87 : decode cX8_minute 87 = .ok (.goto (-77), 3) := by decide +kernel
theorem dX8_minute_90 : decode cX8_minute 90 = .ok (.iconst 0, 1) := by decide +kernel
theorem dX8_minute_91 : decode cX8_minute 91 = .ok (.istore_n 2, 1) := by decide +kernel
theorem dX8_minute_92 : decode cX8_minute 92 = .ok (.iload_n 2, 1) := by decide +kernel
theorem dX8_minute_93 : decode cX8_minute 93 = .ok (.aload_n 0, 1) := by decide +kernel
theorem dX8_minute_94 : decode cX8_minute 94 = .ok (.invokevirtual 242, 3) := by decide +kernel
theorem dX8_minute_97 : decode cX8_minute 97 = .ok (.if_icmp .ge 55, 3) := by decide +kernel
theorem dX8_minute_100 : decode cX8_minute 100 = .ok (.aload_n 0, 1) := by decide +kernel
theorem dX8_minute_101 : decode cX8_minute 101 = .ok (.getfield 9, 3) := by decide +kernel
theorem dX8_minute_104 : decode cX8_minute 104 = .ok (.bipush 43, 2) := by decide +kernel
theorem dX8_minute_106 : decode cX8_minute 106 = .ok (.iload_n 2, 1) := by decide +kernel
theorem dX8_minute_107 : decode cX8_minute 107 = .ok (.iadd, 1) := by decide +kernel
theorem dX8_minute_108 : decode cX8_minute 108 = .ok (.iaload, 1) := by decide +kernel
theorem dX8_minute_109 : decode cX8_minute 109 = .ok (.iload_n 1, 1) := by decide +kernel
theorem dX8_minute_110 : decode cX8_minute 110 = .ok (.if_icmp .ne 36, 3) := by decide +kernel
theorem dX8_minute_113 : decode cX8_minute 113 = .ok (.aload_n 0, 1) := by decide +kernel
theorem dX8_minute_114 : decode cX8_minute 114 = .ok (.iload_n 2, 1) := by decide +kernel
theorem dX8_minute_115 : decode cX8_minute 115 = .ok (.invokevirtual 296, 3) := by decide +kernel
theorem dX8_minute_118 : decode cX8_minute 118 = .ok (.ifCond .ne 28, 3) := by decide +kernel
theorem dX8_minute_121 : decode cX8_minute 121 = .ok (.aload_n 0, 1) := by decide +kernel
theorem dX8_minute_122 : decode cX8_minute 122 = .ok (.iload_n 2, 1) := by decide +kernel
theorem dX8_minute_123 : decode cX8_minute 123 = .ok (.invokevirtual 283, 3) := by decide +kernel
theorem dX8_minute_126 : decode cX8_minute 126 = .ok (.ifCond .ne 20, 3) := by decide +kernel
theorem dX8_minute_129 : decode cX8_minute 129 = .ok (.aload_n 0, 1) := by decide +kernel
theorem dX8_minute_130 : decode cX8_minute 130 = .ok (.iload_n 2, 1) := by decide +kernel
theorem dX8_minute_131 : decode cX8_minute 131 = .ok (.iload_n 1, 1) := by decide +kernel
theorem dX8_minute_132 : decode cX8_minute 132 = .ok (.aload_n 0, 1) := by decide +kernel
theorem dX8_minute_133 : decode cX8_minute 133 = .ok (.getfield 9, 3) := by decide +kernel
theorem dX8_minute_136 : decode cX8_minute 136 = .ok (.bipush 51, 2) := by decide +kernel
theorem dX8_minute_138 : decode cX8_minute 138 = .ok (.iload_n 2, 1) := by decide +kernel
theorem dX8_minute_139 : decode cX8_minute 139 = .ok (.iadd, 1) := by decide +kernel
theorem dX8_minute_140 : decode cX8_minute 140 = .ok (.iaload, 1) := by decide +kernel
theorem dX8_minute_141 : decode cX8_minute 141 = .ok (.iadd, 1) := by decide +kernel
theorem dX8_minute_142 : decode cX8_minute 142 = .ok (.invokevirtual 302, 3) := by decide +kernel
theorem dX8_minute_145 : decode cX8_minute 145 = .ok (.pop, 1) := by decide +kernel
theorem dX8_minute_146 : decode cX8_minute 146 = .ok (.iinc 2 1, 3) := by decide +kernel
theorem dX8_minute_149 : decode cX8_minute 149 = .ok (.goto (-57), 3) := by decide +kernel
theorem dX8_minute_152 : decode cX8_minute 152 = .ok (.aload_n 0, 1) := by decide +kernel
theorem dX8_minute_153 : decode cX8_minute 153 = .ok (.iload_n 1, 1) := by decide +kernel
theorem dX8_minute_154 : decode cX8_minute 154 = .ok (.invokevirtual 304, 3) := by decide +kernel
theorem dX8_minute_157 : decode cX8_minute 157 = .ok (.istore_n 2, 1) := by decide +kernel
theorem dX8_minute_158 : decode cX8_minute 158 = .ok (.iconst 0, 1) := by decide +kernel
theorem dX8_minute_159 : decode cX8_minute 159 = .ok (.istore_n 3, 1) := by decide +kernel
theorem dX8_minute_160 : decode cX8_minute 160 = .ok (.iload_n 3, 1) := by decide +kernel
theorem dX8_minute_161 : decode cX8_minute 161 = .ok (.aload_n 0, 1) := by decide +kernel
theorem dX8_minute_162 : decode cX8_minute 162 = .ok (.invokevirtual 242, 3) := by decide +kernel
theorem dX8_minute_165 : decode cX8_minute 165 = .ok (.if_icmp .ge 47, 3) := by decide +kernel
theorem dX8_minute_168 : decode cX8_minute 168 = .ok (.aload_n 0, 1) := by decide +kernel
theorem dX8_minute_169 : decode cX8_minute 169 = .ok (.getfield 9, 3) := by decide +kernel
theorem dX8_minute_172 : decode cX8_minute 172 = .ok (.bipush 32, 2) := by decide +kernel
theorem dX8_minute_174 : decode cX8_minute 174 = .ok (.dup2, 1) := by decide +kernel
theorem dX8_minute_175 : decode cX8_minute 175 = .ok (.iaload, 1) := by decide +kernel
theorem dX8_minute_176 : decode cX8_minute 176 = .ok (.aload_n 0, 1) := by decide +kernel
theorem dX8_minute_177 : decode cX8_minute 177 = .ok (.iload_n 3, 1) := by decide +kernel
theorem dX8_minute_178 : decode cX8_minute 178 = .ok (.invokevirtual 296, 3) := by decide +kernel
theorem dX8_minute_181 : decode cX8_minute 181 = .ok (.ifCond .ne 22, 3) := by decide +kernel
theorem dX8_minute_184 : decode cX8_minute 184 = .ok (.aload_n 0, 1) := by decide +kernel
theorem dX8_minute_185 : decode cX8_minute 185 = .ok (.getfield 9, 3) := by decide +kernel
theorem dX8_minute_188 : decode cX8_minute 188 = .ok (.bipush 16, 2) := by decide +kernel
theorem dX8_minute_190 : decode cX8_minute 190 = .ok (.iload_n 3, 1) := by decide +kernel
theorem dX8_minute_191 : decode cX8_minute 191 = .ok (.iadd, 1) := by decide +kernel
theorem dX8_minute_192 : decode cX8_minute 192 = .ok (.iaload, 1) := by decide +kernel
theorem dX8_minute_193 : decode cX8_minute 193 = .ok (.iload_n 2, 1) := by decide +kernel
theorem dX8_minute_194 : decode cX8_minute 194 = .ok (.if_icmp .ge 9, 3) := by decide +kernel
theorem dX8_minute_197 : decode cX8_minute 197 = .ok (.iconst 1, 1) := by decide +kernel
theorem dX8_minute_198 : decode cX8_minute 198 = .ok (.iload_n 3, 1) := by decide +kernel
theorem dX8_minute_199 : decode cX8_minute 199 = .ok (.ishl, 1) := by decide +kernel
theorem dX8_minute_200 : decode cX8_minute 200 = .ok (.goto 4, 3) := by decide +kernel
theorem dX8_minute_203 : decode cX8_minute 203 = .ok (.iconst 0, 1) := by decide +kernel
theorem dX8_minute_204 : decode cX8_minute 204 = .ok (.ior, 1) := by decide +kernel
theorem dX8_minute_205 : decode cX8_minute 205 = .ok (.iastore, 1) := by decide +kernel
theorem dX8_minute_206 : decode cX8_minute 206 = .ok (.iinc 3 1, 3) := by decide +kernel
theorem dX8_minute_209 : decode cX8_minute 209 = .ok (.goto (-49), 3) := by decide +kernel
theorem dX8_minute_212 : decode cX8_minute 212 = .ok (.aload_n 0, 1) := by decide +kernel
theorem dX8_minute_213 : decode cX8_minute 213 = .ok (.getfield 9, 3) := by decide +kernel
theorem dX8_minute_216 : decode cX8_minute 216 = .ok (.bipush 33, 2) := by decide +kernel
theorem dX8_minute_218 : decode cX8_minute 218 = .ok (.dup2, 1) := by decide +kernel
theorem dX8_minute_219 : decode cX8_minute 219 = .ok (.iaload, 1) := by decide +kernel
theorem dX8_minute_220 : decode cX8_minute 220 = .ok (.iconst 1, 1) := by decide +kernel
theorem dX8_minute_221 : decode cX8_minute 221 = .ok (.iadd, 1) := by decide +kernel
theorem dX8_minute_222 : decode cX8_minute 222 = .ok (.iastore, 1) := by decide +kernel
theorem dX8_minute_223 : decode cX8_minute 223 = .ok (.return_, 1) := by decide +kernel
theorem dX8_chair_0 : decode cX8_chair 0 = .ok (.aload_n 0, 1) := by decide +kernel
theorem dX8_chair_1 : decode cX8_chair 1 = .ok (.iconst 0, 1) := by decide +kernel
theorem dX8_chair_2 : decode cX8_chair 2 = .ok (.putfield 64, 3) := by decide +kernel
theorem dX8_chair_5 : decode cX8_chair 5 = .ok (.aload_n 0, 1) := by decide +kernel
theorem dX8_chair_6 : decode cX8_chair 6 = .ok (.iload_n 1, 1) := by decide +kernel
theorem dX8_chair_7 : decode cX8_chair 7 = .ok (.iload_n 2, 1) := by decide +kernel
theorem dX8_chair_8 : decode cX8_chair 8 = .ok (.invokevirtual 307, 3) := by decide +kernel
theorem dX8_chair_11 : decode cX8_chair 11 = .ok (.ifCond .eq 12, 3) := by decide +kernel
theorem dX8_chair_14 : decode cX8_chair 14 = .ok (.aload_n 0, 1) := by decide +kernel
theorem dX8_chair_15 : decode cX8_chair 15 = .ok (.iload_n 1, 1) := by decide +kernel
theorem dX8_chair_16 : decode cX8_chair 16 = .ok (.iload_n 2, 1) := by decide +kernel
theorem dX8_chair_17 : decode cX8_chair 17 = .ok (.invokevirtual 280, 3) := by decide +kernel
theorem dX8_chair_20 : decode cX8_chair 20 = .ok (.goto 8, 3) := by decide +kernel
theorem dX8_chair_23 : decode cX8_chair 23 = .ok (.aload_n 0, 1) := by decide +kernel
theorem dX8_chair_24 : decode cX8_chair 24 = .ok (.iconst 1, 1) := by decide +kernel
theorem dX8_chair_25 : decode cX8_chair 25 = .ok (.invokevirtual 231, 3) := by decide +kernel
theorem dX8_chair_28 : decode cX8_chair 28 = .ok (.ireturn, 1) := by decide +kernel
theorem dX8_person_0 : decode cX8_person 0 = .ok (.aload_n 0, 1) := by decide +kernel
theorem dX8_person_1 : decode cX8_person 1 = .ok (.aload_n 0, 1) := by decide +kernel
theorem dX8_person_2 : decode cX8_person 2 = .ok (.iload_n 1, 1) := by decide +kernel
theorem dX8_person_3 : decode cX8_person 3 = .ok (.i2l, 1) := by decide +kernel
theorem dX8_person_4 : decode cX8_person 4 = .ok (.invokevirtual 310, 3) := by decide +kernel
theorem dX8_person_7 : decode cX8_person 7 = .ok (.ifCond .ne 7, 3) := by decide +kernel
theorem dX8_person_10 : decode cX8_person 10 = .ok (.iconst 1, 1) := by decide +kernel
theorem dX8_person_11 : decode cX8_person 11 = .ok (.goto 20, 3) := by decide +kernel
theorem dX8_person_14 : decode cX8_person 14 = .ok (.iload_n 2, 1) := by decide +kernel
theorem dX8_person_15 : decode cX8_person 15 = .ok (.i2l, 1) := by decide +kernel
theorem dX8_person_16 : decode cX8_person 16 = .ok (.lconst 0, 1) := by decide +kernel
theorem dX8_person_17 : decode cX8_person 17 = .ok (.ldc2_w 313, 3) := by decide +kernel
theorem dX8_person_20 : decode cX8_person 20 = .ok (.invokestatic 125, 3) := by decide +kernel
theorem dX8_person_23 : decode cX8_person 23 = .ok (.ifCond .eq 7, 3) := by decide +kernel
theorem dX8_person_26 : decode cX8_person 26 = .ok (.iconst 0, 1) := by decide +kernel
theorem dX8_person_27 : decode cX8_person 27 = .ok (.goto 4, 3) := by decide +kernel
theorem dX8_person_30 : decode cX8_person 30 = .ok (.iconst 2, 1) := by decide +kernel
theorem dX8_person_31 : decode cX8_person 31 = .ok (.putfield 64, 3) := by decide +kernel
theorem dX8_person_34 : decode cX8_person 34 = .ok (.aload_n 0, 1) := by decide +kernel
theorem dX8_person_35 : decode cX8_person 35 = .ok (.getfield 64, 3) := by decide +kernel
theorem dX8_person_38 : decode cX8_person 38 = .ok (.ifCond .le 5, 3) := by decide +kernel
theorem dX8_person_41 : decode cX8_person 41 = .ok (.iconst 0, 1) := by decide +kernel
theorem dX8_person_42 : decode cX8_person 42 = .ok (.ireturn, 1) := by decide +kernel
theorem dX8_person_43 : decode cX8_person 43 = .ok (.iload_n 2, 1) := by decide +kernel
theorem dX8_person_44 : decode cX8_person 44 = .ok (.tableswitch 128 0 6 #[44, 54, 64, 74, 88, 108, 118], 44) := by decide +kernel
theorem dX8_person_88 : decode cX8_person 88 = .ok (.aload_n 0, 1) := by decide +kernel
theorem dX8_person_89 : decode cX8_person 89 = .ok (.getfield 9, 3) := by decide +kernel
theorem dX8_person_92 : decode cX8_person 92 = .ok (.bipush 8, 2) := by decide +kernel
theorem dX8_person_94 : decode cX8_person 94 = .ok (.iload_n 1, 1) := by decide +kernel
theorem dX8_person_95 : decode cX8_person 95 = .ok (.iadd, 1) := by decide +kernel
theorem dX8_person_96 : decode cX8_person 96 = .ok (.iaload, 1) := by decide +kernel
theorem dX8_person_97 : decode cX8_person 97 = .ok (.ireturn, 1) := by decide +kernel
theorem dX8_person_98 : decode cX8_person 98 = .ok (.aload_n 0, 1) := by decide +kernel
theorem dX8_person_99 : decode cX8_person 99 = .ok (.getfield 9, 3) := by decide +kernel
theorem dX8_person_102 : decode cX8_person 102 = .ok (.bipush 16, 2) := by decide +kernel
theorem dX8_person_104 : decode cX8_person 104 = .ok (.iload_n 1, 1) := by decide +kernel
theorem dX8_person_105 : decode cX8_person 105 = .ok (.iadd, 1) := by decide +kernel
theorem dX8_person_106 : decode cX8_person 106 = .ok (.iaload, 1) := by decide +kernel
theorem dX8_person_107 : decode cX8_person 107 = .ok (.ireturn, 1) := by decide +kernel
theorem dX8_person_108 : decode cX8_person 108 = .ok (.aload_n 0, 1) := by decide +kernel
theorem dX8_person_109 : decode cX8_person 109 = .ok (.getfield 9, 3) := by decide +kernel
theorem dX8_person_112 : decode cX8_person 112 = .ok (.bipush 34, 2) := by decide +kernel
theorem dX8_person_114 : decode cX8_person 114 = .ok (.iload_n 1, 1) := by decide +kernel
theorem dX8_person_115 : decode cX8_person 115 = .ok (.iadd, 1) := by decide +kernel
theorem dX8_person_116 : decode cX8_person 116 = .ok (.iaload, 1) := by decide +kernel
theorem dX8_person_117 : decode cX8_person 117 = .ok (.ireturn, 1) := by decide +kernel
theorem dX8_person_118 : decode cX8_person 118 = .ok (.aload_n 0, 1) := by decide +kernel
theorem dX8_person_119 : decode cX8_person 119 = .ok (.iload_n 1, 1) := by decide +kernel
theorem dX8_person_120 : decode cX8_person 120 = .ok (.invokevirtual 283, 3) := by decide +kernel
theorem dX8_person_123 : decode cX8_person 123 = .ok (.ifCond .eq 7, 3) := by decide +kernel
theorem dX8_person_126 : decode cX8_person 126 = .ok (.iconst 1, 1) := by decide +kernel
theorem dX8_person_127 : decode cX8_person 127 = .ok (.goto 4, 3) := by decide +kernel
theorem dX8_person_130 : decode cX8_person 130 = .ok (.iconst 0, 1) := by decide +kernel
theorem dX8_person_131 : decode cX8_person 131 = .ok (.ireturn, 1) := by decide +kernel
theorem dX8_person_132 : decode cX8_person 132 = .ok (.aload_n 0, 1) := by decide +kernel
theorem dX8_person_133 : decode cX8_person 133 = .ok (.getfield 9, 3) := by decide +kernel
theorem dX8_person_136 : decode cX8_person 136 = .ok (.bipush 32, 2) := by decide +kernel
theorem dX8_person_138 : decode cX8_person 138 = .ok (.iaload, 1) := by decide +kernel
theorem dX8_person_139 : decode cX8_person 139 = .ok (.iload_n 1, 1) := by decide +kernel
theorem dX8_person_140 : decode cX8_person 140 = .ok (.invokestatic 249, 3) := by decide +kernel
theorem dX8_person_143 : decode cX8_person 143 = .ok (.ifCond .eq 7, 3) := by decide +kernel
theorem dX8_person_146 : decode cX8_person 146 = .ok (.iconst 1, 1) := by decide +kernel
theorem dX8_person_147 : decode cX8_person 147 = .ok (.goto 4, 3) := by decide +kernel
theorem dX8_person_150 : decode cX8_person 150 = .ok (.iconst 0, 1) := by decide +kernel
theorem dX8_person_151 : decode cX8_person 151 = .ok (.ireturn, 1) := by decide +kernel
theorem dX8_person_152 : decode cX8_person 152 = .ok (.aload_n 0, 1) := by decide +kernel
theorem dX8_person_153 : decode cX8_person 153 = .ok (.getfield 9, 3) := by decide +kernel
theorem dX8_person_156 : decode cX8_person 156 = .ok (.bipush 43, 2) := by decide +kernel
theorem dX8_person_158 : decode cX8_person 158 = .ok (.iload_n 1, 1) := by decide +kernel
theorem dX8_person_159 : decode cX8_person 159 = .ok (.iadd, 1) := by decide +kernel
theorem dX8_person_160 : decode cX8_person 160 = .ok (.iaload, 1) := by decide +kernel
theorem dX8_person_161 : decode cX8_person 161 = .ok (.ireturn, 1) := by decide +kernel
theorem dX8_person_162 : decode cX8_person 162 = .ok (.aload_n 0, 1) := by decide +kernel
theorem dX8_person_163 : decode cX8_person 163 = .ok (.getfield 9, 3) := by decide +kernel
theorem dX8_person_166 : decode cX8_person 166 = .ok (.bipush 51, 2) := by decide +kernel
theorem dX8_person_168 : decode cX8_person 168 = .ok (.iload_n 1, 1) := by decide +kernel
theorem dX8_person_169 : decode cX8_person 169 = .ok (.iadd, 1) := by decide +kernel
theorem dX8_person_170 : decode cX8_person 170 = .ok (.iaload, 1) := by decide +kernel
theorem dX8_person_171 : decode cX8_person 171 = .ok (.ireturn, 1) := by decide +kernel
theorem dX8_person_172 : decode cX8_person 172 = .ok (.aload_n 0, 1) := by decide +kernel
theorem dX8_person_173 : decode cX8_person 173 = .ok (.getfield 9, 3) := by decide +kernel
theorem dX8_person_176 : decode cX8_person 176 = .ok (.bipush 24, 2) := by decide +kernel
theorem dX8_person_178 : decode cX8_person 178 = .ok (.iload_n 1, 1) := by decide +kernel
theorem dX8_person_179 : decode cX8_person 179 = .ok (.iadd, 1) := by decide +kernel
theorem dX8_person_180 : decode cX8_person 180 = .ok (.iaload, 1) := by decide +kernel
theorem dX8_person_181 : decode cX8_person 181 = .ok (.ireturn, 1) := by decide +kernel
theorem dX8_tide_0 : decode cX8_tide 0 = .ok (.aload_n 0, 1) := by decide +kernel
theorem dX8_tide_1 : decode cX8_tide 1 = .ok (.iconst 0, 1) := by decide +kernel
theorem dX8_tide_2 : decode cX8_tide 2 = .ok (.putfield 64, 3) := by decide +kernel
theorem dX8_tide_5 : decode cX8_tide 5 = .ok (.iload_n 1, 1) := by decide +kernel
theorem dX8_tide_6 : decode cX8_tide 6 = .ok (.i2l, 1) := by decide +kernel
theorem dX8_tide_7 : decode cX8_tide 7 = .ok (.lconst 0, 1) := by decide +kernel
theorem dX8_tide_8 : decode cX8_tide 8 = .ok (.ldc2_w 315, 3) := by decide +kernel
theorem dX8_tide_11 : decode cX8_tide 11 = .ok (.invokestatic 125, 3) := by decide +kernel
theorem dX8_tide_14 : decode cX8_tide 14 = .ok (.ifCond .eq 19, 3) := by decide +kernel
theorem dX8_tide_17 : decode cX8_tide 17 = .ok (.aload_n 0, 1) := by decide +kernel
theorem dX8_tide_18 : decode cX8_tide 18 = .ok (.aload_n 0, 1) := by decide +kernel
theorem dX8_tide_19 : decode cX8_tide 19 = .ok (.getfield 9, 3) := by decide +kernel
theorem dX8_tide_22 : decode cX8_tide 22 = .ok (.bipush 33, 2) := by decide +kernel
theorem dX8_tide_24 : decode cX8_tide 24 = .ok (.iaload, 1) := by decide +kernel
theorem dX8_tide_25 : decode cX8_tide 25 = .ok (.iload_n 1, 1) := by decide +kernel
theorem dX8_tide_26 : decode cX8_tide 26 = .ok (.iadd, 1) := by decide +kernel
theorem dX8_tide_27 : decode cX8_tide 27 = .ok (.invokevirtual 304, 3) := by decide +kernel
theorem dX8_tide_30 : decode cX8_tide 30 = .ok (.goto 8, 3) := by decide +kernel
theorem dX8_tide_33 : decode cX8_tide 33 = .ok (.aload_n 0, 1) := by decide +kernel
theorem dX8_tide_34 : decode cX8_tide 34 = .ok (.iconst 1, 1) := by decide +kernel
theorem dX8_tide_35 : decode cX8_tide 35 = .ok (.invokevirtual 231, 3) := by decide +kernel
theorem dX8_tide_38 : decode cX8_tide 38 = .ok (.ireturn, 1) := by decide +kernel
theorem dX8_moves_0 : decode cX8_moves 0 = .ok (.aload_n 0, 1) := by decide +kernel
theorem dX8_moves_1 : decode cX8_moves 1 = .ok (.aload_n 0, 1) := by decide +kernel
theorem dX8_moves_2 : decode cX8_moves 2 = .ok (.iload_n 1, 1) := by decide +kernel
theorem dX8_moves_3 : decode cX8_moves 3 = .ok (.i2l, 1) := by decide +kernel
theorem dX8_moves_4 : decode cX8_moves 4 = .ok (.invokevirtual 310, 3) := by decide +kernel
theorem dX8_moves_7 : decode cX8_moves 7 = .ok (.ifCond .eq 16, 3) := by decide +kernel
theorem dX8_moves_10 : decode cX8_moves 10 = .ok (.aload_n 0, 1) := by decide +kernel
theorem dX8_moves_11 : decode cX8_moves 11 = .ok (.iload_n 2, 1) := by decide +kernel
theorem dX8_moves_12 : decode cX8_moves 12 = .ok (.iload_n 3, 1) := by decide +kernel
theorem dX8_moves_13 : decode cX8_moves 13 = .ok (.invokevirtual 307, 3) := by decide +kernel
theorem dX8_moves_16 : decode cX8_moves 16 = .ok (.ifCond .eq 7, 3) := by decide +kernel
theorem dX8_moves_19 : decode cX8_moves 19 = .ok (.iconst 0, 1) := by decide +kernel
theorem dX8_moves_20 : decode cX8_moves 20 = .ok (.goto 4, 3) := by decide +kernel
theorem dX8_moves_23 : decode cX8_moves 23 = .ok (.iconst 1, 1) := by decide +kernel
theorem dX8_moves_24 : decode cX8_moves 24 = .ok (.putfield 64, 3) := by decide +kernel
theorem dX8_moves_27 : decode cX8_moves 27 = .ok (.aload_n 0, 1) := by decide +kernel
theorem dX8_moves_28 : decode cX8_moves 28 = .ok (.getfield 64, 3) := by decide +kernel
theorem dX8_moves_31 : decode cX8_moves 31 = .ok (.ifCond .ne 17, 3) := by decide +kernel
theorem dX8_moves_34 : decode cX8_moves 34 = .ok (.aload_n 0, 1) := by decide +kernel
theorem dX8_moves_35 : decode cX8_moves 35 = .ok (.iload_n 1, 1) := by decide +kernel
theorem dX8_moves_36 : decode cX8_moves 36 = .ok (.iload_n 2, 1) := by decide +kernel
theorem dX8_moves_37 : decode cX8_moves 37 = .ok (.iload_n 3, 1) := by decide +kernel
theorem dX8_moves_38 : decode cX8_moves 38 = .ok (.invokevirtual 286, 3) := by decide +kernel
theorem dX8_moves_41 : decode cX8_moves 41 = .ok (.ifCond .eq 7, 3) := by decide +kernel
theorem dX8_moves_44 : decode cX8_moves 44 = .ok (.iconst 1, 1) := by decide +kernel
theorem dX8_moves_45 : decode cX8_moves 45 = .ok (.goto 4, 3) := by decide +kernel
theorem dX8_moves_48 : decode cX8_moves 48 = .ok (.iconst 0, 1) := by decide +kernel
theorem dX8_moves_49 : decode cX8_moves 49 = .ok (.ireturn, 1) := by decide +kernel
theorem dX8_wets_0 : decode cX8_wets 0 = .ok (.aload_n 0, 1) := by decide +kernel
theorem dX8_wets_1 : decode cX8_wets 1 = .ok (.aload_n 0, 1) := by decide +kernel
theorem dX8_wets_2 : decode cX8_wets 2 = .ok (.iload_n 1, 1) := by decide +kernel
theorem dX8_wets_3 : decode cX8_wets 3 = .ok (.iload_n 2, 1) := by decide +kernel
theorem dX8_wets_4 : decode cX8_wets 4 = .ok (.invokevirtual 307, 3) := by decide +kernel
theorem dX8_wets_7 : decode cX8_wets 7 = .ok (.ifCond .ne 7, 3) := by decide +kernel
theorem dX8_wets_10 : decode cX8_wets 10 = .ok (.iconst 1, 1) := by decide +kernel
theorem dX8_wets_11 : decode cX8_wets 11 = .ok (.goto 20, 3) := by decide +kernel
theorem dX8_wets_14 : decode cX8_wets 14 = .ok (.iload_n 3, 1) := by decide +kernel
theorem dX8_wets_15 : decode cX8_wets 15 = .ok (.i2l, 1) := by decide +kernel
theorem dX8_wets_16 : decode cX8_wets 16 = .ok (.lconst 0, 1) := by decide +kernel
theorem dX8_wets_17 : decode cX8_wets 17 = .ok (.ldc2_w 315, 3) := by decide +kernel
theorem dX8_wets_20 : decode cX8_wets 20 = .ok (.invokestatic 125, 3) := by decide +kernel
theorem dX8_wets_23 : decode cX8_wets 23 = .ok (.ifCond .eq 7, 3) := by decide +kernel
theorem dX8_wets_26 : decode cX8_wets 26 = .ok (.iconst 0, 1) := by decide +kernel
theorem dX8_wets_27 : decode cX8_wets 27 = .ok (.goto 4, 3) := by decide +kernel
theorem dX8_wets_30 : decode cX8_wets 30 = .ok (.iconst 2, 1) := by decide +kernel
theorem dX8_wets_31 : decode cX8_wets 31 = .ok (.putfield 64, 3) := by decide +kernel
theorem dX8_wets_34 : decode cX8_wets 34 = .ok (.aload_n 0, 1) := by decide +kernel
theorem dX8_wets_35 : decode cX8_wets 35 = .ok (.getfield 64, 3) := by decide +kernel
theorem dX8_wets_38 : decode cX8_wets 38 = .ok (.ifCond .le 7, 3) := by decide +kernel
theorem dX8_wets_41 : decode cX8_wets 41 = .ok (.iconst 0, 1) := by decide +kernel
theorem dX8_wets_42 : decode cX8_wets 42 = .ok (.goto 18, 3) := by decide +kernel
theorem dX8_wets_45 : decode cX8_wets 45 = .ok (.aload_n 0, 1) := by decide +kernel
theorem dX8_wets_46 : decode cX8_wets 46 = .ok (.iload_n 1, 1) := by decide +kernel
theorem dX8_wets_47 : decode cX8_wets 47 = .ok (.iload_n 2, 1) := by decide +kernel
theorem dX8_wets_48 : decode cX8_wets 48 = .ok (.aload_n 0, 1) := by decide +kernel
theorem dX8_wets_49 : decode cX8_wets 49 = .ok (.getfield 9, 3) := by decide +kernel
theorem dX8_wets_52 : decode cX8_wets 52 = .ok (.bipush 33, 2) := by decide +kernel
theorem dX8_wets_54 : decode cX8_wets 54 = .ok (.iaload, 1) := by decide +kernel
theorem dX8_wets_55 : decode cX8_wets 55 = .ok (.iload_n 3, 1) := by decide +kernel
theorem dX8_wets_56 : decode cX8_wets 56 = .ok (.iadd, 1) := by decide +kernel
theorem dX8_wets_57 : decode cX8_wets 57 = .ok (.invokevirtual 317, 3) := by decide +kernel
theorem dX8_wets_60 : decode cX8_wets 60 = .ok (.ireturn, 1) := by decide +kernel
theorem dX8_keeps_0 : decode cX8_keeps 0 = .ok (.aload_n 0, 1) := by decide +kernel
theorem dX8_keeps_1 : decode cX8_keeps 1 = .ok (.getfield 9, 3) := by decide +kernel
theorem dX8_keeps_4 : decode cX8_keeps 4 = .ok (.bipush 7, 2) := by decide +kernel
theorem dX8_keeps_6 : decode cX8_keeps 6 = .ok (.iaload, 1) := by decide +kernel
theorem dX8_keeps_7 : decode cX8_keeps 7 = .ok (.bipush 10, 2) := by decide +kernel
theorem dX8_keeps_9 : decode cX8_keeps 9 = .ok (.if_icmp .ne 45, 3) := by decide +kernel
theorem dX8_keeps_12 : decode cX8_keeps 12 = .ok (.bipush 59, 2) := by decide +kernel
theorem dX8_keeps_14 : decode cX8_keeps 14 = .ok (.istore_n 1, 1) := by decide +kernel
theorem dX8_keeps_15 : decode cX8_keeps 15 = .ok (.iload_n 1, 1) := by decide +kernel
theorem dX8_keeps_16 : decode cX8_keeps 16 = .ok (.sipush 293, 3) := by decide +kernel
theorem dX8_keeps_19 : decode cX8_keeps 19 = .ok (.if_icmp .ge 24, 3) := by decide +kernel
theorem dX8_keeps_22 : decode cX8_keeps 22 = .ok (.aload_n 0, 1) := by decide +kernel
theorem dX8_keeps_23 : decode cX8_keeps 23 = .ok (.getfield 9, 3) := by decide +kernel
theorem dX8_keeps_26 : decode cX8_keeps 26 = .ok (.iload_n 1, 1) := by decide +kernel
theorem dX8_keeps_27 : decode cX8_keeps 27 = .ok (.aload_n 0, 1) := by decide +kernel
theorem dX8_keeps_28 : decode cX8_keeps 28 = .ok (.getfield 9, 3) := by decide +kernel
theorem dX8_keeps_31 : decode cX8_keeps 31 = .ok (.iload_n 1, 1) := by decide +kernel
theorem dX8_keeps_32 : decode cX8_keeps 32 = .ok (.bipush 26, 2) := by decide +kernel
theorem dX8_keeps_34 : decode cX8_keeps 34 = .ok (.iadd, 1) := by decide +kernel
theorem dX8_keeps_35 : decode cX8_keeps 35 = .ok (.iaload, 1) := by decide +kernel
theorem dX8_keeps_36 : decode cX8_keeps 36 = .ok (.iastore, 1) := by decide +kernel
theorem dX8_keeps_37 : decode cX8_keeps 37 = .ok (.iinc 1 1, 3) := by decide +kernel
theorem dX8_keeps_40 : decode cX8_keeps 40 = .ok (.goto (-25), 3) := by decide +kernel
theorem dX8_keeps_43 : decode cX8_keeps 43 = .ok (.aload_n 0, 1) := by decide +kernel
theorem dX8_keeps_44 : decode cX8_keeps 44 = .ok (.getfield 9, 3) := by decide +kernel
theorem dX8_keeps_47 : decode cX8_keeps 47 = .ok (.bipush 7, 2) := by decide +kernel
theorem dX8_keeps_49 : decode cX8_keeps 49 = .ok (.dup2, 1) := by decide +kernel
theorem dX8_keeps_50 : decode cX8_keeps 50 = .ok (.iaload, 1) := by decide +kernel
theorem dX8_keeps_51 : decode cX8_keeps 51 = .ok (.iconst 1, 1) := by decide +kernel
theorem dX8_keeps_52 : decode cX8_keeps 52 = .ok (.isub, 1) := by decide +kernel
theorem dX8_keeps_53 : decode cX8_keeps 53 = .ok (.iastore, 1) := by decide +kernel
theorem dX8_keeps_54 : decode cX8_keeps 54 = .ok (.iconst 0, 1) := by decide +kernel
theorem dX8_keeps_55 : decode cX8_keeps 55 = .ok (.istore_n 1, 1) := by decide +kernel
theorem dX8_keeps_56 : decode cX8_keeps 56 = .ok (.iload_n 1, 1) := by decide +kernel
theorem dX8_keeps_57 : decode cX8_keeps 57 = .ok (.bipush 26, 2) := by decide +kernel
theorem dX8_keeps_59 : decode cX8_keeps 59 = .ok (.if_icmp .ge 38, 3) := by decide +kernel
theorem dX8_keeps_62 : decode cX8_keeps 62 = .ok (.aload_n 0, 1) := by decide +kernel
theorem dX8_keeps_63 : decode cX8_keeps 63 = .ok (.getfield 9, 3) := by decide +kernel
theorem dX8_keeps_66 : decode cX8_keeps 66 = .ok (.bipush 59, 2) := by decide +kernel
theorem dX8_keeps_68 : decode cX8_keeps 68 = .ok (.bipush 26, 2) := by decide +kernel
theorem dX8_keeps_70 : decode cX8_keeps 70 = .ok (.aload_n 0, 1) := by decide +kernel
theorem dX8_keeps_71 : decode cX8_keeps 71 = .ok (.getfield 9, 3) := by decide +kernel
theorem dX8_keeps_74 : decode cX8_keeps 74 = .ok (.bipush 7, 2) := by decide +kernel
theorem dX8_keeps_76 : decode cX8_keeps 76 = .ok (.iaload, 1) := by decide +kernel
theorem dX8_keeps_77 : decode cX8_keeps 77 = .ok (.imul, 1) := by decide +kernel
theorem dX8_keeps_78 : decode cX8_keeps 78 = .ok (.iadd, 1) := by decide +kernel
theorem dX8_keeps_79 : decode cX8_keeps 79 = .ok (.iload_n 1, 1) := by decide +kernel
theorem dX8_keeps_80 : decode cX8_keeps 80 = .ok (.iadd, 1) := by decide +kernel
theorem dX8_keeps_81 : decode cX8_keeps 81 = .ok (.aload_n 0, 1) := by decide +kernel
theorem dX8_keeps_82 : decode cX8_keeps 82 = .ok (.getfield 9, 3) := by decide +kernel
theorem dX8_keeps_85 : decode cX8_keeps 85 = .ok (.bipush 8, 2) := by decide +kernel
theorem dX8_keeps_87 : decode cX8_keeps 87 = .ok (.iload_n 1, 1) := by decide +kernel
theorem dX8_keeps_88 : decode cX8_keeps 88 = .ok (.iadd, 1) := by decide +kernel
theorem dX8_keeps_89 : decode cX8_keeps 89 = .ok (.iaload, 1) := by decide +kernel
theorem dX8_keeps_90 : decode cX8_keeps 90 = .ok (.iastore, 1) := by decide +kernel
theorem dX8_keeps_91 : decode cX8_keeps 91 = .ok (.iinc 1 1, 3) := by decide +kernel
theorem dX8_keeps_94 : decode cX8_keeps 94 = .ok (.goto (-38), 3) := by decide +kernel
theorem dX8_keeps_97 : decode cX8_keeps 97 = .ok (.aload_n 0, 1) := by decide +kernel
theorem dX8_keeps_98 : decode cX8_keeps 98 = .ok (.getfield 9, 3) := by decide +kernel
theorem dX8_keeps_101 : decode cX8_keeps 101 = .ok (.bipush 7, 2) := by decide +kernel
theorem dX8_keeps_103 : decode cX8_keeps 103 = .ok (.dup2, 1) := by decide +kernel
theorem dX8_keeps_104 : decode cX8_keeps 104 = .ok (.iaload, 1) := by decide +kernel
theorem dX8_keeps_105 : decode cX8_keeps 105 = .ok (.iconst 1, 1) := by decide +kernel
theorem dX8_keeps_106 : decode cX8_keeps 106 = .ok (.iadd, 1) := by decide +kernel
theorem dX8_keeps_107 : decode cX8_keeps 107 = .ok (.iastore, 1) := by decide +kernel
theorem dX8_keeps_108 : decode cX8_keeps 108 = .ok (.return_, 1) := by decide +kernel
theorem dX8_putsAside_0 : decode cX8_putsAside 0 = .ok (.iconst 0, 1) := by decide +kernel
theorem dX8_putsAside_1 : decode cX8_putsAside 1 = .ok (.istore_n 1, 1) := by decide +kernel
theorem dX8_putsAside_2 : decode cX8_putsAside 2 = .ok (.iload_n 1, 1) := by decide +kernel
theorem dX8_putsAside_3 : decode cX8_putsAside 3 = .ok (.bipush 26, 2) := by decide +kernel
theorem dX8_putsAside_5 : decode cX8_putsAside 5 = .ok (.if_icmp .ge 24, 3) := by decide +kernel
theorem dX8_putsAside_8 : decode cX8_putsAside 8 = .ok (.aload_n 0, 1) := by decide +kernel
theorem dX8_putsAside_9 : decode cX8_putsAside 9 = .ok (.getfield 36, 3) := by decide +kernel
theorem dX8_putsAside_12 : decode cX8_putsAside 12 = .ok (.iload_n 1, 1) := by decide +kernel
theorem dX8_putsAside_13 : decode cX8_putsAside 13 = .ok (.aload_n 0, 1) := by decide +kernel
theorem dX8_putsAside_14 : decode cX8_putsAside 14 = .ok (.getfield 9, 3) := by decide +kernel
theorem dX8_putsAside_17 : decode cX8_putsAside 17 = .ok (.bipush 8, 2) := by decide +kernel
theorem dX8_putsAside_19 : decode cX8_putsAside 19 = .ok (.iload_n 1, 1) := by decide +kernel
theorem dX8_putsAside_20 : decode cX8_putsAside 20 = .ok (.iadd, 1) := by decide +kernel
theorem dX8_putsAside_21 : decode cX8_putsAside 21 = .ok (.iaload, 1) := by decide +kernel
theorem dX8_putsAside_22 : decode cX8_putsAside 22 = .ok (.iastore, 1) := by decide +kernel
theorem dX8_putsAside_23 : decode cX8_putsAside 23 = .ok (.iinc 1 1, 3) := by decide +kernel
theorem dX8_putsAside_26 : decode cX8_putsAside 26 = .ok (.goto (-24), 3) := by decide +kernel
theorem dX8_putsAside_29 : decode cX8_putsAside 29 = .ok (.return_, 1) := by decide +kernel
theorem dX8_putsBack_0 : decode cX8_putsBack 0 = .ok (.iconst 0, 1) := by decide +kernel
theorem dX8_putsBack_1 : decode cX8_putsBack 1 = .ok (.istore_n 1, 1) := by decide +kernel
theorem dX8_putsBack_2 : decode cX8_putsBack 2 = .ok (.iload_n 1, 1) := by decide +kernel
theorem dX8_putsBack_3 : decode cX8_putsBack 3 = .ok (.bipush 26, 2) := by decide +kernel
theorem dX8_putsBack_5 : decode cX8_putsBack 5 = .ok (.if_icmp .ge 24, 3) := by decide +kernel
theorem dX8_putsBack_8 : decode cX8_putsBack 8 = .ok (.aload_n 0, 1) := by decide +kernel
theorem dX8_putsBack_9 : decode cX8_putsBack 9 = .ok (.getfield 9, 3) := by decide +kernel
theorem dX8_putsBack_12 : decode cX8_putsBack 12 = .ok (.bipush 8, 2) := by decide +kernel
theorem dX8_putsBack_14 : decode cX8_putsBack 14 = .ok (.iload_n 1, 1) := by decide +kernel
theorem dX8_putsBack_15 : decode cX8_putsBack 15 = .ok (.iadd, 1) := by decide +kernel
theorem dX8_putsBack_16 : decode cX8_putsBack 16 = .ok (.aload_n 0, 1) := by decide +kernel
theorem dX8_putsBack_17 : decode cX8_putsBack 17 = .ok (.getfield 36, 3) := by decide +kernel
theorem dX8_putsBack_20 : decode cX8_putsBack 20 = .ok (.iload_n 1, 1) := by decide +kernel
theorem dX8_putsBack_21 : decode cX8_putsBack 21 = .ok (.iaload, 1) := by decide +kernel
theorem dX8_putsBack_22 : decode cX8_putsBack 22 = .ok (.iastore, 1) := by decide +kernel
theorem dX8_putsBack_23 : decode cX8_putsBack 23 = .ok (.iinc 1 1, 3) := by decide +kernel
theorem dX8_putsBack_26 : decode cX8_putsBack 26 = .ok (.goto (-24), 3) := by decide +kernel
theorem dX8_putsBack_29 : decode cX8_putsBack 29 = .ok (.return_, 1) := by decide +kernel
theorem dX8_whyRise_0 : decode cX8_whyRise 0 = .ok (.aload_n 0, 1) := by decide +kernel
theorem dX8_whyRise_1 : decode cX8_whyRise 1 = .ok (.lload_n 1, 1) := by decide +kernel
theorem dX8_whyRise_2 : decode cX8_whyRise 2 = .ok (.invokevirtual 310, 3) := by decide +kernel
theorem dX8_whyRise_5 : decode cX8_whyRise 5 = .ok (.ifCond .ne 7, 3) := by decide +kernel
theorem dX8_whyRise_8 : decode cX8_whyRise 8 = .ok (.iconst 1, 1) := by decide +kernel
theorem dX8_whyRise_9 : decode cX8_whyRise 9 = .ok (.goto 30, 3) := by decide +kernel
theorem dX8_whyRise_12 : decode cX8_whyRise 12 = .ok (.aload_n 0, 1) := by decide +kernel
theorem dX8_whyRise_13 : decode cX8_whyRise 13 = .ok (.lload_n 1, 1) := by decide +kernel
theorem dX8_whyRise_14 : decode cX8_whyRise 14 = .ok (.l2i, 1) := by decide +kernel
theorem dX8_whyRise_15 : decode cX8_whyRise 15 = .ok (.invokevirtual 296, 3) := by decide +kernel
theorem dX8_whyRise_18 : decode cX8_whyRise 18 = .ok (.ifCond .eq 7, 3) := by decide +kernel
theorem dX8_whyRise_21 : decode cX8_whyRise 21 = .ok (.iconst 2, 1) := by decide +kernel
theorem dX8_whyRise_22 : decode cX8_whyRise 22 = .ok (.goto 17, 3) := by decide +kernel
theorem dX8_whyRise_25 : decode cX8_whyRise 25 = .ok (.aload_n 0, 1) := by decide +kernel
theorem dX8_whyRise_26 : decode cX8_whyRise 26 = .ok (.lload_n 1, 1) := by decide +kernel
theorem dX8_whyRise_27 : decode cX8_whyRise 27 = .ok (.l2i, 1) := by decide +kernel
theorem dX8_whyRise_28 : decode cX8_whyRise 28 = .ok (.invokevirtual 283, 3) := by decide +kernel
theorem dX8_whyRise_31 : decode cX8_whyRise 31 = .ok (.ifCond .eq 7, 3) := by decide +kernel
theorem dX8_whyRise_34 : decode cX8_whyRise 34 = .ok (.iconst 3, 1) := by decide +kernel
theorem dX8_whyRise_35 : decode cX8_whyRise 35 = .ok (.goto 4, 3) := by decide +kernel
theorem dX8_whyRise_38 : decode cX8_whyRise 38 = .ok (.iconst 0, 1) := by decide +kernel
theorem dX8_whyRise_39 : decode cX8_whyRise 39 = .ok (.ireturn, 1) := by decide +kernel
theorem dX8_whySit_0 : decode cX8_whySit 0 = .ok (.aload_n 0, 1) := by decide +kernel
theorem dX8_whySit_1 : decode cX8_whySit 1 = .ok (.lload_n 1, 1) := by decide +kernel
theorem dX8_whySit_2 : decode cX8_whySit 2 = .ok (.invokevirtual 310, 3) := by decide +kernel
theorem dX8_whySit_5 : decode cX8_whySit 5 = .ok (.ifCond .eq 11, 3) := by decide +kernel
theorem dX8_whySit_8 : decode cX8_whySit 8 = .ok (.aload_n 0, 1) := by decide +kernel
theorem dX8_whySit_9 : decode cX8_whySit 9 = .ok (.lload_n 3, 1) := by decide +kernel
theorem dX8_whySit_10 : decode cX8_whySit 10 = .ok (.invokevirtual 245, 3) := by decide +kernel
theorem dX8_whySit_13 : decode cX8_whySit 13 = .ok (.ifCond .ne 7, 3) := by decide +kernel
theorem dX8_whySit_16 : decode cX8_whySit 16 = .ok (.iconst 1, 1) := by decide +kernel
theorem dX8_whySit_17 : decode cX8_whySit 17 = .ok (.goto 31, 3) := by decide +kernel
theorem dX8_whySit_20 : decode cX8_whySit 20 = .ok (.aload_n 0, 1) := by decide +kernel
theorem dX8_whySit_21 : decode cX8_whySit 21 = .ok (.lload_n 1, 1) := by decide +kernel
theorem dX8_whySit_22 : decode cX8_whySit 22 = .ok (.l2i, 1) := by decide +kernel
theorem dX8_whySit_23 : decode cX8_whySit 23 = .ok (.invokevirtual 296, 3) := by decide +kernel
theorem dX8_whySit_26 : decode cX8_whySit 26 = .ok (.ifCond .ne 7, 3) := by decide +kernel
theorem dX8_whySit_29 : decode cX8_whySit 29 = .ok (.iconst 2, 1) := by decide +kernel
theorem dX8_whySit_30 : decode cX8_whySit 30 = .ok (.goto 18, 3) := by decide +kernel
theorem dX8_whySit_33 : decode cX8_whySit 33 = .ok (.aload_n 0, 1) := by decide +kernel
theorem dX8_whySit_34 : decode cX8_whySit 34 = .ok (.lload_n 3, 1) := by decide +kernel
theorem dX8_whySit_35 : decode cX8_whySit 35 = .ok (.l2i, 1) := by decide +kernel
theorem dX8_whySit_36 : decode cX8_whySit 36 = .ok (.invokevirtual 293, 3) := by decide +kernel
theorem dX8_whySit_39 : decode cX8_whySit 39 = .ok (.iconst (-1), 1) := by decide +kernel
theorem dX8_whySit_40 : decode cX8_whySit 40 = .ok (.if_icmp .ne 7, 3) := by decide +kernel
theorem dX8_whySit_43 : decode cX8_whySit 43 = .ok (.iconst 3, 1) := by decide +kernel
theorem dX8_whySit_44 : decode cX8_whySit 44 = .ok (.goto 4, 3) := by decide +kernel
theorem dX8_whySit_47 : decode cX8_whySit 47 = .ok (.iconst 0, 1) := by decide +kernel
theorem dX8_whySit_48 : decode cX8_whySit 48 = .ok (.ireturn, 1) := by decide +kernel
theorem dX8_whySwap_0 : decode cX8_whySwap 0 = .ok (.aload_n 0, 1) := by decide +kernel
theorem dX8_whySwap_1 : decode cX8_whySwap 1 = .ok (.lload_n 1, 1) := by decide +kernel
theorem dX8_whySwap_2 : decode cX8_whySwap 2 = .ok (.invokevirtual 310, 3) := by decide +kernel
theorem dX8_whySwap_5 : decode cX8_whySwap 5 = .ok (.ifCond .eq 17, 3) := by decide +kernel
theorem dX8_whySwap_8 : decode cX8_whySwap 8 = .ok (.aload_n 0, 1) := by decide +kernel
theorem dX8_whySwap_9 : decode cX8_whySwap 9 = .ok (.lload_n 3, 1) := by decide +kernel
theorem dX8_whySwap_10 : decode cX8_whySwap 10 = .ok (.invokevirtual 310, 3) := by decide +kernel
theorem dX8_whySwap_13 : decode cX8_whySwap 13 = .ok (.ifCond .eq 9, 3) := by decide +kernel
theorem dX8_whySwap_16 : decode cX8_whySwap 16 = .ok (.lload_n 1, 1) := by decide +kernel
theorem dX8_whySwap_17 : decode cX8_whySwap 17 = .ok (.lload_n 3, 1) := by decide +kernel
theorem dX8_whySwap_18 : decode cX8_whySwap 18 = .ok (.lcmp, 1) := by decide +kernel
theorem dX8_whySwap_19 : decode cX8_whySwap 19 = .ok (.ifCond .ne 7, 3) := by decide +kernel
theorem dX8_whySwap_22 : decode cX8_whySwap 22 = .ok (.iconst 1, 1) := by decide +kernel
theorem dX8_whySwap_23 : decode cX8_whySwap 23 = .ok (.goto 26, 3) := by decide +kernel
theorem dX8_whySwap_26 : decode cX8_whySwap 26 = .ok (.aload_n 0, 1) := by decide +kernel
theorem dX8_whySwap_27 : decode cX8_whySwap 27 = .ok (.lload_n 1, 1) := by decide +kernel
theorem dX8_whySwap_28 : decode cX8_whySwap 28 = .ok (.l2i, 1) := by decide +kernel
theorem dX8_whySwap_29 : decode cX8_whySwap 29 = .ok (.invokevirtual 296, 3) := by decide +kernel
theorem dX8_whySwap_32 : decode cX8_whySwap 32 = .ok (.ifCond .ne 12, 3) := by decide +kernel
theorem dX8_whySwap_35 : decode cX8_whySwap 35 = .ok (.aload_n 0, 1) := by decide +kernel
theorem dX8_whySwap_36 : decode cX8_whySwap 36 = .ok (.lload_n 3, 1) := by decide +kernel
theorem dX8_whySwap_37 : decode cX8_whySwap 37 = .ok (.l2i, 1) := by decide +kernel
theorem dX8_whySwap_38 : decode cX8_whySwap 38 = .ok (.invokevirtual 296, 3) := by decide +kernel
theorem dX8_whySwap_41 : decode cX8_whySwap 41 = .ok (.ifCond .eq 7, 3) := by decide +kernel
theorem dX8_whySwap_44 : decode cX8_whySwap 44 = .ok (.iconst 2, 1) := by decide +kernel
theorem dX8_whySwap_45 : decode cX8_whySwap 45 = .ok (.goto 4, 3) := by decide +kernel
theorem dX8_whySwap_48 : decode cX8_whySwap 48 = .ok (.iconst 0, 1) := by decide +kernel
theorem dX8_whySwap_49 : decode cX8_whySwap 49 = .ok (.ireturn, 1) := by decide +kernel
theorem dX8_refuses_0 : decode cX8_refuses 0 = .ok (.aload_n 0, 1) := by decide +kernel
theorem dX8_refuses_1 : decode cX8_refuses 1 = .ok (.iconst 0, 1) := by decide +kernel
theorem dX8_refuses_2 : decode cX8_refuses 2 = .ok (.putfield 64, 3) := by decide +kernel
theorem dX8_refuses_5 : decode cX8_refuses 5 = .ok (.iload_n 1, 1) := by decide +kernel
theorem dX8_refuses_6 : decode cX8_refuses 6 = .ok (.ifCond .ne 7, 3) := by decide +kernel
theorem dX8_refuses_9 : decode cX8_refuses 9 = .ok (.aload_n 0, 1) := by decide +kernel
theorem dX8_refuses_10 : decode cX8_refuses 10 = .ok (.invokevirtual 321, 3) := by decide +kernel
theorem dX8_refuses_13 : decode cX8_refuses 13 = .ok (.iload_n 1, 1) := by decide +kernel
theorem dX8_refuses_14 : decode cX8_refuses 14 = .ok (.ineg, 1) := by decide +kernel
theorem dX8_refuses_15 : decode cX8_refuses 15 = .ok (.ireturn, 1) := by decide +kernel
theorem dX8_rise_0 : decode cX8_rise 0 = .ok (.aload_n 0, 1) := by decide +kernel
theorem dX8_rise_1 : decode cX8_rise 1 = .ok (.aload_n 0, 1) := by decide +kernel
theorem dX8_rise_2 : decode cX8_rise 2 = .ok (.iload_n 1, 1) := by decide +kernel
theorem dX8_rise_3 : decode cX8_rise 3 = .ok (.i2l, 1) := by decide +kernel
theorem dX8_rise_4 : decode cX8_rise 4 = .ok (.invokevirtual 324, 3) := by decide +kernel
theorem dX8_rise_7 : decode cX8_rise 7 = .ok (.invokevirtual 327, 3) := by decide +kernel
theorem dX8_rise_10 : decode cX8_rise 10 = .ok (.istore_n 2, 1) := by decide +kernel
theorem dX8_rise_11 : decode cX8_rise 11 = .ok (.iload_n 2, 1) := by decide +kernel
theorem dX8_rise_12 : decode cX8_rise 12 = .ok (.ifCond .ge 7, 3) := by decide +kernel
theorem dX8_rise_15 : decode cX8_rise 15 = .ok (.iload_n 2, 1) := by decide +kernel
theorem dX8_rise_16 : decode cX8_rise 16 = .ok (.goto 9, 3) := by decide +kernel
theorem dX8_rise_19 : decode cX8_rise 19 = .ok (.aload_n 0, 1) := by decide +kernel
theorem dX8_rise_20 : decode cX8_rise 20 = .ok (.iload_n 1, 1) := by decide +kernel
theorem dX8_rise_21 : decode cX8_rise 21 = .ok (.iconst (-1), 1) := by decide +kernel
theorem dX8_rise_22 : decode cX8_rise 22 = .ok (.invokevirtual 302, 3) := by decide +kernel
theorem dX8_rise_25 : decode cX8_rise 25 = .ok (.ireturn, 1) := by decide +kernel
theorem dX8_sit_0 : decode cX8_sit 0 = .ok (.aload_n 0, 1) := by decide +kernel
theorem dX8_sit_1 : decode cX8_sit 1 = .ok (.aload_n 0, 1) := by decide +kernel
theorem dX8_sit_2 : decode cX8_sit 2 = .ok (.iload_n 1, 1) := by decide +kernel
theorem dX8_sit_3 : decode cX8_sit 3 = .ok (.i2l, 1) := by decide +kernel
theorem dX8_sit_4 : decode cX8_sit 4 = .ok (.iload_n 2, 1) := by decide +kernel
theorem dX8_sit_5 : decode cX8_sit 5 = .ok (.i2l, 1) := by decide +kernel
theorem dX8_sit_6 : decode cX8_sit 6 = .ok (.invokevirtual 330, 3) := by decide +kernel
theorem dX8_sit_9 : decode cX8_sit 9 = .ok (.invokevirtual 327, 3) := by decide +kernel
theorem dX8_sit_12 : decode cX8_sit 12 = .ok (.istore_n 3, 1) := by decide +kernel
theorem dX8_sit_13 : decode cX8_sit 13 = .ok (.iload_n 3, 1) := by decide +kernel
theorem dX8_sit_14 : decode cX8_sit 14 = .ok (.ifCond .ge 7, 3) := by decide +kernel
theorem dX8_sit_17 : decode cX8_sit 17 = .ok (.iload_n 3, 1) := by decide +kernel
theorem dX8_sit_18 : decode cX8_sit 18 = .ok (.goto 9, 3) := by decide +kernel
theorem dX8_sit_21 : decode cX8_sit 21 = .ok (.aload_n 0, 1) := by decide +kernel
theorem dX8_sit_22 : decode cX8_sit 22 = .ok (.iload_n 1, 1) := by decide +kernel
theorem dX8_sit_23 : decode cX8_sit 23 = .ok (.iload_n 2, 1) := by decide +kernel
theorem dX8_sit_24 : decode cX8_sit 24 = .ok (.invokevirtual 299, 3) := by decide +kernel
theorem dX8_sit_27 : decode cX8_sit 27 = .ok (.ireturn, 1) := by decide +kernel
theorem dX8_swap_0 : decode cX8_swap 0 = .ok (.aload_n 0, 1) := by decide +kernel
theorem dX8_swap_1 : decode cX8_swap 1 = .ok (.aload_n 0, 1) := by decide +kernel
theorem dX8_swap_2 : decode cX8_swap 2 = .ok (.iload_n 1, 1) := by decide +kernel
theorem dX8_swap_3 : decode cX8_swap 3 = .ok (.i2l, 1) := by decide +kernel
theorem dX8_swap_4 : decode cX8_swap 4 = .ok (.iload_n 2, 1) := by decide +kernel
theorem dX8_swap_5 : decode cX8_swap 5 = .ok (.i2l, 1) := by decide +kernel
theorem dX8_swap_6 : decode cX8_swap 6 = .ok (.invokevirtual 334, 3) := by decide +kernel
theorem dX8_swap_9 : decode cX8_swap 9 = .ok (.invokevirtual 327, 3) := by decide +kernel
theorem dX8_swap_12 : decode cX8_swap 12 = .ok (.istore_n 3, 1) := by decide +kernel
theorem dX8_swap_13 : decode cX8_swap 13 = .ok (.iload_n 3, 1) := by decide +kernel
theorem dX8_swap_14 : decode cX8_swap 14 = .ok (.ifCond .ne 9, 3) := by decide +kernel
theorem dX8_swap_17 : decode cX8_swap 17 = .ok (.aload_n 0, 1) := by decide +kernel
theorem dX8_swap_18 : decode cX8_swap 18 = .ok (.iload_n 1, 1) := by decide +kernel
theorem dX8_swap_19 : decode cX8_swap 19 = .ok (.iload_n 2, 1) := by decide +kernel
theorem dX8_swap_20 : decode cX8_swap 20 = .ok (.invokevirtual 337, 3) := by decide +kernel
theorem dX8_swap_23 : decode cX8_swap 23 = .ok (.iload_n 3, 1) := by decide +kernel
theorem dX8_swap_24 : decode cX8_swap 24 = .ok (.ireturn, 1) := by decide +kernel
theorem dX8_minutes_0 : decode cX8_minutes 0 = .ok (.aload_n 0, 1) := by decide +kernel
theorem dX8_minutes_1 : decode cX8_minutes 1 = .ok (.iconst 0, 1) := by decide +kernel
theorem dX8_minutes_2 : decode cX8_minutes 2 = .ok (.putfield 64, 3) := by decide +kernel
theorem dX8_minutes_5 : decode cX8_minutes 5 = .ok (.iload_n 1, 1) := by decide +kernel
theorem dX8_minutes_6 : decode cX8_minutes 6 = .ok (.i2l, 1) := by decide +kernel
theorem dX8_minutes_7 : decode cX8_minutes 7 = .ok (.lconst 1, 1) := by decide +kernel
theorem dX8_minutes_8 : decode cX8_minutes 8 = .ok (.ldc2_w 340, 3) := by decide +kernel
theorem dX8_minutes_11 : decode cX8_minutes 11 = .ok (.invokestatic 125, 3) := by decide +kernel
theorem dX8_minutes_14 : decode cX8_minutes 14 = .ok (.ifCond .ne 9, 3) := by decide +kernel
theorem dX8_minutes_17 : decode cX8_minutes 17 = .ok (.aload_n 0, 1) := by decide +kernel
theorem dX8_minutes_18 : decode cX8_minutes 18 = .ok (.iconst 1, 1) := by decide +kernel
theorem dX8_minutes_19 : decode cX8_minutes 19 = .ok (.invokevirtual 231, 3) := by decide +kernel
theorem dX8_minutes_22 : decode cX8_minutes 22 = .ok (.ireturn, 1) := by decide +kernel
theorem dX8_minutes_23 : decode cX8_minutes 23 = .ok (.aload_n 0, 1) := by decide +kernel
theorem dX8_minutes_24 : decode cX8_minutes 24 = .ok (.invokevirtual 321, 3) := by decide +kernel
theorem dX8_minutes_27 : decode cX8_minutes 27 = .ok (.aload_n 0, 1) := by decide +kernel
theorem dX8_minutes_28 : decode cX8_minutes 28 = .ok (.getfield 9, 3) := by decide +kernel
theorem dX8_minutes_31 : decode cX8_minutes 31 = .ok (.bipush 32, 2) := by decide +kernel
theorem dX8_minutes_33 : decode cX8_minutes 33 = .ok (.iaload, 1) := by decide +kernel
theorem dX8_minutes_34 : decode cX8_minutes 34 = .ok (.invokestatic 342, 3) := by decide +kernel
theorem dX8_minutes_37 : decode cX8_minutes 37 = .ok (.istore_n 2, 1) := by decide +kernel
theorem dX8_minutes_38 : decode cX8_minutes 38 = .ok (.iconst 0, 1) := by decide +kernel
theorem dX8_minutes_39 : decode cX8_minutes 39 = .ok (.istore_n 3, 1) := by decide +kernel
theorem dX8_minutes_40 : decode cX8_minutes 40 = .ok (.iload_n 3, 1) := by decide +kernel
theorem dX8_minutes_41 : decode cX8_minutes 41 = .ok (.iload_n 1, 1) := by decide +kernel
theorem dX8_minutes_42 : decode cX8_minutes 42 = .ok (.if_icmp .ge 13, 3) := by decide +kernel
theorem dX8_minutes_45 : decode cX8_minutes 45 = .ok (.aload_n 0, 1) := by decide +kernel
theorem dX8_minutes_46 : decode cX8_minutes 46 = .ok (.invokevirtual 345, 3) := by decide +kernel
theorem dX8_minutes_49 : decode cX8_minutes 49 = .ok (.iinc 3 1, 3) := by decide +kernel
theorem dX8_minutes_52 : decode cX8_minutes 52 = .ok (.goto (-12), 3) := by decide +kernel
theorem dX8_minutes_55 : decode cX8_minutes 55 = .ok (.aload_n 0, 1) := by decide +kernel
theorem dX8_minutes_56 : decode cX8_minutes 56 = .ok (.getfield 9, 3) := by decide +kernel
theorem dX8_minutes_59 : decode cX8_minutes 59 = .ok (.bipush 32, 2) := by decide +kernel
theorem dX8_minutes_61 : decode cX8_minutes 61 = .ok (.iaload, 1) := by decide +kernel
theorem dX8_minutes_62 : decode cX8_minutes 62 = .ok (.invokestatic 342, 3) := by decide +kernel
theorem dX8_minutes_65 : decode cX8_minutes 65 = .ok (.iload_n 2, 1) := by decide +kernel
theorem dX8_minutes_66 : decode cX8_minutes 66 = .ok (.isub, 1) := by decide +kernel
theorem dX8_minutes_67 : decode cX8_minutes 67 = .ok (.ireturn, 1) := by decide +kernel
theorem dX8_undo_0 : decode cX8_undo 0 = .ok (.aload_n 0, 1) := by decide +kernel
theorem dX8_undo_1 : decode cX8_undo 1 = .ok (.iconst 0, 1) := by decide +kernel
theorem dX8_undo_2 : decode cX8_undo 2 = .ok (.putfield 64, 3) := by decide +kernel
theorem dX8_undo_5 : decode cX8_undo 5 = .ok (.iload_n 1, 1) := by decide +kernel
theorem dX8_undo_6 : decode cX8_undo 6 = .ok (.i2l, 1) := by decide +kernel
theorem dX8_undo_7 : decode cX8_undo 7 = .ok (.lconst 1, 1) := by decide +kernel
theorem dX8_undo_8 : decode cX8_undo 8 = .ok (.ldc2_w 347, 3) := by decide +kernel
theorem dX8_undo_11 : decode cX8_undo 11 = .ok (.invokestatic 125, 3) := by decide +kernel
theorem dX8_undo_14 : decode cX8_undo 14 = .ok (.ifCond .eq 14, 3) := by decide +kernel
theorem dX8_undo_17 : decode cX8_undo 17 = .ok (.iload_n 1, 1) := by decide +kernel
theorem dX8_undo_18 : decode cX8_undo 18 = .ok (.aload_n 0, 1) := by decide +kernel
theorem dX8_undo_19 : decode cX8_undo 19 = .ok (.getfield 9, 3) := by decide +kernel
theorem dX8_undo_22 : decode cX8_undo 22 = .ok (.bipush 7, 2) := by decide +kernel
theorem dX8_undo_24 : decode cX8_undo 24 = .ok (.iaload, 1) := by decide +kernel
theorem dX8_undo_25 : decode cX8_undo 25 = .ok (.if_icmp .le 9, 3) := by decide +kernel
theorem dX8_undo_28 : decode cX8_undo 28 = .ok (.aload_n 0, 1) := by decide +kernel
theorem dX8_undo_29 : decode cX8_undo 29 = .ok (.iconst 1, 1) := by decide +kernel
theorem dX8_undo_30 : decode cX8_undo 30 = .ok (.invokevirtual 231, 3) := by decide +kernel
theorem dX8_undo_33 : decode cX8_undo 33 = .ok (.ireturn, 1) := by decide +kernel
theorem dX8_undo_34 : decode cX8_undo 34 = .ok (.aload_n 0, 1) := by decide +kernel
theorem dX8_undo_35 : decode cX8_undo 35 = .ok (.getfield 9, 3) := by decide +kernel
theorem dX8_undo_38 : decode cX8_undo 38 = .ok (.bipush 7, 2) := by decide +kernel
theorem dX8_undo_40 : decode cX8_undo 40 = .ok (.dup2, 1) := by decide +kernel
theorem dX8_undo_41 : decode cX8_undo 41 = .ok (.iaload, 1) := by decide +kernel
theorem dX8_undo_42 : decode cX8_undo 42 = .ok (.iload_n 1, 1) := by decide +kernel
theorem dX8_undo_43 : decode cX8_undo 43 = .ok (.isub, 1) := by decide +kernel
theorem dX8_undo_44 : decode cX8_undo 44 = .ok (.iastore, 1) := by decide +kernel
theorem dX8_undo_45 : decode cX8_undo 45 = .ok (.iconst 0, 1) := by decide +kernel
theorem dX8_undo_46 : decode cX8_undo 46 = .ok (.istore_n 2, 1) := by decide +kernel
theorem dX8_undo_47 : decode cX8_undo 47 = .ok (.iload_n 2, 1) := by decide +kernel
theorem dX8_undo_48 : decode cX8_undo 48 = .ok (.bipush 26, 2) := by decide +kernel
theorem dX8_undo_50 : decode cX8_undo 50 = .ok (.if_icmp .ge 38, 3) := by decide +kernel
theorem dX8_undo_53 : decode cX8_undo 53 = .ok (.aload_n 0, 1) := by decide +kernel
theorem dX8_undo_54 : decode cX8_undo 54 = .ok (.getfield 9, 3) := by decide +kernel
theorem dX8_undo_57 : decode cX8_undo 57 = .ok (.bipush 8, 2) := by decide +kernel
theorem dX8_undo_59 : decode cX8_undo 59 = .ok (.iload_n 2, 1) := by decide +kernel
theorem dX8_undo_60 : decode cX8_undo 60 = .ok (.iadd, 1) := by decide +kernel
theorem dX8_undo_61 : decode cX8_undo 61 = .ok (.aload_n 0, 1) := by decide +kernel
theorem dX8_undo_62 : decode cX8_undo 62 = .ok (.getfield 9, 3) := by decide +kernel
theorem dX8_undo_65 : decode cX8_undo 65 = .ok (.bipush 59, 2) := by decide +kernel
theorem dX8_undo_67 : decode cX8_undo 67 = .ok (.bipush 26, 2) := by decide +kernel
theorem dX8_undo_69 : decode cX8_undo 69 = .ok (.aload_n 0, 1) := by decide +kernel
theorem dX8_undo_70 : decode cX8_undo 70 = .ok (.getfield 9, 3) := by decide +kernel
theorem dX8_undo_73 : decode cX8_undo 73 = .ok (.bipush 7, 2) := by decide +kernel
theorem dX8_undo_75 : decode cX8_undo 75 = .ok (.iaload, 1) := by decide +kernel
theorem dX8_undo_76 : decode cX8_undo 76 = .ok (.imul, 1) := by decide +kernel
theorem dX8_undo_77 : decode cX8_undo 77 = .ok (.iadd, 1) := by decide +kernel
theorem dX8_undo_78 : decode cX8_undo 78 = .ok (.iload_n 2, 1) := by decide +kernel
theorem dX8_undo_79 : decode cX8_undo 79 = .ok (.iadd, 1) := by decide +kernel
theorem dX8_undo_80 : decode cX8_undo 80 = .ok (.iaload, 1) := by decide +kernel
theorem dX8_undo_81 : decode cX8_undo 81 = .ok (.iastore, 1) := by decide +kernel
theorem dX8_undo_82 : decode cX8_undo 82 = .ok (.iinc 2 1, 3) := by decide +kernel
theorem dX8_undo_85 : decode cX8_undo 85 = .ok (.goto (-38), 3) := by decide +kernel
theorem dX8_undo_88 : decode cX8_undo 88 = .ok (.aload_n 0, 1) := by decide +kernel
theorem dX8_undo_89 : decode cX8_undo 89 = .ok (.getfield 9, 3) := by decide +kernel
theorem dX8_undo_92 : decode cX8_undo 92 = .ok (.bipush 7, 2) := by decide +kernel
theorem dX8_undo_94 : decode cX8_undo 94 = .ok (.iaload, 1) := by decide +kernel
theorem dX8_undo_95 : decode cX8_undo 95 = .ok (.ireturn, 1) := by decide +kernel
theorem dX8_trayFault_0 : decode cX8_trayFault 0 = .ok (.iload_n 1, 1) := by decide +kernel
theorem dX8_trayFault_1 : decode cX8_trayFault 1 = .ok (.invokestatic 349, 3) := by decide +kernel
theorem dX8_trayFault_4 : decode cX8_trayFault 4 = .ok (.ifCond .ne 7, 3) := by decide +kernel
theorem dX8_trayFault_7 : decode cX8_trayFault 7 = .ok (.iconst 1, 1) := by decide +kernel
theorem dX8_trayFault_8 : decode cX8_trayFault 8 = .ok (.goto 18, 3) := by decide +kernel
theorem dX8_trayFault_11 : decode cX8_trayFault 11 = .ok (.aload_n 0, 1) := by decide +kernel
theorem dX8_trayFault_12 : decode cX8_trayFault 12 = .ok (.getfield 54, 3) := by decide +kernel
theorem dX8_trayFault_15 : decode cX8_trayFault 15 = .ok (.iload_n 1, 1) := by decide +kernel
theorem dX8_trayFault_16 : decode cX8_trayFault 16 = .ok (.iaload, 1) := by decide +kernel
theorem dX8_trayFault_17 : decode cX8_trayFault 17 = .ok (.iconst (-1), 1) := by decide +kernel
theorem dX8_trayFault_18 : decode cX8_trayFault 18 = .ok (.if_icmp .ne 7, 3) := by decide +kernel
theorem dX8_trayFault_21 : decode cX8_trayFault 21 = .ok (.iconst 2, 1) := by decide +kernel
theorem dX8_trayFault_22 : decode cX8_trayFault 22 = .ok (.goto 4, 3) := by decide +kernel
theorem dX8_trayFault_25 : decode cX8_trayFault 25 = .ok (.iconst 0, 1) := by decide +kernel
theorem dX8_trayFault_26 : decode cX8_trayFault 26 = .ok (.ireturn, 1) := by decide +kernel
theorem dX8_whyTold_0 : decode cX8_whyTold 0 = .ok (.lload_n 1, 1) := by decide +kernel
theorem dX8_whyTold_1 : decode cX8_whyTold 1 = .ok (.ldc2_w 352, 3) := by decide +kernel
theorem dX8_whyTold_4 : decode cX8_whyTold 4 = .ok (.lcmp, 1) := by decide +kernel
theorem dX8_whyTold_5 : decode cX8_whyTold 5 = .ok (.ifCond .ne 5, 3) := by decide +kernel
theorem dX8_whyTold_8 : decode cX8_whyTold 8 = .ok (.iconst 0, 1) := by decide +kernel
theorem dX8_whyTold_9 : decode cX8_whyTold 9 = .ok (.ireturn, 1) := by decide +kernel
theorem dX8_whyTold_10 : decode cX8_whyTold 10 = .ok (.lload_n 1, 1) := by decide +kernel
theorem dX8_whyTold_11 : decode cX8_whyTold 11 = .ok (.lconst 0, 1) := by decide +kernel
theorem dX8_whyTold_12 : decode cX8_whyTold 12 = .ok (.ldc2_w 354, 3) := by decide +kernel
theorem dX8_whyTold_15 : decode cX8_whyTold 15 = .ok (.invokestatic 125, 3) := by decide +kernel
theorem dX8_whyTold_18 : decode cX8_whyTold 18 = .ok (.ifCond .eq 9, 3) := by decide +kernel
theorem dX8_whyTold_21 : decode cX8_whyTold 21 = .ok (.aload_n 0, 1) := by decide +kernel
theorem dX8_whyTold_22 : decode cX8_whyTold 22 = .ok (.lload_n 1, 1) := by decide +kernel
theorem dX8_whyTold_23 : decode cX8_whyTold 23 = .ok (.invokevirtual 324, 3) := by decide +kernel
theorem dX8_whyTold_26 : decode cX8_whyTold 26 = .ok (.ireturn, 1) := by decide +kernel
theorem dX8_whyTold_27 : decode cX8_whyTold 27 = .ok (.lload_n 1, 1) := by decide +kernel
theorem dX8_whyTold_28 : decode cX8_whyTold 28 = .ok (.ldc2_w 356, 3) := by decide +kernel
theorem dX8_whyTold_31 : decode cX8_whyTold 31 = .ok (.ldc2_w 358, 3) := by decide +kernel
theorem dX8_whyTold_34 : decode cX8_whyTold 34 = .ok (.invokestatic 125, 3) := by decide +kernel
theorem dX8_whyTold_37 : decode cX8_whyTold 37 = .ok (.ifCond .eq 22, 3) := by decide +kernel
theorem dX8_whyTold_40 : decode cX8_whyTold 40 = .ok (.aload_n 0, 1) := by decide +kernel
theorem dX8_whyTold_41 : decode cX8_whyTold 41 = .ok (.lload_n 1, 1) := by decide +kernel
theorem dX8_whyTold_42 : decode cX8_whyTold 42 = .ok (.ldc2_w 356, 3) := by decide +kernel
theorem dX8_whyTold_45 : decode cX8_whyTold 45 = .ok (.lsub, 1) := by decide +kernel
theorem dX8_whyTold_46 : decode cX8_whyTold 46 = .ok (.ldc2_w 347, 3) := by decide +kernel
theorem dX8_whyTold_49 : decode cX8_whyTold 49 = .ok (.ldiv, 1) := by decide +kernel
theorem dX8_whyTold_50 : decode cX8_whyTold 50 = .ok (.lload_n 1, 1) := by decide +kernel
theorem dX8_whyTold_51 : decode cX8_whyTold 51 = .ok (.ldc2_w 347, 3) := by decide +kernel
theorem dX8_whyTold_54 : decode cX8_whyTold 54 = .ok (.lrem, 1) := by decide +kernel
theorem dX8_whyTold_55 : decode cX8_whyTold 55 = .ok (.invokevirtual 330, 3) := by decide +kernel
theorem dX8_whyTold_58 : decode cX8_whyTold 58 = .ok (.ireturn, 1) := by decide +kernel
theorem dX8_whyTold_59 : decode cX8_whyTold 59 = .ok (.lload_n 1, 1) := by decide +kernel
theorem dX8_whyTold_60 : decode cX8_whyTold 60 = .ok (.ldc2_w 360, 3) := by decide +kernel
theorem dX8_whyTold_63 : decode cX8_whyTold 63 = .ok (.ldc2_w 362, 3) := by decide +kernel
theorem dX8_whyTold_66 : decode cX8_whyTold 66 = .ok (.invokestatic 125, 3) := by decide +kernel
theorem dX8_whyTold_69 : decode cX8_whyTold 69 = .ok (.ifCond .eq 24, 3) := by decide +kernel
theorem dX8_whyTold_72 : decode cX8_whyTold 72 = .ok (.aload_n 0, 1) := by decide +kernel
theorem dX8_whyTold_73 : decode cX8_whyTold 73 = .ok (.lload_n 1, 1) := by decide +kernel
theorem dX8_whyTold_74 : decode cX8_whyTold 74 = .ok (.ldc2_w 360, 3) := by decide +kernel
theorem dX8_whyTold_77 : decode cX8_whyTold 77 = .ok (.lsub, 1) := by decide +kernel
theorem dX8_whyTold_78 : decode cX8_whyTold 78 = .ok (.ldc2_w 347, 3) := by decide +kernel
theorem dX8_whyTold_81 : decode cX8_whyTold 81 = .ok (.ldiv, 1) := by decide +kernel
theorem dX8_whyTold_82 : decode cX8_whyTold 82 = .ok (.lload_n 1, 1) := by decide +kernel
theorem dX8_whyTold_83 : decode cX8_whyTold 83 = .ok (.ldc2_w 347, 3) := by decide +kernel
theorem dX8_whyTold_86 : decode cX8_whyTold 86 = .ok (.lrem, 1) := by decide +kernel
theorem dX8_whyTold_87 : decode cX8_whyTold 87 = .ok (.invokevirtual 334, 3) := by decide +kernel
theorem dX8_whyTold_90 : decode cX8_whyTold 90 = .ok (.goto 4, 3) := by decide +kernel
theorem dX8_whyTold_93 : decode cX8_whyTold 93 = .ok (.iconst 1, 1) := by decide +kernel
theorem dX8_whyTold_94 : decode cX8_whyTold 94 = .ok (.ireturn, 1) := by decide +kernel
theorem dX8_does_0 : decode cX8_does 0 = .ok (.iload_n 1, 1) := by decide +kernel
theorem dX8_does_1 : decode cX8_does 1 = .ok (.iconst (-1), 1) := by decide +kernel
theorem dX8_does_2 : decode cX8_does 2 = .ok (.if_icmp .ne 10, 3) := by decide +kernel
theorem dX8_does_5 : decode cX8_does 5 = .ok (.aload_n 0, 1) := by decide +kernel
theorem dX8_does_6 : decode cX8_does 6 = .ok (.invokevirtual 345, 3) := by decide +kernel
theorem dX8_does_9 : decode cX8_does 9 = .ok (.goto 61, 3) := by decide +kernel
theorem dX8_does_12 : decode cX8_does 12 = .ok (.iload_n 1, 1) := by decide +kernel
theorem dX8_does_13 : decode cX8_does 13 = .ok (.bipush 10, 2) := by decide +kernel
theorem dX8_does_15 : decode cX8_does 15 = .ok (.if_icmp .ge 13, 3) := by decide +kernel
theorem dX8_does_18 : decode cX8_does 18 = .ok (.aload_n 0, 1) := by decide +kernel
theorem dX8_does_19 : decode cX8_does 19 = .ok (.iload_n 1, 1) := by decide +kernel
theorem dX8_does_20 : decode cX8_does 20 = .ok (.iconst (-1), 1) := by decide +kernel
theorem dX8_does_21 : decode cX8_does 21 = .ok (.invokevirtual 302, 3) := by decide +kernel
theorem dX8_does_24 : decode cX8_does 24 = .ok (.pop, 1) := by decide +kernel
theorem dX8_does_25 : decode cX8_does 25 = .ok (.goto 45, 3) := by decide +kernel
theorem dX8_does_28 : decode cX8_does 28 = .ok (.iload_n 1, 1) := by decide +kernel
theorem dX8_does_29 : decode cX8_does 29 = .ok (.sipush 200, 3) := by decide +kernel
theorem dX8_does_32 : decode cX8_does 32 = .ok (.if_icmp .ge 22, 3) := by decide +kernel
theorem dX8_does_35 : decode cX8_does 35 = .ok (.aload_n 0, 1) := by decide +kernel
theorem dX8_does_36 : decode cX8_does 36 = .ok (.iload_n 1, 1) := by decide +kernel
theorem dX8_does_37 : decode cX8_does 37 = .ok (.bipush 100, 2) := by decide +kernel
theorem dX8_does_39 : decode cX8_does 39 = .ok (.isub, 1) := by decide +kernel
theorem dX8_does_40 : decode cX8_does 40 = .ok (.bipush 10, 2) := by decide +kernel
theorem dX8_does_42 : decode cX8_does 42 = .ok (.idiv, 1) := by decide +kernel
theorem dX8_does_43 : decode cX8_does 43 = .ok (.iload_n 1, 1) := by decide +kernel
theorem dX8_does_44 : decode cX8_does 44 = .ok (.bipush 10, 2) := by decide +kernel
theorem dX8_does_46 : decode cX8_does 46 = .ok (.irem, 1) := by decide +kernel
theorem dX8_does_47 : decode cX8_does 47 = .ok (.invokevirtual 299, 3) := by decide +kernel
theorem dX8_does_50 : decode cX8_does 50 = .ok (.pop, 1) := by decide +kernel
theorem dX8_does_51 : decode cX8_does 51 = .ok (.goto 19, 3) := by decide +kernel
theorem dX8_does_54 : decode cX8_does 54 = .ok (.aload_n 0, 1) := by decide +kernel
theorem dX8_does_55 : decode cX8_does 55 = .ok (.iload_n 1, 1) := by decide +kernel
theorem dX8_does_56 : decode cX8_does 56 = .ok (.sipush 200, 3) := by decide +kernel
theorem dX8_does_59 : decode cX8_does 59 = .ok (.isub, 1) := by decide +kernel
theorem dX8_does_60 : decode cX8_does 60 = .ok (.bipush 10, 2) := by decide +kernel
theorem dX8_does_62 : decode cX8_does 62 = .ok (.idiv, 1) := by decide +kernel
theorem dX8_does_63 : decode cX8_does 63 = .ok (.iload_n 1, 1) := by decide +kernel
theorem dX8_does_64 : decode cX8_does 64 = .ok (.bipush 10, 2) := by decide +kernel
theorem dX8_does_66 : decode cX8_does 66 = .ok (.irem, 1) := by decide +kernel
theorem dX8_does_67 : decode cX8_does 67 = .ok (.invokevirtual 337, 3) := by decide +kernel
theorem dX8_does_70 : decode cX8_does 70 = .ok (.return_, 1) := by decide +kernel
theorem dX8_inFront_0 : decode cX8_inFront 0 = .ok (.iconst 0, 1) := by decide +kernel
theorem dX8_inFront_1 : decode cX8_inFront 1 = .ok (.istore_n 1, 1) := by decide +kernel
theorem dX8_inFront_2 : decode cX8_inFront 2 = .ok (.iconst 0, 1) := by decide +kernel
theorem dX8_inFront_3 : decode cX8_inFront 3 = .ok (.istore_n 2, 1) := by decide +kernel
theorem dX8_inFront_4 : decode cX8_inFront 4 = .ok (.iload_n 2, 1) := by decide +kernel
theorem dX8_inFront_5 : decode cX8_inFront 5 = .ok (.aload_n 0, 1) := by decide +kernel
theorem dX8_inFront_6 : decode cX8_inFront 6 = .ok (.invokevirtual 242, 3) := by decide +kernel
theorem dX8_inFront_9 : decode cX8_inFront 9 = .ok (.if_icmp .ge 31, 3) := by decide +kernel
theorem dX8_inFront_12 : decode cX8_inFront 12 = .ok (.iload_n 1, 1) := by decide +kernel
theorem dX8_inFront_13 : decode cX8_inFront 13 = .ok (.aload_n 0, 1) := by decide +kernel
theorem dX8_inFront_14 : decode cX8_inFront 14 = .ok (.getfield 9, 3) := by decide +kernel
theorem dX8_inFront_17 : decode cX8_inFront 17 = .ok (.bipush 16, 2) := by decide +kernel
theorem dX8_inFront_19 : decode cX8_inFront 19 = .ok (.iload_n 2, 1) := by decide +kernel
theorem dX8_inFront_20 : decode cX8_inFront 20 = .ok (.iadd, 1) := by decide +kernel
theorem dX8_inFront_21 : decode cX8_inFront 21 = .ok (.iaload, 1) := by decide +kernel
theorem dX8_inFront_22 : decode cX8_inFront 22 = .ok (.ifCond .ne 9, 3) := by decide +kernel
theorem dX8_inFront_25 : decode cX8_inFront 25 = .ok (.iconst 1, 1) := by decide +kernel
theorem dX8_inFront_26 : decode cX8_inFront 26 = .ok (.iload_n 2, 1) := by decide +kernel
theorem dX8_inFront_27 : decode cX8_inFront 27 = .ok (.ishl, 1) := by decide +kernel
theorem dX8_inFront_28 : decode cX8_inFront 28 = .ok (.goto 4, 3) := by decide +kernel
theorem dX8_inFront_31 : decode cX8_inFront 31 = .ok (.iconst 0, 1) := by decide +kernel
theorem dX8_inFront_32 : decode cX8_inFront 32 = .ok (.ior, 1) := by decide +kernel
theorem dX8_inFront_33 : decode cX8_inFront 33 = .ok (.istore_n 1, 1) := by decide +kernel
theorem dX8_inFront_34 : decode cX8_inFront 34 = .ok (.iinc 2 1, 3) := by decide +kernel
theorem dX8_inFront_37 : decode cX8_inFront 37 = .ok (.goto (-33), 3) := by decide +kernel
theorem dX8_inFront_40 : decode cX8_inFront 40 = .ok (.iload_n 1, 1) := by decide +kernel
theorem dX8_inFront_41 : decode cX8_inFront 41 = .ok (.ireturn, 1) := by decide +kernel
theorem dX8_judge_0 : decode cX8_judge 0 = .ok (.aload_n 0, 1) := by decide +kernel
theorem dX8_judge_1 : decode cX8_judge 1 = .ok (.aload_n 0, 1) := by decide +kernel
theorem dX8_judge_2 : decode cX8_judge 2 = .ok (.iload_n 1, 1) := by decide +kernel
theorem dX8_judge_3 : decode cX8_judge 3 = .ok (.invokevirtual 364, 3) := by decide +kernel
theorem dX8_judge_6 : decode cX8_judge 6 = .ok (.putfield 64, 3) := by decide +kernel
theorem dX8_judge_9 : decode cX8_judge 9 = .ok (.aload_n 0, 1) := by decide +kernel
theorem dX8_judge_10 : decode cX8_judge 10 = .ok (.getfield 64, 3) := by decide +kernel
theorem dX8_judge_13 : decode cX8_judge 13 = .ok (.ifCond .ne 20, 3) := by decide +kernel
theorem dX8_judge_16 : decode cX8_judge 16 = .ok (.iload_n 2, 1) := by decide +kernel
theorem dX8_judge_17 : decode cX8_judge 17 = .ok (.i2l, 1) := by decide +kernel
theorem dX8_judge_18 : decode cX8_judge 18 = .ok (.lconst 0, 1) := by decide +kernel
theorem dX8_judge_19 : decode cX8_judge 19 = .ok (.ldc2_w 367, 3) := by decide +kernel
theorem dX8_judge_22 : decode cX8_judge 22 = .ok (.invokestatic 125, 3) := by decide +kernel
theorem dX8_judge_25 : decode cX8_judge 25 = .ok (.ifCond .ne 8, 3) := by decide +kernel
theorem dX8_judge_28 : decode cX8_judge 28 = .ok (.aload_n 0, 1) := by decide +kernel
theorem dX8_judge_29 : decode cX8_judge 29 = .ok (.iconst 3, 1) := by decide +kernel
theorem dX8_judge_30 : decode cX8_judge 30 = .ok (.putfield 64, 3) := by decide +kernel
theorem dX8_judge_33 : decode cX8_judge 33 = .ok (.aload_n 0, 1) := by decide +kernel
theorem dX8_judge_34 : decode cX8_judge 34 = .ok (.getfield 64, 3) := by decide +kernel
theorem dX8_judge_37 : decode cX8_judge 37 = .ok (.ifCond .le 5, 3) := by decide +kernel
theorem dX8_judge_40 : decode cX8_judge 40 = .ok (.iconst 0, 1) := by decide +kernel
theorem dX8_judge_41 : decode cX8_judge 41 = .ok (.ireturn, 1) := by decide +kernel
theorem dX8_judge_42 : decode cX8_judge 42 = .ok (.aload_n 0, 1) := by decide +kernel
theorem dX8_judge_43 : decode cX8_judge 43 = .ok (.invokevirtual 369, 3) := by decide +kernel
theorem dX8_judge_46 : decode cX8_judge 46 = .ok (.iconst (-1), 1) := by decide +kernel
theorem dX8_judge_47 : decode cX8_judge 47 = .ok (.istore_n 3, 1) := by decide +kernel
theorem dX8_judge_48 : decode cX8_judge 48 = .ok (.iconst 0, 1) := by decide +kernel
theorem dX8_judge_49 : decode cX8_judge 49 = .ok (.istore 4, 2) := by decide +kernel
theorem dX8_judge_51 : decode cX8_judge 51 = .ok (.iconst 0, 1) := by decide +kernel
theorem dX8_judge_52 : decode cX8_judge 52 = .ok (.istore 5, 2) := by decide +kernel
theorem dX8_judge_54 : decode cX8_judge 54 = .ok (.iload 5, 2) := by decide +kernel
theorem dX8_judge_56 : decode cX8_judge 56 = .ok (.aload_n 0, 1) := by decide +kernel
theorem dX8_judge_57 : decode cX8_judge 57 = .ok (.getfield 57, 3) := by decide +kernel
theorem dX8_judge_60 : decode cX8_judge 60 = .ok (.iload_n 1, 1) := by decide +kernel
theorem dX8_judge_61 : decode cX8_judge 61 = .ok (.iaload, 1) := by decide +kernel
theorem dX8_judge_62 : decode cX8_judge 62 = .ok (.if_icmp .ge 60, 3) := by decide +kernel
theorem dX8_judge_65 : decode cX8_judge 65 = .ok (.iload_n 3, 1) := by decide +kernel
theorem dX8_judge_66 : decode cX8_judge 66 = .ok (.iconst (-1), 1) := by decide +kernel
theorem dX8_judge_67 : decode cX8_judge 67 = .ok (.if_icmp .ne 55, 3) := by decide +kernel
theorem dX8_judge_70 : decode cX8_judge 70 = .ok (.aload_n 0, 1) := by decide +kernel
theorem dX8_judge_71 : decode cX8_judge 71 = .ok (.aload_n 0, 1) := by decide +kernel
theorem dX8_judge_72 : decode cX8_judge 72 = .ok (.getfield 60, 3) := by decide +kernel
theorem dX8_judge_75 : decode cX8_judge 75 = .ok (.bipush 30, 2) := by decide +kernel
theorem dX8_judge_77 : decode cX8_judge 77 = .ok (.iload_n 1, 1) := by decide +kernel
theorem dX8_judge_78 : decode cX8_judge 78 = .ok (.imul, 1) := by decide +kernel
theorem dX8_judge_79 : decode cX8_judge 79 = .ok (.iload 5, 2) := by decide +kernel
theorem dX8_judge_81 : decode cX8_judge 81 = .ok (.iadd, 1) := by decide +kernel
theorem dX8_judge_82 : decode cX8_judge 82 = .ok (.laload, 1) := by decide +kernel
theorem dX8_judge_83 : decode cX8_judge 83 = .ok (.invokevirtual 372, 3) := by decide +kernel
theorem dX8_judge_86 : decode cX8_judge 86 = .ok (.istore 4, 2) := by decide +kernel
theorem dX8_judge_88 : decode cX8_judge 88 = .ok (.iload 4, 2) := by decide +kernel
theorem dX8_judge_90 : decode cX8_judge 90 = .ok (.ifCond .ne 23, 3) := by decide +kernel
theorem dX8_judge_93 : decode cX8_judge 93 = .ok (.aload_n 0, 1) := by decide +kernel
theorem dX8_judge_94 : decode cX8_judge 94 = .ok (.aload_n 0, 1) := by decide +kernel
theorem dX8_judge_95 : decode cX8_judge 95 = .ok (.getfield 60, 3) := by decide +kernel
theorem dX8_judge_98 : decode cX8_judge 98 = .ok (.bipush 30, 2) := by decide +kernel
theorem dX8_judge_100 : decode cX8_judge 100 = .ok (.iload_n 1, 1) := by decide +kernel
theorem dX8_judge_101 : decode cX8_judge 101 = .ok (.imul, 1) := by decide +kernel
theorem dX8_judge_102 : decode cX8_judge 102 = .ok (.iload 5, 2) := by decide +kernel
theorem dX8_judge_104 : decode cX8_judge 104 = .ok (.iadd, 1) := by decide +kernel
theorem dX8_judge_105 : decode cX8_judge 105 = .ok (.laload, 1) := by decide +kernel
theorem dX8_judge_106 : decode cX8_judge 106 = .ok (.l2i, 1) := by decide +kernel
theorem dX8_judge_107 : decode cX8_judge 107 = .ok (.invokevirtual 375, 3) := by decide +kernel
theorem dX8_judge_110 : decode cX8_judge 110 = .ok (.goto 6, 3) := by decide +kernel
theorem dX8_judge_113 : decode cX8_judge 113 = .ok (.iload 5, 2) := by decide +kernel
theorem dX8_judge_115 : decode cX8_judge 115 = .ok (.istore_n 3, 1) := by decide +kernel
theorem dX8_judge_116 : decode cX8_judge 116 = .ok (.iinc 5 1, 3) := by decide +kernel
theorem dX8_judge_119 : decode cX8_judge 119 = .ok (.goto (-65), 3) := by decide +kernel
theorem dX8_judge_122 : decode cX8_judge 122 = .ok (.aload_n 0, 1) := by decide +kernel
theorem dX8_judge_123 : decode cX8_judge 123 = .ok (.invokevirtual 378, 3) := by decide +kernel
theorem dX8_judge_126 : decode cX8_judge 126 = .ok (.istore 5, 2) := by decide +kernel
theorem dX8_judge_128 : decode cX8_judge 128 = .ok (.aload_n 0, 1) := by decide +kernel
theorem dX8_judge_129 : decode cX8_judge 129 = .ok (.getfield 9, 3) := by decide +kernel
theorem dX8_judge_132 : decode cX8_judge 132 = .ok (.bipush 33, 2) := by decide +kernel
theorem dX8_judge_134 : decode cX8_judge 134 = .ok (.iaload, 1) := by decide +kernel
theorem dX8_judge_135 : decode cX8_judge 135 = .ok (.istore 6, 2) := by decide +kernel
theorem dX8_judge_137 : decode cX8_judge 137 = .ok (.aload_n 0, 1) := by decide +kernel
theorem dX8_judge_138 : decode cX8_judge 138 = .ok (.invokevirtual 381, 3) := by decide +kernel
theorem dX8_judge_141 : decode cX8_judge 141 = .ok (.iload_n 2, 1) := by decide +kernel
theorem dX8_judge_142 : decode cX8_judge 142 = .ok (.ifCond .ne 7, 3) := by decide +kernel
theorem dX8_judge_145 : decode cX8_judge 145 = .ok (.iload_n 3, 1) := by decide +kernel
theorem dX8_judge_146 : decode cX8_judge 146 = .ok (.goto 25, 3) := by decide +kernel
theorem dX8_judge_149 : decode cX8_judge 149 = .ok (.iload_n 2, 1) := by decide +kernel
theorem dX8_judge_150 : decode cX8_judge 150 = .ok (.iconst 1, 1) := by decide +kernel
theorem dX8_judge_151 : decode cX8_judge 151 = .ok (.if_icmp .ne 8, 3) := by decide +kernel
theorem dX8_judge_154 : decode cX8_judge 154 = .ok (.iload 4, 2) := by decide +kernel
theorem dX8_judge_156 : decode cX8_judge 156 = .ok (.goto 15, 3) := by decide +kernel
theorem dX8_judge_159 : decode cX8_judge 159 = .ok (.iload_n 2, 1) := by decide +kernel
theorem dX8_judge_160 : decode cX8_judge 160 = .ok (.iconst 2, 1) := by decide +kernel
theorem dX8_judge_161 : decode cX8_judge 161 = .ok (.if_icmp .ne 8, 3) := by decide +kernel
theorem dX8_judge_164 : decode cX8_judge 164 = .ok (.iload 5, 2) := by decide +kernel
theorem dX8_judge_166 : decode cX8_judge 166 = .ok (.goto 5, 3) := by decide +kernel
theorem dX8_judge_169 : decode cX8_judge 169 = .ok (.iload 6, 2) := by decide +kernel
theorem dX8_judge_171 : decode cX8_judge 171 = .ok (.ireturn, 1) := by decide +kernel
theorem dX8_perform_0 : decode cX8_perform 0 = .ok (.aload_n 0, 1) := by decide +kernel
theorem dX8_perform_1 : decode cX8_perform 1 = .ok (.aload_n 0, 1) := by decide +kernel
theorem dX8_perform_2 : decode cX8_perform 2 = .ok (.iload_n 1, 1) := by decide +kernel
theorem dX8_perform_3 : decode cX8_perform 3 = .ok (.invokevirtual 364, 3) := by decide +kernel
theorem dX8_perform_6 : decode cX8_perform 6 = .ok (.putfield 64, 3) := by decide +kernel
theorem dX8_perform_9 : decode cX8_perform 9 = .ok (.aload_n 0, 1) := by decide +kernel
theorem dX8_perform_10 : decode cX8_perform 10 = .ok (.getfield 64, 3) := by decide +kernel
theorem dX8_perform_13 : decode cX8_perform 13 = .ok (.ifCond .le 5, 3) := by decide +kernel
theorem dX8_perform_16 : decode cX8_perform 16 = .ok (.iconst 0, 1) := by decide +kernel
theorem dX8_perform_17 : decode cX8_perform 17 = .ok (.ireturn, 1) := by decide +kernel
theorem dX8_perform_18 : decode cX8_perform 18 = .ok (.iconst 0, 1) := by decide +kernel
theorem dX8_perform_19 : decode cX8_perform 19 = .ok (.istore_n 2, 1) := by decide +kernel
theorem dX8_perform_20 : decode cX8_perform 20 = .ok (.iload_n 2, 1) := by decide +kernel
theorem dX8_perform_21 : decode cX8_perform 21 = .ok (.aload_n 0, 1) := by decide +kernel
theorem dX8_perform_22 : decode cX8_perform 22 = .ok (.getfield 57, 3) := by decide +kernel
theorem dX8_perform_25 : decode cX8_perform 25 = .ok (.iload_n 1, 1) := by decide +kernel
theorem dX8_perform_26 : decode cX8_perform 26 = .ok (.iaload, 1) := by decide +kernel
theorem dX8_perform_27 : decode cX8_perform 27 = .ok (.if_icmp .ge 47, 3) := by decide +kernel
theorem dX8_perform_30 : decode cX8_perform 30 = .ok (.aload_n 0, 1) := by decide +kernel
theorem dX8_perform_31 : decode cX8_perform 31 = .ok (.aload_n 0, 1) := by decide +kernel
theorem dX8_perform_32 : decode cX8_perform 32 = .ok (.getfield 60, 3) := by decide +kernel
theorem dX8_perform_35 : decode cX8_perform 35 = .ok (.bipush 30, 2) := by decide +kernel
theorem dX8_perform_37 : decode cX8_perform 37 = .ok (.iload_n 1, 1) := by decide +kernel
theorem dX8_perform_38 : decode cX8_perform 38 = .ok (.imul, 1) := by decide +kernel
theorem dX8_perform_39 : decode cX8_perform 39 = .ok (.iload_n 2, 1) := by decide +kernel
theorem dX8_perform_40 : decode cX8_perform 40 = .ok (.iadd, 1) := by decide +kernel
theorem dX8_perform_41 : decode cX8_perform 41 = .ok (.laload, 1) := by decide +kernel
theorem dX8_perform_42 : decode cX8_perform 42 = .ok (.invokevirtual 372, 3) := by decide +kernel
theorem dX8_perform_45 : decode cX8_perform 45 = .ok (.ifCond .ne 29, 3) := by decide +kernel
theorem dX8_perform_48 : decode cX8_perform 48 = .ok (.aload_n 0, 1) := by decide +kernel
theorem dX8_perform_49 : decode cX8_perform 49 = .ok (.invokevirtual 321, 3) := by decide +kernel
theorem dX8_perform_52 : decode cX8_perform 52 = .ok (.aload_n 0, 1) := by decide +kernel
theorem dX8_perform_53 : decode cX8_perform 53 = .ok (.aload_n 0, 1) := by decide +kernel
theorem dX8_perform_54 : decode cX8_perform 54 = .ok (.getfield 60, 3) := by decide +kernel
theorem dX8_perform_57 : decode cX8_perform 57 = .ok (.bipush 30, 2) := by decide +kernel
theorem dX8_perform_59 : decode cX8_perform 59 = .ok (.iload_n 1, 1) := by decide +kernel
theorem dX8_perform_60 : decode cX8_perform 60 = .ok (.imul, 1) := by decide +kernel
theorem dX8_perform_61 : decode cX8_perform 61 = .ok (.iload_n 2, 1) := by decide +kernel
theorem dX8_perform_62 : decode cX8_perform 62 = .ok (.iadd, 1) := by decide +kernel
theorem dX8_perform_63 : decode cX8_perform 63 = .ok (.laload, 1) := by decide +kernel
theorem dX8_perform_64 : decode cX8_perform 64 = .ok (.l2i, 1) := by decide +kernel
theorem dX8_perform_65 : decode cX8_perform 65 = .ok (.invokevirtual 375, 3) := by decide +kernel
theorem dX8_perform_68 : decode cX8_perform 68 = .ok (.iinc 2 1, 3) := by decide +kernel
theorem dX8_perform_71 : decode cX8_perform 71 = .ok (.goto (-51), 3) := by decide +kernel
theorem dX8_perform_74 : decode cX8_perform 74 = .ok (.iload_n 2, 1) := by decide +kernel
theorem dX8_perform_75 : decode cX8_perform 75 = .ok (.ireturn, 1) := by decide +kernel
theorem dX8_draw_0 : decode cX8_draw 0 = .ok (.aload_n 0, 1) := by decide +kernel
theorem dX8_draw_1 : decode cX8_draw 1 = .ok (.ldc_w 384, 3) := by decide +kernel
theorem dX8_draw_4 : decode cX8_draw 4 = .ok (.aload_n 0, 1) := by decide +kernel
theorem dX8_draw_5 : decode cX8_draw 5 = .ok (.getfield 385, 3) := by decide +kernel
theorem dX8_draw_8 : decode cX8_draw 8 = .ok (.imul, 1) := by decide +kernel
theorem dX8_draw_9 : decode cX8_draw 9 = .ok (.sipush 12345, 3) := by decide +kernel
theorem dX8_draw_12 : decode cX8_draw 12 = .ok (.iadd, 1) := by decide +kernel
theorem dX8_draw_13 : decode cX8_draw 13 = .ok (.putfield 385, 3) := by decide +kernel
theorem dX8_draw_16 : decode cX8_draw 16 = .ok (.aload_n 0, 1) := by decide +kernel
theorem dX8_draw_17 : decode cX8_draw 17 = .ok (.getfield 385, 3) := by decide +kernel
theorem dX8_draw_20 : decode cX8_draw 20 = .ok (.bipush 16, 2) := by decide +kernel
theorem dX8_draw_22 : decode cX8_draw 22 = .ok (.iushr, 1) := by decide +kernel
theorem dX8_draw_23 : decode cX8_draw 23 = .ok (.iload_n 1, 1) := by decide +kernel
theorem dX8_draw_24 : decode cX8_draw 24 = .ok (.irem, 1) := by decide +kernel
theorem dX8_draw_25 : decode cX8_draw 25 = .ok (.ireturn, 1) := by decide +kernel
theorem dX8_afternoon_0 : decode cX8_afternoon 0 = .ok (.aload_n 0, 1) := by decide +kernel
theorem dX8_afternoon_1 : decode cX8_afternoon 1 = .ok (.iconst 0, 1) := by decide +kernel
theorem dX8_afternoon_2 : decode cX8_afternoon 2 = .ok (.putfield 64, 3) := by decide +kernel
theorem dX8_afternoon_5 : decode cX8_afternoon 5 = .ok (.iload_n 2, 1) := by decide +kernel
theorem dX8_afternoon_6 : decode cX8_afternoon 6 = .ok (.i2l, 1) := by decide +kernel
theorem dX8_afternoon_7 : decode cX8_afternoon 7 = .ok (.lconst 1, 1) := by decide +kernel
theorem dX8_afternoon_8 : decode cX8_afternoon 8 = .ok (.ldc2_w 388, 3) := by decide +kernel
theorem dX8_afternoon_11 : decode cX8_afternoon 11 = .ok (.invokestatic 125, 3) := by decide +kernel
theorem dX8_afternoon_14 : decode cX8_afternoon 14 = .ok (.ifCond .ne 9, 3) := by decide +kernel
theorem dX8_afternoon_17 : decode cX8_afternoon 17 = .ok (.aload_n 0, 1) := by decide +kernel
theorem dX8_afternoon_18 : decode cX8_afternoon 18 = .ok (.iconst 1, 1) := by decide +kernel
theorem dX8_afternoon_19 : decode cX8_afternoon 19 = .ok (.invokevirtual 231, 3) := by decide +kernel
theorem dX8_afternoon_22 : decode cX8_afternoon 22 = .ok (.ireturn, 1) := by decide +kernel
theorem dX8_afternoon_23 : decode cX8_afternoon 23 = .ok (.aload_n 0, 1) := by decide +kernel
theorem dX8_afternoon_24 : decode cX8_afternoon 24 = .ok (.iload_n 1, 1) := by decide +kernel
theorem dX8_afternoon_25 : decode cX8_afternoon 25 = .ok (.putfield 385, 3) := by decide +kernel
theorem dX8_afternoon_28 : decode cX8_afternoon 28 = .ok (.iconst 0, 1) := by decide +kernel
theorem dX8_afternoon_29 : decode cX8_afternoon 29 = .ok (.istore_n 3, 1) := by decide +kernel
theorem dX8_afternoon_30 : decode cX8_afternoon 30 = .ok (.iconst 0, 1) := by decide +kernel
theorem dX8_afternoon_31 : decode cX8_afternoon 31 = .ok (.istore 4, 2) := by decide +kernel
theorem dX8_afternoon_33 : decode cX8_afternoon 33 = .ok (.iload 4, 2) := by decide +kernel
theorem dX8_afternoon_35 : decode cX8_afternoon 35 = .ok (.iload_n 2, 1) := by decide +kernel
theorem dX8_afternoon_36 : decode cX8_afternoon 36 = .ok (.if_icmp .ge 66, 3) := by decide +kernel
theorem dX8_afternoon_39 : decode cX8_afternoon 39 = .ok (.aload_n 0, 1) := by decide +kernel
theorem dX8_afternoon_40 : decode cX8_afternoon 40 = .ok (.iconst 5, 1) := by decide +kernel
theorem dX8_afternoon_41 : decode cX8_afternoon 41 = .ok (.invokevirtual 390, 3) := by decide +kernel
theorem dX8_afternoon_44 : decode cX8_afternoon 44 = .ok (.istore 5, 2) := by decide +kernel
theorem dX8_afternoon_46 : decode cX8_afternoon 46 = .ok (.iload 5, 2) := by decide +kernel
theorem dX8_afternoon_48 : decode cX8_afternoon 48 = .ok (.iconst 2, 1) := by decide +kernel
theorem dX8_afternoon_49 : decode cX8_afternoon 49 = .ok (.if_icmp .ge 7, 3) := by decide +kernel
theorem dX8_afternoon_52 : decode cX8_afternoon 52 = .ok (.iconst (-1), 1) := by decide +kernel
theorem dX8_afternoon_53 : decode cX8_afternoon 53 = .ok (.goto 15, 3) := by decide +kernel
theorem dX8_afternoon_56 : decode cX8_afternoon 56 = .ok (.aload_n 0, 1) := by decide +kernel
theorem dX8_afternoon_57 : decode cX8_afternoon 57 = .ok (.iload 5, 2) := by decide +kernel
theorem dX8_afternoon_59 : decode cX8_afternoon 59 = .ok (.aload_n 0, 1) := by decide +kernel
theorem dX8_afternoon_60 : decode cX8_afternoon 60 = .ok (.bipush 8, 2) := by decide +kernel
theorem dX8_afternoon_62 : decode cX8_afternoon 62 = .ok (.invokevirtual 390, 3) := by decide +kernel
theorem dX8_afternoon_65 : decode cX8_afternoon 65 = .ok (.invokevirtual 393, 3) := by decide +kernel
theorem dX8_afternoon_68 : decode cX8_afternoon 68 = .ok (.istore 6, 2) := by decide +kernel
theorem dX8_afternoon_70 : decode cX8_afternoon 70 = .ok (.aload_n 0, 1) := by decide +kernel
theorem dX8_afternoon_71 : decode cX8_afternoon 71 = .ok (.iload 6, 2) := by decide +kernel
theorem dX8_afternoon_73 : decode cX8_afternoon 73 = .ok (.i2l, 1) := by decide +kernel
theorem dX8_afternoon_74 : decode cX8_afternoon 74 = .ok (.invokevirtual 372, 3) := by decide +kernel
theorem dX8_afternoon_77 : decode cX8_afternoon 77 = .ok (.ifCond .eq 6, 3) := by decide +kernel
theorem dX8_afternoon_80 : decode cX8_afternoon 80 = .ok (.goto 16, 3) := by decide +kernel
theorem dX8_afternoon_83 : decode cX8_afternoon 83 = .ok (.aload_n 0, 1) := by decide +kernel
theorem dX8_afternoon_84 : decode cX8_afternoon 84 = .ok (.invokevirtual 321, 3) := by decide +kernel
theorem dX8_afternoon_87 : decode cX8_afternoon 87 = .ok (.aload_n 0, 1) := by decide +kernel
theorem dX8_afternoon_88 : decode cX8_afternoon 88 = .ok (.iload 6, 2) := by decide +kernel
theorem dX8_afternoon_90 : decode cX8_afternoon 90 = .ok (.invokevirtual 375, 3) := by decide +kernel
theorem dX8_afternoon_93 : decode cX8_afternoon 93 = .ok (.iinc 3 1, 3) := by decide +kernel
theorem dX8_afternoon_96 : decode cX8_afternoon 96 = .ok (.iinc 4 1, 3) := by decide +kernel
theorem dX8_afternoon_99 : decode cX8_afternoon 99 = .ok (.goto (-66), 3) := by decide +kernel
theorem dX8_afternoon_102 : decode cX8_afternoon 102 = .ok (.iload_n 3, 1) := by decide +kernel
theorem dX8_afternoon_103 : decode cX8_afternoon 103 = .ok (.ireturn, 1) := by decide +kernel
theorem dX8_drawn_0 : decode cX8_drawn 0 = .ok (.iload_n 1, 1) := by decide +kernel
theorem dX8_drawn_1 : decode cX8_drawn 1 = .ok (.iconst 2, 1) := by decide +kernel
theorem dX8_drawn_2 : decode cX8_drawn 2 = .ok (.if_icmp .ne 7, 3) := by decide +kernel
theorem dX8_drawn_5 : decode cX8_drawn 5 = .ok (.iload_n 2, 1) := by decide +kernel
theorem dX8_drawn_6 : decode cX8_drawn 6 = .ok (.goto 39, 3) := by decide +kernel
theorem dX8_drawn_9 : decode cX8_drawn 9 = .ok (.iload_n 1, 1) := by decide +kernel
theorem dX8_drawn_10 : decode cX8_drawn 10 = .ok (.iconst 3, 1) := by decide +kernel
theorem dX8_drawn_11 : decode cX8_drawn 11 = .ok (.if_icmp .ne 19, 3) := by decide +kernel
theorem dX8_drawn_14 : decode cX8_drawn 14 = .ok (.bipush 100, 2) := by decide +kernel
theorem dX8_drawn_16 : decode cX8_drawn 16 = .ok (.bipush 10, 2) := by decide +kernel
theorem dX8_drawn_18 : decode cX8_drawn 18 = .ok (.iload_n 2, 1) := by decide +kernel
theorem dX8_drawn_19 : decode cX8_drawn 19 = .ok (.imul, 1) := by decide +kernel
theorem dX8_drawn_20 : decode cX8_drawn 20 = .ok (.iadd, 1) := by decide +kernel
theorem dX8_drawn_21 : decode cX8_drawn 21 = .ok (.aload_n 0, 1) := by decide +kernel
theorem dX8_drawn_22 : decode cX8_drawn 22 = .ok (.iconst 4, 1) := by decide +kernel
theorem dX8_drawn_23 : decode cX8_drawn 23 = .ok (.invokevirtual 390, 3) := by decide +kernel
theorem dX8_drawn_26 : decode cX8_drawn 26 = .ok (.iadd, 1) := by decide +kernel
theorem dX8_drawn_27 : decode cX8_drawn 27 = .ok (.goto 18, 3) := by decide +kernel
theorem dX8_drawn_30 : decode cX8_drawn 30 = .ok (.sipush 200, 3) := by decide +kernel
theorem dX8_drawn_33 : decode cX8_drawn 33 = .ok (.bipush 10, 2) := by decide +kernel
theorem dX8_drawn_35 : decode cX8_drawn 35 = .ok (.iload_n 2, 1) := by decide +kernel
theorem dX8_drawn_36 : decode cX8_drawn 36 = .ok (.imul, 1) := by decide +kernel
theorem dX8_drawn_37 : decode cX8_drawn 37 = .ok (.iadd, 1) := by decide +kernel
theorem dX8_drawn_38 : decode cX8_drawn 38 = .ok (.aload_n 0, 1) := by decide +kernel
theorem dX8_drawn_39 : decode cX8_drawn 39 = .ok (.bipush 8, 2) := by decide +kernel
theorem dX8_drawn_41 : decode cX8_drawn 41 = .ok (.invokevirtual 390, 3) := by decide +kernel
theorem dX8_drawn_44 : decode cX8_drawn 44 = .ok (.iadd, 1) := by decide +kernel
theorem dX8_drawn_45 : decode cX8_drawn 45 = .ok (.ireturn, 1) := by decide +kernel
theorem dX8_goesOn_0 : decode cX8_goesOn 0 = .ok (.iconst 0, 1) := by decide +kernel
theorem dX8_goesOn_1 : decode cX8_goesOn 1 = .ok (.istore_n 2, 1) := by decide +kernel
theorem dX8_goesOn_2 : decode cX8_goesOn 2 = .ok (.iload_n 2, 1) := by decide +kernel
theorem dX8_goesOn_3 : decode cX8_goesOn 3 = .ok (.iload_n 1, 1) := by decide +kernel
theorem dX8_goesOn_4 : decode cX8_goesOn 4 = .ok (.if_icmp .ge 13, 3) := by decide +kernel
theorem dX8_goesOn_7 : decode cX8_goesOn 7 = .ok (.aload_n 0, 1) := by decide +kernel
theorem dX8_goesOn_8 : decode cX8_goesOn 8 = .ok (.invokevirtual 345, 3) := by decide +kernel
theorem dX8_goesOn_11 : decode cX8_goesOn 11 = .ok (.iinc 2 1, 3) := by decide +kernel
theorem dX8_goesOn_14 : decode cX8_goesOn 14 = .ok (.goto (-12), 3) := by decide +kernel
theorem dX8_goesOn_17 : decode cX8_goesOn 17 = .ok (.return_, 1) := by decide +kernel
theorem dX8_placeOf_0 : decode cX8_placeOf 0 = .ok (.aload_n 0, 1) := by decide +kernel
theorem dX8_placeOf_1 : decode cX8_placeOf 1 = .ok (.iload_n 1, 1) := by decide +kernel
theorem dX8_placeOf_2 : decode cX8_placeOf 2 = .ok (.invokevirtual 296, 3) := by decide +kernel
theorem dX8_placeOf_5 : decode cX8_placeOf 5 = .ok (.ifCond .eq 7, 3) := by decide +kernel
theorem dX8_placeOf_8 : decode cX8_placeOf 8 = .ok (.iconst (-1), 1) := by decide +kernel
theorem dX8_placeOf_9 : decode cX8_placeOf 9 = .ok (.goto 25, 3) := by decide +kernel
theorem dX8_placeOf_12 : decode cX8_placeOf 12 = .ok (.bipush 10, 2) := by decide +kernel
theorem dX8_placeOf_14 : decode cX8_placeOf 14 = .ok (.aload_n 0, 1) := by decide +kernel
theorem dX8_placeOf_15 : decode cX8_placeOf 15 = .ok (.getfield 9, 3) := by decide +kernel
theorem dX8_placeOf_18 : decode cX8_placeOf 18 = .ok (.bipush 8, 2) := by decide +kernel
theorem dX8_placeOf_20 : decode cX8_placeOf 20 = .ok (.iload_n 1, 1) := by decide +kernel
theorem dX8_placeOf_21 : decode cX8_placeOf 21 = .ok (.iadd, 1) := by decide +kernel
theorem dX8_placeOf_22 : decode cX8_placeOf 22 = .ok (.iaload, 1) := by decide +kernel
theorem dX8_placeOf_23 : decode cX8_placeOf 23 = .ok (.imul, 1) := by decide +kernel
theorem dX8_placeOf_24 : decode cX8_placeOf 24 = .ok (.aload_n 0, 1) := by decide +kernel
theorem dX8_placeOf_25 : decode cX8_placeOf 25 = .ok (.getfield 9, 3) := by decide +kernel
theorem dX8_placeOf_28 : decode cX8_placeOf 28 = .ok (.bipush 16, 2) := by decide +kernel
theorem dX8_placeOf_30 : decode cX8_placeOf 30 = .ok (.iload_n 1, 1) := by decide +kernel
theorem dX8_placeOf_31 : decode cX8_placeOf 31 = .ok (.iadd, 1) := by decide +kernel
theorem dX8_placeOf_32 : decode cX8_placeOf 32 = .ok (.iaload, 1) := by decide +kernel
theorem dX8_placeOf_33 : decode cX8_placeOf 33 = .ok (.iadd, 1) := by decide +kernel
theorem dX8_placeOf_34 : decode cX8_placeOf 34 = .ok (.ireturn, 1) := by decide +kernel
theorem dX8_isAheadOut_0 : decode cX8_isAheadOut 0 = .ok (.aload_n 0, 1) := by decide +kernel
theorem dX8_isAheadOut_1 : decode cX8_isAheadOut 1 = .ok (.aload_n 0, 1) := by decide +kernel
theorem dX8_isAheadOut_2 : decode cX8_isAheadOut 2 = .ok (.iload_n 1, 1) := by decide +kernel
theorem dX8_isAheadOut_3 : decode cX8_isAheadOut 3 = .ok (.i2l, 1) := by decide +kernel
theorem dX8_isAheadOut_4 : decode cX8_isAheadOut 4 = .ok (.invokevirtual 310, 3) := by decide +kernel
theorem dX8_isAheadOut_7 : decode cX8_isAheadOut 7 = .ok (.ifCond .ne 7, 3) := by decide +kernel
theorem dX8_isAheadOut_10 : decode cX8_isAheadOut 10 = .ok (.iconst 1, 1) := by decide +kernel
theorem dX8_isAheadOut_11 : decode cX8_isAheadOut 11 = .ok (.goto 20, 3) := by decide +kernel
theorem dX8_isAheadOut_14 : decode cX8_isAheadOut 14 = .ok (.iload_n 2, 1) := by decide +kernel
theorem dX8_isAheadOut_15 : decode cX8_isAheadOut 15 = .ok (.i2l, 1) := by decide +kernel
theorem dX8_isAheadOut_16 : decode cX8_isAheadOut 16 = .ok (.lconst 0, 1) := by decide +kernel
theorem dX8_isAheadOut_17 : decode cX8_isAheadOut 17 = .ok (.ldc2_w 360, 3) := by decide +kernel
theorem dX8_isAheadOut_20 : decode cX8_isAheadOut 20 = .ok (.invokestatic 125, 3) := by decide +kernel
theorem dX8_isAheadOut_23 : decode cX8_isAheadOut 23 = .ok (.ifCond .eq 7, 3) := by decide +kernel
theorem dX8_isAheadOut_26 : decode cX8_isAheadOut 26 = .ok (.iconst 0, 1) := by decide +kernel
theorem dX8_isAheadOut_27 : decode cX8_isAheadOut 27 = .ok (.goto 4, 3) := by decide +kernel
theorem dX8_isAheadOut_30 : decode cX8_isAheadOut 30 = .ok (.iconst 2, 1) := by decide +kernel
theorem dX8_isAheadOut_31 : decode cX8_isAheadOut 31 = .ok (.putfield 64, 3) := by decide +kernel
theorem dX8_isAheadOut_34 : decode cX8_isAheadOut 34 = .ok (.aload_n 0, 1) := by decide +kernel
theorem dX8_isAheadOut_35 : decode cX8_isAheadOut 35 = .ok (.getfield 64, 3) := by decide +kernel
theorem dX8_isAheadOut_38 : decode cX8_isAheadOut 38 = .ok (.ifCond .le 7, 3) := by decide +kernel
theorem dX8_isAheadOut_41 : decode cX8_isAheadOut 41 = .ok (.iconst 1, 1) := by decide +kernel
theorem dX8_isAheadOut_42 : decode cX8_isAheadOut 42 = .ok (.goto 4, 3) := by decide +kernel
theorem dX8_isAheadOut_45 : decode cX8_isAheadOut 45 = .ok (.iconst 0, 1) := by decide +kernel
theorem dX8_isAheadOut_46 : decode cX8_isAheadOut 46 = .ok (.ireturn, 1) := by decide +kernel
theorem dX8_sits_0 : decode cX8_sits 0 = .ok (.aload_n 0, 1) := by decide +kernel
theorem dX8_sits_1 : decode cX8_sits 1 = .ok (.iload_n 1, 1) := by decide +kernel
theorem dX8_sits_2 : decode cX8_sits 2 = .ok (.iload_n 2, 1) := by decide +kernel
theorem dX8_sits_3 : decode cX8_sits 3 = .ok (.invokevirtual 396, 3) := by decide +kernel
theorem dX8_sits_6 : decode cX8_sits 6 = .ok (.ifCond .eq 5, 3) := by decide +kernel
theorem dX8_sits_9 : decode cX8_sits 9 = .ok (.iconst 0, 1) := by decide +kernel
theorem dX8_sits_10 : decode cX8_sits 10 = .ok (.ireturn, 1) := by decide +kernel
theorem dX8_sits_11 : decode cX8_sits 11 = .ok (.aload_n 0, 1) := by decide +kernel
theorem dX8_sits_12 : decode cX8_sits 12 = .ok (.invokevirtual 369, 3) := by decide +kernel
theorem dX8_sits_15 : decode cX8_sits 15 = .ok (.aload_n 0, 1) := by decide +kernel
theorem dX8_sits_16 : decode cX8_sits 16 = .ok (.iload_n 2, 1) := by decide +kernel
theorem dX8_sits_17 : decode cX8_sits 17 = .ok (.invokevirtual 399, 3) := by decide +kernel
theorem dX8_sits_20 : decode cX8_sits 20 = .ok (.aload_n 0, 1) := by decide +kernel
theorem dX8_sits_21 : decode cX8_sits 21 = .ok (.iload_n 1, 1) := by decide +kernel
theorem dX8_sits_22 : decode cX8_sits 22 = .ok (.invokevirtual 402, 3) := by decide +kernel
theorem dX8_sits_25 : decode cX8_sits 25 = .ok (.istore_n 3, 1) := by decide +kernel
theorem dX8_sits_26 : decode cX8_sits 26 = .ok (.aload_n 0, 1) := by decide +kernel
theorem dX8_sits_27 : decode cX8_sits 27 = .ok (.invokevirtual 381, 3) := by decide +kernel
theorem dX8_sits_30 : decode cX8_sits 30 = .ok (.iload_n 3, 1) := by decide +kernel
theorem dX8_sits_31 : decode cX8_sits 31 = .ok (.ireturn, 1) := by decide +kernel
theorem dX8_wetIn_0 : decode cX8_wetIn 0 = .ok (.aload_n 0, 1) := by decide +kernel
theorem dX8_wetIn_1 : decode cX8_wetIn 1 = .ok (.iconst 0, 1) := by decide +kernel
theorem dX8_wetIn_2 : decode cX8_wetIn 2 = .ok (.putfield 64, 3) := by decide +kernel
theorem dX8_wetIn_5 : decode cX8_wetIn 5 = .ok (.aload_n 0, 1) := by decide +kernel
theorem dX8_wetIn_6 : decode cX8_wetIn 6 = .ok (.iload_n 1, 1) := by decide +kernel
theorem dX8_wetIn_7 : decode cX8_wetIn 7 = .ok (.i2l, 1) := by decide +kernel
theorem dX8_wetIn_8 : decode cX8_wetIn 8 = .ok (.invokevirtual 310, 3) := by decide +kernel
theorem dX8_wetIn_11 : decode cX8_wetIn 11 = .ok (.ifCond .ne 9, 3) := by decide +kernel
theorem dX8_wetIn_14 : decode cX8_wetIn 14 = .ok (.aload_n 0, 1) := by decide +kernel
theorem dX8_wetIn_15 : decode cX8_wetIn 15 = .ok (.iconst 1, 1) := by decide +kernel
theorem dX8_wetIn_16 : decode cX8_wetIn 16 = .ok (.invokevirtual 231, 3) := by decide +kernel
theorem dX8_wetIn_19 : decode cX8_wetIn 19 = .ok (.ireturn, 1) := by decide +kernel
theorem dX8_wetIn_20 : decode cX8_wetIn 20 = .ok (.aload_n 0, 1) := by decide +kernel
theorem dX8_wetIn_21 : decode cX8_wetIn 21 = .ok (.invokevirtual 369, 3) := by decide +kernel
theorem dX8_wetIn_24 : decode cX8_wetIn 24 = .ok (.iconst 0, 1) := by decide +kernel
theorem dX8_wetIn_25 : decode cX8_wetIn 25 = .ok (.istore_n 2, 1) := by decide +kernel
theorem dX8_wetIn_26 : decode cX8_wetIn 26 = .ok (.iload_n 2, 1) := by decide +kernel
theorem dX8_wetIn_27 : decode cX8_wetIn 27 = .ok (.sipush 200, 3) := by decide +kernel
theorem dX8_wetIn_30 : decode cX8_wetIn 30 = .ok (.if_icmp .gt 27, 3) := by decide +kernel
theorem dX8_wetIn_33 : decode cX8_wetIn 33 = .ok (.aload_n 0, 1) := by decide +kernel
theorem dX8_wetIn_34 : decode cX8_wetIn 34 = .ok (.getfield 9, 3) := by decide +kernel
theorem dX8_wetIn_37 : decode cX8_wetIn 37 = .ok (.bipush 32, 2) := by decide +kernel
theorem dX8_wetIn_39 : decode cX8_wetIn 39 = .ok (.iaload, 1) := by decide +kernel
theorem dX8_wetIn_40 : decode cX8_wetIn 40 = .ok (.iload_n 1, 1) := by decide +kernel
theorem dX8_wetIn_41 : decode cX8_wetIn 41 = .ok (.invokestatic 249, 3) := by decide +kernel
theorem dX8_wetIn_44 : decode cX8_wetIn 44 = .ok (.ifCond .ne 13, 3) := by decide +kernel
theorem dX8_wetIn_47 : decode cX8_wetIn 47 = .ok (.aload_n 0, 1) := by decide +kernel
theorem dX8_wetIn_48 : decode cX8_wetIn 48 = .ok (.invokevirtual 345, 3) := by decide +kernel
theorem dX8_wetIn_51 : decode cX8_wetIn 51 = .ok (.iinc 2 1, 3) := by decide +kernel
theorem dX8_wetIn_54 : decode cX8_wetIn 54 = .ok (.goto (-28), 3) := by decide +kernel
theorem dX8_wetIn_57 : decode cX8_wetIn 57 = .ok (.aload_n 0, 1) := by decide +kernel
theorem dX8_wetIn_58 : decode cX8_wetIn 58 = .ok (.invokevirtual 381, 3) := by decide +kernel
theorem dX8_wetIn_61 : decode cX8_wetIn 61 = .ok (.iload_n 2, 1) := by decide +kernel
theorem dX8_wetIn_62 : decode cX8_wetIn 62 = .ok (.sipush 200, 3) := by decide +kernel
theorem dX8_wetIn_65 : decode cX8_wetIn 65 = .ok (.if_icmp .le 7, 3) := by decide +kernel
theorem dX8_wetIn_68 : decode cX8_wetIn 68 = .ok (.iconst (-1), 1) := by decide +kernel
theorem dX8_wetIn_69 : decode cX8_wetIn 69 = .ok (.goto 4, 3) := by decide +kernel
theorem dX8_wetIn_72 : decode cX8_wetIn 72 = .ok (.iload_n 2, 1) := by decide +kernel
theorem dX8_wetIn_73 : decode cX8_wetIn 73 = .ok (.ireturn, 1) := by decide +kernel
theorem dX8_wetBy_0 : decode cX8_wetBy 0 = .ok (.aload_n 0, 1) := by decide +kernel
theorem dX8_wetBy_1 : decode cX8_wetBy 1 = .ok (.iconst 0, 1) := by decide +kernel
theorem dX8_wetBy_2 : decode cX8_wetBy 2 = .ok (.putfield 64, 3) := by decide +kernel
theorem dX8_wetBy_5 : decode cX8_wetBy 5 = .ok (.iload_n 1, 1) := by decide +kernel
theorem dX8_wetBy_6 : decode cX8_wetBy 6 = .ok (.i2l, 1) := by decide +kernel
theorem dX8_wetBy_7 : decode cX8_wetBy 7 = .ok (.lconst 0, 1) := by decide +kernel
theorem dX8_wetBy_8 : decode cX8_wetBy 8 = .ok (.ldc2_w 360, 3) := by decide +kernel
theorem dX8_wetBy_11 : decode cX8_wetBy 11 = .ok (.invokestatic 125, 3) := by decide +kernel
theorem dX8_wetBy_14 : decode cX8_wetBy 14 = .ok (.ifCond .ne 9, 3) := by decide +kernel
theorem dX8_wetBy_17 : decode cX8_wetBy 17 = .ok (.aload_n 0, 1) := by decide +kernel
theorem dX8_wetBy_18 : decode cX8_wetBy 18 = .ok (.iconst 1, 1) := by decide +kernel
theorem dX8_wetBy_19 : decode cX8_wetBy 19 = .ok (.invokevirtual 231, 3) := by decide +kernel
theorem dX8_wetBy_22 : decode cX8_wetBy 22 = .ok (.ireturn, 1) := by decide +kernel
theorem dX8_wetBy_23 : decode cX8_wetBy 23 = .ok (.aload_n 0, 1) := by decide +kernel
theorem dX8_wetBy_24 : decode cX8_wetBy 24 = .ok (.invokevirtual 369, 3) := by decide +kernel
theorem dX8_wetBy_27 : decode cX8_wetBy 27 = .ok (.aload_n 0, 1) := by decide +kernel
theorem dX8_wetBy_28 : decode cX8_wetBy 28 = .ok (.iload_n 1, 1) := by decide +kernel
theorem dX8_wetBy_29 : decode cX8_wetBy 29 = .ok (.invokevirtual 399, 3) := by decide +kernel
theorem dX8_wetBy_32 : decode cX8_wetBy 32 = .ok (.aload_n 0, 1) := by decide +kernel
theorem dX8_wetBy_33 : decode cX8_wetBy 33 = .ok (.getfield 9, 3) := by decide +kernel
theorem dX8_wetBy_36 : decode cX8_wetBy 36 = .ok (.bipush 32, 2) := by decide +kernel
theorem dX8_wetBy_38 : decode cX8_wetBy 38 = .ok (.iaload, 1) := by decide +kernel
theorem dX8_wetBy_39 : decode cX8_wetBy 39 = .ok (.istore_n 2, 1) := by decide +kernel
theorem dX8_wetBy_40 : decode cX8_wetBy 40 = .ok (.aload_n 0, 1) := by decide +kernel
theorem dX8_wetBy_41 : decode cX8_wetBy 41 = .ok (.invokevirtual 381, 3) := by decide +kernel
theorem dX8_wetBy_44 : decode cX8_wetBy 44 = .ok (.iload_n 2, 1) := by decide +kernel
theorem dX8_wetBy_45 : decode cX8_wetBy 45 = .ok (.ireturn, 1) := by decide +kernel
theorem dX8_frontIn_0 : decode cX8_frontIn 0 = .ok (.aload_n 0, 1) := by decide +kernel
theorem dX8_frontIn_1 : decode cX8_frontIn 1 = .ok (.iconst 0, 1) := by decide +kernel
theorem dX8_frontIn_2 : decode cX8_frontIn 2 = .ok (.putfield 64, 3) := by decide +kernel
theorem dX8_frontIn_5 : decode cX8_frontIn 5 = .ok (.aload_n 0, 1) := by decide +kernel
theorem dX8_frontIn_6 : decode cX8_frontIn 6 = .ok (.iload_n 1, 1) := by decide +kernel
theorem dX8_frontIn_7 : decode cX8_frontIn 7 = .ok (.i2l, 1) := by decide +kernel
theorem dX8_frontIn_8 : decode cX8_frontIn 8 = .ok (.invokevirtual 310, 3) := by decide +kernel
theorem dX8_frontIn_11 : decode cX8_frontIn 11 = .ok (.ifCond .ne 9, 3) := by decide +kernel
theorem dX8_frontIn_14 : decode cX8_frontIn 14 = .ok (.aload_n 0, 1) := by decide +kernel
theorem dX8_frontIn_15 : decode cX8_frontIn 15 = .ok (.iconst 1, 1) := by decide +kernel
theorem dX8_frontIn_16 : decode cX8_frontIn 16 = .ok (.invokevirtual 231, 3) := by decide +kernel
theorem dX8_frontIn_19 : decode cX8_frontIn 19 = .ok (.ireturn, 1) := by decide +kernel
theorem dX8_frontIn_20 : decode cX8_frontIn 20 = .ok (.aload_n 0, 1) := by decide +kernel
theorem dX8_frontIn_21 : decode cX8_frontIn 21 = .ok (.invokevirtual 369, 3) := by decide +kernel
theorem dX8_frontIn_24 : decode cX8_frontIn 24 = .ok (.iconst 0, 1) := by decide +kernel
theorem dX8_frontIn_25 : decode cX8_frontIn 25 = .ok (.istore_n 2, 1) := by decide +kernel
theorem dX8_frontIn_26 : decode cX8_frontIn 26 = .ok (.iload_n 2, 1) := by decide +kernel
theorem dX8_frontIn_27 : decode cX8_frontIn 27 = .ok (.sipush 200, 3) := by decide +kernel
theorem dX8_frontIn_30 : decode cX8_frontIn 30 = .ok (.if_icmp .gt 25, 3) := by decide +kernel
theorem dX8_frontIn_33 : decode cX8_frontIn 33 = .ok (.aload_n 0, 1) := by decide +kernel
theorem dX8_frontIn_34 : decode cX8_frontIn 34 = .ok (.getfield 9, 3) := by decide +kernel
theorem dX8_frontIn_37 : decode cX8_frontIn 37 = .ok (.bipush 16, 2) := by decide +kernel
theorem dX8_frontIn_39 : decode cX8_frontIn 39 = .ok (.iload_n 1, 1) := by decide +kernel
theorem dX8_frontIn_40 : decode cX8_frontIn 40 = .ok (.iadd, 1) := by decide +kernel
theorem dX8_frontIn_41 : decode cX8_frontIn 41 = .ok (.iaload, 1) := by decide +kernel
theorem dX8_frontIn_42 : decode cX8_frontIn 42 = .ok (.ifCond .eq 13, 3) := by decide +kernel
theorem dX8_frontIn_45 : decode cX8_frontIn 45 = .ok (.aload_n 0, 1) := by decide +kernel
theorem dX8_frontIn_46 : decode cX8_frontIn 46 = .ok (.invokevirtual 345, 3) := by decide +kernel
theorem dX8_frontIn_49 : decode cX8_frontIn 49 = .ok (.iinc 2 1, 3) := by decide +kernel
theorem dX8_frontIn_52 : decode cX8_frontIn 52 = .ok (.goto (-26), 3) := by decide +kernel
theorem dX8_frontIn_55 : decode cX8_frontIn 55 = .ok (.aload_n 0, 1) := by decide +kernel
theorem dX8_frontIn_56 : decode cX8_frontIn 56 = .ok (.invokevirtual 381, 3) := by decide +kernel
theorem dX8_frontIn_59 : decode cX8_frontIn 59 = .ok (.iload_n 2, 1) := by decide +kernel
theorem dX8_frontIn_60 : decode cX8_frontIn 60 = .ok (.sipush 200, 3) := by decide +kernel
theorem dX8_frontIn_63 : decode cX8_frontIn 63 = .ok (.if_icmp .le 7, 3) := by decide +kernel
theorem dX8_frontIn_66 : decode cX8_frontIn 66 = .ok (.iconst (-1), 1) := by decide +kernel
theorem dX8_frontIn_67 : decode cX8_frontIn 67 = .ok (.goto 4, 3) := by decide +kernel
theorem dX8_frontIn_70 : decode cX8_frontIn 70 = .ok (.iload_n 2, 1) := by decide +kernel
theorem dX8_frontIn_71 : decode cX8_frontIn 71 = .ok (.ireturn, 1) := by decide +kernel
theorem dX8_front_0 : decode cX8_front 0 = .ok (.aload_n 0, 1) := by decide +kernel
theorem dX8_front_1 : decode cX8_front 1 = .ok (.iconst 0, 1) := by decide +kernel
theorem dX8_front_2 : decode cX8_front 2 = .ok (.putfield 64, 3) := by decide +kernel
theorem dX8_front_5 : decode cX8_front 5 = .ok (.iload_n 1, 1) := by decide +kernel
theorem dX8_front_6 : decode cX8_front 6 = .ok (.i2l, 1) := by decide +kernel
theorem dX8_front_7 : decode cX8_front 7 = .ok (.lconst 0, 1) := by decide +kernel
theorem dX8_front_8 : decode cX8_front 8 = .ok (.ldc2_w 360, 3) := by decide +kernel
theorem dX8_front_11 : decode cX8_front 11 = .ok (.invokestatic 125, 3) := by decide +kernel
theorem dX8_front_14 : decode cX8_front 14 = .ok (.ifCond .ne 9, 3) := by decide +kernel
theorem dX8_front_17 : decode cX8_front 17 = .ok (.aload_n 0, 1) := by decide +kernel
theorem dX8_front_18 : decode cX8_front 18 = .ok (.iconst 1, 1) := by decide +kernel
theorem dX8_front_19 : decode cX8_front 19 = .ok (.invokevirtual 231, 3) := by decide +kernel
theorem dX8_front_22 : decode cX8_front 22 = .ok (.ireturn, 1) := by decide +kernel
theorem dX8_front_23 : decode cX8_front 23 = .ok (.aload_n 0, 1) := by decide +kernel
theorem dX8_front_24 : decode cX8_front 24 = .ok (.invokevirtual 369, 3) := by decide +kernel
theorem dX8_front_27 : decode cX8_front 27 = .ok (.aload_n 0, 1) := by decide +kernel
theorem dX8_front_28 : decode cX8_front 28 = .ok (.iload_n 1, 1) := by decide +kernel
theorem dX8_front_29 : decode cX8_front 29 = .ok (.invokevirtual 399, 3) := by decide +kernel
theorem dX8_front_32 : decode cX8_front 32 = .ok (.aload_n 0, 1) := by decide +kernel
theorem dX8_front_33 : decode cX8_front 33 = .ok (.invokevirtual 378, 3) := by decide +kernel
theorem dX8_front_36 : decode cX8_front 36 = .ok (.istore_n 2, 1) := by decide +kernel
theorem dX8_front_37 : decode cX8_front 37 = .ok (.aload_n 0, 1) := by decide +kernel
theorem dX8_front_38 : decode cX8_front 38 = .ok (.invokevirtual 381, 3) := by decide +kernel
theorem dX8_front_41 : decode cX8_front 41 = .ok (.iload_n 2, 1) := by decide +kernel
theorem dX8_front_42 : decode cX8_front 42 = .ok (.ireturn, 1) := by decide +kernel
theorem dX8_king_0 : decode cX8_king 0 = .ok (.aload_n 0, 1) := by decide +kernel
theorem dX8_king_1 : decode cX8_king 1 = .ok (.iconst 0, 1) := by decide +kernel
theorem dX8_king_2 : decode cX8_king 2 = .ok (.putfield 64, 3) := by decide +kernel
theorem dX8_king_5 : decode cX8_king 5 = .ok (.iload_n 1, 1) := by decide +kernel
theorem dX8_king_6 : decode cX8_king 6 = .ok (.i2l, 1) := by decide +kernel
theorem dX8_king_7 : decode cX8_king 7 = .ok (.lconst 0, 1) := by decide +kernel
theorem dX8_king_8 : decode cX8_king 8 = .ok (.ldc2_w 360, 3) := by decide +kernel
theorem dX8_king_11 : decode cX8_king 11 = .ok (.invokestatic 125, 3) := by decide +kernel
theorem dX8_king_14 : decode cX8_king 14 = .ok (.ifCond .ne 9, 3) := by decide +kernel
theorem dX8_king_17 : decode cX8_king 17 = .ok (.aload_n 0, 1) := by decide +kernel
theorem dX8_king_18 : decode cX8_king 18 = .ok (.iconst 1, 1) := by decide +kernel
theorem dX8_king_19 : decode cX8_king 19 = .ok (.invokevirtual 231, 3) := by decide +kernel
theorem dX8_king_22 : decode cX8_king 22 = .ok (.ireturn, 1) := by decide +kernel
theorem dX8_king_23 : decode cX8_king 23 = .ok (.aload_n 0, 1) := by decide +kernel
theorem dX8_king_24 : decode cX8_king 24 = .ok (.invokevirtual 369, 3) := by decide +kernel
theorem dX8_king_27 : decode cX8_king 27 = .ok (.iconst 0, 1) := by decide +kernel
theorem dX8_king_28 : decode cX8_king 28 = .ok (.istore_n 2, 1) := by decide +kernel
theorem dX8_king_29 : decode cX8_king 29 = .ok (.iload_n 2, 1) := by decide +kernel
theorem dX8_king_30 : decode cX8_king 30 = .ok (.bipush 8, 2) := by decide +kernel
theorem dX8_king_32 : decode cX8_king 32 = .ok (.if_icmp .ge 16, 3) := by decide +kernel
theorem dX8_king_35 : decode cX8_king 35 = .ok (.aload_n 0, 1) := by decide +kernel
theorem dX8_king_36 : decode cX8_king 36 = .ok (.getfield 39, 3) := by decide +kernel
theorem dX8_king_39 : decode cX8_king 39 = .ok (.iload_n 2, 1) := by decide +kernel
theorem dX8_king_40 : decode cX8_king 40 = .ok (.iconst 0, 1) := by decide +kernel
theorem dX8_king_41 : decode cX8_king 41 = .ok (.iastore, 1) := by decide +kernel
theorem dX8_king_42 : decode cX8_king 42 = .ok (.iinc 2 1, 3) := by decide +kernel
theorem dX8_king_45 : decode cX8_king 45 = .ok (.goto (-16), 3) := by decide +kernel
theorem dX8_king_48 : decode cX8_king 48 = .ok (.iconst 0, 1) := by decide +kernel
theorem dX8_king_49 : decode cX8_king 49 = .ok (.istore_n 2, 1) := by decide +kernel
theorem dX8_king_50 : decode cX8_king 50 = .ok (.iload_n 2, 1) := by decide +kernel
theorem dX8_king_51 : decode cX8_king 51 = .ok (.iload_n 1, 1) := by decide +kernel
theorem dX8_king_52 : decode cX8_king 52 = .ok (.if_icmp .gt 55, 3) := by decide +kernel
theorem dX8_king_55 : decode cX8_king 55 = .ok (.iconst 0, 1) := by decide +kernel
theorem dX8_king_56 : decode cX8_king 56 = .ok (.istore_n 3, 1) := by decide +kernel
theorem dX8_king_57 : decode cX8_king 57 = .ok (.iload_n 3, 1) := by decide +kernel
theorem dX8_king_58 : decode cX8_king 58 = .ok (.aload_n 0, 1) := by decide +kernel
theorem dX8_king_59 : decode cX8_king 59 = .ok (.invokevirtual 242, 3) := by decide +kernel
theorem dX8_king_62 : decode cX8_king 62 = .ok (.if_icmp .ge 35, 3) := by decide +kernel
theorem dX8_king_65 : decode cX8_king 65 = .ok (.aload_n 0, 1) := by decide +kernel
theorem dX8_king_66 : decode cX8_king 66 = .ok (.getfield 39, 3) := by decide +kernel
theorem dX8_king_69 : decode cX8_king 69 = .ok (.iload_n 3, 1) := by decide +kernel
theorem dX8_king_70 : decode cX8_king 70 = .ok (.dup2, 1) := by decide +kernel
theorem dX8_king_71 : decode cX8_king 71 = .ok (.iaload, 1) := by decide +kernel
theorem dX8_king_72 : decode cX8_king 72 = .ok (.aload_n 0, 1) := by decide +kernel
theorem dX8_king_73 : decode cX8_king 73 = .ok (.getfield 9, 3) := by decide +kernel
theorem dX8_king_76 : decode cX8_king 76 = .ok (.bipush 16, 2) := by decide +kernel
theorem dX8_king_78 : decode cX8_king 78 = .ok (.iload_n 3, 1) := by decide +kernel
theorem dX8_king_79 : decode cX8_king 79 = .ok (.iadd, 1) := by decide +kernel
theorem dX8_king_80 : decode cX8_king 80 = .ok (.iaload, 1) := by decide +kernel
theorem dX8_king_81 : decode cX8_king 81 = .ok (.ifCond .ne 7, 3) := by decide +kernel
theorem dX8_king_84 : decode cX8_king 84 = .ok (.iconst 1, 1) := by decide +kernel
theorem dX8_king_85 : decode cX8_king 85 = .ok (.goto 4, 3) := by decide +kernel
theorem dX8_king_88 : decode cX8_king 88 = .ok (.iconst 0, 1) := by decide +kernel
theorem dX8_king_89 : decode cX8_king 89 = .ok (.iadd, 1) := by decide +kernel
theorem dX8_king_90 : decode cX8_king 90 = .ok (.iastore, 1) := by decide +kernel
theorem dX8_king_91 : decode cX8_king 91 = .ok (.iinc 3 1, 3) := by decide +kernel
theorem dX8_king_94 : decode cX8_king 94 = .ok (.goto (-37), 3) := by decide +kernel
theorem dX8_king_97 : decode cX8_king 97 = .ok (.aload_n 0, 1) := by decide +kernel
theorem dX8_king_98 : decode cX8_king 98 = .ok (.invokevirtual 345, 3) := by decide +kernel
theorem dX8_king_101 : decode cX8_king 101 = .ok (.iinc 2 1, 3) := by decide +kernel
theorem dX8_king_104 : decode cX8_king 104 = .ok (.goto (-54), 3) := by decide +kernel
theorem dX8_king_107 : decode cX8_king 107 = .ok (.aload_n 0, 1) := by decide +kernel
theorem dX8_king_108 : decode cX8_king 108 = .ok (.invokevirtual 381, 3) := by decide +kernel
theorem dX8_king_111 : decode cX8_king 111 = .ok (.iconst (-1), 1) := by decide +kernel
theorem dX8_king_112 : decode cX8_king 112 = .ok (.istore_n 2, 1) := by decide +kernel
theorem dX8_king_113 : decode cX8_king 113 = .ok (.iconst 0, 1) := by decide +kernel
theorem dX8_king_114 : decode cX8_king 114 = .ok (.istore_n 3, 1) := by decide +kernel
theorem dX8_king_115 : decode cX8_king 115 = .ok (.iload_n 3, 1) := by decide +kernel
theorem dX8_king_116 : decode cX8_king 116 = .ok (.aload_n 0, 1) := by decide +kernel
theorem dX8_king_117 : decode cX8_king 117 = .ok (.invokevirtual 242, 3) := by decide +kernel
theorem dX8_king_120 : decode cX8_king 120 = .ok (.if_icmp .ge 35, 3) := by decide +kernel
theorem dX8_king_123 : decode cX8_king 123 = .ok (.aload_n 0, 1) := by decide +kernel
theorem dX8_king_124 : decode cX8_king 124 = .ok (.getfield 39, 3) := by decide +kernel
theorem dX8_king_127 : decode cX8_king 127 = .ok (.iload_n 3, 1) := by decide +kernel
theorem dX8_king_128 : decode cX8_king 128 = .ok (.iaload, 1) := by decide +kernel
theorem dX8_king_129 : decode cX8_king 129 = .ok (.iload_n 2, 1) := by decide +kernel
theorem dX8_king_130 : decode cX8_king 130 = .ok (.iconst (-1), 1) := by decide +kernel
theorem dX8_king_131 : decode cX8_king 131 = .ok (.if_icmp .ne 7, 3) := by decide +kernel
theorem dX8_king_134 : decode cX8_king 134 = .ok (.iconst 0, 1) := by decide +kernel
theorem dX8_king_135 : decode cX8_king 135 = .ok (.goto 9, 3) := by decide +kernel
theorem dX8_king_138 : decode cX8_king 138 = .ok (.aload_n 0, 1) := by decide +kernel
theorem dX8_king_139 : decode cX8_king 139 = .ok (.getfield 39, 3) := by decide +kernel
theorem dX8_king_142 : decode cX8_king 142 = .ok (.iload_n 2, 1) := by decide +kernel
theorem dX8_king_143 : decode cX8_king 143 = .ok (.iaload, 1) := by decide +kernel
theorem dX8_king_144 : decode cX8_king 144 = .ok (.if_icmp .le 5, 3) := by decide +kernel
theorem dX8_king_147 : decode cX8_king 147 = .ok (.iload_n 3, 1) := by decide +kernel
theorem dX8_king_148 : decode cX8_king 148 = .ok (.istore_n 2, 1) := by decide +kernel
theorem dX8_king_149 : decode cX8_king 149 = .ok (.iinc 3 1, 3) := by decide +kernel
theorem dX8_king_152 : decode cX8_king 152 = .ok (.goto (-37), 3) := by decide +kernel
theorem dX8_king_155 : decode cX8_king 155 = .ok (.iload_n 2, 1) := by decide +kernel
theorem dX8_king_156 : decode cX8_king 156 = .ok (.ireturn, 1) := by decide +kernel
theorem dX8_keepsLevel_0 : decode cX8_keepsLevel 0 = .ok (.iconst 0, 1) := by decide +kernel
theorem dX8_keepsLevel_1 : decode cX8_keepsLevel 1 = .ok (.istore_n 2, 1) := by decide +kernel
theorem dX8_keepsLevel_2 : decode cX8_keepsLevel 2 = .ok (.iload_n 2, 1) := by decide +kernel
theorem dX8_keepsLevel_3 : decode cX8_keepsLevel 3 = .ok (.bipush 26, 2) := by decide +kernel
theorem dX8_keepsLevel_5 : decode cX8_keepsLevel 5 = .ok (.if_icmp .ge 29, 3) := by decide +kernel
theorem dX8_keepsLevel_8 : decode cX8_keepsLevel 8 = .ok (.aload_n 0, 1) := by decide +kernel
theorem dX8_keepsLevel_9 : decode cX8_keepsLevel 9 = .ok (.getfield 45, 3) := by decide +kernel
theorem dX8_keepsLevel_12 : decode cX8_keepsLevel 12 = .ok (.bipush 26, 2) := by decide +kernel
theorem dX8_keepsLevel_14 : decode cX8_keepsLevel 14 = .ok (.iload_n 1, 1) := by decide +kernel
theorem dX8_keepsLevel_15 : decode cX8_keepsLevel 15 = .ok (.imul, 1) := by decide +kernel
theorem dX8_keepsLevel_16 : decode cX8_keepsLevel 16 = .ok (.iload_n 2, 1) := by decide +kernel
theorem dX8_keepsLevel_17 : decode cX8_keepsLevel 17 = .ok (.iadd, 1) := by decide +kernel
theorem dX8_keepsLevel_18 : decode cX8_keepsLevel 18 = .ok (.aload_n 0, 1) := by decide +kernel
theorem dX8_keepsLevel_19 : decode cX8_keepsLevel 19 = .ok (.getfield 9, 3) := by decide +kernel
theorem dX8_keepsLevel_22 : decode cX8_keepsLevel 22 = .ok (.bipush 8, 2) := by decide +kernel
theorem dX8_keepsLevel_24 : decode cX8_keepsLevel 24 = .ok (.iload_n 2, 1) := by decide +kernel
theorem dX8_keepsLevel_25 : decode cX8_keepsLevel 25 = .ok (.iadd, 1) := by decide +kernel
theorem dX8_keepsLevel_26 : decode cX8_keepsLevel 26 = .ok (.iaload, 1) := by decide +kernel
theorem dX8_keepsLevel_27 : decode cX8_keepsLevel 27 = .ok (.iastore, 1) := by decide +kernel
theorem dX8_keepsLevel_28 : decode cX8_keepsLevel 28 = .ok (.iinc 2 1, 3) := by decide +kernel
theorem dX8_keepsLevel_31 : decode cX8_keepsLevel 31 = .ok (.goto (-29), 3) := by decide +kernel
theorem dX8_keepsLevel_34 : decode cX8_keepsLevel 34 = .ok (.return_, 1) := by decide +kernel
theorem dX8_backToLevel_0 : decode cX8_backToLevel 0 = .ok (.iconst 0, 1) := by decide +kernel
theorem dX8_backToLevel_1 : decode cX8_backToLevel 1 = .ok (.istore_n 2, 1) := by decide +kernel
theorem dX8_backToLevel_2 : decode cX8_backToLevel 2 = .ok (.iload_n 2, 1) := by decide +kernel
theorem dX8_backToLevel_3 : decode cX8_backToLevel 3 = .ok (.bipush 26, 2) := by decide +kernel
theorem dX8_backToLevel_5 : decode cX8_backToLevel 5 = .ok (.if_icmp .ge 29, 3) := by decide +kernel
theorem dX8_backToLevel_8 : decode cX8_backToLevel 8 = .ok (.aload_n 0, 1) := by decide +kernel
theorem dX8_backToLevel_9 : decode cX8_backToLevel 9 = .ok (.getfield 9, 3) := by decide +kernel
theorem dX8_backToLevel_12 : decode cX8_backToLevel 12 = .ok (.bipush 8, 2) := by decide +kernel
theorem dX8_backToLevel_14 : decode cX8_backToLevel 14 = .ok (.iload_n 2, 1) := by decide +kernel
theorem dX8_backToLevel_15 : decode cX8_backToLevel 15 = .ok (.iadd, 1) := by decide +kernel
theorem dX8_backToLevel_16 : decode cX8_backToLevel 16 = .ok (.aload_n 0, 1) := by decide +kernel
theorem dX8_backToLevel_17 : decode cX8_backToLevel 17 = .ok (.getfield 45, 3) := by decide +kernel
theorem dX8_backToLevel_20 : decode cX8_backToLevel 20 = .ok (.bipush 26, 2) := by decide +kernel
theorem dX8_backToLevel_22 : decode cX8_backToLevel 22 = .ok (.iload_n 1, 1) := by decide +kernel
theorem dX8_backToLevel_23 : decode cX8_backToLevel 23 = .ok (.imul, 1) := by decide +kernel
theorem dX8_backToLevel_24 : decode cX8_backToLevel 24 = .ok (.iload_n 2, 1) := by decide +kernel
theorem dX8_backToLevel_25 : decode cX8_backToLevel 25 = .ok (.iadd, 1) := by decide +kernel
theorem dX8_backToLevel_26 : decode cX8_backToLevel 26 = .ok (.iaload, 1) := by decide +kernel
theorem dX8_backToLevel_27 : decode cX8_backToLevel 27 = .ok (.iastore, 1) := by decide +kernel
theorem dX8_backToLevel_28 : decode cX8_backToLevel 28 = .ok (.iinc 2 1, 3) := by decide +kernel
theorem dX8_backToLevel_31 : decode cX8_backToLevel 31 = .ok (.goto (-29), 3) := by decide +kernel
theorem dX8_backToLevel_34 : decode cX8_backToLevel 34 = .ok (.return_, 1) := by decide +kernel
theorem dX8_brings_0 : decode cX8_brings 0 = .ok (.iload 4, 2) := by decide +kernel
theorem dX8_brings_2 : decode cX8_brings 2 = .ok (.ifCond .ne 22, 3) := by decide +kernel
theorem dX8_brings_5 : decode cX8_brings 5 = .ok (.aload_n 0, 1) := by decide +kernel
theorem dX8_brings_6 : decode cX8_brings 6 = .ok (.getfield 9, 3) := by decide +kernel
theorem dX8_brings_9 : decode cX8_brings 9 = .ok (.bipush 16, 2) := by decide +kernel
theorem dX8_brings_11 : decode cX8_brings 11 = .ok (.iload_n 1, 1) := by decide +kernel
theorem dX8_brings_12 : decode cX8_brings 12 = .ok (.iadd, 1) := by decide +kernel
theorem dX8_brings_13 : decode cX8_brings 13 = .ok (.iaload, 1) := by decide +kernel
theorem dX8_brings_14 : decode cX8_brings 14 = .ok (.iload_n 2, 1) := by decide +kernel
theorem dX8_brings_15 : decode cX8_brings 15 = .ok (.if_icmp .gt 7, 3) := by decide +kernel
theorem dX8_brings_18 : decode cX8_brings 18 = .ok (.iconst 1, 1) := by decide +kernel
theorem dX8_brings_19 : decode cX8_brings 19 = .ok (.goto 4, 3) := by decide +kernel
theorem dX8_brings_22 : decode cX8_brings 22 = .ok (.iconst 0, 1) := by decide +kernel
theorem dX8_brings_23 : decode cX8_brings 23 = .ok (.ireturn, 1) := by decide +kernel
theorem dX8_brings_24 : decode cX8_brings 24 = .ok (.aload_n 0, 1) := by decide +kernel
theorem dX8_brings_25 : decode cX8_brings 25 = .ok (.iload_n 3, 1) := by decide +kernel
theorem dX8_brings_26 : decode cX8_brings 26 = .ok (.invokevirtual 405, 3) := by decide +kernel
theorem dX8_brings_29 : decode cX8_brings 29 = .ok (.iconst 0, 1) := by decide +kernel
theorem dX8_brings_30 : decode cX8_brings 30 = .ok (.istore 5, 2) := by decide +kernel
theorem dX8_brings_32 : decode cX8_brings 32 = .ok (.iload 5, 2) := by decide +kernel
theorem dX8_brings_34 : decode cX8_brings 34 = .ok (.aload_n 0, 1) := by decide +kernel
theorem dX8_brings_35 : decode cX8_brings 35 = .ok (.invokevirtual 242, 3) := by decide +kernel
theorem dX8_brings_38 : decode cX8_brings 38 = .ok (.if_icmp .ge 67, 3) := by decide +kernel
theorem dX8_brings_41 : decode cX8_brings 41 = .ok (.iload 5, 2) := by decide +kernel
theorem dX8_brings_43 : decode cX8_brings 43 = .ok (.iload_n 1, 1) := by decide +kernel
theorem dX8_brings_44 : decode cX8_brings 44 = .ok (.if_icmp .eq 55, 3) := by decide +kernel
theorem dX8_brings_47 : decode cX8_brings 47 = .ok (.aload_n 0, 1) := by decide +kernel
theorem dX8_brings_48 : decode cX8_brings 48 = .ok (.iload 5, 2) := by decide +kernel
theorem dX8_brings_50 : decode cX8_brings 50 = .ok (.i2l, 1) := by decide +kernel
theorem dX8_brings_51 : decode cX8_brings 51 = .ok (.invokevirtual 324, 3) := by decide +kernel
theorem dX8_brings_54 : decode cX8_brings 54 = .ok (.ifCond .eq 6, 3) := by decide +kernel
theorem dX8_brings_57 : decode cX8_brings 57 = .ok (.goto 42, 3) := by decide +kernel
theorem dX8_brings_60 : decode cX8_brings 60 = .ok (.aload_n 0, 1) := by decide +kernel
theorem dX8_brings_61 : decode cX8_brings 61 = .ok (.getfield 42, 3) := by decide +kernel
theorem dX8_brings_64 : decode cX8_brings 64 = .ok (.iload_n 3, 1) := by decide +kernel
theorem dX8_brings_65 : decode cX8_brings 65 = .ok (.iload 5, 2) := by decide +kernel
theorem dX8_brings_67 : decode cX8_brings 67 = .ok (.iastore, 1) := by decide +kernel
theorem dX8_brings_68 : decode cX8_brings 68 = .ok (.aload_n 0, 1) := by decide +kernel
theorem dX8_brings_69 : decode cX8_brings 69 = .ok (.iload 5, 2) := by decide +kernel
theorem dX8_brings_71 : decode cX8_brings 71 = .ok (.iconst (-1), 1) := by decide +kernel
theorem dX8_brings_72 : decode cX8_brings 72 = .ok (.invokevirtual 302, 3) := by decide +kernel
theorem dX8_brings_75 : decode cX8_brings 75 = .ok (.pop, 1) := by decide +kernel
theorem dX8_brings_76 : decode cX8_brings 76 = .ok (.aload_n 0, 1) := by decide +kernel
theorem dX8_brings_77 : decode cX8_brings 77 = .ok (.iload_n 1, 1) := by decide +kernel
theorem dX8_brings_78 : decode cX8_brings 78 = .ok (.iload_n 2, 1) := by decide +kernel
theorem dX8_brings_79 : decode cX8_brings 79 = .ok (.iload_n 3, 1) := by decide +kernel
theorem dX8_brings_80 : decode cX8_brings 80 = .ok (.iconst 1, 1) := by decide +kernel
theorem dX8_brings_81 : decode cX8_brings 81 = .ok (.iadd, 1) := by decide +kernel
theorem dX8_brings_82 : decode cX8_brings 82 = .ok (.iload 4, 2) := by decide +kernel
theorem dX8_brings_84 : decode cX8_brings 84 = .ok (.iconst 1, 1) := by decide +kernel
theorem dX8_brings_85 : decode cX8_brings 85 = .ok (.isub, 1) := by decide +kernel
theorem dX8_brings_86 : decode cX8_brings 86 = .ok (.invokevirtual 408, 3) := by decide +kernel
theorem dX8_brings_89 : decode cX8_brings 89 = .ok (.ifCond .eq 5, 3) := by decide +kernel
theorem dX8_brings_92 : decode cX8_brings 92 = .ok (.iconst 1, 1) := by decide +kernel
theorem dX8_brings_93 : decode cX8_brings 93 = .ok (.ireturn, 1) := by decide +kernel
theorem dX8_brings_94 : decode cX8_brings 94 = .ok (.aload_n 0, 1) := by decide +kernel
theorem dX8_brings_95 : decode cX8_brings 95 = .ok (.iload_n 3, 1) := by decide +kernel
theorem dX8_brings_96 : decode cX8_brings 96 = .ok (.invokevirtual 412, 3) := by decide +kernel
theorem dX8_brings_99 : decode cX8_brings 99 = .ok (.iinc 5 1, 3) := by decide +kernel
theorem dX8_brings_102 : decode cX8_brings 102 = .ok (.goto (-70), 3) := by decide +kernel
theorem dX8_brings_105 : decode cX8_brings 105 = .ok (.iconst 0, 1) := by decide +kernel
theorem dX8_brings_106 : decode cX8_brings 106 = .ok (.ireturn, 1) := by decide +kernel
theorem dX8_bring_0 : decode cX8_bring 0 = .ok (.aload_n 0, 1) := by decide +kernel
theorem dX8_bring_1 : decode cX8_bring 1 = .ok (.aload_n 0, 1) := by decide +kernel
theorem dX8_bring_2 : decode cX8_bring 2 = .ok (.iload_n 1, 1) := by decide +kernel
theorem dX8_bring_3 : decode cX8_bring 3 = .ok (.i2l, 1) := by decide +kernel
theorem dX8_bring_4 : decode cX8_bring 4 = .ok (.invokevirtual 310, 3) := by decide +kernel
theorem dX8_bring_7 : decode cX8_bring 7 = .ok (.ifCond .ne 7, 3) := by decide +kernel
theorem dX8_bring_10 : decode cX8_bring 10 = .ok (.iconst 1, 1) := by decide +kernel
theorem dX8_bring_11 : decode cX8_bring 11 = .ok (.goto 44, 3) := by decide +kernel
theorem dX8_bring_14 : decode cX8_bring 14 = .ok (.iload_n 2, 1) := by decide +kernel
theorem dX8_bring_15 : decode cX8_bring 15 = .ok (.i2l, 1) := by decide +kernel
theorem dX8_bring_16 : decode cX8_bring 16 = .ok (.lconst 0, 1) := by decide +kernel
theorem dX8_bring_17 : decode cX8_bring 17 = .ok (.aload_n 0, 1) := by decide +kernel
theorem dX8_bring_18 : decode cX8_bring 18 = .ok (.getfield 9, 3) := by decide +kernel
theorem dX8_bring_21 : decode cX8_bring 21 = .ok (.iconst 2, 1) := by decide +kernel
theorem dX8_bring_22 : decode cX8_bring 22 = .ok (.iaload, 1) := by decide +kernel
theorem dX8_bring_23 : decode cX8_bring 23 = .ok (.iconst 1, 1) := by decide +kernel
theorem dX8_bring_24 : decode cX8_bring 24 = .ok (.isub, 1) := by decide +kernel
theorem dX8_bring_25 : decode cX8_bring 25 = .ok (.i2l, 1) := by decide +kernel
theorem dX8_bring_26 : decode cX8_bring 26 = .ok (.invokestatic 125, 3) := by decide +kernel
theorem dX8_bring_29 : decode cX8_bring 29 = .ok (.ifCond .eq 25, 3) := by decide +kernel
theorem dX8_bring_32 : decode cX8_bring 32 = .ok (.iload_n 3, 1) := by decide +kernel
theorem dX8_bring_33 : decode cX8_bring 33 = .ok (.ifCond .eq 17, 3) := by decide +kernel
theorem dX8_bring_36 : decode cX8_bring 36 = .ok (.iload_n 3, 1) := by decide +kernel
theorem dX8_bring_37 : decode cX8_bring 37 = .ok (.i2l, 1) := by decide +kernel
theorem dX8_bring_38 : decode cX8_bring 38 = .ok (.ldc2_w 347, 3) := by decide +kernel
theorem dX8_bring_41 : decode cX8_bring 41 = .ok (.ldc2_w 415, 3) := by decide +kernel
theorem dX8_bring_44 : decode cX8_bring 44 = .ok (.invokestatic 125, 3) := by decide +kernel
theorem dX8_bring_47 : decode cX8_bring 47 = .ok (.ifCond .eq 7, 3) := by decide +kernel
theorem dX8_bring_50 : decode cX8_bring 50 = .ok (.iconst 0, 1) := by decide +kernel
theorem dX8_bring_51 : decode cX8_bring 51 = .ok (.goto 4, 3) := by decide +kernel
theorem dX8_bring_54 : decode cX8_bring 54 = .ok (.iconst 2, 1) := by decide +kernel
theorem dX8_bring_55 : decode cX8_bring 55 = .ok (.putfield 64, 3) := by decide +kernel
theorem dX8_bring_58 : decode cX8_bring 58 = .ok (.aload_n 0, 1) := by decide +kernel
theorem dX8_bring_59 : decode cX8_bring 59 = .ok (.getfield 64, 3) := by decide +kernel
theorem dX8_bring_62 : decode cX8_bring 62 = .ok (.ifCond .le 5, 3) := by decide +kernel
theorem dX8_bring_65 : decode cX8_bring 65 = .ok (.iconst 0, 1) := by decide +kernel
theorem dX8_bring_66 : decode cX8_bring 66 = .ok (.ireturn, 1) := by decide +kernel
theorem dX8_bring_67 : decode cX8_bring 67 = .ok (.aload_n 0, 1) := by decide +kernel
theorem dX8_bring_68 : decode cX8_bring 68 = .ok (.iload_n 1, 1) := by decide +kernel
theorem dX8_bring_69 : decode cX8_bring 69 = .ok (.invokevirtual 296, 3) := by decide +kernel
theorem dX8_bring_72 : decode cX8_bring 72 = .ok (.ifCond .eq 5, 3) := by decide +kernel
theorem dX8_bring_75 : decode cX8_bring 75 = .ok (.iconst (-1), 1) := by decide +kernel
theorem dX8_bring_76 : decode cX8_bring 76 = .ok (.ireturn, 1) := by decide +kernel
theorem dX8_bring_77 : decode cX8_bring 77 = .ok (.aload_n 0, 1) := by decide +kernel
theorem dX8_bring_78 : decode cX8_bring 78 = .ok (.invokevirtual 369, 3) := by decide +kernel
theorem dX8_bring_81 : decode cX8_bring 81 = .ok (.iconst 0, 1) := by decide +kernel
theorem dX8_bring_82 : decode cX8_bring 82 = .ok (.istore 4, 2) := by decide +kernel
theorem dX8_bring_84 : decode cX8_bring 84 = .ok (.iconst 0, 1) := by decide +kernel
theorem dX8_bring_85 : decode cX8_bring 85 = .ok (.istore 5, 2) := by decide +kernel
theorem dX8_bring_87 : decode cX8_bring 87 = .ok (.iload 4, 2) := by decide +kernel
theorem dX8_bring_89 : decode cX8_bring 89 = .ok (.bipush 8, 2) := by decide +kernel
theorem dX8_bring_91 : decode cX8_bring 91 = .ok (.if_icmp .ge 29, 3) := by decide +kernel
theorem dX8_bring_94 : decode cX8_bring 94 = .ok (.iload 5, 2) := by decide +kernel
theorem dX8_bring_96 : decode cX8_bring 96 = .ok (.ifCond .ne 24, 3) := by decide +kernel
theorem dX8_bring_99 : decode cX8_bring 99 = .ok (.aload_n 0, 1) := by decide +kernel
theorem dX8_bring_100 : decode cX8_bring 100 = .ok (.iload_n 1, 1) := by decide +kernel
theorem dX8_bring_101 : decode cX8_bring 101 = .ok (.iload_n 2, 1) := by decide +kernel
theorem dX8_bring_102 : decode cX8_bring 102 = .ok (.iconst 0, 1) := by decide +kernel
theorem dX8_bring_103 : decode cX8_bring 103 = .ok (.iload 4, 2) := by decide +kernel
theorem dX8_bring_105 : decode cX8_bring 105 = .ok (.invokevirtual 408, 3) := by decide +kernel
theorem dX8_bring_108 : decode cX8_bring 108 = .ok (.istore 5, 2) := by decide +kernel
theorem dX8_bring_110 : decode cX8_bring 110 = .ok (.aload_n 0, 1) := by decide +kernel
theorem dX8_bring_111 : decode cX8_bring 111 = .ok (.invokevirtual 381, 3) := by decide +kernel
theorem dX8_bring_114 : decode cX8_bring 114 = .ok (.iinc 4 1, 3) := by decide +kernel
theorem dX8_bring_117 : decode cX8_bring 117 = .ok (.goto (-30), 3) := by decide +kernel
theorem dX8_bring_120 : decode cX8_bring 120 = .ok (.iload 5, 2) := by decide +kernel
theorem dX8_bring_122 : decode cX8_bring 122 = .ok (.ifCond .ne 5, 3) := by decide +kernel
theorem dX8_bring_125 : decode cX8_bring 125 = .ok (.iconst (-1), 1) := by decide +kernel
theorem dX8_bring_126 : decode cX8_bring 126 = .ok (.ireturn, 1) := by decide +kernel
theorem dX8_bring_127 : decode cX8_bring 127 = .ok (.iload_n 3, 1) := by decide +kernel
theorem dX8_bring_128 : decode cX8_bring 128 = .ok (.ifCond .ne 10, 3) := by decide +kernel
theorem dX8_bring_131 : decode cX8_bring 131 = .ok (.iload 4, 2) := by decide +kernel
theorem dX8_bring_133 : decode cX8_bring 133 = .ok (.iconst 1, 1) := by decide +kernel
theorem dX8_bring_134 : decode cX8_bring 134 = .ok (.isub, 1) := by decide +kernel
theorem dX8_bring_135 : decode cX8_bring 135 = .ok (.goto 27, 3) := by decide +kernel
theorem dX8_bring_138 : decode cX8_bring 138 = .ok (.iload_n 3, 1) := by decide +kernel
theorem dX8_bring_139 : decode cX8_bring 139 = .ok (.bipush 10, 2) := by decide +kernel
theorem dX8_bring_141 : decode cX8_bring 141 = .ok (.isub, 1) := by decide +kernel
theorem dX8_bring_142 : decode cX8_bring 142 = .ok (.iload 4, 2) := by decide +kernel
theorem dX8_bring_144 : decode cX8_bring 144 = .ok (.iconst 1, 1) := by decide +kernel
theorem dX8_bring_145 : decode cX8_bring 145 = .ok (.isub, 1) := by decide +kernel
theorem dX8_bring_146 : decode cX8_bring 146 = .ok (.if_icmp .ge 15, 3) := by decide +kernel
theorem dX8_bring_149 : decode cX8_bring 149 = .ok (.aload_n 0, 1) := by decide +kernel
theorem dX8_bring_150 : decode cX8_bring 150 = .ok (.getfield 42, 3) := by decide +kernel
theorem dX8_bring_153 : decode cX8_bring 153 = .ok (.iload_n 3, 1) := by decide +kernel
theorem dX8_bring_154 : decode cX8_bring 154 = .ok (.bipush 10, 2) := by decide +kernel
theorem dX8_bring_156 : decode cX8_bring 156 = .ok (.isub, 1) := by decide +kernel
theorem dX8_bring_157 : decode cX8_bring 157 = .ok (.iaload, 1) := by decide +kernel
theorem dX8_bring_158 : decode cX8_bring 158 = .ok (.goto 4, 3) := by decide +kernel
theorem dX8_bring_161 : decode cX8_bring 161 = .ok (.iconst (-1), 1) := by decide +kernel
theorem dX8_bring_162 : decode cX8_bring 162 = .ok (.ireturn, 1) := by decide +kernel
theorem dX8_faints_0 : decode cX8_faints 0 = .ok (.aload_n 0, 1) := by decide +kernel
theorem dX8_faints_1 : decode cX8_faints 1 = .ok (.aload_n 0, 1) := by decide +kernel
theorem dX8_faints_2 : decode cX8_faints 2 = .ok (.iload_n 1, 1) := by decide +kernel
theorem dX8_faints_3 : decode cX8_faints 3 = .ok (.i2l, 1) := by decide +kernel
theorem dX8_faints_4 : decode cX8_faints 4 = .ok (.invokevirtual 310, 3) := by decide +kernel
theorem dX8_faints_7 : decode cX8_faints 7 = .ok (.ifCond .ne 7, 3) := by decide +kernel
theorem dX8_faints_10 : decode cX8_faints 10 = .ok (.iconst 1, 1) := by decide +kernel
theorem dX8_faints_11 : decode cX8_faints 11 = .ok (.goto 30, 3) := by decide +kernel
theorem dX8_faints_14 : decode cX8_faints 14 = .ok (.iload_n 2, 1) := by decide +kernel
theorem dX8_faints_15 : decode cX8_faints 15 = .ok (.i2l, 1) := by decide +kernel
theorem dX8_faints_16 : decode cX8_faints 16 = .ok (.lconst 0, 1) := by decide +kernel
theorem dX8_faints_17 : decode cX8_faints 17 = .ok (.ldc2_w 417, 3) := by decide +kernel
theorem dX8_faints_20 : decode cX8_faints 20 = .ok (.invokestatic 125, 3) := by decide +kernel
theorem dX8_faints_23 : decode cX8_faints 23 = .ok (.ifCond .eq 17, 3) := by decide +kernel
theorem dX8_faints_26 : decode cX8_faints 26 = .ok (.iload_n 3, 1) := by decide +kernel
theorem dX8_faints_27 : decode cX8_faints 27 = .ok (.i2l, 1) := by decide +kernel
theorem dX8_faints_28 : decode cX8_faints 28 = .ok (.lconst 0, 1) := by decide +kernel
theorem dX8_faints_29 : decode cX8_faints 29 = .ok (.lconst 1, 1) := by decide +kernel
theorem dX8_faints_30 : decode cX8_faints 30 = .ok (.invokestatic 125, 3) := by decide +kernel
theorem dX8_faints_33 : decode cX8_faints 33 = .ok (.ifCond .eq 7, 3) := by decide +kernel
theorem dX8_faints_36 : decode cX8_faints 36 = .ok (.iconst 0, 1) := by decide +kernel
theorem dX8_faints_37 : decode cX8_faints 37 = .ok (.goto 4, 3) := by decide +kernel
theorem dX8_faints_40 : decode cX8_faints 40 = .ok (.iconst 2, 1) := by decide +kernel
theorem dX8_faints_41 : decode cX8_faints 41 = .ok (.putfield 64, 3) := by decide +kernel
theorem dX8_faints_44 : decode cX8_faints 44 = .ok (.aload_n 0, 1) := by decide +kernel
theorem dX8_faints_45 : decode cX8_faints 45 = .ok (.getfield 64, 3) := by decide +kernel
theorem dX8_faints_48 : decode cX8_faints 48 = .ok (.ifCond .le 5, 3) := by decide +kernel
theorem dX8_faints_51 : decode cX8_faints 51 = .ok (.iconst 0, 1) := by decide +kernel
theorem dX8_faints_52 : decode cX8_faints 52 = .ok (.ireturn, 1) := by decide +kernel
theorem dX8_faints_53 : decode cX8_faints 53 = .ok (.iconst 0, 1) := by decide +kernel
theorem dX8_faints_54 : decode cX8_faints 54 = .ok (.istore 4, 2) := by decide +kernel
theorem dX8_faints_56 : decode cX8_faints 56 = .ok (.iconst 0, 1) := by decide +kernel
theorem dX8_faints_57 : decode cX8_faints 57 = .ok (.istore 5, 2) := by decide +kernel
theorem dX8_faints_59 : decode cX8_faints 59 = .ok (.iload 5, 2) := by decide +kernel
theorem dX8_faints_61 : decode cX8_faints 61 = .ok (.aload_n 0, 1) := by decide +kernel
theorem dX8_faints_62 : decode cX8_faints 62 = .ok (.invokevirtual 242, 3) := by decide +kernel
theorem dX8_faints_65 : decode cX8_faints 65 = .ok (.if_icmp .ge 38, 3) := by decide +kernel
theorem dX8_faints_68 : decode cX8_faints 68 = .ok (.iload 4, 2) := by decide +kernel
theorem dX8_faints_70 : decode cX8_faints 70 = .ok (.iload 5, 2) := by decide +kernel
theorem dX8_faints_72 : decode cX8_faints 72 = .ok (.iload_n 1, 1) := by decide +kernel
theorem dX8_faints_73 : decode cX8_faints 73 = .ok (.if_icmp .eq 20, 3) := by decide +kernel
theorem dX8_faints_76 : decode cX8_faints 76 = .ok (.aload_n 0, 1) := by decide +kernel
theorem dX8_faints_77 : decode cX8_faints 77 = .ok (.iload 5, 2) := by decide +kernel
theorem dX8_faints_79 : decode cX8_faints 79 = .ok (.i2l, 1) := by decide +kernel
theorem dX8_faints_80 : decode cX8_faints 80 = .ok (.invokevirtual 324, 3) := by decide +kernel
theorem dX8_faints_83 : decode cX8_faints 83 = .ok (.ifCond .ne 10, 3) := by decide +kernel
theorem dX8_faints_86 : decode cX8_faints 86 = .ok (.iconst 1, 1) := by decide +kernel
theorem dX8_faints_87 : decode cX8_faints 87 = .ok (.iload 5, 2) := by decide +kernel
theorem dX8_faints_89 : decode cX8_faints 89 = .ok (.ishl, 1) := by decide +kernel
theorem dX8_faints_90 : decode cX8_faints 90 = .ok (.goto 4, 3) := by decide +kernel
theorem dX8_faints_93 : decode cX8_faints 93 = .ok (.iconst 0, 1) := by decide +kernel
theorem dX8_faints_94 : decode cX8_faints 94 = .ok (.ior, 1) := by decide +kernel
theorem dX8_faints_95 : decode cX8_faints 95 = .ok (.istore 4, 2) := by decide +kernel
theorem dX8_faints_97 : decode cX8_faints 97 = .ok (.iinc 5 1, 3) := by decide +kernel
theorem dX8_faints_100 : decode cX8_faints 100 = .ok (.goto (-41), 3) := by decide +kernel
theorem dX8_faints_103 : decode cX8_faints 103 = .ok (.iconst (-1), 1) := by decide +kernel
theorem dX8_faints_104 : decode cX8_faints 104 = .ok (.istore 5, 2) := by decide +kernel
theorem dX8_faints_106 : decode cX8_faints 106 = .ok (.aload_n 0, 1) := by decide +kernel
theorem dX8_faints_107 : decode cX8_faints 107 = .ok (.invokevirtual 369, 3) := by decide +kernel
theorem dX8_faints_110 : decode cX8_faints 110 = .ok (.iconst 0, 1) := by decide +kernel
theorem dX8_faints_111 : decode cX8_faints 111 = .ok (.istore 6, 2) := by decide +kernel
theorem dX8_faints_113 : decode cX8_faints 113 = .ok (.iload 6, 2) := by decide +kernel
theorem dX8_faints_115 : decode cX8_faints 115 = .ok (.iload 4, 2) := by decide +kernel
theorem dX8_faints_117 : decode cX8_faints 117 = .ok (.if_icmp .gt 102, 3) := by decide +kernel
theorem dX8_faints_120 : decode cX8_faints 120 = .ok (.iload 6, 2) := by decide +kernel
theorem dX8_faints_122 : decode cX8_faints 122 = .ok (.iload 4, 2) := by decide +kernel
theorem dX8_faints_124 : decode cX8_faints 124 = .ok (.iconst (-1), 1) := by decide +kernel
theorem dX8_faints_125 : decode cX8_faints 125 = .ok (.ixor, 1) := by decide +kernel
theorem dX8_faints_126 : decode cX8_faints 126 = .ok (.iand, 1) := by decide +kernel
theorem dX8_faints_127 : decode cX8_faints 127 = .ok (.ifCond .ne 86, 3) := by decide +kernel
theorem dX8_faints_130 : decode cX8_faints 130 = .ok (.iload 5, 2) := by decide +kernel
theorem dX8_faints_132 : decode cX8_faints 132 = .ok (.iconst (-1), 1) := by decide +kernel
theorem dX8_faints_133 : decode cX8_faints 133 = .ok (.if_icmp .eq 19, 3) := by decide +kernel
theorem dX8_faints_136 : decode cX8_faints 136 = .ok (.iload 6, 2) := by decide +kernel
theorem dX8_faints_138 : decode cX8_faints 138 = .ok (.invokestatic 342, 3) := by decide +kernel
theorem dX8_faints_141 : decode cX8_faints 141 = .ok (.iload 5, 2) := by decide +kernel
theorem dX8_faints_143 : decode cX8_faints 143 = .ok (.invokestatic 342, 3) := by decide +kernel
theorem dX8_faints_146 : decode cX8_faints 146 = .ok (.if_icmp .lt 6, 3) := by decide +kernel
theorem dX8_faints_149 : decode cX8_faints 149 = .ok (.goto 64, 3) := by decide +kernel
theorem dX8_faints_152 : decode cX8_faints 152 = .ok (.iconst 0, 1) := by decide +kernel
theorem dX8_faints_153 : decode cX8_faints 153 = .ok (.istore 7, 2) := by decide +kernel
theorem dX8_faints_155 : decode cX8_faints 155 = .ok (.iload 7, 2) := by decide +kernel
theorem dX8_faints_157 : decode cX8_faints 157 = .ok (.aload_n 0, 1) := by decide +kernel
theorem dX8_faints_158 : decode cX8_faints 158 = .ok (.invokevirtual 242, 3) := by decide +kernel
theorem dX8_faints_161 : decode cX8_faints 161 = .ok (.if_icmp .ge 27, 3) := by decide +kernel
theorem dX8_faints_164 : decode cX8_faints 164 = .ok (.iload 6, 2) := by decide +kernel
theorem dX8_faints_166 : decode cX8_faints 166 = .ok (.iload 7, 2) := by decide +kernel
theorem dX8_faints_168 : decode cX8_faints 168 = .ok (.invokestatic 249, 3) := by decide +kernel
theorem dX8_faints_171 : decode cX8_faints 171 = .ok (.ifCond .eq 11, 3) := by decide +kernel
theorem dX8_faints_174 : decode cX8_faints 174 = .ok (.aload_n 0, 1) := by decide +kernel
theorem dX8_faints_175 : decode cX8_faints 175 = .ok (.iload 7, 2) := by decide +kernel
theorem dX8_faints_177 : decode cX8_faints 177 = .ok (.iconst (-1), 1) := by decide +kernel
theorem dX8_faints_178 : decode cX8_faints 178 = .ok (.invokevirtual 302, 3) := by decide +kernel
theorem dX8_faints_181 : decode cX8_faints 181 = .ok (.pop, 1) := by decide +kernel
theorem dX8_faints_182 : decode cX8_faints 182 = .ok (.iinc 7 1, 3) := by decide +kernel
theorem dX8_faints_185 : decode cX8_faints 185 = .ok (.goto (-30), 3) := by decide +kernel
theorem dX8_faints_188 : decode cX8_faints 188 = .ok (.aload_n 0, 1) := by decide +kernel
theorem dX8_faints_189 : decode cX8_faints 189 = .ok (.iload_n 2, 1) := by decide +kernel
theorem dX8_faints_190 : decode cX8_faints 190 = .ok (.invokevirtual 399, 3) := by decide +kernel
theorem dX8_faints_193 : decode cX8_faints 193 = .ok (.aload_n 0, 1) := by decide +kernel
theorem dX8_faints_194 : decode cX8_faints 194 = .ok (.getfield 9, 3) := by decide +kernel
theorem dX8_faints_197 : decode cX8_faints 197 = .ok (.bipush 16, 2) := by decide +kernel
theorem dX8_faints_199 : decode cX8_faints 199 = .ok (.iload_n 1, 1) := by decide +kernel
theorem dX8_faints_200 : decode cX8_faints 200 = .ok (.iadd, 1) := by decide +kernel
theorem dX8_faints_201 : decode cX8_faints 201 = .ok (.iaload, 1) := by decide +kernel
theorem dX8_faints_202 : decode cX8_faints 202 = .ok (.ifCond .ne 7, 3) := by decide +kernel
theorem dX8_faints_205 : decode cX8_faints 205 = .ok (.iload 6, 2) := by decide +kernel
theorem dX8_faints_207 : decode cX8_faints 207 = .ok (.istore 5, 2) := by decide +kernel
theorem dX8_faints_209 : decode cX8_faints 209 = .ok (.aload_n 0, 1) := by decide +kernel
theorem dX8_faints_210 : decode cX8_faints 210 = .ok (.invokevirtual 381, 3) := by decide +kernel
theorem dX8_faints_213 : decode cX8_faints 213 = .ok (.iinc 6 1, 3) := by decide +kernel
theorem dX8_faints_216 : decode cX8_faints 216 = .ok (.goto (-103), 3) := by decide +kernel
theorem dX8_faints_219 : decode cX8_faints 219 = .ok (.iload 5, 2) := by decide +kernel
theorem dX8_faints_221 : decode cX8_faints 221 = .ok (.iconst (-1), 1) := by decide +kernel
theorem dX8_faints_222 : decode cX8_faints 222 = .ok (.if_icmp .eq 8, 3) := by decide +kernel
theorem dX8_faints_225 : decode cX8_faints 225 = .ok (.iload_n 3, 1) := by decide +kernel
theorem dX8_faints_226 : decode cX8_faints 226 = .ok (.iconst 1, 1) := by decide +kernel
theorem dX8_faints_227 : decode cX8_faints 227 = .ok (.if_icmp .ne 8, 3) := by decide +kernel
theorem dX8_faints_230 : decode cX8_faints 230 = .ok (.iload 5, 2) := by decide +kernel
theorem dX8_faints_232 : decode cX8_faints 232 = .ok (.goto 8, 3) := by decide +kernel
theorem dX8_faints_235 : decode cX8_faints 235 = .ok (.iload 5, 2) := by decide +kernel
theorem dX8_faints_237 : decode cX8_faints 237 = .ok (.invokestatic 342, 3) := by decide +kernel
theorem dX8_faints_240 : decode cX8_faints 240 = .ok (.ireturn, 1) := by decide +kernel
theorem dX8_foremost_0 : decode cX8_foremost 0 = .ok (.iconst 0, 1) := by decide +kernel
theorem dX8_foremost_1 : decode cX8_foremost 1 = .ok (.istore_n 2, 1) := by decide +kernel
theorem dX8_foremost_2 : decode cX8_foremost 2 = .ok (.iload_n 2, 1) := by decide +kernel
theorem dX8_foremost_3 : decode cX8_foremost 3 = .ok (.aload_n 0, 1) := by decide +kernel
theorem dX8_foremost_4 : decode cX8_foremost 4 = .ok (.getfield 9, 3) := by decide +kernel
theorem dX8_foremost_7 : decode cX8_foremost 7 = .ok (.iconst 2, 1) := by decide +kernel
theorem dX8_foremost_8 : decode cX8_foremost 8 = .ok (.iaload, 1) := by decide +kernel
theorem dX8_foremost_9 : decode cX8_foremost 9 = .ok (.if_icmp .ge 31, 3) := by decide +kernel
theorem dX8_foremost_12 : decode cX8_foremost 12 = .ok (.aload_n 0, 1) := by decide +kernel
theorem dX8_foremost_13 : decode cX8_foremost 13 = .ok (.iload_n 1, 1) := by decide +kernel
theorem dX8_foremost_14 : decode cX8_foremost 14 = .ok (.iload_n 2, 1) := by decide +kernel
theorem dX8_foremost_15 : decode cX8_foremost 15 = .ok (.invokevirtual 280, 3) := by decide +kernel
theorem dX8_foremost_18 : decode cX8_foremost 18 = .ok (.istore_n 3, 1) := by decide +kernel
theorem dX8_foremost_19 : decode cX8_foremost 19 = .ok (.iload_n 3, 1) := by decide +kernel
theorem dX8_foremost_20 : decode cX8_foremost 20 = .ok (.iconst (-1), 1) := by decide +kernel
theorem dX8_foremost_21 : decode cX8_foremost 21 = .ok (.if_icmp .eq 13, 3) := by decide +kernel
theorem dX8_foremost_24 : decode cX8_foremost 24 = .ok (.aload_n 0, 1) := by decide +kernel
theorem dX8_foremost_25 : decode cX8_foremost 25 = .ok (.iload_n 3, 1) := by decide +kernel
theorem dX8_foremost_26 : decode cX8_foremost 26 = .ok (.invokevirtual 283, 3) := by decide +kernel
theorem dX8_foremost_29 : decode cX8_foremost 29 = .ok (.ifCond .ne 5, 3) := by decide +kernel
theorem dX8_foremost_32 : decode cX8_foremost 32 = .ok (.iload_n 3, 1) := by decide +kernel
theorem dX8_foremost_33 : decode cX8_foremost 33 = .ok (.ireturn, 1) := by decide +kernel
theorem dX8_foremost_34 : decode cX8_foremost 34 = .ok (.iinc 2 1, 3) := by decide +kernel
theorem dX8_foremost_37 : decode cX8_foremost 37 = .ok (.goto (-35), 3) := by decide +kernel
theorem dX8_foremost_40 : decode cX8_foremost 40 = .ok (.iconst (-1), 1) := by decide +kernel
theorem dX8_foremost_41 : decode cX8_foremost 41 = .ok (.ireturn, 1) := by decide +kernel
theorem dX8_headOf_0 : decode cX8_headOf 0 = .ok (.aload_n 0, 1) := by decide +kernel
theorem dX8_headOf_1 : decode cX8_headOf 1 = .ok (.iload_n 1, 1) := by decide +kernel
theorem dX8_headOf_2 : decode cX8_headOf 2 = .ok (.iconst 0, 1) := by decide +kernel
theorem dX8_headOf_3 : decode cX8_headOf 3 = .ok (.invokevirtual 280, 3) := by decide +kernel
theorem dX8_headOf_6 : decode cX8_headOf 6 = .ok (.istore_n 2, 1) := by decide +kernel
theorem dX8_headOf_7 : decode cX8_headOf 7 = .ok (.iload_n 2, 1) := by decide +kernel
theorem dX8_headOf_8 : decode cX8_headOf 8 = .ok (.iconst (-1), 1) := by decide +kernel
theorem dX8_headOf_9 : decode cX8_headOf 9 = .ok (.if_icmp .ne 7, 3) := by decide +kernel
theorem dX8_headOf_12 : decode cX8_headOf 12 = .ok (.iconst 0, 1) := by decide +kernel
theorem dX8_headOf_13 : decode cX8_headOf 13 = .ok (.goto 6, 3) := by decide +kernel
theorem dX8_headOf_16 : decode cX8_headOf 16 = .ok (.iconst 1, 1) := by decide +kernel
theorem dX8_headOf_17 : decode cX8_headOf 17 = .ok (.iload_n 2, 1) := by decide +kernel
theorem dX8_headOf_18 : decode cX8_headOf 18 = .ok (.ishl, 1) := by decide +kernel
theorem dX8_headOf_19 : decode cX8_headOf 19 = .ok (.ireturn, 1) := by decide +kernel
theorem dX8_round_0 : decode cX8_round 0 = .ok (.aload_n 0, 1) := by decide +kernel
theorem dX8_round_1 : decode cX8_round 1 = .ok (.iconst 0, 1) := by decide +kernel
theorem dX8_round_2 : decode cX8_round 2 = .ok (.putfield 64, 3) := by decide +kernel
theorem dX8_round_5 : decode cX8_round 5 = .ok (.aload_n 0, 1) := by decide +kernel
theorem dX8_round_6 : decode cX8_round 6 = .ok (.iload_n 1, 1) := by decide +kernel
theorem dX8_round_7 : decode cX8_round 7 = .ok (.i2l, 1) := by decide +kernel
theorem dX8_round_8 : decode cX8_round 8 = .ok (.invokevirtual 245, 3) := by decide +kernel
theorem dX8_round_11 : decode cX8_round 11 = .ok (.ifCond .ne 9, 3) := by decide +kernel
theorem dX8_round_14 : decode cX8_round 14 = .ok (.aload_n 0, 1) := by decide +kernel
theorem dX8_round_15 : decode cX8_round 15 = .ok (.iconst 1, 1) := by decide +kernel
theorem dX8_round_16 : decode cX8_round 16 = .ok (.invokevirtual 231, 3) := by decide +kernel
theorem dX8_round_19 : decode cX8_round 19 = .ok (.ireturn, 1) := by decide +kernel
theorem dX8_round_20 : decode cX8_round 20 = .ok (.iconst 0, 1) := by decide +kernel
theorem dX8_round_21 : decode cX8_round 21 = .ok (.istore_n 2, 1) := by decide +kernel
theorem dX8_round_22 : decode cX8_round 22 = .ok (.iconst 0, 1) := by decide +kernel
theorem dX8_round_23 : decode cX8_round 23 = .ok (.istore_n 3, 1) := by decide +kernel
theorem dX8_round_24 : decode cX8_round 24 = .ok (.iload_n 3, 1) := by decide +kernel
theorem dX8_round_25 : decode cX8_round 25 = .ok (.aload_n 0, 1) := by decide +kernel
theorem dX8_round_26 : decode cX8_round 26 = .ok (.getfield 9, 3) := by decide +kernel
theorem dX8_round_29 : decode cX8_round 29 = .ok (.iconst 2, 1) := by decide +kernel
theorem dX8_round_30 : decode cX8_round 30 = .ok (.iaload, 1) := by decide +kernel
theorem dX8_round_31 : decode cX8_round 31 = .ok (.if_icmp .ge 34, 3) := by decide +kernel
theorem dX8_round_34 : decode cX8_round 34 = .ok (.iload_n 2, 1) := by decide +kernel
theorem dX8_round_35 : decode cX8_round 35 = .ok (.aload_n 0, 1) := by decide +kernel
theorem dX8_round_36 : decode cX8_round 36 = .ok (.iload_n 1, 1) := by decide +kernel
theorem dX8_round_37 : decode cX8_round 37 = .ok (.iload_n 3, 1) := by decide +kernel
theorem dX8_round_38 : decode cX8_round 38 = .ok (.invokevirtual 280, 3) := by decide +kernel
theorem dX8_round_41 : decode cX8_round 41 = .ok (.iconst (-1), 1) := by decide +kernel
theorem dX8_round_42 : decode cX8_round 42 = .ok (.if_icmp .ne 7, 3) := by decide +kernel
theorem dX8_round_45 : decode cX8_round 45 = .ok (.iconst 0, 1) := by decide +kernel
theorem dX8_round_46 : decode cX8_round 46 = .ok (.goto 11, 3) := by decide +kernel
theorem dX8_round_49 : decode cX8_round 49 = .ok (.iconst 1, 1) := by decide +kernel
theorem dX8_round_50 : decode cX8_round 50 = .ok (.aload_n 0, 1) := by decide +kernel
theorem dX8_round_51 : decode cX8_round 51 = .ok (.iload_n 1, 1) := by decide +kernel
theorem dX8_round_52 : decode cX8_round 52 = .ok (.iload_n 3, 1) := by decide +kernel
theorem dX8_round_53 : decode cX8_round 53 = .ok (.invokevirtual 280, 3) := by decide +kernel
theorem dX8_round_56 : decode cX8_round 56 = .ok (.ishl, 1) := by decide +kernel
theorem dX8_round_57 : decode cX8_round 57 = .ok (.ior, 1) := by decide +kernel
theorem dX8_round_58 : decode cX8_round 58 = .ok (.istore_n 2, 1) := by decide +kernel
theorem dX8_round_59 : decode cX8_round 59 = .ok (.iinc 3 1, 3) := by decide +kernel
theorem dX8_round_62 : decode cX8_round 62 = .ok (.goto (-38), 3) := by decide +kernel
theorem dX8_round_65 : decode cX8_round 65 = .ok (.aload_n 0, 1) := by decide +kernel
theorem dX8_round_66 : decode cX8_round 66 = .ok (.invokevirtual 369, 3) := by decide +kernel
theorem dX8_round_69 : decode cX8_round 69 = .ok (.aload_n 0, 1) := by decide +kernel
theorem dX8_round_70 : decode cX8_round 70 = .ok (.iload_n 1, 1) := by decide +kernel
theorem dX8_round_71 : decode cX8_round 71 = .ok (.invokevirtual 419, 3) := by decide +kernel
theorem dX8_round_74 : decode cX8_round 74 = .ok (.istore_n 3, 1) := by decide +kernel
theorem dX8_round_75 : decode cX8_round 75 = .ok (.iconst 0, 1) := by decide +kernel
theorem dX8_round_76 : decode cX8_round 76 = .ok (.istore 4, 2) := by decide +kernel
theorem dX8_round_78 : decode cX8_round 78 = .ok (.iload 4, 2) := by decide +kernel
theorem dX8_round_80 : decode cX8_round 80 = .ok (.bipush 100, 2) := by decide +kernel
theorem dX8_round_82 : decode cX8_round 82 = .ok (.if_icmp .ge 58, 3) := by decide +kernel
theorem dX8_round_85 : decode cX8_round 85 = .ok (.iload_n 2, 1) := by decide +kernel
theorem dX8_round_86 : decode cX8_round 86 = .ok (.iload_n 3, 1) := by decide +kernel
theorem dX8_round_87 : decode cX8_round 87 = .ok (.iconst (-1), 1) := by decide +kernel
theorem dX8_round_88 : decode cX8_round 88 = .ok (.ixor, 1) := by decide +kernel
theorem dX8_round_89 : decode cX8_round 89 = .ok (.iand, 1) := by decide +kernel
theorem dX8_round_90 : decode cX8_round 90 = .ok (.ifCond .eq 50, 3) := by decide +kernel
theorem dX8_round_93 : decode cX8_round 93 = .ok (.aload_n 0, 1) := by decide +kernel
theorem dX8_round_94 : decode cX8_round 94 = .ok (.iload_n 1, 1) := by decide +kernel
theorem dX8_round_95 : decode cX8_round 95 = .ok (.invokevirtual 422, 3) := by decide +kernel
theorem dX8_round_98 : decode cX8_round 98 = .ok (.istore 5, 2) := by decide +kernel
theorem dX8_round_100 : decode cX8_round 100 = .ok (.iload 5, 2) := by decide +kernel
theorem dX8_round_102 : decode cX8_round 102 = .ok (.iconst (-1), 1) := by decide +kernel
theorem dX8_round_103 : decode cX8_round 103 = .ok (.if_icmp .eq 19, 3) := by decide +kernel
theorem dX8_round_106 : decode cX8_round 106 = .ok (.aload_n 0, 1) := by decide +kernel
theorem dX8_round_107 : decode cX8_round 107 = .ok (.iload 5, 2) := by decide +kernel
theorem dX8_round_109 : decode cX8_round 109 = .ok (.iconst (-1), 1) := by decide +kernel
theorem dX8_round_110 : decode cX8_round 110 = .ok (.invokevirtual 302, 3) := by decide +kernel
theorem dX8_round_113 : decode cX8_round 113 = .ok (.pop, 1) := by decide +kernel
theorem dX8_round_114 : decode cX8_round 114 = .ok (.aload_n 0, 1) := by decide +kernel
theorem dX8_round_115 : decode cX8_round 115 = .ok (.iload 5, 2) := by decide +kernel
theorem dX8_round_117 : decode cX8_round 117 = .ok (.iload_n 1, 1) := by decide +kernel
theorem dX8_round_118 : decode cX8_round 118 = .ok (.invokevirtual 299, 3) := by decide +kernel
theorem dX8_round_121 : decode cX8_round 121 = .ok (.pop, 1) := by decide +kernel
theorem dX8_round_122 : decode cX8_round 122 = .ok (.aload_n 0, 1) := by decide +kernel
theorem dX8_round_123 : decode cX8_round 123 = .ok (.invokevirtual 345, 3) := by decide +kernel
theorem dX8_round_126 : decode cX8_round 126 = .ok (.iload_n 3, 1) := by decide +kernel
theorem dX8_round_127 : decode cX8_round 127 = .ok (.aload_n 0, 1) := by decide +kernel
theorem dX8_round_128 : decode cX8_round 128 = .ok (.iload_n 1, 1) := by decide +kernel
theorem dX8_round_129 : decode cX8_round 129 = .ok (.invokevirtual 419, 3) := by decide +kernel
theorem dX8_round_132 : decode cX8_round 132 = .ok (.ior, 1) := by decide +kernel
theorem dX8_round_133 : decode cX8_round 133 = .ok (.istore_n 3, 1) := by decide +kernel
theorem dX8_round_134 : decode cX8_round 134 = .ok (.iinc 4 1, 3) := by decide +kernel
theorem dX8_round_137 : decode cX8_round 137 = .ok (.goto (-59), 3) := by decide +kernel
theorem dX8_round_140 : decode cX8_round 140 = .ok (.aload_n 0, 1) := by decide +kernel
theorem dX8_round_141 : decode cX8_round 141 = .ok (.invokevirtual 381, 3) := by decide +kernel
theorem dX8_round_144 : decode cX8_round 144 = .ok (.iload 4, 2) := by decide +kernel
theorem dX8_round_146 : decode cX8_round 146 = .ok (.bipush 99, 2) := by decide +kernel
theorem dX8_round_148 : decode cX8_round 148 = .ok (.if_icmp .le 7, 3) := by decide +kernel
theorem dX8_round_151 : decode cX8_round 151 = .ok (.iconst (-1), 1) := by decide +kernel
theorem dX8_round_152 : decode cX8_round 152 = .ok (.goto 5, 3) := by decide +kernel
theorem dX8_round_155 : decode cX8_round 155 = .ok (.iload 4, 2) := by decide +kernel
theorem dX8_round_157 : decode cX8_round 157 = .ok (.ireturn, 1) := by decide +kernel
theorem dX8_stir_0 : decode cX8_stir 0 = .ok (.aload_n 0, 1) := by decide +kernel
theorem dX8_stir_1 : decode cX8_stir 1 = .ok (.iconst 0, 1) := by decide +kernel
theorem dX8_stir_2 : decode cX8_stir 2 = .ok (.putfield 64, 3) := by decide +kernel
theorem dX8_stir_5 : decode cX8_stir 5 = .ok (.iconst (-1), 1) := by decide +kernel
theorem dX8_stir_6 : decode cX8_stir 6 = .ok (.istore_n 1, 1) := by decide +kernel
theorem dX8_stir_7 : decode cX8_stir 7 = .ok (.iconst 0, 1) := by decide +kernel
theorem dX8_stir_8 : decode cX8_stir 8 = .ok (.istore_n 2, 1) := by decide +kernel
theorem dX8_stir_9 : decode cX8_stir 9 = .ok (.aload_n 0, 1) := by decide +kernel
theorem dX8_stir_10 : decode cX8_stir 10 = .ok (.invokevirtual 369, 3) := by decide +kernel
theorem dX8_stir_13 : decode cX8_stir 13 = .ok (.iconst 0, 1) := by decide +kernel
theorem dX8_stir_14 : decode cX8_stir 14 = .ok (.istore_n 3, 1) := by decide +kernel
theorem dX8_stir_15 : decode cX8_stir 15 = .ok (.iload_n 3, 1) := by decide +kernel
theorem dX8_stir_16 : decode cX8_stir 16 = .ok (.aload_n 0, 1) := by decide +kernel
theorem dX8_stir_17 : decode cX8_stir 17 = .ok (.invokevirtual 242, 3) := by decide +kernel
theorem dX8_stir_20 : decode cX8_stir 20 = .ok (.if_icmp .ge 47, 3) := by decide +kernel
theorem dX8_stir_23 : decode cX8_stir 23 = .ok (.aload_n 0, 1) := by decide +kernel
theorem dX8_stir_24 : decode cX8_stir 24 = .ok (.iload_n 3, 1) := by decide +kernel
theorem dX8_stir_25 : decode cX8_stir 25 = .ok (.i2l, 1) := by decide +kernel
theorem dX8_stir_26 : decode cX8_stir 26 = .ok (.invokevirtual 324, 3) := by decide +kernel
theorem dX8_stir_29 : decode cX8_stir 29 = .ok (.ifCond .eq 6, 3) := by decide +kernel
theorem dX8_stir_32 : decode cX8_stir 32 = .ok (.goto 29, 3) := by decide +kernel
theorem dX8_stir_35 : decode cX8_stir 35 = .ok (.aload_n 0, 1) := by decide +kernel
theorem dX8_stir_36 : decode cX8_stir 36 = .ok (.iload_n 3, 1) := by decide +kernel
theorem dX8_stir_37 : decode cX8_stir 37 = .ok (.iconst (-1), 1) := by decide +kernel
theorem dX8_stir_38 : decode cX8_stir 38 = .ok (.invokevirtual 302, 3) := by decide +kernel
theorem dX8_stir_41 : decode cX8_stir 41 = .ok (.istore 4, 2) := by decide +kernel
theorem dX8_stir_43 : decode cX8_stir 43 = .ok (.aload_n 0, 1) := by decide +kernel
theorem dX8_stir_44 : decode cX8_stir 44 = .ok (.invokevirtual 381, 3) := by decide +kernel
theorem dX8_stir_47 : decode cX8_stir 47 = .ok (.iload 4, 2) := by decide +kernel
theorem dX8_stir_49 : decode cX8_stir 49 = .ok (.iload_n 2, 1) := by decide +kernel
theorem dX8_stir_50 : decode cX8_stir 50 = .ok (.if_icmp .gt 6, 3) := by decide +kernel
theorem dX8_stir_53 : decode cX8_stir 53 = .ok (.goto 8, 3) := by decide +kernel
theorem dX8_stir_56 : decode cX8_stir 56 = .ok (.iload_n 3, 1) := by decide +kernel
theorem dX8_stir_57 : decode cX8_stir 57 = .ok (.istore_n 1, 1) := by decide +kernel
theorem dX8_stir_58 : decode cX8_stir 58 = .ok (.iload 4, 2) := by decide +kernel
theorem dX8_stir_60 : decode cX8_stir 60 = .ok (.istore_n 2, 1) := by decide +kernel
theorem dX8_stir_61 : decode cX8_stir 61 = .ok (.iinc 3 1, 3) := by decide +kernel
theorem dX8_stir_64 : decode cX8_stir 64 = .ok (.goto (-49), 3) := by decide +kernel
theorem dX8_stir_67 : decode cX8_stir 67 = .ok (.iload_n 1, 1) := by decide +kernel
theorem dX8_stir_68 : decode cX8_stir 68 = .ok (.ireturn, 1) := by decide +kernel
theorem dX8_areSide_0 : decode cX8_areSide 0 = .ok (.aload_n 0, 1) := by decide +kernel
theorem dX8_areSide_1 : decode cX8_areSide 1 = .ok (.iload_n 1, 1) := by decide +kernel
theorem dX8_areSide_2 : decode cX8_areSide 2 = .ok (.invokevirtual 296, 3) := by decide +kernel
theorem dX8_areSide_5 : decode cX8_areSide 5 = .ok (.ifCond .ne 64, 3) := by decide +kernel
theorem dX8_areSide_8 : decode cX8_areSide 8 = .ok (.aload_n 0, 1) := by decide +kernel
theorem dX8_areSide_9 : decode cX8_areSide 9 = .ok (.iload_n 2, 1) := by decide +kernel
theorem dX8_areSide_10 : decode cX8_areSide 10 = .ok (.invokevirtual 296, 3) := by decide +kernel
theorem dX8_areSide_13 : decode cX8_areSide 13 = .ok (.ifCond .ne 56, 3) := by decide +kernel
theorem dX8_areSide_16 : decode cX8_areSide 16 = .ok (.aload_n 0, 1) := by decide +kernel
theorem dX8_areSide_17 : decode cX8_areSide 17 = .ok (.getfield 9, 3) := by decide +kernel
theorem dX8_areSide_20 : decode cX8_areSide 20 = .ok (.bipush 8, 2) := by decide +kernel
theorem dX8_areSide_22 : decode cX8_areSide 22 = .ok (.iload_n 1, 1) := by decide +kernel
theorem dX8_areSide_23 : decode cX8_areSide 23 = .ok (.iadd, 1) := by decide +kernel
theorem dX8_areSide_24 : decode cX8_areSide 24 = .ok (.iaload, 1) := by decide +kernel
theorem dX8_areSide_25 : decode cX8_areSide 25 = .ok (.aload_n 0, 1) := by decide +kernel
theorem dX8_areSide_26 : decode cX8_areSide 26 = .ok (.getfield 9, 3) := by decide +kernel
theorem dX8_areSide_29 : decode cX8_areSide 29 = .ok (.bipush 8, 2) := by decide +kernel
theorem dX8_areSide_31 : decode cX8_areSide 31 = .ok (.iload_n 2, 1) := by decide +kernel
theorem dX8_areSide_32 : decode cX8_areSide 32 = .ok (.iadd, 1) := by decide +kernel
theorem dX8_areSide_33 : decode cX8_areSide 33 = .ok (.iaload, 1) := by decide +kernel
theorem dX8_areSide_34 : decode cX8_areSide 34 = .ok (.isub, 1) := by decide +kernel
theorem dX8_areSide_35 : decode cX8_areSide 35 = .ok (.invokestatic 425, 3) := by decide +kernel
theorem dX8_areSide_38 : decode cX8_areSide 38 = .ok (.aload_n 0, 1) := by decide +kernel
theorem dX8_areSide_39 : decode cX8_areSide 39 = .ok (.getfield 9, 3) := by decide +kernel
theorem dX8_areSide_42 : decode cX8_areSide 42 = .ok (.bipush 16, 2) := by decide +kernel
theorem dX8_areSide_44 : decode cX8_areSide 44 = .ok (.iload_n 1, 1) := by decide +kernel
theorem dX8_areSide_45 : decode cX8_areSide 45 = .ok (.iadd, 1) := by decide +kernel
theorem dX8_areSide_46 : decode cX8_areSide 46 = .ok (.iaload, 1) := by decide +kernel
theorem dX8_areSide_47 : decode cX8_areSide 47 = .ok (.aload_n 0, 1) := by decide +kernel
theorem dX8_areSide_48 : decode cX8_areSide 48 = .ok (.getfield 9, 3) := by decide +kernel
theorem dX8_areSide_51 : decode cX8_areSide 51 = .ok (.bipush 16, 2) := by decide +kernel
theorem dX8_areSide_53 : decode cX8_areSide 53 = .ok (.iload_n 2, 1) := by decide +kernel
theorem dX8_areSide_54 : decode cX8_areSide 54 = .ok (.iadd, 1) := by decide +kernel
theorem dX8_areSide_55 : decode cX8_areSide 55 = .ok (.iaload, 1) := by decide +kernel
theorem dX8_areSide_56 : decode cX8_areSide 56 = .ok (.isub, 1) := by decide +kernel
theorem dX8_areSide_57 : decode cX8_areSide 57 = .ok (.invokestatic 425, 3) := by decide +kernel
theorem dX8_areSide_60 : decode cX8_areSide 60 = .ok (.iadd, 1) := by decide +kernel
theorem dX8_areSide_61 : decode cX8_areSide 61 = .ok (.iconst 1, 1) := by decide +kernel
theorem dX8_areSide_62 : decode cX8_areSide 62 = .ok (.if_icmp .ne 7, 3) := by decide +kernel
theorem dX8_areSide_65 : decode cX8_areSide 65 = .ok (.iconst 1, 1) := by decide +kernel
theorem dX8_areSide_66 : decode cX8_areSide 66 = .ok (.goto 4, 3) := by decide +kernel
theorem dX8_areSide_69 : decode cX8_areSide 69 = .ok (.iconst 0, 1) := by decide +kernel
theorem dX8_areSide_70 : decode cX8_areSide 70 = .ok (.ireturn, 1) := by decide +kernel
theorem dX8_besides_0 : decode cX8_besides 0 = .ok (.iload_n 1, 1) := by decide +kernel
theorem dX8_besides_1 : decode cX8_besides 1 = .ok (.istore_n 2, 1) := by decide +kernel
theorem dX8_besides_2 : decode cX8_besides 2 = .ok (.iconst 0, 1) := by decide +kernel
theorem dX8_besides_3 : decode cX8_besides 3 = .ok (.istore_n 3, 1) := by decide +kernel
theorem dX8_besides_4 : decode cX8_besides 4 = .ok (.iload_n 3, 1) := by decide +kernel
theorem dX8_besides_5 : decode cX8_besides 5 = .ok (.aload_n 0, 1) := by decide +kernel
theorem dX8_besides_6 : decode cX8_besides 6 = .ok (.invokevirtual 242, 3) := by decide +kernel
theorem dX8_besides_9 : decode cX8_besides 9 = .ok (.if_icmp .ge 52, 3) := by decide +kernel
theorem dX8_besides_12 : decode cX8_besides 12 = .ok (.iconst 0, 1) := by decide +kernel
theorem dX8_besides_13 : decode cX8_besides 13 = .ok (.istore 4, 2) := by decide +kernel
theorem dX8_besides_15 : decode cX8_besides 15 = .ok (.iload 4, 2) := by decide +kernel
theorem dX8_besides_17 : decode cX8_besides 17 = .ok (.aload_n 0, 1) := by decide +kernel
theorem dX8_besides_18 : decode cX8_besides 18 = .ok (.invokevirtual 242, 3) := by decide +kernel
theorem dX8_besides_21 : decode cX8_besides 21 = .ok (.if_icmp .ge 34, 3) := by decide +kernel
theorem dX8_besides_24 : decode cX8_besides 24 = .ok (.iload_n 1, 1) := by decide +kernel
theorem dX8_besides_25 : decode cX8_besides 25 = .ok (.iload_n 3, 1) := by decide +kernel
theorem dX8_besides_26 : decode cX8_besides 26 = .ok (.invokestatic 249, 3) := by decide +kernel
theorem dX8_besides_29 : decode cX8_besides 29 = .ok (.ifCond .eq 20, 3) := by decide +kernel
theorem dX8_besides_32 : decode cX8_besides 32 = .ok (.aload_n 0, 1) := by decide +kernel
theorem dX8_besides_33 : decode cX8_besides 33 = .ok (.iload_n 3, 1) := by decide +kernel
theorem dX8_besides_34 : decode cX8_besides 34 = .ok (.iload 4, 2) := by decide +kernel
theorem dX8_besides_36 : decode cX8_besides 36 = .ok (.invokevirtual 428, 3) := by decide +kernel
theorem dX8_besides_39 : decode cX8_besides 39 = .ok (.ifCond .eq 10, 3) := by decide +kernel
theorem dX8_besides_42 : decode cX8_besides 42 = .ok (.iload_n 2, 1) := by decide +kernel
theorem dX8_besides_43 : decode cX8_besides 43 = .ok (.iconst 1, 1) := by decide +kernel
theorem dX8_besides_44 : decode cX8_besides 44 = .ok (.iload 4, 2) := by decide +kernel
theorem dX8_besides_46 : decode cX8_besides 46 = .ok (.ishl, 1) := by decide +kernel
theorem dX8_besides_47 : decode cX8_besides 47 = .ok (.ior, 1) := by decide +kernel
theorem dX8_besides_48 : decode cX8_besides 48 = .ok (.istore_n 2, 1) := by decide +kernel
theorem dX8_besides_49 : decode cX8_besides 49 = .ok (.iinc 4 1, 3) := by decide +kernel
theorem dX8_besides_52 : decode cX8_besides 52 = .ok (.goto (-37), 3) := by decide +kernel
theorem dX8_besides_55 : decode cX8_besides 55 = .ok (.iinc 3 1, 3) := by decide +kernel
theorem dX8_besides_58 : decode cX8_besides 58 = .ok (.goto (-54), 3) := by decide +kernel
theorem dX8_besides_61 : decode cX8_besides 61 = .ok (.iload_n 2, 1) := by decide +kernel
theorem dX8_besides_62 : decode cX8_besides 62 = .ok (.ireturn, 1) := by decide +kernel
theorem dX8_handsFrom_0 : decode cX8_handsFrom 0 = .ok (.iload_n 1, 1) := by decide +kernel
theorem dX8_handsFrom_1 : decode cX8_handsFrom 1 = .ok (.istore 4, 2) := by decide +kernel
theorem dX8_handsFrom_3 : decode cX8_handsFrom 3 = .ok (.iconst 0, 1) := by decide +kernel
theorem dX8_handsFrom_4 : decode cX8_handsFrom 4 = .ok (.istore 5, 2) := by decide +kernel
theorem dX8_handsFrom_6 : decode cX8_handsFrom 6 = .ok (.iload 5, 2) := by decide +kernel
theorem dX8_handsFrom_8 : decode cX8_handsFrom 8 = .ok (.bipush 8, 2) := by decide +kernel
theorem dX8_handsFrom_10 : decode cX8_handsFrom 10 = .ok (.if_icmp .ge 44, 3) := by decide +kernel
theorem dX8_handsFrom_13 : decode cX8_handsFrom 13 = .ok (.aload_n 0, 1) := by decide +kernel
theorem dX8_handsFrom_14 : decode cX8_handsFrom 14 = .ok (.iload 4, 2) := by decide +kernel
theorem dX8_handsFrom_16 : decode cX8_handsFrom 16 = .ok (.invokevirtual 431, 3) := by decide +kernel
theorem dX8_handsFrom_19 : decode cX8_handsFrom 19 = .ok (.istore 4, 2) := by decide +kernel
theorem dX8_handsFrom_21 : decode cX8_handsFrom 21 = .ok (.iload_n 3, 1) := by decide +kernel
theorem dX8_handsFrom_22 : decode cX8_handsFrom 22 = .ok (.iconst (-1), 1) := by decide +kernel
theorem dX8_handsFrom_23 : decode cX8_handsFrom 23 = .ok (.if_icmp .eq 13, 3) := by decide +kernel
theorem dX8_handsFrom_26 : decode cX8_handsFrom 26 = .ok (.iload 4, 2) := by decide +kernel
theorem dX8_handsFrom_28 : decode cX8_handsFrom 28 = .ok (.iconst 1, 1) := by decide +kernel
theorem dX8_handsFrom_29 : decode cX8_handsFrom 29 = .ok (.iload_n 3, 1) := by decide +kernel
theorem dX8_handsFrom_30 : decode cX8_handsFrom 30 = .ok (.ishl, 1) := by decide +kernel
theorem dX8_handsFrom_31 : decode cX8_handsFrom 31 = .ok (.iconst (-1), 1) := by decide +kernel
theorem dX8_handsFrom_32 : decode cX8_handsFrom 32 = .ok (.ixor, 1) := by decide +kernel
theorem dX8_handsFrom_33 : decode cX8_handsFrom 33 = .ok (.iand, 1) := by decide +kernel
theorem dX8_handsFrom_34 : decode cX8_handsFrom 34 = .ok (.istore 4, 2) := by decide +kernel
theorem dX8_handsFrom_36 : decode cX8_handsFrom 36 = .ok (.iload 4, 2) := by decide +kernel
theorem dX8_handsFrom_38 : decode cX8_handsFrom 38 = .ok (.iload_n 2, 1) := by decide +kernel
theorem dX8_handsFrom_39 : decode cX8_handsFrom 39 = .ok (.invokestatic 249, 3) := by decide +kernel
theorem dX8_handsFrom_42 : decode cX8_handsFrom 42 = .ok (.ifCond .eq 6, 3) := by decide +kernel
theorem dX8_handsFrom_45 : decode cX8_handsFrom 45 = .ok (.iload 5, 2) := by decide +kernel
theorem dX8_handsFrom_47 : decode cX8_handsFrom 47 = .ok (.ireturn, 1) := by decide +kernel
theorem dX8_handsFrom_48 : decode cX8_handsFrom 48 = .ok (.iinc 5 1, 3) := by decide +kernel
theorem dX8_handsFrom_51 : decode cX8_handsFrom 51 = .ok (.goto (-45), 3) := by decide +kernel
theorem dX8_handsFrom_54 : decode cX8_handsFrom 54 = .ok (.iconst (-1), 1) := by decide +kernel
theorem dX8_handsFrom_55 : decode cX8_handsFrom 55 = .ok (.ireturn, 1) := by decide +kernel
theorem dX8_areHandsOut_0 : decode cX8_areHandsOut 0 = .ok (.aload_n 0, 1) := by decide +kernel
theorem dX8_areHandsOut_1 : decode cX8_areHandsOut 1 = .ok (.aload_n 0, 1) := by decide +kernel
theorem dX8_areHandsOut_2 : decode cX8_areHandsOut 2 = .ok (.iload_n 1, 1) := by decide +kernel
theorem dX8_areHandsOut_3 : decode cX8_areHandsOut 3 = .ok (.i2l, 1) := by decide +kernel
theorem dX8_areHandsOut_4 : decode cX8_areHandsOut 4 = .ok (.invokevirtual 310, 3) := by decide +kernel
theorem dX8_areHandsOut_7 : decode cX8_areHandsOut 7 = .ok (.ifCond .eq 12, 3) := by decide +kernel
theorem dX8_areHandsOut_10 : decode cX8_areHandsOut 10 = .ok (.aload_n 0, 1) := by decide +kernel
theorem dX8_areHandsOut_11 : decode cX8_areHandsOut 11 = .ok (.iload_n 2, 1) := by decide +kernel
theorem dX8_areHandsOut_12 : decode cX8_areHandsOut 12 = .ok (.i2l, 1) := by decide +kernel
theorem dX8_areHandsOut_13 : decode cX8_areHandsOut 13 = .ok (.invokevirtual 310, 3) := by decide +kernel
theorem dX8_areHandsOut_16 : decode cX8_areHandsOut 16 = .ok (.ifCond .ne 7, 3) := by decide +kernel
theorem dX8_areHandsOut_19 : decode cX8_areHandsOut 19 = .ok (.iconst 1, 1) := by decide +kernel
theorem dX8_areHandsOut_20 : decode cX8_areHandsOut 20 = .ok (.goto 33, 3) := by decide +kernel
theorem dX8_areHandsOut_23 : decode cX8_areHandsOut 23 = .ok (.iload_n 1, 1) := by decide +kernel
theorem dX8_areHandsOut_24 : decode cX8_areHandsOut 24 = .ok (.iload_n 2, 1) := by decide +kernel
theorem dX8_areHandsOut_25 : decode cX8_areHandsOut 25 = .ok (.if_icmp .ne 7, 3) := by decide +kernel
theorem dX8_areHandsOut_28 : decode cX8_areHandsOut 28 = .ok (.iconst 2, 1) := by decide +kernel
theorem dX8_areHandsOut_29 : decode cX8_areHandsOut 29 = .ok (.goto 24, 3) := by decide +kernel
theorem dX8_areHandsOut_32 : decode cX8_areHandsOut 32 = .ok (.aload_n 0, 1) := by decide +kernel
theorem dX8_areHandsOut_33 : decode cX8_areHandsOut 33 = .ok (.iload_n 1, 1) := by decide +kernel
theorem dX8_areHandsOut_34 : decode cX8_areHandsOut 34 = .ok (.invokevirtual 296, 3) := by decide +kernel
theorem dX8_areHandsOut_37 : decode cX8_areHandsOut 37 = .ok (.ifCond .ne 11, 3) := by decide +kernel
theorem dX8_areHandsOut_40 : decode cX8_areHandsOut 40 = .ok (.aload_n 0, 1) := by decide +kernel
theorem dX8_areHandsOut_41 : decode cX8_areHandsOut 41 = .ok (.iload_n 2, 1) := by decide +kernel
theorem dX8_areHandsOut_42 : decode cX8_areHandsOut 42 = .ok (.invokevirtual 296, 3) := by decide +kernel
theorem dX8_areHandsOut_45 : decode cX8_areHandsOut 45 = .ok (.ifCond .eq 7, 3) := by decide +kernel
theorem dX8_areHandsOut_48 : decode cX8_areHandsOut 48 = .ok (.iconst 3, 1) := by decide +kernel
theorem dX8_areHandsOut_49 : decode cX8_areHandsOut 49 = .ok (.goto 4, 3) := by decide +kernel
theorem dX8_areHandsOut_52 : decode cX8_areHandsOut 52 = .ok (.iconst 0, 1) := by decide +kernel
theorem dX8_areHandsOut_53 : decode cX8_areHandsOut 53 = .ok (.putfield 64, 3) := by decide +kernel
theorem dX8_areHandsOut_56 : decode cX8_areHandsOut 56 = .ok (.aload_n 0, 1) := by decide +kernel
theorem dX8_areHandsOut_57 : decode cX8_areHandsOut 57 = .ok (.getfield 64, 3) := by decide +kernel
theorem dX8_areHandsOut_60 : decode cX8_areHandsOut 60 = .ok (.ifCond .le 7, 3) := by decide +kernel
theorem dX8_areHandsOut_63 : decode cX8_areHandsOut 63 = .ok (.iconst 1, 1) := by decide +kernel
theorem dX8_areHandsOut_64 : decode cX8_areHandsOut 64 = .ok (.goto 4, 3) := by decide +kernel
theorem dX8_areHandsOut_67 : decode cX8_areHandsOut 67 = .ok (.iconst 0, 1) := by decide +kernel
theorem dX8_areHandsOut_68 : decode cX8_areHandsOut 68 = .ok (.ireturn, 1) := by decide +kernel
theorem dX8_hands_0 : decode cX8_hands 0 = .ok (.aload_n 0, 1) := by decide +kernel
theorem dX8_hands_1 : decode cX8_hands 1 = .ok (.iload_n 1, 1) := by decide +kernel
theorem dX8_hands_2 : decode cX8_hands 2 = .ok (.iload_n 2, 1) := by decide +kernel
theorem dX8_hands_3 : decode cX8_hands 3 = .ok (.invokevirtual 434, 3) := by decide +kernel
theorem dX8_hands_6 : decode cX8_hands 6 = .ok (.ifCond .eq 7, 3) := by decide +kernel
theorem dX8_hands_9 : decode cX8_hands 9 = .ok (.iconst 0, 1) := by decide +kernel
theorem dX8_hands_10 : decode cX8_hands 10 = .ok (.goto 12, 3) := by decide +kernel
theorem dX8_hands_13 : decode cX8_hands 13 = .ok (.aload_n 0, 1) := by decide +kernel
theorem dX8_hands_14 : decode cX8_hands 14 = .ok (.iconst 1, 1) := by decide +kernel
theorem dX8_hands_15 : decode cX8_hands 15 = .ok (.iload_n 1, 1) := by decide +kernel
theorem dX8_hands_16 : decode cX8_hands 16 = .ok (.ishl, 1) := by decide +kernel
theorem dX8_hands_17 : decode cX8_hands 17 = .ok (.iload_n 2, 1) := by decide +kernel
theorem dX8_hands_18 : decode cX8_hands 18 = .ok (.iconst (-1), 1) := by decide +kernel
theorem dX8_hands_19 : decode cX8_hands 19 = .ok (.invokevirtual 437, 3) := by decide +kernel
theorem dX8_hands_22 : decode cX8_hands 22 = .ok (.ireturn, 1) := by decide +kernel
theorem dX8_relay_0 : decode cX8_relay 0 = .ok (.aload_n 0, 1) := by decide +kernel
theorem dX8_relay_1 : decode cX8_relay 1 = .ok (.aload_n 0, 1) := by decide +kernel
theorem dX8_relay_2 : decode cX8_relay 2 = .ok (.iload_n 1, 1) := by decide +kernel
theorem dX8_relay_3 : decode cX8_relay 3 = .ok (.i2l, 1) := by decide +kernel
theorem dX8_relay_4 : decode cX8_relay 4 = .ok (.invokevirtual 310, 3) := by decide +kernel
theorem dX8_relay_7 : decode cX8_relay 7 = .ok (.ifCond .ne 7, 3) := by decide +kernel
theorem dX8_relay_10 : decode cX8_relay 10 = .ok (.iconst 1, 1) := by decide +kernel
theorem dX8_relay_11 : decode cX8_relay 11 = .ok (.goto 16, 3) := by decide +kernel
theorem dX8_relay_14 : decode cX8_relay 14 = .ok (.aload_n 0, 1) := by decide +kernel
theorem dX8_relay_15 : decode cX8_relay 15 = .ok (.iload_n 1, 1) := by decide +kernel
theorem dX8_relay_16 : decode cX8_relay 16 = .ok (.invokevirtual 296, 3) := by decide +kernel
theorem dX8_relay_19 : decode cX8_relay 19 = .ok (.ifCond .eq 7, 3) := by decide +kernel
theorem dX8_relay_22 : decode cX8_relay 22 = .ok (.iconst 2, 1) := by decide +kernel
theorem dX8_relay_23 : decode cX8_relay 23 = .ok (.goto 4, 3) := by decide +kernel
theorem dX8_relay_26 : decode cX8_relay 26 = .ok (.iconst 0, 1) := by decide +kernel
theorem dX8_relay_27 : decode cX8_relay 27 = .ok (.putfield 64, 3) := by decide +kernel
theorem dX8_relay_30 : decode cX8_relay 30 = .ok (.aload_n 0, 1) := by decide +kernel
theorem dX8_relay_31 : decode cX8_relay 31 = .ok (.getfield 64, 3) := by decide +kernel
theorem dX8_relay_34 : decode cX8_relay 34 = .ok (.ifCond .le 5, 3) := by decide +kernel
theorem dX8_relay_37 : decode cX8_relay 37 = .ok (.iconst 0, 1) := by decide +kernel
theorem dX8_relay_38 : decode cX8_relay 38 = .ok (.ireturn, 1) := by decide +kernel
theorem dX8_relay_39 : decode cX8_relay 39 = .ok (.iconst 0, 1) := by decide +kernel
theorem dX8_relay_40 : decode cX8_relay 40 = .ok (.istore_n 2, 1) := by decide +kernel
theorem dX8_relay_41 : decode cX8_relay 41 = .ok (.iconst 0, 1) := by decide +kernel
theorem dX8_relay_42 : decode cX8_relay 42 = .ok (.istore_n 3, 1) := by decide +kernel
theorem dX8_relay_43 : decode cX8_relay 43 = .ok (.iload_n 3, 1) := by decide +kernel
theorem dX8_relay_44 : decode cX8_relay 44 = .ok (.aload_n 0, 1) := by decide +kernel
theorem dX8_relay_45 : decode cX8_relay 45 = .ok (.invokevirtual 242, 3) := by decide +kernel
theorem dX8_relay_48 : decode cX8_relay 48 = .ok (.if_icmp .ge 39, 3) := by decide +kernel
theorem dX8_relay_51 : decode cX8_relay 51 = .ok (.iload_n 2, 1) := by decide +kernel
theorem dX8_relay_52 : decode cX8_relay 52 = .ok (.aload_n 0, 1) := by decide +kernel
theorem dX8_relay_53 : decode cX8_relay 53 = .ok (.getfield 9, 3) := by decide +kernel
theorem dX8_relay_56 : decode cX8_relay 56 = .ok (.bipush 16, 2) := by decide +kernel
theorem dX8_relay_58 : decode cX8_relay 58 = .ok (.iload_n 3, 1) := by decide +kernel
theorem dX8_relay_59 : decode cX8_relay 59 = .ok (.iadd, 1) := by decide +kernel
theorem dX8_relay_60 : decode cX8_relay 60 = .ok (.iaload, 1) := by decide +kernel
theorem dX8_relay_61 : decode cX8_relay 61 = .ok (.aload_n 0, 1) := by decide +kernel
theorem dX8_relay_62 : decode cX8_relay 62 = .ok (.getfield 9, 3) := by decide +kernel
theorem dX8_relay_65 : decode cX8_relay 65 = .ok (.iconst 2, 1) := by decide +kernel
theorem dX8_relay_66 : decode cX8_relay 66 = .ok (.iaload, 1) := by decide +kernel
theorem dX8_relay_67 : decode cX8_relay 67 = .ok (.iconst 1, 1) := by decide +kernel
theorem dX8_relay_68 : decode cX8_relay 68 = .ok (.isub, 1) := by decide +kernel
theorem dX8_relay_69 : decode cX8_relay 69 = .ok (.if_icmp .ne 9, 3) := by decide +kernel
theorem dX8_relay_72 : decode cX8_relay 72 = .ok (.iconst 1, 1) := by decide +kernel
theorem dX8_relay_73 : decode cX8_relay 73 = .ok (.iload_n 3, 1) := by decide +kernel
theorem dX8_relay_74 : decode cX8_relay 74 = .ok (.ishl, 1) := by decide +kernel
theorem dX8_relay_75 : decode cX8_relay 75 = .ok (.goto 4, 3) := by decide +kernel
theorem dX8_relay_78 : decode cX8_relay 78 = .ok (.iconst 0, 1) := by decide +kernel
theorem dX8_relay_79 : decode cX8_relay 79 = .ok (.ior, 1) := by decide +kernel
theorem dX8_relay_80 : decode cX8_relay 80 = .ok (.istore_n 2, 1) := by decide +kernel
theorem dX8_relay_81 : decode cX8_relay 81 = .ok (.iinc 3 1, 3) := by decide +kernel
theorem dX8_relay_84 : decode cX8_relay 84 = .ok (.goto (-41), 3) := by decide +kernel
theorem dX8_relay_87 : decode cX8_relay 87 = .ok (.iload_n 2, 1) := by decide +kernel
theorem dX8_relay_88 : decode cX8_relay 88 = .ok (.iload_n 1, 1) := by decide +kernel
theorem dX8_relay_89 : decode cX8_relay 89 = .ok (.invokestatic 249, 3) := by decide +kernel
theorem dX8_relay_92 : decode cX8_relay 92 = .ok (.ifCond .eq 7, 3) := by decide +kernel
theorem dX8_relay_95 : decode cX8_relay 95 = .ok (.iconst 0, 1) := by decide +kernel
theorem dX8_relay_96 : decode cX8_relay 96 = .ok (.goto 10, 3) := by decide +kernel
theorem dX8_relay_99 : decode cX8_relay 99 = .ok (.aload_n 0, 1) := by decide +kernel
theorem dX8_relay_100 : decode cX8_relay 100 = .ok (.iload_n 2, 1) := by decide +kernel
theorem dX8_relay_101 : decode cX8_relay 101 = .ok (.iload_n 1, 1) := by decide +kernel
theorem dX8_relay_102 : decode cX8_relay 102 = .ok (.iconst (-1), 1) := by decide +kernel
theorem dX8_relay_103 : decode cX8_relay 103 = .ok (.invokevirtual 437, 3) := by decide +kernel
theorem dX8_relay_106 : decode cX8_relay 106 = .ok (.ireturn, 1) := by decide +kernel
theorem dX8_cut_0 : decode cX8_cut 0 = .ok (.aload_n 0, 1) := by decide +kernel
theorem dX8_cut_1 : decode cX8_cut 1 = .ok (.iload_n 1, 1) := by decide +kernel
theorem dX8_cut_2 : decode cX8_cut 2 = .ok (.iload_n 2, 1) := by decide +kernel
theorem dX8_cut_3 : decode cX8_cut 3 = .ok (.invokevirtual 434, 3) := by decide +kernel
theorem dX8_cut_6 : decode cX8_cut 6 = .ok (.ifCond .ne 16, 3) := by decide +kernel
theorem dX8_cut_9 : decode cX8_cut 9 = .ok (.aload_n 0, 1) := by decide +kernel
theorem dX8_cut_10 : decode cX8_cut 10 = .ok (.iconst 1, 1) := by decide +kernel
theorem dX8_cut_11 : decode cX8_cut 11 = .ok (.iload_n 1, 1) := by decide +kernel
theorem dX8_cut_12 : decode cX8_cut 12 = .ok (.ishl, 1) := by decide +kernel
theorem dX8_cut_13 : decode cX8_cut 13 = .ok (.iload_n 2, 1) := by decide +kernel
theorem dX8_cut_14 : decode cX8_cut 14 = .ok (.iconst (-1), 1) := by decide +kernel
theorem dX8_cut_15 : decode cX8_cut 15 = .ok (.invokevirtual 437, 3) := by decide +kernel
theorem dX8_cut_18 : decode cX8_cut 18 = .ok (.iconst (-1), 1) := by decide +kernel
theorem dX8_cut_19 : decode cX8_cut 19 = .ok (.if_icmp .ne 5, 3) := by decide +kernel
theorem dX8_cut_22 : decode cX8_cut 22 = .ok (.iconst 0, 1) := by decide +kernel
theorem dX8_cut_23 : decode cX8_cut 23 = .ok (.ireturn, 1) := by decide +kernel
theorem dX8_cut_24 : decode cX8_cut 24 = .ok (.iconst 0, 1) := by decide +kernel
theorem dX8_cut_25 : decode cX8_cut 25 = .ok (.istore_n 3, 1) := by decide +kernel
theorem dX8_cut_26 : decode cX8_cut 26 = .ok (.iconst 0, 1) := by decide +kernel
theorem dX8_cut_27 : decode cX8_cut 27 = .ok (.istore 4, 2) := by decide +kernel
theorem dX8_cut_29 : decode cX8_cut 29 = .ok (.iload 4, 2) := by decide +kernel
theorem dX8_cut_31 : decode cX8_cut 31 = .ok (.aload_n 0, 1) := by decide +kernel
theorem dX8_cut_32 : decode cX8_cut 32 = .ok (.invokevirtual 242, 3) := by decide +kernel
theorem dX8_cut_35 : decode cX8_cut 35 = .ok (.if_icmp .ge 46, 3) := by decide +kernel
theorem dX8_cut_38 : decode cX8_cut 38 = .ok (.iload_n 3, 1) := by decide +kernel
theorem dX8_cut_39 : decode cX8_cut 39 = .ok (.iload 4, 2) := by decide +kernel
theorem dX8_cut_41 : decode cX8_cut 41 = .ok (.iload_n 1, 1) := by decide +kernel
theorem dX8_cut_42 : decode cX8_cut 42 = .ok (.if_icmp .eq 30, 3) := by decide +kernel
theorem dX8_cut_45 : decode cX8_cut 45 = .ok (.iload 4, 2) := by decide +kernel
theorem dX8_cut_47 : decode cX8_cut 47 = .ok (.iload_n 2, 1) := by decide +kernel
theorem dX8_cut_48 : decode cX8_cut 48 = .ok (.if_icmp .eq 24, 3) := by decide +kernel
theorem dX8_cut_51 : decode cX8_cut 51 = .ok (.aload_n 0, 1) := by decide +kernel
theorem dX8_cut_52 : decode cX8_cut 52 = .ok (.iconst 1, 1) := by decide +kernel
theorem dX8_cut_53 : decode cX8_cut 53 = .ok (.iload_n 1, 1) := by decide +kernel
theorem dX8_cut_54 : decode cX8_cut 54 = .ok (.ishl, 1) := by decide +kernel
theorem dX8_cut_55 : decode cX8_cut 55 = .ok (.iload_n 2, 1) := by decide +kernel
theorem dX8_cut_56 : decode cX8_cut 56 = .ok (.iload 4, 2) := by decide +kernel
theorem dX8_cut_58 : decode cX8_cut 58 = .ok (.invokevirtual 437, 3) := by decide +kernel
theorem dX8_cut_61 : decode cX8_cut 61 = .ok (.iconst (-1), 1) := by decide +kernel
theorem dX8_cut_62 : decode cX8_cut 62 = .ok (.if_icmp .ne 10, 3) := by decide +kernel
theorem dX8_cut_65 : decode cX8_cut 65 = .ok (.iconst 1, 1) := by decide +kernel
theorem dX8_cut_66 : decode cX8_cut 66 = .ok (.iload 4, 2) := by decide +kernel
theorem dX8_cut_68 : decode cX8_cut 68 = .ok (.ishl, 1) := by decide +kernel
theorem dX8_cut_69 : decode cX8_cut 69 = .ok (.goto 4, 3) := by decide +kernel
theorem dX8_cut_72 : decode cX8_cut 72 = .ok (.iconst 0, 1) := by decide +kernel
theorem dX8_cut_73 : decode cX8_cut 73 = .ok (.ior, 1) := by decide +kernel
theorem dX8_cut_74 : decode cX8_cut 74 = .ok (.istore_n 3, 1) := by decide +kernel
theorem dX8_cut_75 : decode cX8_cut 75 = .ok (.iinc 4 1, 3) := by decide +kernel
theorem dX8_cut_78 : decode cX8_cut 78 = .ok (.goto (-49), 3) := by decide +kernel
theorem dX8_cut_81 : decode cX8_cut 81 = .ok (.iload_n 3, 1) := by decide +kernel
theorem dX8_cut_82 : decode cX8_cut 82 = .ok (.ireturn, 1) := by decide +kernel
theorem dX8_heaps_0 : decode cX8_heaps 0 = .ok (.aload_n 0, 1) := by decide +kernel
theorem dX8_heaps_1 : decode cX8_heaps 1 = .ok (.iconst 0, 1) := by decide +kernel
theorem dX8_heaps_2 : decode cX8_heaps 2 = .ok (.putfield 64, 3) := by decide +kernel
theorem dX8_heaps_5 : decode cX8_heaps 5 = .ok (.iconst 0, 1) := by decide +kernel
theorem dX8_heaps_6 : decode cX8_heaps 6 = .ok (.istore_n 1, 1) := by decide +kernel
theorem dX8_heaps_7 : decode cX8_heaps 7 = .ok (.iconst 0, 1) := by decide +kernel
theorem dX8_heaps_8 : decode cX8_heaps 8 = .ok (.istore_n 2, 1) := by decide +kernel
theorem dX8_heaps_9 : decode cX8_heaps 9 = .ok (.iconst 0, 1) := by decide +kernel
theorem dX8_heaps_10 : decode cX8_heaps 10 = .ok (.istore_n 3, 1) := by decide +kernel
theorem dX8_heaps_11 : decode cX8_heaps 11 = .ok (.iload_n 3, 1) := by decide +kernel
theorem dX8_heaps_12 : decode cX8_heaps 12 = .ok (.aload_n 0, 1) := by decide +kernel
theorem dX8_heaps_13 : decode cX8_heaps 13 = .ok (.invokevirtual 242, 3) := by decide +kernel
theorem dX8_heaps_16 : decode cX8_heaps 16 = .ok (.if_icmp .ge 63, 3) := by decide +kernel
theorem dX8_heaps_19 : decode cX8_heaps 19 = .ok (.iload_n 1, 1) := by decide +kernel
theorem dX8_heaps_20 : decode cX8_heaps 20 = .ok (.iload_n 3, 1) := by decide +kernel
theorem dX8_heaps_21 : decode cX8_heaps 21 = .ok (.invokestatic 249, 3) := by decide +kernel
theorem dX8_heaps_24 : decode cX8_heaps 24 = .ok (.ifCond .ne 49, 3) := by decide +kernel
theorem dX8_heaps_27 : decode cX8_heaps 27 = .ok (.aload_n 0, 1) := by decide +kernel
theorem dX8_heaps_28 : decode cX8_heaps 28 = .ok (.iload_n 3, 1) := by decide +kernel
theorem dX8_heaps_29 : decode cX8_heaps 29 = .ok (.invokevirtual 296, 3) := by decide +kernel
theorem dX8_heaps_32 : decode cX8_heaps 32 = .ok (.ifCond .eq 6, 3) := by decide +kernel
theorem dX8_heaps_35 : decode cX8_heaps 35 = .ok (.goto 38, 3) := by decide +kernel
theorem dX8_heaps_38 : decode cX8_heaps 38 = .ok (.iconst 1, 1) := by decide +kernel
theorem dX8_heaps_39 : decode cX8_heaps 39 = .ok (.iload_n 3, 1) := by decide +kernel
theorem dX8_heaps_40 : decode cX8_heaps 40 = .ok (.ishl, 1) := by decide +kernel
theorem dX8_heaps_41 : decode cX8_heaps 41 = .ok (.istore 4, 2) := by decide +kernel
theorem dX8_heaps_43 : decode cX8_heaps 43 = .ok (.aload_n 0, 1) := by decide +kernel
theorem dX8_heaps_44 : decode cX8_heaps 44 = .ok (.iload 4, 2) := by decide +kernel
theorem dX8_heaps_46 : decode cX8_heaps 46 = .ok (.invokevirtual 431, 3) := by decide +kernel
theorem dX8_heaps_49 : decode cX8_heaps 49 = .ok (.iload 4, 2) := by decide +kernel
theorem dX8_heaps_51 : decode cX8_heaps 51 = .ok (.if_icmp .eq 14, 3) := by decide +kernel
theorem dX8_heaps_54 : decode cX8_heaps 54 = .ok (.aload_n 0, 1) := by decide +kernel
theorem dX8_heaps_55 : decode cX8_heaps 55 = .ok (.iload 4, 2) := by decide +kernel
theorem dX8_heaps_57 : decode cX8_heaps 57 = .ok (.invokevirtual 431, 3) := by decide +kernel
theorem dX8_heaps_60 : decode cX8_heaps 60 = .ok (.istore 4, 2) := by decide +kernel
theorem dX8_heaps_62 : decode cX8_heaps 62 = .ok (.goto (-19), 3) := by decide +kernel
theorem dX8_heaps_65 : decode cX8_heaps 65 = .ok (.iload_n 1, 1) := by decide +kernel
theorem dX8_heaps_66 : decode cX8_heaps 66 = .ok (.iload 4, 2) := by decide +kernel
theorem dX8_heaps_68 : decode cX8_heaps 68 = .ok (.ior, 1) := by decide +kernel
theorem dX8_heaps_69 : decode cX8_heaps 69 = .ok (.istore_n 1, 1) := by decide +kernel
theorem dX8_heaps_70 : decode cX8_heaps 70 = .ok (.iinc 2 1, 3) := by decide +kernel
theorem dX8_heaps_73 : decode cX8_heaps 73 = .ok (.iinc 3 1, 3) := by decide +kernel
theorem dX8_heaps_76 : decode cX8_heaps 76 = .ok (.goto (-65), 3) := by decide +kernel
theorem dX8_heaps_79 : decode cX8_heaps 79 = .ok (.iload_n 2, 1) := by decide +kernel
theorem dX8_heaps_80 : decode cX8_heaps 80 = .ok (.ireturn, 1) := by decide +kernel
theorem dX8_isDryLong_0 : decode cX8_isDryLong 0 = .ok (.iload_n 0, 1) := by decide +kernel
theorem dX8_isDryLong_1 : decode cX8_isDryLong 1 = .ok (.i2l, 1) := by decide +kernel
theorem dX8_isDryLong_2 : decode cX8_isDryLong 2 = .ok (.lconst 0, 1) := by decide +kernel
theorem dX8_isDryLong_3 : decode cX8_isDryLong 3 = .ok (.ldc2_w 440, 3) := by decide +kernel
theorem dX8_isDryLong_6 : decode cX8_isDryLong 6 = .ok (.invokestatic 125, 3) := by decide +kernel
theorem dX8_isDryLong_9 : decode cX8_isDryLong 9 = .ok (.ireturn, 1) := by decide +kernel
theorem dX8_dryFromHere_0 : decode cX8_dryFromHere 0 = .ok (.lconst 1, 1) := by decide +kernel
theorem dX8_dryFromHere_1 : decode cX8_dryFromHere 1 = .ok (.lstore_n 3, 1) := by decide +kernel
theorem dX8_dryFromHere_2 : decode cX8_dryFromHere 2 = .ok (.iconst 0, 1) := by decide +kernel
theorem dX8_dryFromHere_3 : decode cX8_dryFromHere 3 = .ok (.istore 5, 2) := by decide +kernel
theorem dX8_dryFromHere_5 : decode cX8_dryFromHere 5 = .ok (.iload 5, 2) := by decide +kernel
theorem dX8_dryFromHere_7 : decode cX8_dryFromHere 7 = .ok (.iload_n 2, 1) := by decide +kernel
theorem dX8_dryFromHere_8 : decode cX8_dryFromHere 8 = .ok (.if_icmp .ge 67, 3) := by decide +kernel
theorem dX8_dryFromHere_11 : decode cX8_dryFromHere 11 = .ok (.aload_n 0, 1) := by decide +kernel
theorem dX8_dryFromHere_12 : decode cX8_dryFromHere 12 = .ok (.getfield 9, 3) := by decide +kernel
theorem dX8_dryFromHere_15 : decode cX8_dryFromHere 15 = .ok (.bipush 33, 2) := by decide +kernel
theorem dX8_dryFromHere_17 : decode cX8_dryFromHere 17 = .ok (.iaload, 1) := by decide +kernel
theorem dX8_dryFromHere_18 : decode cX8_dryFromHere 18 = .ok (.istore 6, 2) := by decide +kernel
theorem dX8_dryFromHere_20 : decode cX8_dryFromHere 20 = .ok (.aload_n 0, 1) := by decide +kernel
theorem dX8_dryFromHere_21 : decode cX8_dryFromHere 21 = .ok (.invokevirtual 345, 3) := by decide +kernel
theorem dX8_dryFromHere_24 : decode cX8_dryFromHere 24 = .ok (.lload_n 3, 1) := by decide +kernel
theorem dX8_dryFromHere_25 : decode cX8_dryFromHere 25 = .ok (.aload_n 0, 1) := by decide +kernel
theorem dX8_dryFromHere_26 : decode cX8_dryFromHere 26 = .ok (.iload_n 1, 1) := by decide +kernel
theorem dX8_dryFromHere_27 : decode cX8_dryFromHere 27 = .ok (.invokevirtual 296, 3) := by decide +kernel
theorem dX8_dryFromHere_30 : decode cX8_dryFromHere 30 = .ok (.ifCond .eq 9, 3) := by decide +kernel
theorem dX8_dryFromHere_33 : decode cX8_dryFromHere 33 = .ok (.ldc2_w 347, 3) := by decide +kernel
theorem dX8_dryFromHere_36 : decode cX8_dryFromHere 36 = .ok (.goto 31, 3) := by decide +kernel
theorem dX8_dryFromHere_39 : decode cX8_dryFromHere 39 = .ok (.bipush 10, 2) := by decide +kernel
theorem dX8_dryFromHere_41 : decode cX8_dryFromHere 41 = .ok (.aload_n 0, 1) := by decide +kernel
theorem dX8_dryFromHere_42 : decode cX8_dryFromHere 42 = .ok (.aload_n 0, 1) := by decide +kernel
theorem dX8_dryFromHere_43 : decode cX8_dryFromHere 43 = .ok (.getfield 9, 3) := by decide +kernel
theorem dX8_dryFromHere_46 : decode cX8_dryFromHere 46 = .ok (.bipush 8, 2) := by decide +kernel
theorem dX8_dryFromHere_48 : decode cX8_dryFromHere 48 = .ok (.iload_n 1, 1) := by decide +kernel
theorem dX8_dryFromHere_49 : decode cX8_dryFromHere 49 = .ok (.iadd, 1) := by decide +kernel
theorem dX8_dryFromHere_50 : decode cX8_dryFromHere 50 = .ok (.iaload, 1) := by decide +kernel
theorem dX8_dryFromHere_51 : decode cX8_dryFromHere 51 = .ok (.aload_n 0, 1) := by decide +kernel
theorem dX8_dryFromHere_52 : decode cX8_dryFromHere 52 = .ok (.getfield 9, 3) := by decide +kernel
theorem dX8_dryFromHere_55 : decode cX8_dryFromHere 55 = .ok (.bipush 16, 2) := by decide +kernel
theorem dX8_dryFromHere_57 : decode cX8_dryFromHere 57 = .ok (.iload_n 1, 1) := by decide +kernel
theorem dX8_dryFromHere_58 : decode cX8_dryFromHere 58 = .ok (.iadd, 1) := by decide +kernel
theorem dX8_dryFromHere_59 : decode cX8_dryFromHere 59 = .ok (.iaload, 1) := by decide +kernel
theorem dX8_dryFromHere_60 : decode cX8_dryFromHere 60 = .ok (.iload 6, 2) := by decide +kernel
theorem dX8_dryFromHere_62 : decode cX8_dryFromHere 62 = .ok (.invokevirtual 317, 3) := by decide +kernel
theorem dX8_dryFromHere_65 : decode cX8_dryFromHere 65 = .ok (.isub, 1) := by decide +kernel
theorem dX8_dryFromHere_66 : decode cX8_dryFromHere 66 = .ok (.i2l, 1) := by decide +kernel
theorem dX8_dryFromHere_67 : decode cX8_dryFromHere 67 = .ok (.lmul, 1) := by decide +kernel
theorem dX8_dryFromHere_68 : decode cX8_dryFromHere 68 = .ok (.lstore_n 3, 1) := by decide +kernel
theorem dX8_dryFromHere_69 : decode cX8_dryFromHere 69 = .ok (.iinc 5 1, 3) := by decide +kernel
theorem dX8_dryFromHere_72 : decode cX8_dryFromHere 72 = .ok (.goto (-67), 3) := by decide +kernel
theorem dX8_dryFromHere_75 : decode cX8_dryFromHere 75 = .ok (.aload_n 0, 1) := by decide +kernel
theorem dX8_dryFromHere_76 : decode cX8_dryFromHere 76 = .ok (.invokevirtual 381, 3) := by decide +kernel
theorem dX8_dryFromHere_79 : decode cX8_dryFromHere 79 = .ok (.lload_n 3, 1) := by decide +kernel
theorem dX8_dryFromHere_80 : decode cX8_dryFromHere 80 = .ok (.lreturn, 1) := by decide +kernel
theorem dX8_dryNow_0 : decode cX8_dryNow 0 = .ok (.aload_n 0, 1) := by decide +kernel
theorem dX8_dryNow_1 : decode cX8_dryNow 1 = .ok (.invokevirtual 369, 3) := by decide +kernel
theorem dX8_dryNow_4 : decode cX8_dryNow 4 = .ok (.aload_n 0, 1) := by decide +kernel
theorem dX8_dryNow_5 : decode cX8_dryNow 5 = .ok (.iload_n 1, 1) := by decide +kernel
theorem dX8_dryNow_6 : decode cX8_dryNow 6 = .ok (.iload_n 2, 1) := by decide +kernel
theorem dX8_dryNow_7 : decode cX8_dryNow 7 = .ok (.invokevirtual 442, 3) := by decide +kernel
theorem dX8_dryNow_10 : decode cX8_dryNow 10 = .ok (.lreturn, 1) := by decide +kernel
theorem dX8_common_0 : decode cX8_common 0 = .ok (.lload_n 0, 1) := by decide +kernel
theorem dX8_common_1 : decode cX8_common 1 = .ok (.lstore 4, 2) := by decide +kernel
theorem dX8_common_3 : decode cX8_common 3 = .ok (.lload_n 2, 1) := by decide +kernel
theorem dX8_common_4 : decode cX8_common 4 = .ok (.lstore 6, 2) := by decide +kernel
theorem dX8_common_6 : decode cX8_common 6 = .ok (.lload 6, 2) := by decide +kernel
theorem dX8_common_8 : decode cX8_common 8 = .ok (.lconst 0, 1) := by decide +kernel
theorem dX8_common_9 : decode cX8_common 9 = .ok (.lcmp, 1) := by decide +kernel
theorem dX8_common_10 : decode cX8_common 10 = .ok (.ifCond .eq 21, 3) := by decide +kernel
theorem dX8_common_13 : decode cX8_common 13 = .ok (.lload 4, 2) := by decide +kernel
theorem dX8_common_15 : decode cX8_common 15 = .ok (.lload 6, 2) := by decide +kernel
theorem dX8_common_17 : decode cX8_common 17 = .ok (.lrem, 1) := by decide +kernel
theorem dX8_common_18 : decode cX8_common 18 = .ok (.lstore 8, 2) := by decide +kernel
theorem dX8_common_20 : decode cX8_common 20 = .ok (.lload 6, 2) := by decide +kernel
theorem dX8_common_22 : decode cX8_common 22 = .ok (.lstore 4, 2) := by decide +kernel
theorem dX8_common_24 : decode cX8_common 24 = .ok (.lload 8, 2) := by decide +kernel
theorem dX8_common_26 : decode cX8_common 26 = .ok (.lstore 6, 2) := by decide +kernel
theorem dX8_common_28 : decode cX8_common 28 = .ok (.goto (-22), 3) := by decide +kernel
theorem dX8_common_31 : decode cX8_common 31 = .ok (.lload 4, 2) := by decide +kernel
theorem dX8_common_33 : decode cX8_common 33 = .ok (.lreturn, 1) := by decide +kernel
theorem dX8_dry_0 : decode cX8_dry 0 = .ok (.aload_n 0, 1) := by decide +kernel
theorem dX8_dry_1 : decode cX8_dry 1 = .ok (.aload_n 0, 1) := by decide +kernel
theorem dX8_dry_2 : decode cX8_dry 2 = .ok (.iload_n 1, 1) := by decide +kernel
theorem dX8_dry_3 : decode cX8_dry 3 = .ok (.i2l, 1) := by decide +kernel
theorem dX8_dry_4 : decode cX8_dry 4 = .ok (.invokevirtual 310, 3) := by decide +kernel
theorem dX8_dry_7 : decode cX8_dry 7 = .ok (.ifCond .ne 7, 3) := by decide +kernel
theorem dX8_dry_10 : decode cX8_dry 10 = .ok (.iconst 1, 1) := by decide +kernel
theorem dX8_dry_11 : decode cX8_dry 11 = .ok (.goto 25, 3) := by decide +kernel
theorem dX8_dry_14 : decode cX8_dry 14 = .ok (.iload_n 2, 1) := by decide +kernel
theorem dX8_dry_15 : decode cX8_dry 15 = .ok (.invokestatic 446, 3) := by decide +kernel
theorem dX8_dry_18 : decode cX8_dry 18 = .ok (.ifCond .eq 17, 3) := by decide +kernel
theorem dX8_dry_21 : decode cX8_dry 21 = .ok (.iload_n 3, 1) := by decide +kernel
theorem dX8_dry_22 : decode cX8_dry 22 = .ok (.i2l, 1) := by decide +kernel
theorem dX8_dry_23 : decode cX8_dry 23 = .ok (.lconst 0, 1) := by decide +kernel
theorem dX8_dry_24 : decode cX8_dry 24 = .ok (.lconst 1, 1) := by decide +kernel
theorem dX8_dry_25 : decode cX8_dry 25 = .ok (.invokestatic 125, 3) := by decide +kernel
theorem dX8_dry_28 : decode cX8_dry 28 = .ok (.ifCond .eq 7, 3) := by decide +kernel
theorem dX8_dry_31 : decode cX8_dry 31 = .ok (.iconst 0, 1) := by decide +kernel
theorem dX8_dry_32 : decode cX8_dry 32 = .ok (.goto 4, 3) := by decide +kernel
theorem dX8_dry_35 : decode cX8_dry 35 = .ok (.iconst 2, 1) := by decide +kernel
theorem dX8_dry_36 : decode cX8_dry 36 = .ok (.putfield 64, 3) := by decide +kernel
theorem dX8_dry_39 : decode cX8_dry 39 = .ok (.aload_n 0, 1) := by decide +kernel
theorem dX8_dry_40 : decode cX8_dry 40 = .ok (.getfield 64, 3) := by decide +kernel
theorem dX8_dry_43 : decode cX8_dry 43 = .ok (.ifCond .le 5, 3) := by decide +kernel
theorem dX8_dry_46 : decode cX8_dry 46 = .ok (.lconst 0, 1) := by decide +kernel
theorem dX8_dry_47 : decode cX8_dry 47 = .ok (.lreturn, 1) := by decide +kernel
theorem dX8_dry_48 : decode cX8_dry 48 = .ok (.lconst 1, 1) := by decide +kernel
theorem dX8_dry_49 : decode cX8_dry 49 = .ok (.lstore 4, 2) := by decide +kernel
theorem dX8_dry_51 : decode cX8_dry 51 = .ok (.iconst 0, 1) := by decide +kernel
theorem dX8_dry_52 : decode cX8_dry 52 = .ok (.istore 6, 2) := by decide +kernel
theorem dX8_dry_54 : decode cX8_dry 54 = .ok (.iload 6, 2) := by decide +kernel
theorem dX8_dry_56 : decode cX8_dry 56 = .ok (.iload_n 2, 1) := by decide +kernel
theorem dX8_dry_57 : decode cX8_dry 57 = .ok (.if_icmp .ge 17, 3) := by decide +kernel
theorem dX8_dry_60 : decode cX8_dry 60 = .ok (.lload 4, 2) := by decide +kernel
theorem dX8_dry_62 : decode cX8_dry 62 = .ok (.ldc2_w 347, 3) := by decide +kernel
theorem dX8_dry_65 : decode cX8_dry 65 = .ok (.lmul, 1) := by decide +kernel
theorem dX8_dry_66 : decode cX8_dry 66 = .ok (.lstore 4, 2) := by decide +kernel
theorem dX8_dry_68 : decode cX8_dry 68 = .ok (.iinc 6 1, 3) := by decide +kernel
theorem dX8_dry_71 : decode cX8_dry 71 = .ok (.goto (-17), 3) := by decide +kernel
theorem dX8_dry_74 : decode cX8_dry 74 = .ok (.aload_n 0, 1) := by decide +kernel
theorem dX8_dry_75 : decode cX8_dry 75 = .ok (.iload_n 1, 1) := by decide +kernel
theorem dX8_dry_76 : decode cX8_dry 76 = .ok (.iload_n 2, 1) := by decide +kernel
theorem dX8_dry_77 : decode cX8_dry 77 = .ok (.invokevirtual 449, 3) := by decide +kernel
theorem dX8_dry_80 : decode cX8_dry 80 = .ok (.lstore 6, 2) := by decide +kernel
theorem dX8_dry_82 : decode cX8_dry 82 = .ok (.lload 4, 2) := by decide +kernel
theorem dX8_dry_84 : decode cX8_dry 84 = .ok (.lload 6, 2) := by decide +kernel
theorem dX8_dry_86 : decode cX8_dry 86 = .ok (.invokestatic 452, 3) := by decide +kernel
theorem dX8_dry_89 : decode cX8_dry 89 = .ok (.lstore 8, 2) := by decide +kernel
theorem dX8_dry_91 : decode cX8_dry 91 = .ok (.iload_n 3, 1) := by decide +kernel
theorem dX8_dry_92 : decode cX8_dry 92 = .ok (.ifCond .ne 11, 3) := by decide +kernel
theorem dX8_dry_95 : decode cX8_dry 95 = .ok (.lload 6, 2) := by decide +kernel
theorem dX8_dry_97 : decode cX8_dry 97 = .ok (.lload 8, 2) := by decide +kernel
theorem dX8_dry_99 : decode cX8_dry 99 = .ok (.ldiv, 1) := by decide +kernel
theorem dX8_dry_100 : decode cX8_dry 100 = .ok (.goto 8, 3) := by decide +kernel
theorem dX8_dry_103 : decode cX8_dry 103 = .ok (.lload 4, 2) := by decide +kernel
theorem dX8_dry_105 : decode cX8_dry 105 = .ok (.lload 8, 2) := by decide +kernel
theorem dX8_dry_107 : decode cX8_dry 107 = .ok (.ldiv, 1) := by decide +kernel
theorem dX8_dry_108 : decode cX8_dry 108 = .ok (.lreturn, 1) := by decide +kernel
theorem dX8_driest_0 : decode cX8_driest 0 = .ok (.aload_n 0, 1) := by decide +kernel
theorem dX8_driest_1 : decode cX8_driest 1 = .ok (.iconst 0, 1) := by decide +kernel
theorem dX8_driest_2 : decode cX8_driest 2 = .ok (.putfield 64, 3) := by decide +kernel
theorem dX8_driest_5 : decode cX8_driest 5 = .ok (.iload_n 1, 1) := by decide +kernel
theorem dX8_driest_6 : decode cX8_driest 6 = .ok (.invokestatic 446, 3) := by decide +kernel
theorem dX8_driest_9 : decode cX8_driest 9 = .ok (.ifCond .ne 9, 3) := by decide +kernel
theorem dX8_driest_12 : decode cX8_driest 12 = .ok (.aload_n 0, 1) := by decide +kernel
theorem dX8_driest_13 : decode cX8_driest 13 = .ok (.iconst 1, 1) := by decide +kernel
theorem dX8_driest_14 : decode cX8_driest 14 = .ok (.invokevirtual 231, 3) := by decide +kernel
theorem dX8_driest_17 : decode cX8_driest 17 = .ok (.ireturn, 1) := by decide +kernel
theorem dX8_driest_18 : decode cX8_driest 18 = .ok (.iconst (-1), 1) := by decide +kernel
theorem dX8_driest_19 : decode cX8_driest 19 = .ok (.istore_n 2, 1) := by decide +kernel
theorem dX8_driest_20 : decode cX8_driest 20 = .ok (.ldc2_w 352, 3) := by decide +kernel
theorem dX8_driest_23 : decode cX8_driest 23 = .ok (.lstore_n 3, 1) := by decide +kernel
theorem dX8_driest_24 : decode cX8_driest 24 = .ok (.iconst 0, 1) := by decide +kernel
theorem dX8_driest_25 : decode cX8_driest 25 = .ok (.istore 5, 2) := by decide +kernel
theorem dX8_driest_27 : decode cX8_driest 27 = .ok (.iload 5, 2) := by decide +kernel
theorem dX8_driest_29 : decode cX8_driest 29 = .ok (.aload_n 0, 1) := by decide +kernel
theorem dX8_driest_30 : decode cX8_driest 30 = .ok (.invokevirtual 242, 3) := by decide +kernel
theorem dX8_driest_33 : decode cX8_driest 33 = .ok (.if_icmp .ge 34, 3) := by decide +kernel
theorem dX8_driest_36 : decode cX8_driest 36 = .ok (.aload_n 0, 1) := by decide +kernel
theorem dX8_driest_37 : decode cX8_driest 37 = .ok (.iload 5, 2) := by decide +kernel
theorem dX8_driest_39 : decode cX8_driest 39 = .ok (.iload_n 1, 1) := by decide +kernel
theorem dX8_driest_40 : decode cX8_driest 40 = .ok (.invokevirtual 449, 3) := by decide +kernel
theorem dX8_driest_43 : decode cX8_driest 43 = .ok (.lstore 6, 2) := by decide +kernel
theorem dX8_driest_45 : decode cX8_driest 45 = .ok (.lload 6, 2) := by decide +kernel
theorem dX8_driest_47 : decode cX8_driest 47 = .ok (.lload_n 3, 1) := by decide +kernel
theorem dX8_driest_48 : decode cX8_driest 48 = .ok (.lcmp, 1) := by decide +kernel
theorem dX8_driest_49 : decode cX8_driest 49 = .ok (.ifCond .gt 6, 3) := by decide +kernel
theorem dX8_driest_52 : decode cX8_driest 52 = .ok (.goto 9, 3) := by decide +kernel
theorem dX8_driest_55 : decode cX8_driest 55 = .ok (.iload 5, 2) := by decide +kernel
theorem dX8_driest_57 : decode cX8_driest 57 = .ok (.istore_n 2, 1) := by decide +kernel
theorem dX8_driest_58 : decode cX8_driest 58 = .ok (.lload 6, 2) := by decide +kernel
theorem dX8_driest_60 : decode cX8_driest 60 = .ok (.lstore_n 3, 1) := by decide +kernel
theorem dX8_driest_61 : decode cX8_driest 61 = .ok (.iinc 5 1, 3) := by decide +kernel
theorem dX8_driest_64 : decode cX8_driest 64 = .ok (.goto (-37), 3) := by decide +kernel
theorem dX8_driest_67 : decode cX8_driest 67 = .ok (.iload_n 2, 1) := by decide +kernel
theorem dX8_driest_68 : decode cX8_driest 68 = .ok (.ireturn, 1) := by decide +kernel
theorem dX8_where_0 : decode cX8_where 0 = .ok (.aload_n 0, 1) := by decide +kernel
theorem dX8_where_1 : decode cX8_where 1 = .ok (.aload_n 0, 1) := by decide +kernel
theorem dX8_where_2 : decode cX8_where 2 = .ok (.iload_n 1, 1) := by decide +kernel
theorem dX8_where_3 : decode cX8_where 3 = .ok (.i2l, 1) := by decide +kernel
theorem dX8_where_4 : decode cX8_where 4 = .ok (.invokevirtual 310, 3) := by decide +kernel
theorem dX8_where_7 : decode cX8_where 7 = .ok (.ifCond .ne 7, 3) := by decide +kernel
theorem dX8_where_10 : decode cX8_where 10 = .ok (.iconst 1, 1) := by decide +kernel
theorem dX8_where_11 : decode cX8_where 11 = .ok (.goto 27, 3) := by decide +kernel
theorem dX8_where_14 : decode cX8_where 14 = .ok (.iload_n 2, 1) := by decide +kernel
theorem dX8_where_15 : decode cX8_where 15 = .ok (.invokestatic 446, 3) := by decide +kernel
theorem dX8_where_18 : decode cX8_where 18 = .ok (.ifCond .ne 7, 3) := by decide +kernel
theorem dX8_where_21 : decode cX8_where 21 = .ok (.iconst 2, 1) := by decide +kernel
theorem dX8_where_22 : decode cX8_where 22 = .ok (.goto 16, 3) := by decide +kernel
theorem dX8_where_25 : decode cX8_where 25 = .ok (.aload_n 0, 1) := by decide +kernel
theorem dX8_where_26 : decode cX8_where 26 = .ok (.iload_n 1, 1) := by decide +kernel
theorem dX8_where_27 : decode cX8_where 27 = .ok (.invokevirtual 296, 3) := by decide +kernel
theorem dX8_where_30 : decode cX8_where 30 = .ok (.ifCond .eq 7, 3) := by decide +kernel
theorem dX8_where_33 : decode cX8_where 33 = .ok (.iconst 0, 1) := by decide +kernel
theorem dX8_where_34 : decode cX8_where 34 = .ok (.goto 4, 3) := by decide +kernel
theorem dX8_where_37 : decode cX8_where 37 = .ok (.iconst 3, 1) := by decide +kernel
theorem dX8_where_38 : decode cX8_where 38 = .ok (.putfield 64, 3) := by decide +kernel
theorem dX8_where_41 : decode cX8_where 41 = .ok (.aload_n 0, 1) := by decide +kernel
theorem dX8_where_42 : decode cX8_where 42 = .ok (.getfield 64, 3) := by decide +kernel
theorem dX8_where_45 : decode cX8_where 45 = .ok (.ifCond .le 5, 3) := by decide +kernel
theorem dX8_where_48 : decode cX8_where 48 = .ok (.iconst 0, 1) := by decide +kernel
theorem dX8_where_49 : decode cX8_where 49 = .ok (.ireturn, 1) := by decide +kernel
theorem dX8_where_50 : decode cX8_where 50 = .ok (.iconst (-1), 1) := by decide +kernel
theorem dX8_where_51 : decode cX8_where 51 = .ok (.istore_n 3, 1) := by decide +kernel
theorem dX8_where_52 : decode cX8_where 52 = .ok (.ldc2_w 352, 3) := by decide +kernel
theorem dX8_where_55 : decode cX8_where 55 = .ok (.lstore 4, 2) := by decide +kernel
theorem dX8_where_57 : decode cX8_where 57 = .ok (.iconst 0, 1) := by decide +kernel
theorem dX8_where_58 : decode cX8_where 58 = .ok (.istore 6, 2) := by decide +kernel
theorem dX8_where_60 : decode cX8_where 60 = .ok (.iload 6, 2) := by decide +kernel
theorem dX8_where_62 : decode cX8_where 62 = .ok (.aload_n 0, 1) := by decide +kernel
theorem dX8_where_63 : decode cX8_where 63 = .ok (.getfield 9, 3) := by decide +kernel
theorem dX8_where_66 : decode cX8_where 66 = .ok (.iconst 1, 1) := by decide +kernel
theorem dX8_where_67 : decode cX8_where 67 = .ok (.iaload, 1) := by decide +kernel
theorem dX8_where_68 : decode cX8_where 68 = .ok (.if_icmp .ge 60, 3) := by decide +kernel
theorem dX8_where_71 : decode cX8_where 71 = .ok (.aload_n 0, 1) := by decide +kernel
theorem dX8_where_72 : decode cX8_where 72 = .ok (.iload 6, 2) := by decide +kernel
theorem dX8_where_74 : decode cX8_where 74 = .ok (.invokevirtual 293, 3) := by decide +kernel
theorem dX8_where_77 : decode cX8_where 77 = .ok (.iconst (-1), 1) := by decide +kernel
theorem dX8_where_78 : decode cX8_where 78 = .ok (.if_icmp .ne 6, 3) := by decide +kernel
theorem dX8_where_81 : decode cX8_where 81 = .ok (.goto 41, 3) := by decide +kernel
theorem dX8_where_84 : decode cX8_where 84 = .ok (.aload_n 0, 1) := by decide +kernel
theorem dX8_where_85 : decode cX8_where 85 = .ok (.invokevirtual 369, 3) := by decide +kernel
theorem dX8_where_88 : decode cX8_where 88 = .ok (.aload_n 0, 1) := by decide +kernel
theorem dX8_where_89 : decode cX8_where 89 = .ok (.iload_n 1, 1) := by decide +kernel
theorem dX8_where_90 : decode cX8_where 90 = .ok (.iload 6, 2) := by decide +kernel
theorem dX8_where_92 : decode cX8_where 92 = .ok (.invokevirtual 299, 3) := by decide +kernel
theorem dX8_where_95 : decode cX8_where 95 = .ok (.pop, 1) := by decide +kernel
theorem dX8_where_96 : decode cX8_where 96 = .ok (.aload_n 0, 1) := by decide +kernel
theorem dX8_where_97 : decode cX8_where 97 = .ok (.iload_n 1, 1) := by decide +kernel
theorem dX8_where_98 : decode cX8_where 98 = .ok (.iload_n 2, 1) := by decide +kernel
theorem dX8_where_99 : decode cX8_where 99 = .ok (.invokevirtual 442, 3) := by decide +kernel
theorem dX8_where_102 : decode cX8_where 102 = .ok (.lstore 7, 2) := by decide +kernel
theorem dX8_where_104 : decode cX8_where 104 = .ok (.lload 7, 2) := by decide +kernel
theorem dX8_where_106 : decode cX8_where 106 = .ok (.lload 4, 2) := by decide +kernel
theorem dX8_where_108 : decode cX8_where 108 = .ok (.lcmp, 1) := by decide +kernel
theorem dX8_where_109 : decode cX8_where 109 = .ok (.ifCond .gt 6, 3) := by decide +kernel
theorem dX8_where_112 : decode cX8_where 112 = .ok (.goto 10, 3) := by decide +kernel
theorem dX8_where_115 : decode cX8_where 115 = .ok (.iload 6, 2) := by decide +kernel
theorem dX8_where_117 : decode cX8_where 117 = .ok (.istore_n 3, 1) := by decide +kernel
theorem dX8_where_118 : decode cX8_where 118 = .ok (.lload 7, 2) := by decide +kernel
theorem dX8_where_120 : decode cX8_where 120 = .ok (.lstore 4, 2) := by decide +kernel
theorem dX8_where_122 : decode cX8_where 122 = .ok (.iinc 6 1, 3) := by decide +kernel
theorem dX8_where_125 : decode cX8_where 125 = .ok (.goto (-65), 3) := by decide +kernel
theorem dX8_where_128 : decode cX8_where 128 = .ok (.iload_n 3, 1) := by decide +kernel
theorem dX8_where_129 : decode cX8_where 129 = .ok (.ireturn, 1) := by decide +kernel
theorem dX8_isChangedOut_0 : decode cX8_isChangedOut 0 = .ok (.aload_n 0, 1) := by decide +kernel
theorem dX8_isChangedOut_1 : decode cX8_isChangedOut 1 = .ok (.iload_n 1, 1) := by decide +kernel
theorem dX8_isChangedOut_2 : decode cX8_isChangedOut 2 = .ok (.iconst 1, 1) := by decide +kernel
theorem dX8_isChangedOut_3 : decode cX8_isChangedOut 3 = .ok (.aload_n 0, 1) := by decide +kernel
theorem dX8_isChangedOut_4 : decode cX8_isChangedOut 4 = .ok (.invokevirtual 242, 3) := by decide +kernel
theorem dX8_isChangedOut_7 : decode cX8_isChangedOut 7 = .ok (.ishl, 1) := by decide +kernel
theorem dX8_isChangedOut_8 : decode cX8_isChangedOut 8 = .ok (.iconst 1, 1) := by decide +kernel
theorem dX8_isChangedOut_9 : decode cX8_isChangedOut 9 = .ok (.isub, 1) := by decide +kernel
theorem dX8_isChangedOut_10 : decode cX8_isChangedOut 10 = .ok (.iconst (-1), 1) := by decide +kernel
theorem dX8_isChangedOut_11 : decode cX8_isChangedOut 11 = .ok (.ixor, 1) := by decide +kernel
theorem dX8_isChangedOut_12 : decode cX8_isChangedOut 12 = .ok (.iand, 1) := by decide +kernel
theorem dX8_isChangedOut_13 : decode cX8_isChangedOut 13 = .ok (.ifCond .ne 19, 3) := by decide +kernel
theorem dX8_isChangedOut_16 : decode cX8_isChangedOut 16 = .ok (.iload_n 2, 1) := by decide +kernel
theorem dX8_isChangedOut_17 : decode cX8_isChangedOut 17 = .ok (.i2l, 1) := by decide +kernel
theorem dX8_isChangedOut_18 : decode cX8_isChangedOut 18 = .ok (.lconst 1, 1) := by decide +kernel
theorem dX8_isChangedOut_19 : decode cX8_isChangedOut 19 = .ok (.ldc2_w 417, 3) := by decide +kernel
theorem dX8_isChangedOut_22 : decode cX8_isChangedOut 22 = .ok (.invokestatic 125, 3) := by decide +kernel
theorem dX8_isChangedOut_25 : decode cX8_isChangedOut 25 = .ok (.ifCond .eq 7, 3) := by decide +kernel
theorem dX8_isChangedOut_28 : decode cX8_isChangedOut 28 = .ok (.iconst 0, 1) := by decide +kernel
theorem dX8_isChangedOut_29 : decode cX8_isChangedOut 29 = .ok (.goto 4, 3) := by decide +kernel
theorem dX8_isChangedOut_32 : decode cX8_isChangedOut 32 = .ok (.iconst 1, 1) := by decide +kernel
theorem dX8_isChangedOut_33 : decode cX8_isChangedOut 33 = .ok (.putfield 64, 3) := by decide +kernel
theorem dX8_isChangedOut_36 : decode cX8_isChangedOut 36 = .ok (.aload_n 0, 1) := by decide +kernel
theorem dX8_isChangedOut_37 : decode cX8_isChangedOut 37 = .ok (.getfield 64, 3) := by decide +kernel
theorem dX8_isChangedOut_40 : decode cX8_isChangedOut 40 = .ok (.ifCond .le 7, 3) := by decide +kernel
theorem dX8_isChangedOut_43 : decode cX8_isChangedOut 43 = .ok (.iconst 1, 1) := by decide +kernel
theorem dX8_isChangedOut_44 : decode cX8_isChangedOut 44 = .ok (.goto 4, 3) := by decide +kernel
theorem dX8_isChangedOut_47 : decode cX8_isChangedOut 47 = .ok (.iconst 0, 1) := by decide +kernel
theorem dX8_isChangedOut_48 : decode cX8_isChangedOut 48 = .ok (.ireturn, 1) := by decide +kernel
theorem dX8_laysTwos_0 : decode cX8_laysTwos 0 = .ok (.aload_n 0, 1) := by decide +kernel
theorem dX8_laysTwos_1 : decode cX8_laysTwos 1 = .ok (.iconst 0, 1) := by decide +kernel
theorem dX8_laysTwos_2 : decode cX8_laysTwos 2 = .ok (.putfield 455, 3) := by decide +kernel
theorem dX8_laysTwos_5 : decode cX8_laysTwos 5 = .ok (.aload_n 0, 1) := by decide +kernel
theorem dX8_laysTwos_6 : decode cX8_laysTwos 6 = .ok (.getfield 9, 3) := by decide +kernel
theorem dX8_laysTwos_9 : decode cX8_laysTwos 9 = .ok (.bipush 32, 2) := by decide +kernel
theorem dX8_laysTwos_11 : decode cX8_laysTwos 11 = .ok (.iaload, 1) := by decide +kernel
theorem dX8_laysTwos_12 : decode cX8_laysTwos 12 = .ok (.iconst (-1), 1) := by decide +kernel
theorem dX8_laysTwos_13 : decode cX8_laysTwos 13 = .ok (.ixor, 1) := by decide +kernel
theorem dX8_laysTwos_14 : decode cX8_laysTwos 14 = .ok (.istore_n 3, 1) := by decide +kernel
theorem dX8_laysTwos_15 : decode cX8_laysTwos 15 = .ok (.aload_n 0, 1) := by decide +kernel
theorem dX8_laysTwos_16 : decode cX8_laysTwos 16 = .ok (.invokevirtual 369, 3) := by decide +kernel
theorem dX8_laysTwos_19 : decode cX8_laysTwos 19 = .ok (.iconst 0, 1) := by decide +kernel
theorem dX8_laysTwos_20 : decode cX8_laysTwos 20 = .ok (.istore 4, 2) := by decide +kernel
theorem dX8_laysTwos_22 : decode cX8_laysTwos 22 = .ok (.iload 4, 2) := by decide +kernel
theorem dX8_laysTwos_24 : decode cX8_laysTwos 24 = .ok (.bipush 100, 2) := by decide +kernel
theorem dX8_laysTwos_26 : decode cX8_laysTwos 26 = .ok (.if_icmp .ge 86, 3) := by decide +kernel
theorem dX8_laysTwos_29 : decode cX8_laysTwos 29 = .ok (.iload 4, 2) := by decide +kernel
theorem dX8_laysTwos_31 : decode cX8_laysTwos 31 = .ok (.bipush 10, 2) := by decide +kernel
theorem dX8_laysTwos_33 : decode cX8_laysTwos 33 = .ok (.idiv, 1) := by decide +kernel
theorem dX8_laysTwos_34 : decode cX8_laysTwos 34 = .ok (.iload 4, 2) := by decide +kernel
theorem dX8_laysTwos_36 : decode cX8_laysTwos 36 = .ok (.bipush 10, 2) := by decide +kernel
theorem dX8_laysTwos_38 : decode cX8_laysTwos 38 = .ok (.irem, 1) := by decide +kernel
theorem dX8_laysTwos_39 : decode cX8_laysTwos 39 = .ok (.if_icmp .ge 67, 3) := by decide +kernel
theorem dX8_laysTwos_42 : decode cX8_laysTwos 42 = .ok (.aload_n 0, 1) := by decide +kernel
theorem dX8_laysTwos_43 : decode cX8_laysTwos 43 = .ok (.iload 4, 2) := by decide +kernel
theorem dX8_laysTwos_45 : decode cX8_laysTwos 45 = .ok (.bipush 10, 2) := by decide +kernel
theorem dX8_laysTwos_47 : decode cX8_laysTwos 47 = .ok (.idiv, 1) := by decide +kernel
theorem dX8_laysTwos_48 : decode cX8_laysTwos 48 = .ok (.i2l, 1) := by decide +kernel
theorem dX8_laysTwos_49 : decode cX8_laysTwos 49 = .ok (.iload 4, 2) := by decide +kernel
theorem dX8_laysTwos_51 : decode cX8_laysTwos 51 = .ok (.bipush 10, 2) := by decide +kernel
theorem dX8_laysTwos_53 : decode cX8_laysTwos 53 = .ok (.irem, 1) := by decide +kernel
theorem dX8_laysTwos_54 : decode cX8_laysTwos 54 = .ok (.i2l, 1) := by decide +kernel
theorem dX8_laysTwos_55 : decode cX8_laysTwos 55 = .ok (.invokevirtual 334, 3) := by decide +kernel
theorem dX8_laysTwos_58 : decode cX8_laysTwos 58 = .ok (.ifCond .eq 6, 3) := by decide +kernel
theorem dX8_laysTwos_61 : decode cX8_laysTwos 61 = .ok (.goto 45, 3) := by decide +kernel
theorem dX8_laysTwos_64 : decode cX8_laysTwos 64 = .ok (.aload_n 0, 1) := by decide +kernel
theorem dX8_laysTwos_65 : decode cX8_laysTwos 65 = .ok (.iload 4, 2) := by decide +kernel
theorem dX8_laysTwos_67 : decode cX8_laysTwos 67 = .ok (.bipush 10, 2) := by decide +kernel
theorem dX8_laysTwos_69 : decode cX8_laysTwos 69 = .ok (.idiv, 1) := by decide +kernel
theorem dX8_laysTwos_70 : decode cX8_laysTwos 70 = .ok (.iload 4, 2) := by decide +kernel
theorem dX8_laysTwos_72 : decode cX8_laysTwos 72 = .ok (.bipush 10, 2) := by decide +kernel
theorem dX8_laysTwos_74 : decode cX8_laysTwos 74 = .ok (.irem, 1) := by decide +kernel
theorem dX8_laysTwos_75 : decode cX8_laysTwos 75 = .ok (.invokevirtual 337, 3) := by decide +kernel
theorem dX8_laysTwos_78 : decode cX8_laysTwos 78 = .ok (.aload_n 0, 1) := by decide +kernel
theorem dX8_laysTwos_79 : decode cX8_laysTwos 79 = .ok (.iload_n 2, 1) := by decide +kernel
theorem dX8_laysTwos_80 : decode cX8_laysTwos 80 = .ok (.invokevirtual 399, 3) := by decide +kernel
theorem dX8_laysTwos_83 : decode cX8_laysTwos 83 = .ok (.aload_n 0, 1) := by decide +kernel
theorem dX8_laysTwos_84 : decode cX8_laysTwos 84 = .ok (.getfield 9, 3) := by decide +kernel
theorem dX8_laysTwos_87 : decode cX8_laysTwos 87 = .ok (.bipush 32, 2) := by decide +kernel
theorem dX8_laysTwos_89 : decode cX8_laysTwos 89 = .ok (.iaload, 1) := by decide +kernel
theorem dX8_laysTwos_90 : decode cX8_laysTwos 90 = .ok (.iload_n 3, 1) := by decide +kernel
theorem dX8_laysTwos_91 : decode cX8_laysTwos 91 = .ok (.iand, 1) := by decide +kernel
theorem dX8_laysTwos_92 : decode cX8_laysTwos 92 = .ok (.iload_n 1, 1) := by decide +kernel
theorem dX8_laysTwos_93 : decode cX8_laysTwos 93 = .ok (.if_icmp .ne 9, 3) := by decide +kernel
theorem dX8_laysTwos_96 : decode cX8_laysTwos 96 = .ok (.aload_n 0, 1) := by decide +kernel
theorem dX8_laysTwos_97 : decode cX8_laysTwos 97 = .ok (.iload 4, 2) := by decide +kernel
theorem dX8_laysTwos_99 : decode cX8_laysTwos 99 = .ok (.invokevirtual 458, 3) := by decide +kernel
theorem dX8_laysTwos_102 : decode cX8_laysTwos 102 = .ok (.aload_n 0, 1) := by decide +kernel
theorem dX8_laysTwos_103 : decode cX8_laysTwos 103 = .ok (.invokevirtual 381, 3) := by decide +kernel
theorem dX8_laysTwos_106 : decode cX8_laysTwos 106 = .ok (.iinc 4 1, 3) := by decide +kernel
theorem dX8_laysTwos_109 : decode cX8_laysTwos 109 = .ok (.goto (-87), 3) := by decide +kernel
theorem dX8_laysTwos_112 : decode cX8_laysTwos 112 = .ok (.return_, 1) := by decide +kernel
theorem dX8_addsTwo_0 : decode cX8_addsTwo 0 = .ok (.aload_n 0, 1) := by decide +kernel
theorem dX8_addsTwo_1 : decode cX8_addsTwo 1 = .ok (.getfield 48, 3) := by decide +kernel
theorem dX8_addsTwo_4 : decode cX8_addsTwo 4 = .ok (.aload_n 0, 1) := by decide +kernel
theorem dX8_addsTwo_5 : decode cX8_addsTwo 5 = .ok (.getfield 455, 3) := by decide +kernel
theorem dX8_addsTwo_8 : decode cX8_addsTwo 8 = .ok (.iload_n 1, 1) := by decide +kernel
theorem dX8_addsTwo_9 : decode cX8_addsTwo 9 = .ok (.iastore, 1) := by decide +kernel
theorem dX8_addsTwo_10 : decode cX8_addsTwo 10 = .ok (.iconst 0, 1) := by decide +kernel
theorem dX8_addsTwo_11 : decode cX8_addsTwo 11 = .ok (.istore_n 2, 1) := by decide +kernel
theorem dX8_addsTwo_12 : decode cX8_addsTwo 12 = .ok (.iload_n 2, 1) := by decide +kernel
theorem dX8_addsTwo_13 : decode cX8_addsTwo 13 = .ok (.aload_n 0, 1) := by decide +kernel
theorem dX8_addsTwo_14 : decode cX8_addsTwo 14 = .ok (.invokevirtual 242, 3) := by decide +kernel
theorem dX8_addsTwo_17 : decode cX8_addsTwo 17 = .ok (.if_icmp .ge 28, 3) := by decide +kernel
theorem dX8_addsTwo_20 : decode cX8_addsTwo 20 = .ok (.aload_n 0, 1) := by decide +kernel
theorem dX8_addsTwo_21 : decode cX8_addsTwo 21 = .ok (.getfield 51, 3) := by decide +kernel
theorem dX8_addsTwo_24 : decode cX8_addsTwo 24 = .ok (.bipush 8, 2) := by decide +kernel
theorem dX8_addsTwo_26 : decode cX8_addsTwo 26 = .ok (.aload_n 0, 1) := by decide +kernel
theorem dX8_addsTwo_27 : decode cX8_addsTwo 27 = .ok (.getfield 455, 3) := by decide +kernel
theorem dX8_addsTwo_30 : decode cX8_addsTwo 30 = .ok (.imul, 1) := by decide +kernel
theorem dX8_addsTwo_31 : decode cX8_addsTwo 31 = .ok (.iload_n 2, 1) := by decide +kernel
theorem dX8_addsTwo_32 : decode cX8_addsTwo 32 = .ok (.iadd, 1) := by decide +kernel
theorem dX8_addsTwo_33 : decode cX8_addsTwo 33 = .ok (.aload_n 0, 1) := by decide +kernel
theorem dX8_addsTwo_34 : decode cX8_addsTwo 34 = .ok (.iload_n 2, 1) := by decide +kernel
theorem dX8_addsTwo_35 : decode cX8_addsTwo 35 = .ok (.invokevirtual 402, 3) := by decide +kernel
theorem dX8_addsTwo_38 : decode cX8_addsTwo 38 = .ok (.iastore, 1) := by decide +kernel
theorem dX8_addsTwo_39 : decode cX8_addsTwo 39 = .ok (.iinc 2 1, 3) := by decide +kernel
theorem dX8_addsTwo_42 : decode cX8_addsTwo 42 = .ok (.goto (-30), 3) := by decide +kernel
theorem dX8_addsTwo_45 : decode cX8_addsTwo 45 = .ok (.aload_n 0, 1) := by decide +kernel
theorem dX8_addsTwo_46 : decode cX8_addsTwo 46 = .ok (.dup, 1) := by decide +kernel
theorem dX8_addsTwo_47 : decode cX8_addsTwo 47 = .ok (.getfield 455, 3) := by decide +kernel
theorem dX8_addsTwo_50 : decode cX8_addsTwo 50 = .ok (.iconst 1, 1) := by decide +kernel
theorem dX8_addsTwo_51 : decode cX8_addsTwo 51 = .ok (.iadd, 1) := by decide +kernel
theorem dX8_addsTwo_52 : decode cX8_addsTwo 52 = .ok (.putfield 455, 3) := by decide +kernel
theorem dX8_addsTwo_55 : decode cX8_addsTwo 55 = .ok (.return_, 1) := by decide +kernel
theorem dX8_changed_0 : decode cX8_changed 0 = .ok (.aload_n 0, 1) := by decide +kernel
theorem dX8_changed_1 : decode cX8_changed 1 = .ok (.iload_n 1, 1) := by decide +kernel
theorem dX8_changed_2 : decode cX8_changed 2 = .ok (.iload_n 2, 1) := by decide +kernel
theorem dX8_changed_3 : decode cX8_changed 3 = .ok (.invokevirtual 461, 3) := by decide +kernel
theorem dX8_changed_6 : decode cX8_changed 6 = .ok (.ifCond .eq 5, 3) := by decide +kernel
theorem dX8_changed_9 : decode cX8_changed 9 = .ok (.iconst 0, 1) := by decide +kernel
theorem dX8_changed_10 : decode cX8_changed 10 = .ok (.ireturn, 1) := by decide +kernel
theorem dX8_changed_11 : decode cX8_changed 11 = .ok (.aload_n 0, 1) := by decide +kernel
theorem dX8_changed_12 : decode cX8_changed 12 = .ok (.iload_n 1, 1) := by decide +kernel
theorem dX8_changed_13 : decode cX8_changed 13 = .ok (.iload_n 2, 1) := by decide +kernel
theorem dX8_changed_14 : decode cX8_changed 14 = .ok (.invokevirtual 464, 3) := by decide +kernel
theorem dX8_changed_17 : decode cX8_changed 17 = .ok (.aload_n 0, 1) := by decide +kernel
theorem dX8_changed_18 : decode cX8_changed 18 = .ok (.getfield 455, 3) := by decide +kernel
theorem dX8_changed_21 : decode cX8_changed 21 = .ok (.ireturn, 1) := by decide +kernel
theorem dX8_changedAt_0 : decode cX8_changedAt 0 = .ok (.aload_n 0, 1) := by decide +kernel
theorem dX8_changedAt_1 : decode cX8_changedAt 1 = .ok (.iload_n 1, 1) := by decide +kernel
theorem dX8_changedAt_2 : decode cX8_changedAt 2 = .ok (.iload_n 2, 1) := by decide +kernel
theorem dX8_changedAt_3 : decode cX8_changedAt 3 = .ok (.invokevirtual 461, 3) := by decide +kernel
theorem dX8_changedAt_6 : decode cX8_changedAt 6 = .ok (.ifCond .eq 5, 3) := by decide +kernel
theorem dX8_changedAt_9 : decode cX8_changedAt 9 = .ok (.iconst 0, 1) := by decide +kernel
theorem dX8_changedAt_10 : decode cX8_changedAt 10 = .ok (.ireturn, 1) := by decide +kernel
theorem dX8_changedAt_11 : decode cX8_changedAt 11 = .ok (.iload_n 3, 1) := by decide +kernel
theorem dX8_changedAt_12 : decode cX8_changedAt 12 = .ok (.ifCond .ge 9, 3) := by decide +kernel
theorem dX8_changedAt_15 : decode cX8_changedAt 15 = .ok (.aload_n 0, 1) := by decide +kernel
theorem dX8_changedAt_16 : decode cX8_changedAt 16 = .ok (.iconst 1, 1) := by decide +kernel
theorem dX8_changedAt_17 : decode cX8_changedAt 17 = .ok (.invokevirtual 231, 3) := by decide +kernel
theorem dX8_changedAt_20 : decode cX8_changedAt 20 = .ok (.ireturn, 1) := by decide +kernel
theorem dX8_changedAt_21 : decode cX8_changedAt 21 = .ok (.aload_n 0, 1) := by decide +kernel
theorem dX8_changedAt_22 : decode cX8_changedAt 22 = .ok (.iload_n 1, 1) := by decide +kernel
theorem dX8_changedAt_23 : decode cX8_changedAt 23 = .ok (.iload_n 2, 1) := by decide +kernel
theorem dX8_changedAt_24 : decode cX8_changedAt 24 = .ok (.invokevirtual 464, 3) := by decide +kernel
theorem dX8_changedAt_27 : decode cX8_changedAt 27 = .ok (.iload_n 3, 1) := by decide +kernel
theorem dX8_changedAt_28 : decode cX8_changedAt 28 = .ok (.aload_n 0, 1) := by decide +kernel
theorem dX8_changedAt_29 : decode cX8_changedAt 29 = .ok (.getfield 455, 3) := by decide +kernel
theorem dX8_changedAt_32 : decode cX8_changedAt 32 = .ok (.if_icmp .ge 12, 3) := by decide +kernel
theorem dX8_changedAt_35 : decode cX8_changedAt 35 = .ok (.aload_n 0, 1) := by decide +kernel
theorem dX8_changedAt_36 : decode cX8_changedAt 36 = .ok (.getfield 48, 3) := by decide +kernel
theorem dX8_changedAt_39 : decode cX8_changedAt 39 = .ok (.iload_n 3, 1) := by decide +kernel
theorem dX8_changedAt_40 : decode cX8_changedAt 40 = .ok (.iaload, 1) := by decide +kernel
theorem dX8_changedAt_41 : decode cX8_changedAt 41 = .ok (.goto 4, 3) := by decide +kernel
theorem dX8_changedAt_44 : decode cX8_changedAt 44 = .ok (.iconst (-1), 1) := by decide +kernel
theorem dX8_changedAt_45 : decode cX8_changedAt 45 = .ok (.ireturn, 1) := by decide +kernel
theorem dX8_sure_0 : decode cX8_sure 0 = .ok (.aload_n 0, 1) := by decide +kernel
theorem dX8_sure_1 : decode cX8_sure 1 = .ok (.iload_n 1, 1) := by decide +kernel
theorem dX8_sure_2 : decode cX8_sure 2 = .ok (.iload_n 2, 1) := by decide +kernel
theorem dX8_sure_3 : decode cX8_sure 3 = .ok (.invokevirtual 461, 3) := by decide +kernel
theorem dX8_sure_6 : decode cX8_sure 6 = .ok (.ifCond .eq 5, 3) := by decide +kernel
theorem dX8_sure_9 : decode cX8_sure 9 = .ok (.iconst 0, 1) := by decide +kernel
theorem dX8_sure_10 : decode cX8_sure 10 = .ok (.ireturn, 1) := by decide +kernel
theorem dX8_sure_11 : decode cX8_sure 11 = .ok (.aload_n 0, 1) := by decide +kernel
theorem dX8_sure_12 : decode cX8_sure 12 = .ok (.iload_n 1, 1) := by decide +kernel
theorem dX8_sure_13 : decode cX8_sure 13 = .ok (.iload_n 2, 1) := by decide +kernel
theorem dX8_sure_14 : decode cX8_sure 14 = .ok (.invokevirtual 464, 3) := by decide +kernel
theorem dX8_sure_17 : decode cX8_sure 17 = .ok (.aload_n 0, 1) := by decide +kernel
theorem dX8_sure_18 : decode cX8_sure 18 = .ok (.getfield 455, 3) := by decide +kernel
theorem dX8_sure_21 : decode cX8_sure 21 = .ok (.ifCond .ne 7, 3) := by decide +kernel
theorem dX8_sure_24 : decode cX8_sure 24 = .ok (.iconst 0, 1) := by decide +kernel
theorem dX8_sure_25 : decode cX8_sure 25 = .ok (.goto 11, 3) := by decide +kernel
theorem dX8_sure_28 : decode cX8_sure 28 = .ok (.iconst 1, 1) := by decide +kernel
theorem dX8_sure_29 : decode cX8_sure 29 = .ok (.aload_n 0, 1) := by decide +kernel
theorem dX8_sure_30 : decode cX8_sure 30 = .ok (.invokevirtual 242, 3) := by decide +kernel
theorem dX8_sure_33 : decode cX8_sure 33 = .ok (.ishl, 1) := by decide +kernel
theorem dX8_sure_34 : decode cX8_sure 34 = .ok (.iconst 1, 1) := by decide +kernel
theorem dX8_sure_35 : decode cX8_sure 35 = .ok (.isub, 1) := by decide +kernel
theorem dX8_sure_36 : decode cX8_sure 36 = .ok (.istore_n 3, 1) := by decide +kernel
theorem dX8_sure_37 : decode cX8_sure 37 = .ok (.iconst 0, 1) := by decide +kernel
theorem dX8_sure_38 : decode cX8_sure 38 = .ok (.istore 4, 2) := by decide +kernel
theorem dX8_sure_40 : decode cX8_sure 40 = .ok (.iload 4, 2) := by decide +kernel
theorem dX8_sure_42 : decode cX8_sure 42 = .ok (.aload_n 0, 1) := by decide +kernel
theorem dX8_sure_43 : decode cX8_sure 43 = .ok (.getfield 455, 3) := by decide +kernel
theorem dX8_sure_46 : decode cX8_sure 46 = .ok (.if_icmp .ge 37, 3) := by decide +kernel
theorem dX8_sure_49 : decode cX8_sure 49 = .ok (.iload_n 3, 1) := by decide +kernel
theorem dX8_sure_50 : decode cX8_sure 50 = .ok (.iconst 1, 1) := by decide +kernel
theorem dX8_sure_51 : decode cX8_sure 51 = .ok (.aload_n 0, 1) := by decide +kernel
theorem dX8_sure_52 : decode cX8_sure 52 = .ok (.getfield 48, 3) := by decide +kernel
theorem dX8_sure_55 : decode cX8_sure 55 = .ok (.iload 4, 2) := by decide +kernel
theorem dX8_sure_57 : decode cX8_sure 57 = .ok (.iaload, 1) := by decide +kernel
theorem dX8_sure_58 : decode cX8_sure 58 = .ok (.bipush 10, 2) := by decide +kernel
theorem dX8_sure_60 : decode cX8_sure 60 = .ok (.idiv, 1) := by decide +kernel
theorem dX8_sure_61 : decode cX8_sure 61 = .ok (.ishl, 1) := by decide +kernel
theorem dX8_sure_62 : decode cX8_sure 62 = .ok (.iconst 1, 1) := by decide +kernel
theorem dX8_sure_63 : decode cX8_sure 63 = .ok (.aload_n 0, 1) := by decide +kernel
theorem dX8_sure_64 : decode cX8_sure 64 = .ok (.getfield 48, 3) := by decide +kernel
theorem dX8_sure_67 : decode cX8_sure 67 = .ok (.iload 4, 2) := by decide +kernel
theorem dX8_sure_69 : decode cX8_sure 69 = .ok (.iaload, 1) := by decide +kernel
theorem dX8_sure_70 : decode cX8_sure 70 = .ok (.bipush 10, 2) := by decide +kernel
theorem dX8_sure_72 : decode cX8_sure 72 = .ok (.irem, 1) := by decide +kernel
theorem dX8_sure_73 : decode cX8_sure 73 = .ok (.ishl, 1) := by decide +kernel
theorem dX8_sure_74 : decode cX8_sure 74 = .ok (.ior, 1) := by decide +kernel
theorem dX8_sure_75 : decode cX8_sure 75 = .ok (.iand, 1) := by decide +kernel
theorem dX8_sure_76 : decode cX8_sure 76 = .ok (.istore_n 3, 1) := by decide +kernel
theorem dX8_sure_77 : decode cX8_sure 77 = .ok (.iinc 4 1, 3) := by decide +kernel
theorem dX8_sure_80 : decode cX8_sure 80 = .ok (.goto (-40), 3) := by decide +kernel
theorem dX8_sure_83 : decode cX8_sure 83 = .ok (.iload_n 3, 1) := by decide +kernel
theorem dX8_sure_84 : decode cX8_sure 84 = .ok (.ireturn, 1) := by decide +kernel
theorem dX8_mostAlike_0 : decode cX8_mostAlike 0 = .ok (.iconst 0, 1) := by decide +kernel
theorem dX8_mostAlike_1 : decode cX8_mostAlike 1 = .ok (.istore_n 2, 1) := by decide +kernel
theorem dX8_mostAlike_2 : decode cX8_mostAlike 2 = .ok (.iconst 0, 1) := by decide +kernel
theorem dX8_mostAlike_3 : decode cX8_mostAlike 3 = .ok (.istore_n 3, 1) := by decide +kernel
theorem dX8_mostAlike_4 : decode cX8_mostAlike 4 = .ok (.iload_n 3, 1) := by decide +kernel
theorem dX8_mostAlike_5 : decode cX8_mostAlike 5 = .ok (.aload_n 0, 1) := by decide +kernel
theorem dX8_mostAlike_6 : decode cX8_mostAlike 6 = .ok (.getfield 455, 3) := by decide +kernel
theorem dX8_mostAlike_9 : decode cX8_mostAlike 9 = .ok (.if_icmp .ge 73, 3) := by decide +kernel
theorem dX8_mostAlike_12 : decode cX8_mostAlike 12 = .ok (.iconst 0, 1) := by decide +kernel
theorem dX8_mostAlike_13 : decode cX8_mostAlike 13 = .ok (.istore 4, 2) := by decide +kernel
theorem dX8_mostAlike_15 : decode cX8_mostAlike 15 = .ok (.iconst 0, 1) := by decide +kernel
theorem dX8_mostAlike_16 : decode cX8_mostAlike 16 = .ok (.istore 5, 2) := by decide +kernel
theorem dX8_mostAlike_18 : decode cX8_mostAlike 18 = .ok (.iload 5, 2) := by decide +kernel
theorem dX8_mostAlike_20 : decode cX8_mostAlike 20 = .ok (.aload_n 0, 1) := by decide +kernel
theorem dX8_mostAlike_21 : decode cX8_mostAlike 21 = .ok (.getfield 455, 3) := by decide +kernel
theorem dX8_mostAlike_24 : decode cX8_mostAlike 24 = .ok (.if_icmp .ge 45, 3) := by decide +kernel
theorem dX8_mostAlike_27 : decode cX8_mostAlike 27 = .ok (.iload 4, 2) := by decide +kernel
theorem dX8_mostAlike_29 : decode cX8_mostAlike 29 = .ok (.aload_n 0, 1) := by decide +kernel
theorem dX8_mostAlike_30 : decode cX8_mostAlike 30 = .ok (.getfield 51, 3) := by decide +kernel
theorem dX8_mostAlike_33 : decode cX8_mostAlike 33 = .ok (.bipush 8, 2) := by decide +kernel
theorem dX8_mostAlike_35 : decode cX8_mostAlike 35 = .ok (.iload 5, 2) := by decide +kernel
theorem dX8_mostAlike_37 : decode cX8_mostAlike 37 = .ok (.imul, 1) := by decide +kernel
theorem dX8_mostAlike_38 : decode cX8_mostAlike 38 = .ok (.iload_n 1, 1) := by decide +kernel
theorem dX8_mostAlike_39 : decode cX8_mostAlike 39 = .ok (.iadd, 1) := by decide +kernel
theorem dX8_mostAlike_40 : decode cX8_mostAlike 40 = .ok (.iaload, 1) := by decide +kernel
theorem dX8_mostAlike_41 : decode cX8_mostAlike 41 = .ok (.aload_n 0, 1) := by decide +kernel
theorem dX8_mostAlike_42 : decode cX8_mostAlike 42 = .ok (.getfield 51, 3) := by decide +kernel
theorem dX8_mostAlike_45 : decode cX8_mostAlike 45 = .ok (.bipush 8, 2) := by decide +kernel
theorem dX8_mostAlike_47 : decode cX8_mostAlike 47 = .ok (.iload_n 3, 1) := by decide +kernel
theorem dX8_mostAlike_48 : decode cX8_mostAlike 48 = .ok (.imul, 1) := by decide +kernel
theorem dX8_mostAlike_49 : decode cX8_mostAlike 49 = .ok (.iload_n 1, 1) := by decide +kernel
theorem dX8_mostAlike_50 : decode cX8_mostAlike 50 = .ok (.iadd, 1) := by decide +kernel
theorem dX8_mostAlike_51 : decode cX8_mostAlike 51 = .ok (.iaload, 1) := by decide +kernel
theorem dX8_mostAlike_52 : decode cX8_mostAlike 52 = .ok (.if_icmp .ne 7, 3) := by decide +kernel
theorem dX8_mostAlike_55 : decode cX8_mostAlike 55 = .ok (.iconst 1, 1) := by decide +kernel
theorem dX8_mostAlike_56 : decode cX8_mostAlike 56 = .ok (.goto 4, 3) := by decide +kernel
theorem dX8_mostAlike_59 : decode cX8_mostAlike 59 = .ok (.iconst 0, 1) := by decide +kernel
theorem dX8_mostAlike_60 : decode cX8_mostAlike 60 = .ok (.iadd, 1) := by decide +kernel
theorem dX8_mostAlike_61 : decode cX8_mostAlike 61 = .ok (.istore 4, 2) := by decide +kernel
theorem dX8_mostAlike_63 : decode cX8_mostAlike 63 = .ok (.iinc 5 1, 3) := by decide +kernel
theorem dX8_mostAlike_66 : decode cX8_mostAlike 66 = .ok (.goto (-48), 3) := by decide +kernel
theorem dX8_mostAlike_69 : decode cX8_mostAlike 69 = .ok (.iload_n 2, 1) := by decide +kernel
theorem dX8_mostAlike_70 : decode cX8_mostAlike 70 = .ok (.iload 4, 2) := by decide +kernel
theorem dX8_mostAlike_72 : decode cX8_mostAlike 72 = .ok (.invokestatic 278, 3) := by decide +kernel
theorem dX8_mostAlike_75 : decode cX8_mostAlike 75 = .ok (.istore_n 2, 1) := by decide +kernel
theorem dX8_mostAlike_76 : decode cX8_mostAlike 76 = .ok (.iinc 3 1, 3) := by decide +kernel
theorem dX8_mostAlike_79 : decode cX8_mostAlike 79 = .ok (.goto (-75), 3) := by decide +kernel
theorem dX8_mostAlike_82 : decode cX8_mostAlike 82 = .ok (.iload_n 2, 1) := by decide +kernel
theorem dX8_mostAlike_83 : decode cX8_mostAlike 83 = .ok (.ireturn, 1) := by decide +kernel
theorem dX8_look_0 : decode cX8_look 0 = .ok (.aload_n 0, 1) := by decide +kernel
theorem dX8_look_1 : decode cX8_look 1 = .ok (.iload_n 1, 1) := by decide +kernel
theorem dX8_look_2 : decode cX8_look 2 = .ok (.iload_n 2, 1) := by decide +kernel
theorem dX8_look_3 : decode cX8_look 3 = .ok (.invokevirtual 461, 3) := by decide +kernel
theorem dX8_look_6 : decode cX8_look 6 = .ok (.ifCond .eq 5, 3) := by decide +kernel
theorem dX8_look_9 : decode cX8_look 9 = .ok (.iconst 0, 1) := by decide +kernel
theorem dX8_look_10 : decode cX8_look 10 = .ok (.ireturn, 1) := by decide +kernel
theorem dX8_look_11 : decode cX8_look 11 = .ok (.aload_n 0, 1) := by decide +kernel
theorem dX8_look_12 : decode cX8_look 12 = .ok (.iload_n 1, 1) := by decide +kernel
theorem dX8_look_13 : decode cX8_look 13 = .ok (.iload_n 2, 1) := by decide +kernel
theorem dX8_look_14 : decode cX8_look 14 = .ok (.invokevirtual 464, 3) := by decide +kernel
theorem dX8_look_17 : decode cX8_look 17 = .ok (.iconst (-1), 1) := by decide +kernel
theorem dX8_look_18 : decode cX8_look 18 = .ok (.istore_n 3, 1) := by decide +kernel
theorem dX8_look_19 : decode cX8_look 19 = .ok (.ldc_w 467, 3) := by decide +kernel
theorem dX8_look_22 : decode cX8_look 22 = .ok (.istore 4, 2) := by decide +kernel
theorem dX8_look_24 : decode cX8_look 24 = .ok (.iconst 0, 1) := by decide +kernel
theorem dX8_look_25 : decode cX8_look 25 = .ok (.istore 5, 2) := by decide +kernel
theorem dX8_look_27 : decode cX8_look 27 = .ok (.iload 5, 2) := by decide +kernel
theorem dX8_look_29 : decode cX8_look 29 = .ok (.aload_n 0, 1) := by decide +kernel
theorem dX8_look_30 : decode cX8_look 30 = .ok (.invokevirtual 242, 3) := by decide +kernel
theorem dX8_look_33 : decode cX8_look 33 = .ok (.if_icmp .ge 41, 3) := by decide +kernel
theorem dX8_look_36 : decode cX8_look 36 = .ok (.aload_n 0, 1) := by decide +kernel
theorem dX8_look_37 : decode cX8_look 37 = .ok (.getfield 455, 3) := by decide +kernel
theorem dX8_look_40 : decode cX8_look 40 = .ok (.ifCond .le 34, 3) := by decide +kernel
theorem dX8_look_43 : decode cX8_look 43 = .ok (.aload_n 0, 1) := by decide +kernel
theorem dX8_look_44 : decode cX8_look 44 = .ok (.iload 5, 2) := by decide +kernel
theorem dX8_look_46 : decode cX8_look 46 = .ok (.invokevirtual 468, 3) := by decide +kernel
theorem dX8_look_49 : decode cX8_look 49 = .ok (.iload 4, 2) := by decide +kernel
theorem dX8_look_51 : decode cX8_look 51 = .ok (.if_icmp .lt 6, 3) := by decide +kernel
theorem dX8_look_54 : decode cX8_look 54 = .ok (.goto 14, 3) := by decide +kernel
theorem dX8_look_57 : decode cX8_look 57 = .ok (.iload 5, 2) := by decide +kernel
theorem dX8_look_59 : decode cX8_look 59 = .ok (.istore_n 3, 1) := by decide +kernel
theorem dX8_look_60 : decode cX8_look 60 = .ok (.aload_n 0, 1) := by decide +kernel
theorem dX8_look_61 : decode cX8_look 61 = .ok (.iload 5, 2) := by decide +kernel
theorem dX8_look_63 : decode cX8_look 63 = .ok (.invokevirtual 468, 3) := by decide +kernel
theorem dX8_look_66 : decode cX8_look 66 = .ok (.istore 4, 2) := by decide +kernel
theorem dX8_look_68 : decode cX8_look 68 = .ok (.iinc 5 1, 3) := by decide +kernel
theorem dX8_look_71 : decode cX8_look 71 = .ok (.goto (-44), 3) := by decide +kernel
theorem dX8_look_74 : decode cX8_look 74 = .ok (.iload_n 3, 1) := by decide +kernel
theorem dX8_look_75 : decode cX8_look 75 = .ok (.ireturn, 1) := by decide +kernel
theorem dX8_isTray_0 : decode cX8_isTray 0 = .ok (.iload_n 0, 1) := by decide +kernel
theorem dX8_isTray_1 : decode cX8_isTray 1 = .ok (.i2l, 1) := by decide +kernel
theorem dX8_isTray_2 : decode cX8_isTray 2 = .ok (.lconst 0, 1) := by decide +kernel
theorem dX8_isTray_3 : decode cX8_isTray 3 = .ok (.ldc2_w 367, 3) := by decide +kernel
theorem dX8_isTray_6 : decode cX8_isTray 6 = .ok (.invokestatic 125, 3) := by decide +kernel
theorem dX8_isTray_9 : decode cX8_isTray 9 = .ok (.ireturn, 1) := by decide +kernel
theorem dX8_tray_0 : decode cX8_tray 0 = .ok (.aload_n 0, 1) := by decide +kernel
theorem dX8_tray_1 : decode cX8_tray 1 = .ok (.iload_n 1, 1) := by decide +kernel
theorem dX8_tray_2 : decode cX8_tray 2 = .ok (.invokestatic 349, 3) := by decide +kernel
theorem dX8_tray_5 : decode cX8_tray 5 = .ok (.ifCond .ne 7, 3) := by decide +kernel
theorem dX8_tray_8 : decode cX8_tray 8 = .ok (.iconst 1, 1) := by decide +kernel
theorem dX8_tray_9 : decode cX8_tray 9 = .ok (.goto 32, 3) := by decide +kernel
theorem dX8_tray_12 : decode cX8_tray 12 = .ok (.iload_n 2, 1) := by decide +kernel
theorem dX8_tray_13 : decode cX8_tray 13 = .ok (.i2l, 1) := by decide +kernel
theorem dX8_tray_14 : decode cX8_tray 14 = .ok (.lconst 0, 1) := by decide +kernel
theorem dX8_tray_15 : decode cX8_tray 15 = .ok (.ldc2_w 367, 3) := by decide +kernel
theorem dX8_tray_18 : decode cX8_tray 18 = .ok (.invokestatic 125, 3) := by decide +kernel
theorem dX8_tray_21 : decode cX8_tray 21 = .ok (.ifCond .eq 15, 3) := by decide +kernel
theorem dX8_tray_24 : decode cX8_tray 24 = .ok (.iload_n 3, 1) := by decide +kernel
theorem dX8_tray_25 : decode cX8_tray 25 = .ok (.i2l, 1) := by decide +kernel
theorem dX8_tray_26 : decode cX8_tray 26 = .ok (.lconst 0, 1) := by decide +kernel
theorem dX8_tray_27 : decode cX8_tray 27 = .ok (.ldc2_w 388, 3) := by decide +kernel
theorem dX8_tray_30 : decode cX8_tray 30 = .ok (.invokestatic 125, 3) := by decide +kernel
theorem dX8_tray_33 : decode cX8_tray 33 = .ok (.ifCond .ne 7, 3) := by decide +kernel
theorem dX8_tray_36 : decode cX8_tray 36 = .ok (.iconst 2, 1) := by decide +kernel
theorem dX8_tray_37 : decode cX8_tray 37 = .ok (.goto 4, 3) := by decide +kernel
theorem dX8_tray_40 : decode cX8_tray 40 = .ok (.iconst 0, 1) := by decide +kernel
theorem dX8_tray_41 : decode cX8_tray 41 = .ok (.putfield 64, 3) := by decide +kernel
theorem dX8_tray_44 : decode cX8_tray 44 = .ok (.aload_n 0, 1) := by decide +kernel
theorem dX8_tray_45 : decode cX8_tray 45 = .ok (.getfield 64, 3) := by decide +kernel
theorem dX8_tray_48 : decode cX8_tray 48 = .ok (.ifCond .le 4, 3) := by decide +kernel
theorem dX8_tray_51 : decode cX8_tray 51 = .ok (.return_, 1) := by decide +kernel
theorem dX8_tray_52 : decode cX8_tray 52 = .ok (.aload_n 0, 1) := by decide +kernel
theorem dX8_tray_53 : decode cX8_tray 53 = .ok (.getfield 54, 3) := by decide +kernel
theorem dX8_tray_56 : decode cX8_tray 56 = .ok (.iload_n 1, 1) := by decide +kernel
theorem dX8_tray_57 : decode cX8_tray 57 = .ok (.iload_n 2, 1) := by decide +kernel
theorem dX8_tray_58 : decode cX8_tray 58 = .ok (.iastore, 1) := by decide +kernel
theorem dX8_tray_59 : decode cX8_tray 59 = .ok (.aload_n 0, 1) := by decide +kernel
theorem dX8_tray_60 : decode cX8_tray 60 = .ok (.getfield 57, 3) := by decide +kernel
theorem dX8_tray_63 : decode cX8_tray 63 = .ok (.iload_n 1, 1) := by decide +kernel
theorem dX8_tray_64 : decode cX8_tray 64 = .ok (.iload_n 3, 1) := by decide +kernel
theorem dX8_tray_65 : decode cX8_tray 65 = .ok (.iastore, 1) := by decide +kernel
theorem dX8_tray_66 : decode cX8_tray 66 = .ok (.iconst 0, 1) := by decide +kernel
theorem dX8_tray_67 : decode cX8_tray 67 = .ok (.istore 4, 2) := by decide +kernel
theorem dX8_tray_69 : decode cX8_tray 69 = .ok (.iload 4, 2) := by decide +kernel
theorem dX8_tray_71 : decode cX8_tray 71 = .ok (.bipush 30, 2) := by decide +kernel
theorem dX8_tray_73 : decode cX8_tray 73 = .ok (.if_icmp .ge 22, 3) := by decide +kernel
theorem dX8_tray_76 : decode cX8_tray 76 = .ok (.aload_n 0, 1) := by decide +kernel
theorem dX8_tray_77 : decode cX8_tray 77 = .ok (.getfield 60, 3) := by decide +kernel
theorem dX8_tray_80 : decode cX8_tray 80 = .ok (.bipush 30, 2) := by decide +kernel
theorem dX8_tray_82 : decode cX8_tray 82 = .ok (.iload_n 1, 1) := by decide +kernel
theorem dX8_tray_83 : decode cX8_tray 83 = .ok (.imul, 1) := by decide +kernel
theorem dX8_tray_84 : decode cX8_tray 84 = .ok (.iload 4, 2) := by decide +kernel
theorem dX8_tray_86 : decode cX8_tray 86 = .ok (.iadd, 1) := by decide +kernel
theorem dX8_tray_87 : decode cX8_tray 87 = .ok (.lconst 0, 1) := by decide +kernel
theorem dX8_tray_88 : decode cX8_tray 88 = .ok (.lastore, 1) := by decide +kernel
theorem dX8_tray_89 : decode cX8_tray 89 = .ok (.iinc 4 1, 3) := by decide +kernel
theorem dX8_tray_92 : decode cX8_tray 92 = .ok (.goto (-23), 3) := by decide +kernel
theorem dX8_tray_95 : decode cX8_tray 95 = .ok (.return_, 1) := by decide +kernel
theorem dX8_cutTo_0 : decode cX8_cutTo 0 = .ok (.bipush 64, 2) := by decide +kernel
theorem dX8_cutTo_2 : decode cX8_cutTo 2 = .ok (.bipush 8, 2) := by decide +kernel
theorem dX8_cutTo_4 : decode cX8_cutTo 4 = .ok (.aload_n 0, 1) := by decide +kernel
theorem dX8_cutTo_5 : decode cX8_cutTo 5 = .ok (.getfield 54, 3) := by decide +kernel
theorem dX8_cutTo_8 : decode cX8_cutTo 8 = .ok (.iload_n 1, 1) := by decide +kernel
theorem dX8_cutTo_9 : decode cX8_cutTo 9 = .ok (.iaload, 1) := by decide +kernel
theorem dX8_cutTo_10 : decode cX8_cutTo 10 = .ok (.ishl, 1) := by decide +kernel
theorem dX8_cutTo_11 : decode cX8_cutTo 11 = .ok (.isub, 1) := by decide +kernel
theorem dX8_cutTo_12 : decode cX8_cutTo 12 = .ok (.istore 5, 2) := by decide +kernel
theorem dX8_cutTo_14 : decode cX8_cutTo 14 = .ok (.aload_n 0, 1) := by decide +kernel
theorem dX8_cutTo_15 : decode cX8_cutTo 15 = .ok (.getfield 60, 3) := by decide +kernel
theorem dX8_cutTo_18 : decode cX8_cutTo 18 = .ok (.bipush 30, 2) := by decide +kernel
theorem dX8_cutTo_20 : decode cX8_cutTo 20 = .ok (.iload_n 1, 1) := by decide +kernel
theorem dX8_cutTo_21 : decode cX8_cutTo 21 = .ok (.imul, 1) := by decide +kernel
theorem dX8_cutTo_22 : decode cX8_cutTo 22 = .ok (.iload_n 2, 1) := by decide +kernel
theorem dX8_cutTo_23 : decode cX8_cutTo 23 = .ok (.iadd, 1) := by decide +kernel
theorem dX8_cutTo_24 : decode cX8_cutTo 24 = .ok (.lload_n 3, 1) := by decide +kernel
theorem dX8_cutTo_25 : decode cX8_cutTo 25 = .ok (.iload 5, 2) := by decide +kernel
theorem dX8_cutTo_27 : decode cX8_cutTo 27 = .ok (.lshl, 1) := by decide +kernel
theorem dX8_cutTo_28 : decode cX8_cutTo 28 = .ok (.iload 5, 2) := by decide +kernel
theorem dX8_cutTo_30 : decode cX8_cutTo 30 = .ok (.lshr, 1) := by decide +kernel
theorem dX8_cutTo_31 : decode cX8_cutTo 31 = .ok (.lastore, 1) := by decide +kernel
theorem dX8_cutTo_32 : decode cX8_cutTo 32 = .ok (.aload_n 0, 1) := by decide +kernel
theorem dX8_cutTo_33 : decode cX8_cutTo 33 = .ok (.getfield 60, 3) := by decide +kernel
theorem dX8_cutTo_36 : decode cX8_cutTo 36 = .ok (.bipush 30, 2) := by decide +kernel
theorem dX8_cutTo_38 : decode cX8_cutTo 38 = .ok (.iload_n 1, 1) := by decide +kernel
theorem dX8_cutTo_39 : decode cX8_cutTo 39 = .ok (.imul, 1) := by decide +kernel
theorem dX8_cutTo_40 : decode cX8_cutTo 40 = .ok (.iload_n 2, 1) := by decide +kernel
theorem dX8_cutTo_41 : decode cX8_cutTo 41 = .ok (.iadd, 1) := by decide +kernel
theorem dX8_cutTo_42 : decode cX8_cutTo 42 = .ok (.laload, 1) := by decide +kernel
theorem dX8_cutTo_43 : decode cX8_cutTo 43 = .ok (.lreturn, 1) := by decide +kernel
theorem dX8_write_0 : decode cX8_write 0 = .ok (.aload_n 0, 1) := by decide +kernel
theorem dX8_write_1 : decode cX8_write 1 = .ok (.aload_n 0, 1) := by decide +kernel
theorem dX8_write_2 : decode cX8_write 2 = .ok (.iload_n 1, 1) := by decide +kernel
theorem dX8_write_3 : decode cX8_write 3 = .ok (.invokevirtual 364, 3) := by decide +kernel
theorem dX8_write_6 : decode cX8_write 6 = .ok (.putfield 64, 3) := by decide +kernel
theorem dX8_write_9 : decode cX8_write 9 = .ok (.aload_n 0, 1) := by decide +kernel
theorem dX8_write_10 : decode cX8_write 10 = .ok (.getfield 64, 3) := by decide +kernel
theorem dX8_write_13 : decode cX8_write 13 = .ok (.ifCond .le 5, 3) := by decide +kernel
theorem dX8_write_16 : decode cX8_write 16 = .ok (.lconst 0, 1) := by decide +kernel
theorem dX8_write_17 : decode cX8_write 17 = .ok (.lreturn, 1) := by decide +kernel
theorem dX8_write_18 : decode cX8_write 18 = .ok (.iload_n 2, 1) := by decide +kernel
theorem dX8_write_19 : decode cX8_write 19 = .ok (.i2l, 1) := by decide +kernel
theorem dX8_write_20 : decode cX8_write 20 = .ok (.lconst 0, 1) := by decide +kernel
theorem dX8_write_21 : decode cX8_write 21 = .ok (.aload_n 0, 1) := by decide +kernel
theorem dX8_write_22 : decode cX8_write 22 = .ok (.getfield 57, 3) := by decide +kernel
theorem dX8_write_25 : decode cX8_write 25 = .ok (.iload_n 1, 1) := by decide +kernel
theorem dX8_write_26 : decode cX8_write 26 = .ok (.iaload, 1) := by decide +kernel
theorem dX8_write_27 : decode cX8_write 27 = .ok (.iconst 1, 1) := by decide +kernel
theorem dX8_write_28 : decode cX8_write 28 = .ok (.isub, 1) := by decide +kernel
theorem dX8_write_29 : decode cX8_write 29 = .ok (.i2l, 1) := by decide +kernel
theorem dX8_write_30 : decode cX8_write 30 = .ok (.invokestatic 125, 3) := by decide +kernel
theorem dX8_write_33 : decode cX8_write 33 = .ok (.ifCond .eq 13, 3) := by decide +kernel
theorem dX8_write_36 : decode cX8_write 36 = .ok (.aload_n 0, 1) := by decide +kernel
theorem dX8_write_37 : decode cX8_write 37 = .ok (.iload_n 1, 1) := by decide +kernel
theorem dX8_write_38 : decode cX8_write 38 = .ok (.iload_n 2, 1) := by decide +kernel
theorem dX8_write_39 : decode cX8_write 39 = .ok (.lload_n 3, 1) := by decide +kernel
theorem dX8_write_40 : decode cX8_write 40 = .ok (.invokevirtual 471, 3) := by decide +kernel
theorem dX8_write_43 : decode cX8_write 43 = .ok (.goto 9, 3) := by decide +kernel
theorem dX8_write_46 : decode cX8_write 46 = .ok (.aload_n 0, 1) := by decide +kernel
theorem dX8_write_47 : decode cX8_write 47 = .ok (.iconst 3, 1) := by decide +kernel
theorem dX8_write_48 : decode cX8_write 48 = .ok (.invokevirtual 231, 3) := by decide +kernel
theorem dX8_write_51 : decode cX8_write 51 = .ok (.i2l, 1) := by decide +kernel
theorem dX8_write_52 : decode cX8_write 52 = .ok (.lreturn, 1) := by decide +kernel
theorem dX8_copy_0 : decode cX8_copy 0 = .ok (.aload_n 0, 1) := by decide +kernel
theorem dX8_copy_1 : decode cX8_copy 1 = .ok (.iload_n 1, 1) := by decide +kernel
theorem dX8_copy_2 : decode cX8_copy 2 = .ok (.invokestatic 349, 3) := by decide +kernel
theorem dX8_copy_5 : decode cX8_copy 5 = .ok (.ifCond .eq 12, 3) := by decide +kernel
theorem dX8_copy_8 : decode cX8_copy 8 = .ok (.aload_n 0, 1) := by decide +kernel
theorem dX8_copy_9 : decode cX8_copy 9 = .ok (.iload_n 2, 1) := by decide +kernel
theorem dX8_copy_10 : decode cX8_copy 10 = .ok (.i2l, 1) := by decide +kernel
theorem dX8_copy_11 : decode cX8_copy 11 = .ok (.invokevirtual 310, 3) := by decide +kernel
theorem dX8_copy_14 : decode cX8_copy 14 = .ok (.ifCond .ne 7, 3) := by decide +kernel
theorem dX8_copy_17 : decode cX8_copy 17 = .ok (.iconst 1, 1) := by decide +kernel
theorem dX8_copy_18 : decode cX8_copy 18 = .ok (.goto 18, 3) := by decide +kernel
theorem dX8_copy_21 : decode cX8_copy 21 = .ok (.aload_n 0, 1) := by decide +kernel
theorem dX8_copy_22 : decode cX8_copy 22 = .ok (.getfield 54, 3) := by decide +kernel
theorem dX8_copy_25 : decode cX8_copy 25 = .ok (.iload_n 1, 1) := by decide +kernel
theorem dX8_copy_26 : decode cX8_copy 26 = .ok (.iaload, 1) := by decide +kernel
theorem dX8_copy_27 : decode cX8_copy 27 = .ok (.iconst (-1), 1) := by decide +kernel
theorem dX8_copy_28 : decode cX8_copy 28 = .ok (.if_icmp .ne 7, 3) := by decide +kernel
theorem dX8_copy_31 : decode cX8_copy 31 = .ok (.iconst 2, 1) := by decide +kernel
theorem dX8_copy_32 : decode cX8_copy 32 = .ok (.goto 4, 3) := by decide +kernel
theorem dX8_copy_35 : decode cX8_copy 35 = .ok (.iconst 0, 1) := by decide +kernel
theorem dX8_copy_36 : decode cX8_copy 36 = .ok (.putfield 64, 3) := by decide +kernel
theorem dX8_copy_39 : decode cX8_copy 39 = .ok (.aload_n 0, 1) := by decide +kernel
theorem dX8_copy_40 : decode cX8_copy 40 = .ok (.getfield 64, 3) := by decide +kernel
theorem dX8_copy_43 : decode cX8_copy 43 = .ok (.ifCond .le 5, 3) := by decide +kernel
theorem dX8_copy_46 : decode cX8_copy 46 = .ok (.iconst 0, 1) := by decide +kernel
theorem dX8_copy_47 : decode cX8_copy 47 = .ok (.ireturn, 1) := by decide +kernel
theorem dX8_copy_48 : decode cX8_copy 48 = .ok (.aload_n 0, 1) := by decide +kernel
theorem dX8_copy_49 : decode cX8_copy 49 = .ok (.invokevirtual 369, 3) := by decide +kernel
theorem dX8_copy_52 : decode cX8_copy 52 = .ok (.iconst 0, 1) := by decide +kernel
theorem dX8_copy_53 : decode cX8_copy 53 = .ok (.istore_n 3, 1) := by decide +kernel
theorem dX8_copy_54 : decode cX8_copy 54 = .ok (.iload_n 3, 1) := by decide +kernel
theorem dX8_copy_55 : decode cX8_copy 55 = .ok (.aload_n 0, 1) := by decide +kernel
theorem dX8_copy_56 : decode cX8_copy 56 = .ok (.getfield 57, 3) := by decide +kernel
theorem dX8_copy_59 : decode cX8_copy 59 = .ok (.iload_n 1, 1) := by decide +kernel
theorem dX8_copy_60 : decode cX8_copy 60 = .ok (.iaload, 1) := by decide +kernel
theorem dX8_copy_61 : decode cX8_copy 61 = .ok (.if_icmp .ge 26, 3) := by decide +kernel
theorem dX8_copy_64 : decode cX8_copy 64 = .ok (.aload_n 0, 1) := by decide +kernel
theorem dX8_copy_65 : decode cX8_copy 65 = .ok (.iload_n 1, 1) := by decide +kernel
theorem dX8_copy_66 : decode cX8_copy 66 = .ok (.iload_n 3, 1) := by decide +kernel
theorem dX8_copy_67 : decode cX8_copy 67 = .ok (.aload_n 0, 1) := by decide +kernel
theorem dX8_copy_68 : decode cX8_copy 68 = .ok (.iload_n 2, 1) := by decide +kernel
theorem dX8_copy_69 : decode cX8_copy 69 = .ok (.invokevirtual 402, 3) := by decide +kernel
theorem dX8_copy_72 : decode cX8_copy 72 = .ok (.i2l, 1) := by decide +kernel
theorem dX8_copy_73 : decode cX8_copy 73 = .ok (.invokevirtual 471, 3) := by decide +kernel
theorem dX8_copy_76 : decode cX8_copy 76 = .ok (.pop2, 1) := by decide +kernel
theorem dX8_copy_77 : decode cX8_copy 77 = .ok (.aload_n 0, 1) := by decide +kernel
theorem dX8_copy_78 : decode cX8_copy 78 = .ok (.invokevirtual 345, 3) := by decide +kernel
theorem dX8_copy_81 : decode cX8_copy 81 = .ok (.iinc 3 1, 3) := by decide +kernel
theorem dX8_copy_84 : decode cX8_copy 84 = .ok (.goto (-30), 3) := by decide +kernel
theorem dX8_copy_87 : decode cX8_copy 87 = .ok (.aload_n 0, 1) := by decide +kernel
theorem dX8_copy_88 : decode cX8_copy 88 = .ok (.invokevirtual 381, 3) := by decide +kernel
theorem dX8_copy_91 : decode cX8_copy 91 = .ok (.aload_n 0, 1) := by decide +kernel
theorem dX8_copy_92 : decode cX8_copy 92 = .ok (.getfield 57, 3) := by decide +kernel
theorem dX8_copy_95 : decode cX8_copy 95 = .ok (.iload_n 1, 1) := by decide +kernel
theorem dX8_copy_96 : decode cX8_copy 96 = .ok (.iaload, 1) := by decide +kernel
theorem dX8_copy_97 : decode cX8_copy 97 = .ok (.ireturn, 1) := by decide +kernel
theorem dX8_image_0 : decode cX8_image 0 = .ok (.aload_n 0, 1) := by decide +kernel
theorem dX8_image_1 : decode cX8_image 1 = .ok (.iload_n 1, 1) := by decide +kernel
theorem dX8_image_2 : decode cX8_image 2 = .ok (.i2l, 1) := by decide +kernel
theorem dX8_image_3 : decode cX8_image 3 = .ok (.lconst 0, 1) := by decide +kernel
theorem dX8_image_4 : decode cX8_image 4 = .ok (.ldc2_w 475, 3) := by decide +kernel
theorem dX8_image_7 : decode cX8_image 7 = .ok (.invokestatic 125, 3) := by decide +kernel
theorem dX8_image_10 : decode cX8_image 10 = .ok (.ifCond .eq 7, 3) := by decide +kernel
theorem dX8_image_13 : decode cX8_image 13 = .ok (.iconst 0, 1) := by decide +kernel
theorem dX8_image_14 : decode cX8_image 14 = .ok (.goto 4, 3) := by decide +kernel
theorem dX8_image_17 : decode cX8_image 17 = .ok (.iconst 1, 1) := by decide +kernel
theorem dX8_image_18 : decode cX8_image 18 = .ok (.putfield 64, 3) := by decide +kernel
theorem dX8_image_21 : decode cX8_image 21 = .ok (.aload_n 0, 1) := by decide +kernel
theorem dX8_image_22 : decode cX8_image 22 = .ok (.getfield 64, 3) := by decide +kernel
theorem dX8_image_25 : decode cX8_image 25 = .ok (.ifCond .le 4, 3) := by decide +kernel
theorem dX8_image_28 : decode cX8_image 28 = .ok (.return_, 1) := by decide +kernel
theorem dX8_image_29 : decode cX8_image 29 = .ok (.aload_n 0, 1) := by decide +kernel
theorem dX8_image_30 : decode cX8_image 30 = .ok (.getfield 19, 3) := by decide +kernel
theorem dX8_image_33 : decode cX8_image 33 = .ok (.iload_n 1, 1) := by decide +kernel
theorem dX8_image_34 : decode cX8_image 34 = .ok (.iconst 1, 1) := by decide +kernel
theorem dX8_image_35 : decode cX8_image 35 = .ok (.bastore, 1) := by decide +kernel
theorem dX8_image_36 : decode cX8_image 36 = .ok (.iconst 0, 1) := by decide +kernel
theorem dX8_image_37 : decode cX8_image 37 = .ok (.istore_n 2, 1) := by decide +kernel
theorem dX8_image_38 : decode cX8_image 38 = .ok (.iload_n 2, 1) := by decide +kernel
theorem dX8_image_39 : decode cX8_image 39 = .ok (.sipush 3020, 3) := by decide +kernel
theorem dX8_image_42 : decode cX8_image 42 = .ok (.if_icmp .ge 27, 3) := by decide +kernel
theorem dX8_image_45 : decode cX8_image 45 = .ok (.aload_n 0, 1) := by decide +kernel
theorem dX8_image_46 : decode cX8_image 46 = .ok (.getfield 16, 3) := by decide +kernel
theorem dX8_image_49 : decode cX8_image 49 = .ok (.sipush 3020, 3) := by decide +kernel
theorem dX8_image_52 : decode cX8_image 52 = .ok (.iload_n 1, 1) := by decide +kernel
theorem dX8_image_53 : decode cX8_image 53 = .ok (.imul, 1) := by decide +kernel
theorem dX8_image_54 : decode cX8_image 54 = .ok (.iload_n 2, 1) := by decide +kernel
theorem dX8_image_55 : decode cX8_image 55 = .ok (.iadd, 1) := by decide +kernel
theorem dX8_image_56 : decode cX8_image 56 = .ok (.aload_n 0, 1) := by decide +kernel
theorem dX8_image_57 : decode cX8_image 57 = .ok (.getfield 9, 3) := by decide +kernel
theorem dX8_image_60 : decode cX8_image 60 = .ok (.iload_n 2, 1) := by decide +kernel
theorem dX8_image_61 : decode cX8_image 61 = .ok (.iaload, 1) := by decide +kernel
theorem dX8_image_62 : decode cX8_image 62 = .ok (.iastore, 1) := by decide +kernel
theorem dX8_image_63 : decode cX8_image 63 = .ok (.iinc 2 1, 3) := by decide +kernel
theorem dX8_image_66 : decode cX8_image 66 = .ok (.goto (-28), 3) := by decide +kernel
theorem dX8_image_69 : decode cX8_image 69 = .ok (.return_, 1) := by decide +kernel
theorem dX8_restore_0 : decode cX8_restore 0 = .ok (.aload_n 0, 1) := by decide +kernel
theorem dX8_restore_1 : decode cX8_restore 1 = .ok (.iload_n 1, 1) := by decide +kernel
theorem dX8_restore_2 : decode cX8_restore 2 = .ok (.i2l, 1) := by decide +kernel
theorem dX8_restore_3 : decode cX8_restore 3 = .ok (.lconst 0, 1) := by decide +kernel
theorem dX8_restore_4 : decode cX8_restore 4 = .ok (.ldc2_w 475, 3) := by decide +kernel
theorem dX8_restore_7 : decode cX8_restore 7 = .ok (.invokestatic 125, 3) := by decide +kernel
theorem dX8_restore_10 : decode cX8_restore 10 = .ok (.ifCond .ne 7, 3) := by decide +kernel
theorem dX8_restore_13 : decode cX8_restore 13 = .ok (.iconst 1, 1) := by decide +kernel
theorem dX8_restore_14 : decode cX8_restore 14 = .ok (.goto 17, 3) := by decide +kernel
theorem dX8_restore_17 : decode cX8_restore 17 = .ok (.aload_n 0, 1) := by decide +kernel
theorem dX8_restore_18 : decode cX8_restore 18 = .ok (.getfield 19, 3) := by decide +kernel
theorem dX8_restore_21 : decode cX8_restore 21 = .ok (.iload_n 1, 1) := by decide +kernel
theorem dX8_restore_22 : decode cX8_restore 22 = .ok (.baload, 1) := by decide +kernel
theorem dX8_restore_23 : decode cX8_restore 23 = .ok (.ifCond .ne 7, 3) := by decide +kernel
theorem dX8_restore_26 : decode cX8_restore 26 = .ok (.iconst 2, 1) := by decide +kernel
theorem dX8_restore_27 : decode cX8_restore 27 = .ok (.goto 4, 3) := by decide +kernel
theorem dX8_restore_30 : decode cX8_restore 30 = .ok (.iconst 0, 1) := by decide +kernel
theorem dX8_restore_31 : decode cX8_restore 31 = .ok (.putfield 64, 3) := by decide +kernel
theorem dX8_restore_34 : decode cX8_restore 34 = .ok (.aload_n 0, 1) := by decide +kernel
theorem dX8_restore_35 : decode cX8_restore 35 = .ok (.getfield 64, 3) := by decide +kernel
theorem dX8_restore_38 : decode cX8_restore 38 = .ok (.ifCond .le 4, 3) := by decide +kernel
theorem dX8_restore_41 : decode cX8_restore 41 = .ok (.return_, 1) := by decide +kernel
theorem dX8_restore_42 : decode cX8_restore 42 = .ok (.iconst 0, 1) := by decide +kernel
theorem dX8_restore_43 : decode cX8_restore 43 = .ok (.istore_n 2, 1) := by decide +kernel
theorem dX8_restore_44 : decode cX8_restore 44 = .ok (.iload_n 2, 1) := by decide +kernel
theorem dX8_restore_45 : decode cX8_restore 45 = .ok (.sipush 3020, 3) := by decide +kernel
theorem dX8_restore_48 : decode cX8_restore 48 = .ok (.if_icmp .ge 27, 3) := by decide +kernel
theorem dX8_restore_51 : decode cX8_restore 51 = .ok (.aload_n 0, 1) := by decide +kernel
theorem dX8_restore_52 : decode cX8_restore 52 = .ok (.getfield 9, 3) := by decide +kernel
theorem dX8_restore_55 : decode cX8_restore 55 = .ok (.iload_n 2, 1) := by decide +kernel
theorem dX8_restore_56 : decode cX8_restore 56 = .ok (.aload_n 0, 1) := by decide +kernel
theorem dX8_restore_57 : decode cX8_restore 57 = .ok (.getfield 16, 3) := by decide +kernel
theorem dX8_restore_60 : decode cX8_restore 60 = .ok (.sipush 3020, 3) := by decide +kernel
theorem dX8_restore_63 : decode cX8_restore 63 = .ok (.iload_n 1, 1) := by decide +kernel
theorem dX8_restore_64 : decode cX8_restore 64 = .ok (.imul, 1) := by decide +kernel
theorem dX8_restore_65 : decode cX8_restore 65 = .ok (.iload_n 2, 1) := by decide +kernel
theorem dX8_restore_66 : decode cX8_restore 66 = .ok (.iadd, 1) := by decide +kernel
theorem dX8_restore_67 : decode cX8_restore 67 = .ok (.iaload, 1) := by decide +kernel
theorem dX8_restore_68 : decode cX8_restore 68 = .ok (.iastore, 1) := by decide +kernel
theorem dX8_restore_69 : decode cX8_restore 69 = .ok (.iinc 2 1, 3) := by decide +kernel
theorem dX8_restore_72 : decode cX8_restore 72 = .ok (.goto (-28), 3) := by decide +kernel
theorem dX8_restore_75 : decode cX8_restore 75 = .ok (.return_, 1) := by decide +kernel
theorem dX8_ups_0 : decode cX8_ups 0 = .ok (.iconst 0, 1) := by decide +kernel
theorem dX8_ups_1 : decode cX8_ups 1 = .ok (.istore_n 1, 1) := by decide +kernel
theorem dX8_ups_2 : decode cX8_ups 2 = .ok (.iconst 0, 1) := by decide +kernel
theorem dX8_ups_3 : decode cX8_ups 3 = .ok (.istore_n 2, 1) := by decide +kernel
theorem dX8_ups_4 : decode cX8_ups 4 = .ok (.iload_n 2, 1) := by decide +kernel
theorem dX8_ups_5 : decode cX8_ups 5 = .ok (.aload_n 0, 1) := by decide +kernel
theorem dX8_ups_6 : decode cX8_ups 6 = .ok (.invokevirtual 242, 3) := by decide +kernel
theorem dX8_ups_9 : decode cX8_ups 9 = .ok (.if_icmp .ge 27, 3) := by decide +kernel
theorem dX8_ups_12 : decode cX8_ups 12 = .ok (.iload_n 1, 1) := by decide +kernel
theorem dX8_ups_13 : decode cX8_ups 13 = .ok (.aload_n 0, 1) := by decide +kernel
theorem dX8_ups_14 : decode cX8_ups 14 = .ok (.iload_n 2, 1) := by decide +kernel
theorem dX8_ups_15 : decode cX8_ups 15 = .ok (.invokevirtual 296, 3) := by decide +kernel
theorem dX8_ups_18 : decode cX8_ups 18 = .ok (.ifCond .eq 9, 3) := by decide +kernel
theorem dX8_ups_21 : decode cX8_ups 21 = .ok (.iconst 1, 1) := by decide +kernel
theorem dX8_ups_22 : decode cX8_ups 22 = .ok (.iload_n 2, 1) := by decide +kernel
theorem dX8_ups_23 : decode cX8_ups 23 = .ok (.ishl, 1) := by decide +kernel
theorem dX8_ups_24 : decode cX8_ups 24 = .ok (.goto 4, 3) := by decide +kernel
theorem dX8_ups_27 : decode cX8_ups 27 = .ok (.iconst 0, 1) := by decide +kernel
theorem dX8_ups_28 : decode cX8_ups 28 = .ok (.ior, 1) := by decide +kernel
theorem dX8_ups_29 : decode cX8_ups 29 = .ok (.istore_n 1, 1) := by decide +kernel
theorem dX8_ups_30 : decode cX8_ups 30 = .ok (.iinc 2 1, 3) := by decide +kernel
theorem dX8_ups_33 : decode cX8_ups 33 = .ok (.goto (-29), 3) := by decide +kernel
theorem dX8_ups_36 : decode cX8_ups 36 = .ok (.iload_n 1, 1) := by decide +kernel
theorem dX8_ups_37 : decode cX8_ups 37 = .ok (.ireturn, 1) := by decide +kernel
theorem dX8_count_0 : decode cX8_count 0 = .ok (.aload_n 0, 1) := by decide +kernel
theorem dX8_count_1 : decode cX8_count 1 = .ok (.iconst 0, 1) := by decide +kernel
theorem dX8_count_2 : decode cX8_count 2 = .ok (.putfield 64, 3) := by decide +kernel
theorem dX8_count_5 : decode cX8_count 5 = .ok (.iload_n 1, 1) := by decide +kernel
theorem dX8_count_6 : decode cX8_count 6 = .ok (.tableswitch 141 0 9 #[54, 61, 68, 75, 80, 85, 93, 101, 128, 136], 54) := by decide +kernel
theorem dX8_count_60 : decode cX8_count 60 = .ok (.aload_n 0, 1) := by decide +kernel
theorem dX8_count_61 : decode cX8_count 61 = .ok (.getfield 9, 3) := by decide +kernel
theorem dX8_count_64 : decode cX8_count 64 = .ok (.iconst 0, 1) := by decide +kernel
theorem dX8_count_65 : decode cX8_count 65 = .ok (.iaload, 1) := by decide +kernel
theorem dX8_count_66 : decode cX8_count 66 = .ok (.ireturn, 1) := by decide +kernel
theorem dX8_count_67 : decode cX8_count 67 = .ok (.aload_n 0, 1) := by decide +kernel
theorem dX8_count_68 : decode cX8_count 68 = .ok (.getfield 9, 3) := by decide +kernel
theorem dX8_count_71 : decode cX8_count 71 = .ok (.iconst 1, 1) := by decide +kernel
theorem dX8_count_72 : decode cX8_count 72 = .ok (.iaload, 1) := by decide +kernel
theorem dX8_count_73 : decode cX8_count 73 = .ok (.ireturn, 1) := by decide +kernel
theorem dX8_count_74 : decode cX8_count 74 = .ok (.aload_n 0, 1) := by decide +kernel
theorem dX8_count_75 : decode cX8_count 75 = .ok (.getfield 9, 3) := by decide +kernel
theorem dX8_count_78 : decode cX8_count 78 = .ok (.iconst 2, 1) := by decide +kernel
theorem dX8_count_79 : decode cX8_count 79 = .ok (.iaload, 1) := by decide +kernel
theorem dX8_count_80 : decode cX8_count 80 = .ok (.ireturn, 1) := by decide +kernel
theorem dX8_count_81 : decode cX8_count 81 = .ok (.aload_n 0, 1) := by decide +kernel
theorem dX8_count_82 : decode cX8_count 82 = .ok (.invokevirtual 242, 3) := by decide +kernel
theorem dX8_count_85 : decode cX8_count 85 = .ok (.ireturn, 1) := by decide +kernel
theorem dX8_count_86 : decode cX8_count 86 = .ok (.aload_n 0, 1) := by decide +kernel
theorem dX8_count_87 : decode cX8_count 87 = .ok (.invokevirtual 477, 3) := by decide +kernel
theorem dX8_count_90 : decode cX8_count 90 = .ok (.ireturn, 1) := by decide +kernel
theorem dX8_count_91 : decode cX8_count 91 = .ok (.aload_n 0, 1) := by decide +kernel
theorem dX8_count_92 : decode cX8_count 92 = .ok (.getfield 9, 3) := by decide +kernel
theorem dX8_count_95 : decode cX8_count 95 = .ok (.bipush 32, 2) := by decide +kernel
theorem dX8_count_97 : decode cX8_count 97 = .ok (.iaload, 1) := by decide +kernel
theorem dX8_count_98 : decode cX8_count 98 = .ok (.ireturn, 1) := by decide +kernel
theorem dX8_count_99 : decode cX8_count 99 = .ok (.aload_n 0, 1) := by decide +kernel
theorem dX8_count_100 : decode cX8_count 100 = .ok (.getfield 9, 3) := by decide +kernel
theorem dX8_count_103 : decode cX8_count 103 = .ok (.bipush 33, 2) := by decide +kernel
theorem dX8_count_105 : decode cX8_count 105 = .ok (.iaload, 1) := by decide +kernel
theorem dX8_count_106 : decode cX8_count 106 = .ok (.ireturn, 1) := by decide +kernel
theorem dX8_count_107 : decode cX8_count 107 = .ok (.aload_n 0, 1) := by decide +kernel
theorem dX8_count_108 : decode cX8_count 108 = .ok (.getfield 9, 3) := by decide +kernel
theorem dX8_count_111 : decode cX8_count 111 = .ok (.iconst 1, 1) := by decide +kernel
theorem dX8_count_112 : decode cX8_count 112 = .ok (.iaload, 1) := by decide +kernel
theorem dX8_count_113 : decode cX8_count 113 = .ok (.aload_n 0, 1) := by decide +kernel
theorem dX8_count_114 : decode cX8_count 114 = .ok (.getfield 9, 3) := by decide +kernel
theorem dX8_count_117 : decode cX8_count 117 = .ok (.iconst 2, 1) := by decide +kernel
theorem dX8_count_118 : decode cX8_count 118 = .ok (.iaload, 1) := by decide +kernel
theorem dX8_count_119 : decode cX8_count 119 = .ok (.imul, 1) := by decide +kernel
theorem dX8_count_120 : decode cX8_count 120 = .ok (.aload_n 0, 1) := by decide +kernel
theorem dX8_count_121 : decode cX8_count 121 = .ok (.invokevirtual 242, 3) := by decide +kernel
theorem dX8_count_124 : decode cX8_count 124 = .ok (.isub, 1) := by decide +kernel
theorem dX8_count_125 : decode cX8_count 125 = .ok (.aload_n 0, 1) := by decide +kernel
theorem dX8_count_126 : decode cX8_count 126 = .ok (.invokevirtual 477, 3) := by decide +kernel
theorem dX8_count_129 : decode cX8_count 129 = .ok (.invokestatic 342, 3) := by decide +kernel
theorem dX8_count_132 : decode cX8_count 132 = .ok (.iadd, 1) := by decide +kernel
theorem dX8_count_133 : decode cX8_count 133 = .ok (.ireturn, 1) := by decide +kernel
theorem dX8_count_134 : decode cX8_count 134 = .ok (.aload_n 0, 1) := by decide +kernel
theorem dX8_count_135 : decode cX8_count 135 = .ok (.getfield 9, 3) := by decide +kernel
theorem dX8_count_138 : decode cX8_count 138 = .ok (.bipush 7, 2) := by decide +kernel
theorem dX8_count_140 : decode cX8_count 140 = .ok (.iaload, 1) := by decide +kernel
theorem dX8_count_141 : decode cX8_count 141 = .ok (.ireturn, 1) := by decide +kernel
theorem dX8_count_142 : decode cX8_count 142 = .ok (.aload_n 0, 1) := by decide +kernel
theorem dX8_count_143 : decode cX8_count 143 = .ok (.getfield 67, 3) := by decide +kernel
theorem dX8_count_146 : decode cX8_count 146 = .ok (.ireturn, 1) := by decide +kernel
theorem dX8_count_147 : decode cX8_count 147 = .ok (.iconst (-1), 1) := by decide +kernel
theorem dX8_count_148 : decode cX8_count 148 = .ok (.ireturn, 1) := by decide +kernel
