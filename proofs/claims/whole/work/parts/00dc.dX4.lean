theorem dX4_init_0 : decode cX4_init 0 = .ok (.aload_n 0, 1) := by decide +kernel
theorem dX4_init_1 : decode cX4_init 1 = .ok (.invokespecial 3, 3) := by decide +kernel
theorem dX4_init_4 : decode cX4_init 4 = .ok (.aload_n 0, 1) := by decide +kernel
theorem dX4_init_5 : decode cX4_init 5 = .ok (.sipush 901, 3) := by decide +kernel
theorem dX4_init_8 : decode cX4_init 8 = .ok (.newarray .int, 2) := by decide +kernel
theorem dX4_init_10 : decode cX4_init 10 = .ok (.putfield 9, 3) := by decide +kernel
theorem dX4_init_13 : decode cX4_init 13 = .ok (.aload_n 0, 1) := by decide +kernel
theorem dX4_init_14 : decode cX4_init 14 = .ok (.sipush 901, 3) := by decide +kernel
theorem dX4_init_17 : decode cX4_init 17 = .ok (.newarray .int, 2) := by decide +kernel
theorem dX4_init_19 : decode cX4_init 19 = .ok (.putfield 15, 3) := by decide +kernel
theorem dX4_init_22 : decode cX4_init 22 = .ok (.aload_n 0, 1) := by decide +kernel
theorem dX4_init_23 : decode cX4_init 23 = .ok (.sipush 901, 3) := by decide +kernel
theorem dX4_init_26 : decode cX4_init 26 = .ok (.newarray .int, 2) := by decide +kernel
theorem dX4_init_28 : decode cX4_init 28 = .ok (.putfield 18, 3) := by decide +kernel
theorem dX4_init_31 : decode cX4_init 31 = .ok (.aload_n 0, 1) := by decide +kernel
theorem dX4_init_32 : decode cX4_init 32 = .ok (.sipush 900, 3) := by decide +kernel
theorem dX4_init_35 : decode cX4_init 35 = .ok (.newarray .int, 2) := by decide +kernel
theorem dX4_init_37 : decode cX4_init 37 = .ok (.putfield 21, 3) := by decide +kernel
theorem dX4_init_40 : decode cX4_init 40 = .ok (.aload_n 0, 1) := by decide +kernel
theorem dX4_init_41 : decode cX4_init 41 = .ok (.iconst 0, 1) := by decide +kernel
theorem dX4_init_42 : decode cX4_init 42 = .ok (.putfield 24, 3) := by decide +kernel
theorem dX4_init_45 : decode cX4_init 45 = .ok (.aload_n 0, 1) := by decide +kernel
theorem dX4_init_46 : decode cX4_init 46 = .ok (.iconst 0, 1) := by decide +kernel
theorem dX4_init_47 : decode cX4_init 47 = .ok (.putfield 28, 3) := by decide +kernel
theorem dX4_init_50 : decode cX4_init 50 = .ok (.aload_n 0, 1) := by decide +kernel
theorem dX4_init_51 : decode cX4_init 51 = .ok (.iconst 0, 1) := by decide +kernel
theorem dX4_init_52 : decode cX4_init 52 = .ok (.putfield 31, 3) := by decide +kernel
theorem dX4_init_55 : decode cX4_init 55 = .ok (.aload_n 0, 1) := by decide +kernel
theorem dX4_init_56 : decode cX4_init 56 = .ok (.bipush 8, 2) := by decide +kernel
theorem dX4_init_58 : decode cX4_init 58 = .ok (.putfield 34, 3) := by decide +kernel
theorem dX4_init_61 : decode cX4_init 61 = .ok (.aload_n 0, 1) := by decide +kernel
theorem dX4_init_62 : decode cX4_init 62 = .ok (.iconst 0, 1) := by decide +kernel
theorem dX4_init_63 : decode cX4_init 63 = .ok (.putfield 37, 3) := by decide +kernel
theorem dX4_init_66 : decode cX4_init 66 = .ok (.aload_n 0, 1) := by decide +kernel
theorem dX4_init_67 : decode cX4_init 67 = .ok (.iconst (-1), 1) := by decide +kernel
theorem dX4_init_68 : decode cX4_init 68 = .ok (.putfield 40, 3) := by decide +kernel
theorem dX4_init_71 : decode cX4_init 71 = .ok (.aload_n 0, 1) := by decide +kernel
theorem dX4_init_72 : decode cX4_init 72 = .ok (.aload_n 1, 1) := by decide +kernel
theorem dX4_init_73 : decode cX4_init 73 = .ok (.putfield 43, 3) := by decide +kernel
theorem dX4_init_76 : decode cX4_init 76 = .ok (.aload_n 0, 1) := by decide +kernel
theorem dX4_init_77 : decode cX4_init 77 = .ok (.aload_n 1, 1) := by decide +kernel
theorem dX4_init_78 : decode cX4_init 78 = .ok (.getfield 47, 3) := by decide +kernel
theorem dX4_init_81 : decode cX4_init 81 = .ok (.putfield 53, 3) := by decide +kernel
theorem dX4_init_84 : decode cX4_init 84 = .ok (.return_, 1) := by decide +kernel
theorem dX4_open_0 : decode cX4_open 0 = .ok (.aload_n 0, 1) := by decide +kernel
theorem dX4_open_1 : decode cX4_open 1 = .ok (.aload_n 1, 1) := by decide +kernel
theorem dX4_open_2 : decode cX4_open 2 = .ok (.iload_n 2, 1) := by decide +kernel
theorem dX4_open_3 : decode cX4_open 3 = .ok (.invokevirtual 54, 3) := by decide +kernel
theorem dX4_open_6 : decode cX4_open 6 = .ok (.aload_n 0, 1) := by decide +kernel
theorem dX4_open_7 : decode cX4_open 7 = .ok (.iconst 0, 1) := by decide +kernel
theorem dX4_open_8 : decode cX4_open 8 = .ok (.putfield 28, 3) := by decide +kernel
theorem dX4_open_11 : decode cX4_open 11 = .ok (.aload_n 0, 1) := by decide +kernel
theorem dX4_open_12 : decode cX4_open 12 = .ok (.iconst 0, 1) := by decide +kernel
theorem dX4_open_13 : decode cX4_open 13 = .ok (.putfield 37, 3) := by decide +kernel
theorem dX4_open_16 : decode cX4_open 16 = .ok (.aload_n 0, 1) := by decide +kernel
theorem dX4_open_17 : decode cX4_open 17 = .ok (.iconst (-1), 1) := by decide +kernel
theorem dX4_open_18 : decode cX4_open 18 = .ok (.putfield 40, 3) := by decide +kernel
theorem dX4_open_21 : decode cX4_open 21 = .ok (.aload_n 0, 1) := by decide +kernel
theorem dX4_open_22 : decode cX4_open 22 = .ok (.new 58, 3) := by decide +kernel
theorem dX4_open_25 : decode cX4_open 25 = .ok (.dup, 1) := by decide +kernel
theorem dX4_open_26 : decode cX4_open 26 = .ok (.invokespecial 60, 3) := by decide +kernel
theorem dX4_open_29 : decode cX4_open 29 = .ok (.putfield 53, 3) := by decide +kernel
theorem dX4_open_32 : decode cX4_open 32 = .ok (.aload_n 0, 1) := by decide +kernel
theorem dX4_open_33 : decode cX4_open 33 = .ok (.getfield 43, 3) := by decide +kernel
theorem dX4_open_36 : decode cX4_open 36 = .ok (.aload_n 0, 1) := by decide +kernel
theorem dX4_open_37 : decode cX4_open 37 = .ok (.getfield 53, 3) := by decide +kernel
theorem dX4_open_40 : decode cX4_open 40 = .ok (.invokevirtual 61, 3) := by decide +kernel
theorem dX4_open_43 : decode cX4_open 43 = .ok (.aload_n 0, 1) := by decide +kernel
theorem dX4_open_44 : decode cX4_open 44 = .ok (.iconst 4, 1) := by decide +kernel
theorem dX4_open_45 : decode cX4_open 45 = .ok (.invokevirtual 65, 3) := by decide +kernel
theorem dX4_open_48 : decode cX4_open 48 = .ok (.aload_n 0, 1) := by decide +kernel
theorem dX4_open_49 : decode cX4_open 49 = .ok (.getfield 53, 3) := by decide +kernel
theorem dX4_open_52 : decode cX4_open 52 = .ok (.aload_n 0, 1) := by decide +kernel
theorem dX4_open_53 : decode cX4_open 53 = .ok (.iconst 1, 1) := by decide +kernel
theorem dX4_open_54 : decode cX4_open 54 = .ok (.iconst 4, 1) := by decide +kernel
theorem dX4_open_55 : decode cX4_open 55 = .ok (.invokevirtual 69, 3) := by decide +kernel
theorem dX4_open_58 : decode cX4_open 58 = .ok (.putfield 73, 3) := by decide +kernel
theorem dX4_open_61 : decode cX4_open 61 = .ok (.aload_n 0, 1) := by decide +kernel
theorem dX4_open_62 : decode cX4_open 62 = .ok (.getfield 53, 3) := by decide +kernel
theorem dX4_open_65 : decode cX4_open 65 = .ok (.aload_n 0, 1) := by decide +kernel
theorem dX4_open_66 : decode cX4_open 66 = .ok (.iconst 1, 1) := by decide +kernel
theorem dX4_open_67 : decode cX4_open 67 = .ok (.iconst 5, 1) := by decide +kernel
theorem dX4_open_68 : decode cX4_open 68 = .ok (.invokevirtual 69, 3) := by decide +kernel
theorem dX4_open_71 : decode cX4_open 71 = .ok (.putfield 76, 3) := by decide +kernel
theorem dX4_open_74 : decode cX4_open 74 = .ok (.aload_n 0, 1) := by decide +kernel
theorem dX4_open_75 : decode cX4_open 75 = .ok (.bipush 59, 2) := by decide +kernel
theorem dX4_open_77 : decode cX4_open 77 = .ok (.invokevirtual 65, 3) := by decide +kernel
theorem dX4_open_80 : decode cX4_open 80 = .ok (.aload_n 0, 1) := by decide +kernel
theorem dX4_open_81 : decode cX4_open 81 = .ok (.getfield 53, 3) := by decide +kernel
theorem dX4_open_84 : decode cX4_open 84 = .ok (.iconst 1, 1) := by decide +kernel
theorem dX4_open_85 : decode cX4_open 85 = .ok (.putfield 79, 3) := by decide +kernel
theorem dX4_open_88 : decode cX4_open 88 = .ok (.return_, 1) := by decide +kernel
theorem dX4_hasMore_0 : decode cX4_hasMore 0 = .ok (.aload_n 0, 1) := by decide +kernel
theorem dX4_hasMore_1 : decode cX4_hasMore 1 = .ok (.getfield 37, 3) := by decide +kernel
theorem dX4_hasMore_4 : decode cX4_hasMore 4 = .ok (.ifCond .ne 14, 3) := by decide +kernel
theorem dX4_hasMore_7 : decode cX4_hasMore 7 = .ok (.aload_n 0, 1) := by decide +kernel
theorem dX4_hasMore_8 : decode cX4_hasMore 8 = .ok (.invokevirtual 82, 3) := by decide +kernel
theorem dX4_hasMore_11 : decode cX4_hasMore 11 = .ok (.ifCond .eq 7, 3) := by decide +kernel
theorem dX4_hasMore_14 : decode cX4_hasMore 14 = .ok (.iconst 1, 1) := by decide +kernel
theorem dX4_hasMore_15 : decode cX4_hasMore 15 = .ok (.goto 4, 3) := by decide +kernel
theorem dX4_hasMore_18 : decode cX4_hasMore 18 = .ok (.iconst 0, 1) := by decide +kernel
theorem dX4_hasMore_19 : decode cX4_hasMore 19 = .ok (.ireturn, 1) := by decide +kernel
theorem dX4_scan_0 : decode cX4_scan 0 = .ok (.aload_n 0, 1) := by decide +kernel
theorem dX4_scan_1 : decode cX4_scan 1 = .ok (.iconst 0, 1) := by decide +kernel
theorem dX4_scan_2 : decode cX4_scan 2 = .ok (.putfield 24, 3) := by decide +kernel
theorem dX4_scan_5 : decode cX4_scan 5 = .ok (.iconst 0, 1) := by decide +kernel
theorem dX4_scan_6 : decode cX4_scan 6 = .ok (.istore_n 3, 1) := by decide +kernel
theorem dX4_scan_7 : decode cX4_scan 7 = .ok (.iconst 0, 1) := by decide +kernel
theorem dX4_scan_8 : decode cX4_scan 8 = .ok (.istore 4, 2) := by decide +kernel
theorem dX4_scan_10 : decode cX4_scan 10 = .ok (.iload 4, 2) := by decide +kernel
theorem dX4_scan_12 : decode cX4_scan 12 = .ok (.iload_n 2, 1) := by decide +kernel
theorem dX4_scan_13 : decode cX4_scan 13 = .ok (.if_icmp .ge 199, 3) := by decide +kernel
theorem dX4_scan_16 : decode cX4_scan 16 = .ok (.iload 4, 2) := by decide +kernel
theorem dX4_scan_18 : decode cX4_scan 18 = .ok (.aload_n 1, 1) := by decide +kernel
theorem dX4_scan_19 : decode cX4_scan 19 = .ok (.arraylength, 1) := by decide +kernel
theorem dX4_scan_20 : decode cX4_scan 20 = .ok (.if_icmp .ge 192, 3) := by decide +kernel
theorem dX4_scan_23 : decode cX4_scan 23 = .ok (.aload_n 1, 1) := by decide +kernel
theorem dX4_scan_24 : decode cX4_scan 24 = .ok (.iload 4, 2) := by decide +kernel
theorem dX4_scan_26 : decode cX4_scan 26 = .ok (.iaload, 1) := by decide +kernel
theorem dX4_scan_27 : decode cX4_scan 27 = .ok (.istore 5, 2) := by decide +kernel
theorem dX4_scan_29 : decode cX4_scan 29 = .ok (.iload 4, 2) := by decide +kernel
theorem dX4_scan_31 : decode cX4_scan 31 = .ok (.iconst 1, 1) := by decide +kernel
theorem dX4_scan_32 : decode cX4_scan 32 = .ok (.iadd, 1) := by decide +kernel
theorem dX4_scan_33 : decode cX4_scan 33 = .ok (.istore_n 3, 1) := by decide +kernel
theorem dX4_scan_34 : decode cX4_scan 34 = .ok (.iload 5, 2) := by decide +kernel
theorem dX4_scan_36 : decode cX4_scan 36 = .ok (.invokestatic 86, 3) := by decide +kernel
theorem dX4_scan_39 : decode cX4_scan 39 = .ok (.ifCond .eq 46, 3) := by decide +kernel
theorem dX4_scan_42 : decode cX4_scan 42 = .ok (.iload_n 3, 1) := by decide +kernel
theorem dX4_scan_43 : decode cX4_scan 43 = .ok (.iload_n 2, 1) := by decide +kernel
theorem dX4_scan_44 : decode cX4_scan 44 = .ok (.if_icmp .ge 24, 3) := by decide +kernel
theorem dX4_scan_47 : decode cX4_scan 47 = .ok (.iload_n 3, 1) := by decide +kernel
theorem dX4_scan_48 : decode cX4_scan 48 = .ok (.aload_n 1, 1) := by decide +kernel
theorem dX4_scan_49 : decode cX4_scan 49 = .ok (.arraylength, 1) := by decide +kernel
theorem dX4_scan_50 : decode cX4_scan 50 = .ok (.if_icmp .ge 18, 3) := by decide +kernel
theorem dX4_scan_53 : decode cX4_scan 53 = .ok (.aload_n 1, 1) := by decide +kernel
theorem dX4_scan_54 : decode cX4_scan 54 = .ok (.iload_n 3, 1) := by decide +kernel
theorem dX4_scan_55 : decode cX4_scan 55 = .ok (.iaload, 1) := by decide +kernel
theorem dX4_scan_56 : decode cX4_scan 56 = .ok (.invokestatic 86, 3) := by decide +kernel
theorem dX4_scan_59 : decode cX4_scan 59 = .ok (.ifCond .eq 9, 3) := by decide +kernel
theorem dX4_scan_62 : decode cX4_scan 62 = .ok (.iinc 3 1, 3) := by decide +kernel
theorem dX4_scan_65 : decode cX4_scan 65 = .ok (.goto (-23), 3) := by decide +kernel
theorem dX4_scan_68 : decode cX4_scan 68 = .ok (.aload_n 0, 1) := by decide +kernel
theorem dX4_scan_69 : decode cX4_scan 69 = .ok (.aload_n 1, 1) := by decide +kernel
theorem dX4_scan_70 : decode cX4_scan 70 = .ok (.iload 4, 2) := by decide +kernel
theorem dX4_scan_72 : decode cX4_scan 72 = .ok (.iload_n 3, 1) := by decide +kernel
theorem dX4_scan_73 : decode cX4_scan 73 = .ok (.invokestatic 90, 3) := by decide +kernel
theorem dX4_scan_76 : decode cX4_scan 76 = .ok (.iconst 0, 1) := by decide +kernel
theorem dX4_scan_77 : decode cX4_scan 77 = .ok (.iload 4, 2) := by decide +kernel
theorem dX4_scan_79 : decode cX4_scan 79 = .ok (.invokevirtual 94, 3) := by decide +kernel
theorem dX4_scan_82 : decode cX4_scan 82 = .ok (.goto 124, 3) := by decide +kernel
theorem dX4_scan_85 : decode cX4_scan 85 = .ok (.iload 5, 2) := by decide +kernel
theorem dX4_scan_87 : decode cX4_scan 87 = .ok (.invokestatic 98, 3) := by decide +kernel
theorem dX4_scan_90 : decode cX4_scan 90 = .ok (.ifCond .eq 78, 3) := by decide +kernel
theorem dX4_scan_93 : decode cX4_scan 93 = .ok (.iload 5, 2) := by decide +kernel
theorem dX4_scan_95 : decode cX4_scan 95 = .ok (.bipush 48, 2) := by decide +kernel
theorem dX4_scan_97 : decode cX4_scan 97 = .ok (.isub, 1) := by decide +kernel
theorem dX4_scan_98 : decode cX4_scan 98 = .ok (.istore 6, 2) := by decide +kernel
theorem dX4_scan_100 : decode cX4_scan 100 = .ok (.iload_n 3, 1) := by decide +kernel
theorem dX4_scan_101 : decode cX4_scan 101 = .ok (.iload_n 2, 1) := by decide +kernel
theorem dX4_scan_102 : decode cX4_scan 102 = .ok (.if_icmp .ge 42, 3) := by decide +kernel
theorem dX4_scan_105 : decode cX4_scan 105 = .ok (.iload_n 3, 1) := by decide +kernel
theorem dX4_scan_106 : decode cX4_scan 106 = .ok (.aload_n 1, 1) := by decide +kernel
theorem dX4_scan_107 : decode cX4_scan 107 = .ok (.arraylength, 1) := by decide +kernel
theorem dX4_scan_108 : decode cX4_scan 108 = .ok (.if_icmp .ge 36, 3) := by decide +kernel
theorem dX4_scan_111 : decode cX4_scan 111 = .ok (.aload_n 1, 1) := by decide +kernel
theorem dX4_scan_112 : decode cX4_scan 112 = .ok (.iload_n 3, 1) := by decide +kernel
theorem dX4_scan_113 : decode cX4_scan 113 = .ok (.iaload, 1) := by decide +kernel
theorem dX4_scan_114 : decode cX4_scan 114 = .ok (.invokestatic 98, 3) := by decide +kernel
theorem dX4_scan_117 : decode cX4_scan 117 = .ok (.ifCond .eq 27, 3) := by decide +kernel
theorem dX4_scan_120 : decode cX4_scan 120 = .ok (.iload 6, 2) := by decide +kernel
theorem dX4_scan_122 : decode cX4_scan 122 = .ok (.bipush 10, 2) := by decide +kernel
theorem dX4_scan_124 : decode cX4_scan 124 = .ok (.imul, 1) := by decide +kernel
theorem dX4_scan_125 : decode cX4_scan 125 = .ok (.aload_n 1, 1) := by decide +kernel
theorem dX4_scan_126 : decode cX4_scan 126 = .ok (.iload_n 3, 1) := by decide +kernel
theorem dX4_scan_127 : decode cX4_scan 127 = .ok (.iaload, 1) := by decide +kernel
theorem dX4_scan_128 : decode cX4_scan 128 = .ok (.iadd, 1) := by decide +kernel
theorem dX4_scan_129 : decode cX4_scan 129 = .ok (.bipush 48, 2) := by decide +kernel
theorem dX4_scan_131 : decode cX4_scan 131 = .ok (.isub, 1) := by decide +kernel
theorem dX4_scan_132 : decode cX4_scan 132 = .ok (.sipush 1000, 3) := by decide +kernel
theorem dX4_scan_135 : decode cX4_scan 135 = .ok (.irem, 1) := by decide +kernel
theorem dX4_scan_136 : decode cX4_scan 136 = .ok (.istore 6, 2) := by decide +kernel
theorem dX4_scan_138 : decode cX4_scan 138 = .ok (.iinc 3 1, 3) := by decide +kernel
theorem dX4_scan_141 : decode cX4_scan 141 = .ok (.goto (-41), 3) := by decide +kernel
theorem dX4_scan_144 : decode cX4_scan 144 = .ok (.aload_n 0, 1) := by decide +kernel
theorem dX4_scan_145 : decode cX4_scan 145 = .ok (.iload_n 3, 1) := by decide +kernel
theorem dX4_scan_146 : decode cX4_scan 146 = .ok (.iload 4, 2) := by decide +kernel
theorem dX4_scan_148 : decode cX4_scan 148 = .ok (.isub, 1) := by decide +kernel
theorem dX4_scan_149 : decode cX4_scan 149 = .ok (.iconst 3, 1) := by decide +kernel
theorem dX4_scan_150 : decode cX4_scan 150 = .ok (.if_icmp .le 7, 3) := by decide +kernel
theorem dX4_scan_153 : decode cX4_scan 153 = .ok (.iconst 1, 1) := by decide +kernel
theorem dX4_scan_154 : decode cX4_scan 154 = .ok (.goto 4, 3) := by decide +kernel
theorem dX4_scan_157 : decode cX4_scan 157 = .ok (.iconst 2, 1) := by decide +kernel
theorem dX4_scan_158 : decode cX4_scan 158 = .ok (.iload 6, 2) := by decide +kernel
theorem dX4_scan_160 : decode cX4_scan 160 = .ok (.iload 4, 2) := by decide +kernel
theorem dX4_scan_162 : decode cX4_scan 162 = .ok (.invokevirtual 94, 3) := by decide +kernel
theorem dX4_scan_165 : decode cX4_scan 165 = .ok (.goto 41, 3) := by decide +kernel
theorem dX4_scan_168 : decode cX4_scan 168 = .ok (.iload 5, 2) := by decide +kernel
theorem dX4_scan_170 : decode cX4_scan 170 = .ok (.bipush 32, 2) := by decide +kernel
theorem dX4_scan_172 : decode cX4_scan 172 = .ok (.if_icmp .eq 34, 3) := by decide +kernel
theorem dX4_scan_175 : decode cX4_scan 175 = .ok (.iload 5, 2) := by decide +kernel
theorem dX4_scan_177 : decode cX4_scan 177 = .ok (.bipush 10, 2) := by decide +kernel
theorem dX4_scan_179 : decode cX4_scan 179 = .ok (.if_icmp .eq 27, 3) := by decide +kernel
theorem dX4_scan_182 : decode cX4_scan 182 = .ok (.aload_n 0, 1) := by decide +kernel
theorem dX4_scan_183 : decode cX4_scan 183 = .ok (.ldc 101, 2) := by decide +kernel
theorem dX4_scan_185 : decode cX4_scan 185 = .ok (.iload 5, 2) := by decide +kernel
theorem dX4_scan_187 : decode cX4_scan 187 = .ok (.i2c, 1) := by decide +kernel
theorem dX4_scan_188 : decode cX4_scan 188 = .ok (.invokevirtual 103, 3) := by decide +kernel
theorem dX4_scan_191 : decode cX4_scan 191 = .ok (.ifCond .lt 8, 3) := by decide +kernel
theorem dX4_scan_194 : decode cX4_scan 194 = .ok (.iload 5, 2) := by decide +kernel
theorem dX4_scan_196 : decode cX4_scan 196 = .ok (.goto 4, 3) := by decide +kernel
theorem dX4_scan_199 : decode cX4_scan 199 = .ok (.iconst 1, 1) := by decide +kernel
theorem dX4_scan_200 : decode cX4_scan 200 = .ok (.iconst 0, 1) := by decide +kernel
theorem dX4_scan_201 : decode cX4_scan 201 = .ok (.iload 4, 2) := by decide +kernel
theorem dX4_scan_203 : decode cX4_scan 203 = .ok (.invokevirtual 94, 3) := by decide +kernel
theorem dX4_scan_206 : decode cX4_scan 206 = .ok (.iload_n 3, 1) := by decide +kernel
theorem dX4_scan_207 : decode cX4_scan 207 = .ok (.istore 4, 2) := by decide +kernel
theorem dX4_scan_209 : decode cX4_scan 209 = .ok (.goto (-199), 3) := by decide +kernel
theorem dX4_scan_212 : decode cX4_scan 212 = .ok (.aload_n 0, 1) := by decide +kernel
theorem dX4_scan_213 : decode cX4_scan 213 = .ok (.iconst 0, 1) := by decide +kernel
theorem dX4_scan_214 : decode cX4_scan 214 = .ok (.iconst 0, 1) := by decide +kernel
theorem dX4_scan_215 : decode cX4_scan 215 = .ok (.iload_n 2, 1) := by decide +kernel
theorem dX4_scan_216 : decode cX4_scan 216 = .ok (.invokevirtual 94, 3) := by decide +kernel
theorem dX4_scan_219 : decode cX4_scan 219 = .ok (.return_, 1) := by decide +kernel
theorem dX4_keep_0 : decode cX4_keep 0 = .ok (.aload_n 0, 1) := by decide +kernel
theorem dX4_keep_1 : decode cX4_keep 1 = .ok (.getfield 24, 3) := by decide +kernel
theorem dX4_keep_4 : decode cX4_keep 4 = .ok (.aload_n 0, 1) := by decide +kernel
theorem dX4_keep_5 : decode cX4_keep 5 = .ok (.getfield 9, 3) := by decide +kernel
theorem dX4_keep_8 : decode cX4_keep 8 = .ok (.arraylength, 1) := by decide +kernel
theorem dX4_keep_9 : decode cX4_keep 9 = .ok (.if_icmp .ge 43, 3) := by decide +kernel
theorem dX4_keep_12 : decode cX4_keep 12 = .ok (.aload_n 0, 1) := by decide +kernel
theorem dX4_keep_13 : decode cX4_keep 13 = .ok (.getfield 9, 3) := by decide +kernel
theorem dX4_keep_16 : decode cX4_keep 16 = .ok (.aload_n 0, 1) := by decide +kernel
theorem dX4_keep_17 : decode cX4_keep 17 = .ok (.getfield 24, 3) := by decide +kernel
theorem dX4_keep_20 : decode cX4_keep 20 = .ok (.iload_n 1, 1) := by decide +kernel
theorem dX4_keep_21 : decode cX4_keep 21 = .ok (.iastore, 1) := by decide +kernel
theorem dX4_keep_22 : decode cX4_keep 22 = .ok (.aload_n 0, 1) := by decide +kernel
theorem dX4_keep_23 : decode cX4_keep 23 = .ok (.getfield 15, 3) := by decide +kernel
theorem dX4_keep_26 : decode cX4_keep 26 = .ok (.aload_n 0, 1) := by decide +kernel
theorem dX4_keep_27 : decode cX4_keep 27 = .ok (.getfield 24, 3) := by decide +kernel
theorem dX4_keep_30 : decode cX4_keep 30 = .ok (.iload_n 2, 1) := by decide +kernel
theorem dX4_keep_31 : decode cX4_keep 31 = .ok (.iastore, 1) := by decide +kernel
theorem dX4_keep_32 : decode cX4_keep 32 = .ok (.aload_n 0, 1) := by decide +kernel
theorem dX4_keep_33 : decode cX4_keep 33 = .ok (.getfield 18, 3) := by decide +kernel
theorem dX4_keep_36 : decode cX4_keep 36 = .ok (.aload_n 0, 1) := by decide +kernel
theorem dX4_keep_37 : decode cX4_keep 37 = .ok (.getfield 24, 3) := by decide +kernel
theorem dX4_keep_40 : decode cX4_keep 40 = .ok (.iload_n 3, 1) := by decide +kernel
theorem dX4_keep_41 : decode cX4_keep 41 = .ok (.iastore, 1) := by decide +kernel
theorem dX4_keep_42 : decode cX4_keep 42 = .ok (.aload_n 0, 1) := by decide +kernel
theorem dX4_keep_43 : decode cX4_keep 43 = .ok (.dup, 1) := by decide +kernel
theorem dX4_keep_44 : decode cX4_keep 44 = .ok (.getfield 24, 3) := by decide +kernel
theorem dX4_keep_47 : decode cX4_keep 47 = .ok (.iconst 1, 1) := by decide +kernel
theorem dX4_keep_48 : decode cX4_keep 48 = .ok (.iadd, 1) := by decide +kernel
theorem dX4_keep_49 : decode cX4_keep 49 = .ok (.putfield 24, 3) := by decide +kernel
theorem dX4_keep_52 : decode cX4_keep 52 = .ok (.return_, 1) := by decide +kernel
theorem dX4_isLetter_0 : decode cX4_isLetter 0 = .ok (.iload_n 0, 1) := by decide +kernel
theorem dX4_isLetter_1 : decode cX4_isLetter 1 = .ok (.bipush 97, 2) := by decide +kernel
theorem dX4_isLetter_3 : decode cX4_isLetter 3 = .ok (.if_icmp .lt 13, 3) := by decide +kernel
theorem dX4_isLetter_6 : decode cX4_isLetter 6 = .ok (.iload_n 0, 1) := by decide +kernel
theorem dX4_isLetter_7 : decode cX4_isLetter 7 = .ok (.bipush 122, 2) := by decide +kernel
theorem dX4_isLetter_9 : decode cX4_isLetter 9 = .ok (.if_icmp .gt 7, 3) := by decide +kernel
theorem dX4_isLetter_12 : decode cX4_isLetter 12 = .ok (.iconst 1, 1) := by decide +kernel
theorem dX4_isLetter_13 : decode cX4_isLetter 13 = .ok (.goto 4, 3) := by decide +kernel
theorem dX4_isLetter_16 : decode cX4_isLetter 16 = .ok (.iconst 0, 1) := by decide +kernel
theorem dX4_isLetter_17 : decode cX4_isLetter 17 = .ok (.ireturn, 1) := by decide +kernel
theorem dX4_isDigit_0 : decode cX4_isDigit 0 = .ok (.iload_n 0, 1) := by decide +kernel
theorem dX4_isDigit_1 : decode cX4_isDigit 1 = .ok (.bipush 48, 2) := by decide +kernel
theorem dX4_isDigit_3 : decode cX4_isDigit 3 = .ok (.if_icmp .lt 13, 3) := by decide +kernel
theorem dX4_isDigit_6 : decode cX4_isDigit 6 = .ok (.iload_n 0, 1) := by decide +kernel
theorem dX4_isDigit_7 : decode cX4_isDigit 7 = .ok (.bipush 57, 2) := by decide +kernel
theorem dX4_isDigit_9 : decode cX4_isDigit 9 = .ok (.if_icmp .gt 7, 3) := by decide +kernel
theorem dX4_isDigit_12 : decode cX4_isDigit 12 = .ok (.iconst 1, 1) := by decide +kernel
theorem dX4_isDigit_13 : decode cX4_isDigit 13 = .ok (.goto 4, 3) := by decide +kernel
theorem dX4_isDigit_16 : decode cX4_isDigit 16 = .ok (.iconst 0, 1) := by decide +kernel
theorem dX4_isDigit_17 : decode cX4_isDigit 17 = .ok (.ireturn, 1) := by decide +kernel
theorem dX4_word_0 : decode cX4_word 0 = .ok (.aload_n 0, 1) := by decide +kernel
theorem dX4_word_1 : decode cX4_word 1 = .ok (.iload_n 1, 1) := by decide +kernel
theorem dX4_word_2 : decode cX4_word 2 = .ok (.iload_n 2, 1) := by decide +kernel
theorem dX4_word_3 : decode cX4_word 3 = .ok (.ldc 109, 2) := by decide +kernel
theorem dX4_word_5 : decode cX4_word 5 = .ok (.invokestatic 110, 3) := by decide +kernel
theorem dX4_word_8 : decode cX4_word 8 = .ok (.ifCond .eq 5, 3) := by decide +kernel
theorem dX4_word_11 : decode cX4_word 11 = .ok (.iconst 4, 1) := by decide +kernel
theorem dX4_word_12 : decode cX4_word 12 = .ok (.ireturn, 1) := by decide +kernel
theorem dX4_word_13 : decode cX4_word 13 = .ok (.aload_n 0, 1) := by decide +kernel
theorem dX4_word_14 : decode cX4_word 14 = .ok (.iload_n 1, 1) := by decide +kernel
theorem dX4_word_15 : decode cX4_word 15 = .ok (.iload_n 2, 1) := by decide +kernel
theorem dX4_word_16 : decode cX4_word 16 = .ok (.ldc 114, 2) := by decide +kernel
theorem dX4_word_18 : decode cX4_word 18 = .ok (.invokestatic 110, 3) := by decide +kernel
theorem dX4_word_21 : decode cX4_word 21 = .ok (.ifCond .eq 5, 3) := by decide +kernel
theorem dX4_word_24 : decode cX4_word 24 = .ok (.iconst 5, 1) := by decide +kernel
theorem dX4_word_25 : decode cX4_word 25 = .ok (.ireturn, 1) := by decide +kernel
theorem dX4_word_26 : decode cX4_word 26 = .ok (.aload_n 0, 1) := by decide +kernel
theorem dX4_word_27 : decode cX4_word 27 = .ok (.iload_n 1, 1) := by decide +kernel
theorem dX4_word_28 : decode cX4_word 28 = .ok (.iload_n 2, 1) := by decide +kernel
theorem dX4_word_29 : decode cX4_word 29 = .ok (.ldc 116, 2) := by decide +kernel
theorem dX4_word_31 : decode cX4_word 31 = .ok (.invokestatic 110, 3) := by decide +kernel
theorem dX4_word_34 : decode cX4_word 34 = .ok (.ifCond .eq 6, 3) := by decide +kernel
theorem dX4_word_37 : decode cX4_word 37 = .ok (.bipush 6, 2) := by decide +kernel
theorem dX4_word_39 : decode cX4_word 39 = .ok (.ireturn, 1) := by decide +kernel
theorem dX4_word_40 : decode cX4_word 40 = .ok (.aload_n 0, 1) := by decide +kernel
theorem dX4_word_41 : decode cX4_word 41 = .ok (.iload_n 1, 1) := by decide +kernel
theorem dX4_word_42 : decode cX4_word 42 = .ok (.iload_n 2, 1) := by decide +kernel
theorem dX4_word_43 : decode cX4_word 43 = .ok (.ldc 117, 2) := by decide +kernel
theorem dX4_word_45 : decode cX4_word 45 = .ok (.invokestatic 110, 3) := by decide +kernel
theorem dX4_word_48 : decode cX4_word 48 = .ok (.ifCond .eq 6, 3) := by decide +kernel
theorem dX4_word_51 : decode cX4_word 51 = .ok (.bipush 7, 2) := by decide +kernel
theorem dX4_word_53 : decode cX4_word 53 = .ok (.ireturn, 1) := by decide +kernel
theorem dX4_word_54 : decode cX4_word 54 = .ok (.aload_n 0, 1) := by decide +kernel
theorem dX4_word_55 : decode cX4_word 55 = .ok (.iload_n 1, 1) := by decide +kernel
theorem dX4_word_56 : decode cX4_word 56 = .ok (.iload_n 2, 1) := by decide +kernel
theorem dX4_word_57 : decode cX4_word 57 = .ok (.ldc 119, 2) := by decide +kernel
theorem dX4_word_59 : decode cX4_word 59 = .ok (.invokestatic 110, 3) := by decide +kernel
theorem dX4_word_62 : decode cX4_word 62 = .ok (.ifCond .eq 6, 3) := by decide +kernel
theorem dX4_word_65 : decode cX4_word 65 = .ok (.bipush 8, 2) := by decide +kernel
theorem dX4_word_67 : decode cX4_word 67 = .ok (.ireturn, 1) := by decide +kernel
theorem dX4_word_68 : decode cX4_word 68 = .ok (.aload_n 0, 1) := by decide +kernel
theorem dX4_word_69 : decode cX4_word 69 = .ok (.iload_n 1, 1) := by decide +kernel
theorem dX4_word_70 : decode cX4_word 70 = .ok (.iload_n 2, 1) := by decide +kernel
theorem dX4_word_71 : decode cX4_word 71 = .ok (.ldc 121, 2) := by decide +kernel
theorem dX4_word_73 : decode cX4_word 73 = .ok (.invokestatic 110, 3) := by decide +kernel
theorem dX4_word_76 : decode cX4_word 76 = .ok (.ifCond .eq 6, 3) := by decide +kernel
theorem dX4_word_79 : decode cX4_word 79 = .ok (.bipush 9, 2) := by decide +kernel
theorem dX4_word_81 : decode cX4_word 81 = .ok (.ireturn, 1) := by decide +kernel
theorem dX4_word_82 : decode cX4_word 82 = .ok (.aload_n 0, 1) := by decide +kernel
theorem dX4_word_83 : decode cX4_word 83 = .ok (.iload_n 1, 1) := by decide +kernel
theorem dX4_word_84 : decode cX4_word 84 = .ok (.iload_n 2, 1) := by decide +kernel
theorem dX4_word_85 : decode cX4_word 85 = .ok (.ldc 123, 2) := by decide +kernel
theorem dX4_word_87 : decode cX4_word 87 = .ok (.invokestatic 110, 3) := by decide +kernel
theorem dX4_word_90 : decode cX4_word 90 = .ok (.ifCond .eq 6, 3) := by decide +kernel
theorem dX4_word_93 : decode cX4_word 93 = .ok (.bipush 10, 2) := by decide +kernel
theorem dX4_word_95 : decode cX4_word 95 = .ok (.ireturn, 1) := by decide +kernel
theorem dX4_word_96 : decode cX4_word 96 = .ok (.aload_n 0, 1) := by decide +kernel
theorem dX4_word_97 : decode cX4_word 97 = .ok (.iload_n 1, 1) := by decide +kernel
theorem dX4_word_98 : decode cX4_word 98 = .ok (.iload_n 2, 1) := by decide +kernel
theorem dX4_word_99 : decode cX4_word 99 = .ok (.ldc 125, 2) := by decide +kernel
theorem dX4_word_101 : decode cX4_word 101 = .ok (.invokestatic 110, 3) := by decide +kernel
theorem dX4_word_104 : decode cX4_word 104 = .ok (.ifCond .eq 6, 3) := by decide +kernel
theorem dX4_word_107 : decode cX4_word 107 = .ok (.bipush 11, 2) := by decide +kernel
theorem dX4_word_109 : decode cX4_word 109 = .ok (.ireturn, 1) := by decide +kernel
theorem dX4_word_110 : decode cX4_word 110 = .ok (.aload_n 0, 1) := by decide +kernel
theorem dX4_word_111 : decode cX4_word 111 = .ok (.iload_n 1, 1) := by decide +kernel
theorem dX4_word_112 : decode cX4_word 112 = .ok (.iload_n 2, 1) := by decide +kernel
theorem dX4_word_113 : decode cX4_word 113 = .ok (.ldc 127, 2) := by decide +kernel
theorem dX4_word_115 : decode cX4_word 115 = .ok (.invokestatic 110, 3) := by decide +kernel
theorem dX4_word_118 : decode cX4_word 118 = .ok (.ifCond .eq 6, 3) := by decide +kernel
theorem dX4_word_121 : decode cX4_word 121 = .ok (.bipush 12, 2) := by decide +kernel
theorem dX4_word_123 : decode cX4_word 123 = .ok (.ireturn, 1) := by decide +kernel
theorem dX4_word_124 : decode cX4_word 124 = .ok (.aload_n 0, 1) := by decide +kernel
theorem dX4_word_125 : decode cX4_word 125 = .ok (.iload_n 1, 1) := by decide +kernel
theorem dX4_word_126 : decode cX4_word 126 = .ok (.iload_n 2, 1) := by decide +kernel
theorem dX4_word_127 : decode cX4_word 127 = .ok (.ldc 129, 2) := by decide +kernel
theorem dX4_word_129 : decode cX4_word 129 = .ok (.invokestatic 110, 3) := by decide +kernel
theorem dX4_word_132 : decode cX4_word 132 = .ok (.ifCond .eq 6, 3) := by decide +kernel
theorem dX4_word_135 : decode cX4_word 135 = .ok (.bipush 13, 2) := by decide +kernel
theorem dX4_word_137 : decode cX4_word 137 = .ok (.ireturn, 1) := by decide +kernel
theorem dX4_word_138 : decode cX4_word 138 = .ok (.aload_n 0, 1) := by decide +kernel
theorem dX4_word_139 : decode cX4_word 139 = .ok (.iload_n 1, 1) := by decide +kernel
theorem dX4_word_140 : decode cX4_word 140 = .ok (.iload_n 2, 1) := by decide +kernel
theorem dX4_word_141 : decode cX4_word 141 = .ok (.ldc 131, 2) := by decide +kernel
theorem dX4_word_143 : decode cX4_word 143 = .ok (.invokestatic 110, 3) := by decide +kernel
theorem dX4_word_146 : decode cX4_word 146 = .ok (.ifCond .eq 6, 3) := by decide +kernel
theorem dX4_word_149 : decode cX4_word 149 = .ok (.bipush 14, 2) := by decide +kernel
theorem dX4_word_151 : decode cX4_word 151 = .ok (.ireturn, 1) := by decide +kernel
theorem dX4_word_152 : decode cX4_word 152 = .ok (.aload_n 0, 1) := by decide +kernel
theorem dX4_word_153 : decode cX4_word 153 = .ok (.iload_n 1, 1) := by decide +kernel
theorem dX4_word_154 : decode cX4_word 154 = .ok (.iload_n 2, 1) := by decide +kernel
theorem dX4_word_155 : decode cX4_word 155 = .ok (.ldc 133, 2) := by decide +kernel
theorem dX4_word_157 : decode cX4_word 157 = .ok (.invokestatic 110, 3) := by decide +kernel
theorem dX4_word_160 : decode cX4_word 160 = .ok (.ifCond .eq 6, 3) := by decide +kernel
theorem dX4_word_163 : decode cX4_word 163 = .ok (.bipush 15, 2) := by decide +kernel
theorem dX4_word_165 : decode cX4_word 165 = .ok (.ireturn, 1) := by decide +kernel
theorem dX4_word_166 : decode cX4_word 166 = .ok (.aload_n 0, 1) := by decide +kernel
theorem dX4_word_167 : decode cX4_word 167 = .ok (.iload_n 1, 1) := by decide +kernel
theorem dX4_word_168 : decode cX4_word 168 = .ok (.iload_n 2, 1) := by decide +kernel
theorem dX4_word_169 : decode cX4_word 169 = .ok (.ldc 135, 2) := by decide +kernel
theorem dX4_word_171 : decode cX4_word 171 = .ok (.invokestatic 110, 3) := by decide +kernel
theorem dX4_word_174 : decode cX4_word 174 = .ok (.ifCond .eq 6, 3) := by decide +kernel
theorem dX4_word_177 : decode cX4_word 177 = .ok (.bipush 16, 2) := by decide +kernel
theorem dX4_word_179 : decode cX4_word 179 = .ok (.ireturn, 1) := by decide +kernel
theorem dX4_word_180 : decode cX4_word 180 = .ok (.aload_n 0, 1) := by decide +kernel
theorem dX4_word_181 : decode cX4_word 181 = .ok (.iload_n 1, 1) := by decide +kernel
theorem dX4_word_182 : decode cX4_word 182 = .ok (.iload_n 2, 1) := by decide +kernel
theorem dX4_word_183 : decode cX4_word 183 = .ok (.ldc 137, 2) := by decide +kernel
theorem dX4_word_185 : decode cX4_word 185 = .ok (.invokestatic 110, 3) := by decide +kernel
theorem dX4_word_188 : decode cX4_word 188 = .ok (.ifCond .eq 6, 3) := by decide +kernel
theorem dX4_word_191 : decode cX4_word 191 = .ok (.bipush 17, 2) := by decide +kernel
theorem dX4_word_193 : decode cX4_word 193 = .ok (.ireturn, 1) := by decide +kernel
theorem dX4_word_194 : decode cX4_word 194 = .ok (.aload_n 0, 1) := by decide +kernel
theorem dX4_word_195 : decode cX4_word 195 = .ok (.iload_n 1, 1) := by decide +kernel
theorem dX4_word_196 : decode cX4_word 196 = .ok (.iload_n 2, 1) := by decide +kernel
theorem dX4_word_197 : decode cX4_word 197 = .ok (.ldc 139, 2) := by decide +kernel
theorem dX4_word_199 : decode cX4_word 199 = .ok (.invokestatic 110, 3) := by decide +kernel
theorem dX4_word_202 : decode cX4_word 202 = .ok (.ifCond .eq 6, 3) := by decide +kernel
theorem dX4_word_205 : decode cX4_word 205 = .ok (.bipush 18, 2) := by decide +kernel
theorem dX4_word_207 : decode cX4_word 207 = .ok (.ireturn, 1) := by decide +kernel
theorem dX4_word_208 : decode cX4_word 208 = .ok (.aload_n 0, 1) := by decide +kernel
theorem dX4_word_209 : decode cX4_word 209 = .ok (.iload_n 1, 1) := by decide +kernel
theorem dX4_word_210 : decode cX4_word 210 = .ok (.iload_n 2, 1) := by decide +kernel
theorem dX4_word_211 : decode cX4_word 211 = .ok (.ldc 141, 2) := by decide +kernel
theorem dX4_word_213 : decode cX4_word 213 = .ok (.invokestatic 110, 3) := by decide +kernel
theorem dX4_word_216 : decode cX4_word 216 = .ok (.ifCond .eq 6, 3) := by decide +kernel
theorem dX4_word_219 : decode cX4_word 219 = .ok (.bipush 19, 2) := by decide +kernel
theorem dX4_word_221 : decode cX4_word 221 = .ok (.ireturn, 1) := by decide +kernel
theorem dX4_word_222 : decode cX4_word 222 = .ok (.aload_n 0, 1) := by decide +kernel
theorem dX4_word_223 : decode cX4_word 223 = .ok (.iload_n 1, 1) := by decide +kernel
theorem dX4_word_224 : decode cX4_word 224 = .ok (.iload_n 2, 1) := by decide +kernel
theorem dX4_word_225 : decode cX4_word 225 = .ok (.ldc 143, 2) := by decide +kernel
theorem dX4_word_227 : decode cX4_word 227 = .ok (.invokestatic 110, 3) := by decide +kernel
theorem dX4_word_230 : decode cX4_word 230 = .ok (.ifCond .eq 8, 3) := by decide +kernel
theorem dX4_word_233 : decode cX4_word 233 = .ok (.bipush 20, 2) := by decide +kernel
theorem dX4_word_235 : decode cX4_word 235 = .ok (.goto 4, 3) := by decide +kernel
theorem dX4_word_238 : decode cX4_word 238 = .ok (.iconst 3, 1) := by decide +kernel
theorem dX4_word_239 : decode cX4_word 239 = .ok (.ireturn, 1) := by decide +kernel
theorem dX4_spells_0 : decode cX4_spells 0 = .ok (.iload_n 2, 1) := by decide +kernel
theorem dX4_spells_1 : decode cX4_spells 1 = .ok (.iload_n 1, 1) := by decide +kernel
theorem dX4_spells_2 : decode cX4_spells 2 = .ok (.isub, 1) := by decide +kernel
theorem dX4_spells_3 : decode cX4_spells 3 = .ok (.aload_n 3, 1) := by decide +kernel
theorem dX4_spells_4 : decode cX4_spells 4 = .ok (.invokevirtual 145, 3) := by decide +kernel
theorem dX4_spells_7 : decode cX4_spells 7 = .ok (.if_icmp .ne 13, 3) := by decide +kernel
theorem dX4_spells_10 : decode cX4_spells 10 = .ok (.iload_n 1, 1) := by decide +kernel
theorem dX4_spells_11 : decode cX4_spells 11 = .ok (.ifCond .lt 9, 3) := by decide +kernel
theorem dX4_spells_14 : decode cX4_spells 14 = .ok (.iload_n 2, 1) := by decide +kernel
theorem dX4_spells_15 : decode cX4_spells 15 = .ok (.aload_n 0, 1) := by decide +kernel
theorem dX4_spells_16 : decode cX4_spells 16 = .ok (.arraylength, 1) := by decide +kernel
theorem dX4_spells_17 : decode cX4_spells 17 = .ok (.if_icmp .le 5, 3) := by decide +kernel
theorem dX4_spells_20 : decode cX4_spells 20 = .ok (.iconst 0, 1) := by decide +kernel
theorem dX4_spells_21 : decode cX4_spells 21 = .ok (.ireturn, 1) := by decide +kernel
theorem dX4_spells_22 : decode cX4_spells 22 = .ok (.iconst 0, 1) := by decide +kernel
theorem dX4_spells_23 : decode cX4_spells 23 = .ok (.istore 4, 2) := by decide +kernel
theorem dX4_spells_25 : decode cX4_spells 25 = .ok (.iload 4, 2) := by decide +kernel
theorem dX4_spells_27 : decode cX4_spells 27 = .ok (.aload_n 3, 1) := by decide +kernel
theorem dX4_spells_28 : decode cX4_spells 28 = .ok (.invokevirtual 145, 3) := by decide +kernel
theorem dX4_spells_31 : decode cX4_spells 31 = .ok (.if_icmp .ge 26, 3) := by decide +kernel
theorem dX4_spells_34 : decode cX4_spells 34 = .ok (.aload_n 0, 1) := by decide +kernel
theorem dX4_spells_35 : decode cX4_spells 35 = .ok (.iload_n 1, 1) := by decide +kernel
theorem dX4_spells_36 : decode cX4_spells 36 = .ok (.iload 4, 2) := by decide +kernel
theorem dX4_spells_38 : decode cX4_spells 38 = .ok (.iadd, 1) := by decide +kernel
theorem dX4_spells_39 : decode cX4_spells 39 = .ok (.iaload, 1) := by decide +kernel
theorem dX4_spells_40 : decode cX4_spells 40 = .ok (.aload_n 3, 1) := by decide +kernel
theorem dX4_spells_41 : decode cX4_spells 41 = .ok (.iload 4, 2) := by decide +kernel
theorem dX4_spells_43 : decode cX4_spells 43 = .ok (.invokevirtual 148, 3) := by decide +kernel
theorem dX4_spells_46 : decode cX4_spells 46 = .ok (.if_icmp .eq 5, 3) := by decide +kernel
theorem dX4_spells_49 : decode cX4_spells 49 = .ok (.iconst 0, 1) := by decide +kernel
theorem dX4_spells_50 : decode cX4_spells 50 = .ok (.ireturn, 1) := by decide +kernel
theorem dX4_spells_51 : decode cX4_spells 51 = .ok (.iinc 4 1, 3) := by decide +kernel
theorem dX4_spells_54 : decode cX4_spells 54 = .ok (.goto (-29), 3) := by decide +kernel
theorem dX4_spells_57 : decode cX4_spells 57 = .ok (.iconst 1, 1) := by decide +kernel
theorem dX4_spells_58 : decode cX4_spells 58 = .ok (.ireturn, 1) := by decide +kernel
theorem dX4_kind_0 : decode cX4_kind 0 = .ok (.aload_n 0, 1) := by decide +kernel
theorem dX4_kind_1 : decode cX4_kind 1 = .ok (.getfield 28, 3) := by decide +kernel
theorem dX4_kind_4 : decode cX4_kind 4 = .ok (.ifCond .lt 26, 3) := by decide +kernel
theorem dX4_kind_7 : decode cX4_kind 7 = .ok (.aload_n 0, 1) := by decide +kernel
theorem dX4_kind_8 : decode cX4_kind 8 = .ok (.getfield 28, 3) := by decide +kernel
theorem dX4_kind_11 : decode cX4_kind 11 = .ok (.aload_n 0, 1) := by decide +kernel
theorem dX4_kind_12 : decode cX4_kind 12 = .ok (.getfield 24, 3) := by decide +kernel
theorem dX4_kind_15 : decode cX4_kind 15 = .ok (.if_icmp .ge 15, 3) := by decide +kernel
theorem dX4_kind_18 : decode cX4_kind 18 = .ok (.aload_n 0, 1) := by decide +kernel
theorem dX4_kind_19 : decode cX4_kind 19 = .ok (.getfield 9, 3) := by decide +kernel
theorem dX4_kind_22 : decode cX4_kind 22 = .ok (.aload_n 0, 1) := by decide +kernel
theorem dX4_kind_23 : decode cX4_kind 23 = .ok (.getfield 28, 3) := by decide +kernel
theorem dX4_kind_26 : decode cX4_kind 26 = .ok (.iaload, 1) := by decide +kernel
theorem dX4_kind_27 : decode cX4_kind 27 = .ok (.goto 4, 3) := by decide +kernel
theorem dX4_kind_30 : decode cX4_kind 30 = .ok (.iconst 0, 1) := by decide +kernel
theorem dX4_kind_31 : decode cX4_kind 31 = .ok (.ireturn, 1) := by decide +kernel
theorem dX4_fail_0 : decode cX4_fail 0 = .ok (.aload_n 0, 1) := by decide +kernel
theorem dX4_fail_1 : decode cX4_fail 1 = .ok (.getfield 37, 3) := by decide +kernel
theorem dX4_fail_4 : decode cX4_fail 4 = .ok (.ifCond .ne 49, 3) := by decide +kernel
theorem dX4_fail_7 : decode cX4_fail 7 = .ok (.aload_n 0, 1) := by decide +kernel
theorem dX4_fail_8 : decode cX4_fail 8 = .ok (.getfield 28, 3) := by decide +kernel
theorem dX4_fail_11 : decode cX4_fail 11 = .ok (.aload_n 0, 1) := by decide +kernel
theorem dX4_fail_12 : decode cX4_fail 12 = .ok (.getfield 24, 3) := by decide +kernel
theorem dX4_fail_15 : decode cX4_fail 15 = .ok (.if_icmp .ge 38, 3) := by decide +kernel
theorem dX4_fail_18 : decode cX4_fail 18 = .ok (.aload_n 0, 1) := by decide +kernel
theorem dX4_fail_19 : decode cX4_fail 19 = .ok (.aload_n 0, 1) := by decide +kernel
theorem dX4_fail_20 : decode cX4_fail 20 = .ok (.getfield 9, 3) := by decide +kernel
theorem dX4_fail_23 : decode cX4_fail 23 = .ok (.aload_n 0, 1) := by decide +kernel
theorem dX4_fail_24 : decode cX4_fail 24 = .ok (.getfield 28, 3) := by decide +kernel
theorem dX4_fail_27 : decode cX4_fail 27 = .ok (.iaload, 1) := by decide +kernel
theorem dX4_fail_28 : decode cX4_fail 28 = .ok (.iconst 1, 1) := by decide +kernel
theorem dX4_fail_29 : decode cX4_fail 29 = .ok (.if_icmp .ne 7, 3) := by decide +kernel
theorem dX4_fail_32 : decode cX4_fail 32 = .ok (.iconst 1, 1) := by decide +kernel
theorem dX4_fail_33 : decode cX4_fail 33 = .ok (.goto 4, 3) := by decide +kernel
theorem dX4_fail_36 : decode cX4_fail 36 = .ok (.iload_n 1, 1) := by decide +kernel
theorem dX4_fail_37 : decode cX4_fail 37 = .ok (.putfield 37, 3) := by decide +kernel
theorem dX4_fail_40 : decode cX4_fail 40 = .ok (.aload_n 0, 1) := by decide +kernel
theorem dX4_fail_41 : decode cX4_fail 41 = .ok (.aload_n 0, 1) := by decide +kernel
theorem dX4_fail_42 : decode cX4_fail 42 = .ok (.getfield 18, 3) := by decide +kernel
theorem dX4_fail_45 : decode cX4_fail 45 = .ok (.aload_n 0, 1) := by decide +kernel
theorem dX4_fail_46 : decode cX4_fail 46 = .ok (.getfield 28, 3) := by decide +kernel
theorem dX4_fail_49 : decode cX4_fail 49 = .ok (.iaload, 1) := by decide +kernel
theorem dX4_fail_50 : decode cX4_fail 50 = .ok (.putfield 40, 3) := by decide +kernel
theorem dX4_fail_53 : decode cX4_fail 53 = .ok (.return_, 1) := by decide +kernel
theorem dX4_need_0 : decode cX4_need 0 = .ok (.aload_n 0, 1) := by decide +kernel
theorem dX4_need_1 : decode cX4_need 1 = .ok (.getfield 37, 3) := by decide +kernel
theorem dX4_need_4 : decode cX4_need 4 = .ok (.ifCond .ne 24, 3) := by decide +kernel
theorem dX4_need_7 : decode cX4_need 7 = .ok (.aload_n 0, 1) := by decide +kernel
theorem dX4_need_8 : decode cX4_need 8 = .ok (.invokevirtual 82, 3) := by decide +kernel
theorem dX4_need_11 : decode cX4_need 11 = .ok (.iload_n 1, 1) := by decide +kernel
theorem dX4_need_12 : decode cX4_need 12 = .ok (.if_icmp .ne 16, 3) := by decide +kernel
theorem dX4_need_15 : decode cX4_need 15 = .ok (.aload_n 0, 1) := by decide +kernel
theorem dX4_need_16 : decode cX4_need 16 = .ok (.dup, 1) := by decide +kernel
theorem dX4_need_17 : decode cX4_need 17 = .ok (.getfield 28, 3) := by decide +kernel
theorem dX4_need_20 : decode cX4_need 20 = .ok (.iconst 1, 1) := by decide +kernel
theorem dX4_need_21 : decode cX4_need 21 = .ok (.iadd, 1) := by decide +kernel
theorem dX4_need_22 : decode cX4_need 22 = .ok (.putfield 28, 3) := by decide +kernel
theorem dX4_need_25 : decode cX4_need 25 = .ok (.goto 8, 3) := by decide +kernel
theorem dX4_need_28 : decode cX4_need 28 = .ok (.aload_n 0, 1) := by decide +kernel
theorem dX4_need_29 : decode cX4_need 29 = .ok (.iconst 2, 1) := by decide +kernel
theorem dX4_need_30 : decode cX4_need 30 = .ok (.invokevirtual 152, 3) := by decide +kernel
theorem dX4_need_33 : decode cX4_need 33 = .ok (.return_, 1) := by decide +kernel
theorem dX4_number_0 : decode cX4_number 0 = .ok (.aload_n 0, 1) := by decide +kernel
theorem dX4_number_1 : decode cX4_number 1 = .ok (.getfield 37, 3) := by decide +kernel
theorem dX4_number_4 : decode cX4_number 4 = .ok (.ifCond .ne 11, 3) := by decide +kernel
theorem dX4_number_7 : decode cX4_number 7 = .ok (.aload_n 0, 1) := by decide +kernel
theorem dX4_number_8 : decode cX4_number 8 = .ok (.invokevirtual 82, 3) := by decide +kernel
theorem dX4_number_11 : decode cX4_number 11 = .ok (.iconst 2, 1) := by decide +kernel
theorem dX4_number_12 : decode cX4_number 12 = .ok (.if_icmp .eq 10, 3) := by decide +kernel
theorem dX4_number_15 : decode cX4_number 15 = .ok (.aload_n 0, 1) := by decide +kernel
theorem dX4_number_16 : decode cX4_number 16 = .ok (.iconst 2, 1) := by decide +kernel
theorem dX4_number_17 : decode cX4_number 17 = .ok (.invokevirtual 152, 3) := by decide +kernel
theorem dX4_number_20 : decode cX4_number 20 = .ok (.iload_n 1, 1) := by decide +kernel
theorem dX4_number_21 : decode cX4_number 21 = .ok (.ireturn, 1) := by decide +kernel
theorem dX4_number_22 : decode cX4_number 22 = .ok (.aload_n 0, 1) := by decide +kernel
theorem dX4_number_23 : decode cX4_number 23 = .ok (.getfield 15, 3) := by decide +kernel
theorem dX4_number_26 : decode cX4_number 26 = .ok (.aload_n 0, 1) := by decide +kernel
theorem dX4_number_27 : decode cX4_number 27 = .ok (.getfield 28, 3) := by decide +kernel
theorem dX4_number_30 : decode cX4_number 30 = .ok (.iaload, 1) := by decide +kernel
theorem dX4_number_31 : decode cX4_number 31 = .ok (.istore_n 3, 1) := by decide +kernel
theorem dX4_number_32 : decode cX4_number 32 = .ok (.iload_n 3, 1) := by decide +kernel
theorem dX4_number_33 : decode cX4_number 33 = .ok (.iload_n 1, 1) := by decide +kernel
theorem dX4_number_34 : decode cX4_number 34 = .ok (.if_icmp .lt 8, 3) := by decide +kernel
theorem dX4_number_37 : decode cX4_number 37 = .ok (.iload_n 3, 1) := by decide +kernel
theorem dX4_number_38 : decode cX4_number 38 = .ok (.iload_n 2, 1) := by decide +kernel
theorem dX4_number_39 : decode cX4_number 39 = .ok (.if_icmp .le 10, 3) := by decide +kernel
theorem dX4_number_42 : decode cX4_number 42 = .ok (.aload_n 0, 1) := by decide +kernel
theorem dX4_number_43 : decode cX4_number 43 = .ok (.iconst 3, 1) := by decide +kernel
theorem dX4_number_44 : decode cX4_number 44 = .ok (.invokevirtual 152, 3) := by decide +kernel
theorem dX4_number_47 : decode cX4_number 47 = .ok (.iload_n 1, 1) := by decide +kernel
theorem dX4_number_48 : decode cX4_number 48 = .ok (.ireturn, 1) := by decide +kernel
theorem dX4_number_49 : decode cX4_number 49 = .ok (.aload_n 0, 1) := by decide +kernel
theorem dX4_number_50 : decode cX4_number 50 = .ok (.dup, 1) := by decide +kernel
theorem dX4_number_51 : decode cX4_number 51 = .ok (.getfield 28, 3) := by decide +kernel
theorem dX4_number_54 : decode cX4_number 54 = .ok (.iconst 1, 1) := by decide +kernel
theorem dX4_number_55 : decode cX4_number 55 = .ok (.iadd, 1) := by decide +kernel
theorem dX4_number_56 : decode cX4_number 56 = .ok (.putfield 28, 3) := by decide +kernel
theorem dX4_number_59 : decode cX4_number 59 = .ok (.iload_n 3, 1) := by decide +kernel
theorem dX4_number_60 : decode cX4_number 60 = .ok (.ireturn, 1) := by decide +kernel
theorem dX4_line_0 : decode cX4_line 0 = .ok (.aload_n 0, 1) := by decide +kernel
theorem dX4_line_1 : decode cX4_line 1 = .ok (.invokevirtual 82, 3) := by decide +kernel
theorem dX4_line_4 : decode cX4_line 4 = .ok (.istore_n 1, 1) := by decide +kernel
theorem dX4_line_5 : decode cX4_line 5 = .ok (.iload_n 1, 1) := by decide +kernel
theorem dX4_line_6 : decode cX4_line 6 = .ok (.iconst 5, 1) := by decide +kernel
theorem dX4_line_7 : decode cX4_line 7 = .ok (.if_icmp .ne 10, 3) := by decide +kernel
theorem dX4_line_10 : decode cX4_line 10 = .ok (.aload_n 0, 1) := by decide +kernel
theorem dX4_line_11 : decode cX4_line 11 = .ok (.invokevirtual 155, 3) := by decide +kernel
theorem dX4_line_14 : decode cX4_line 14 = .ok (.goto 112, 3) := by decide +kernel
theorem dX4_line_17 : decode cX4_line 17 = .ok (.iload_n 1, 1) := by decide +kernel
theorem dX4_line_18 : decode cX4_line 18 = .ok (.bipush 10, 2) := by decide +kernel
theorem dX4_line_20 : decode cX4_line 20 = .ok (.if_icmp .ne 31, 3) := by decide +kernel
theorem dX4_line_23 : decode cX4_line 23 = .ok (.aload_n 0, 1) := by decide +kernel
theorem dX4_line_24 : decode cX4_line 24 = .ok (.dup, 1) := by decide +kernel
theorem dX4_line_25 : decode cX4_line 25 = .ok (.getfield 28, 3) := by decide +kernel
theorem dX4_line_28 : decode cX4_line 28 = .ok (.iconst 1, 1) := by decide +kernel
theorem dX4_line_29 : decode cX4_line 29 = .ok (.iadd, 1) := by decide +kernel
theorem dX4_line_30 : decode cX4_line 30 = .ok (.putfield 28, 3) := by decide +kernel
theorem dX4_line_33 : decode cX4_line 33 = .ok (.aload_n 0, 1) := by decide +kernel
theorem dX4_line_34 : decode cX4_line 34 = .ok (.getfield 43, 3) := by decide +kernel
theorem dX4_line_37 : decode cX4_line 37 = .ok (.aload_n 0, 1) := by decide +kernel
theorem dX4_line_38 : decode cX4_line 38 = .ok (.iconst 0, 1) := by decide +kernel
theorem dX4_line_39 : decode cX4_line 39 = .ok (.sipush 999, 3) := by decide +kernel
theorem dX4_line_42 : decode cX4_line 42 = .ok (.invokevirtual 69, 3) := by decide +kernel
theorem dX4_line_45 : decode cX4_line 45 = .ok (.putfield 158, 3) := by decide +kernel
theorem dX4_line_48 : decode cX4_line 48 = .ok (.goto 78, 3) := by decide +kernel
theorem dX4_line_51 : decode cX4_line 51 = .ok (.iload_n 1, 1) := by decide +kernel
theorem dX4_line_52 : decode cX4_line 52 = .ok (.bipush 7, 2) := by decide +kernel
theorem dX4_line_54 : decode cX4_line 54 = .ok (.if_icmp .eq 15, 3) := by decide +kernel
theorem dX4_line_57 : decode cX4_line 57 = .ok (.iload_n 1, 1) := by decide +kernel
theorem dX4_line_58 : decode cX4_line 58 = .ok (.bipush 8, 2) := by decide +kernel
theorem dX4_line_60 : decode cX4_line 60 = .ok (.if_icmp .eq 9, 3) := by decide +kernel
theorem dX4_line_63 : decode cX4_line 63 = .ok (.iload_n 1, 1) := by decide +kernel
theorem dX4_line_64 : decode cX4_line 64 = .ok (.bipush 9, 2) := by decide +kernel
theorem dX4_line_66 : decode cX4_line 66 = .ok (.if_icmp .ne 55, 3) := by decide +kernel
theorem dX4_line_69 : decode cX4_line 69 = .ok (.aload_n 0, 1) := by decide +kernel
theorem dX4_line_70 : decode cX4_line 70 = .ok (.dup, 1) := by decide +kernel
theorem dX4_line_71 : decode cX4_line 71 = .ok (.getfield 28, 3) := by decide +kernel
theorem dX4_line_74 : decode cX4_line 74 = .ok (.iconst 1, 1) := by decide +kernel
theorem dX4_line_75 : decode cX4_line 75 = .ok (.iadd, 1) := by decide +kernel
theorem dX4_line_76 : decode cX4_line 76 = .ok (.putfield 28, 3) := by decide +kernel
theorem dX4_line_79 : decode cX4_line 79 = .ok (.aload_n 0, 1) := by decide +kernel
theorem dX4_line_80 : decode cX4_line 80 = .ok (.bipush 58, 2) := by decide +kernel
theorem dX4_line_82 : decode cX4_line 82 = .ok (.invokevirtual 65, 3) := by decide +kernel
theorem dX4_line_85 : decode cX4_line 85 = .ok (.aload_n 0, 1) := by decide +kernel
theorem dX4_line_86 : decode cX4_line 86 = .ok (.iload_n 1, 1) := by decide +kernel
theorem dX4_line_87 : decode cX4_line 87 = .ok (.putfield 34, 3) := by decide +kernel
theorem dX4_line_90 : decode cX4_line 90 = .ok (.aload_n 0, 1) := by decide +kernel
theorem dX4_line_91 : decode cX4_line 91 = .ok (.iconst 0, 1) := by decide +kernel
theorem dX4_line_92 : decode cX4_line 92 = .ok (.putfield 31, 3) := by decide +kernel
theorem dX4_line_95 : decode cX4_line 95 = .ok (.iload_n 1, 1) := by decide +kernel
theorem dX4_line_96 : decode cX4_line 96 = .ok (.bipush 7, 2) := by decide +kernel
theorem dX4_line_98 : decode cX4_line 98 = .ok (.if_icmp .ne 11, 3) := by decide +kernel
theorem dX4_line_101 : decode cX4_line 101 = .ok (.aload_n 0, 1) := by decide +kernel
theorem dX4_line_102 : decode cX4_line 102 = .ok (.iconst 0, 1) := by decide +kernel
theorem dX4_line_103 : decode cX4_line 103 = .ok (.invokevirtual 160, 3) := by decide +kernel
theorem dX4_line_106 : decode cX4_line 106 = .ok (.goto 8, 3) := by decide +kernel
theorem dX4_line_109 : decode cX4_line 109 = .ok (.aload_n 0, 1) := by decide +kernel
theorem dX4_line_110 : decode cX4_line 110 = .ok (.iconst 0, 1) := by decide +kernel
theorem dX4_line_111 : decode cX4_line 111 = .ok (.invokevirtual 163, 3) := by decide +kernel
theorem dX4_line_114 : decode cX4_line 114 = .ok (.aload_n 0, 1) := by decide +kernel
theorem dX4_line_115 : decode cX4_line 115 = .ok (.invokevirtual 166, 3) := by decide +kernel
theorem dX4_line_118 : decode cX4_line 118 = .ok (.goto 8, 3) := by decide +kernel
theorem dX4_line_121 : decode cX4_line 121 = .ok (.aload_n 0, 1) := by decide +kernel
theorem dX4_line_122 : decode cX4_line 122 = .ok (.iconst 2, 1) := by decide +kernel
theorem dX4_line_123 : decode cX4_line 123 = .ok (.invokevirtual 152, 3) := by decide +kernel
theorem dX4_line_126 : decode cX4_line 126 = .ok (.aload_n 0, 1) := by decide +kernel
theorem dX4_line_127 : decode cX4_line 127 = .ok (.bipush 59, 2) := by decide +kernel
theorem dX4_line_129 : decode cX4_line 129 = .ok (.invokevirtual 65, 3) := by decide +kernel
theorem dX4_line_132 : decode cX4_line 132 = .ok (.aload_n 0, 1) := by decide +kernel
theorem dX4_line_133 : decode cX4_line 133 = .ok (.getfield 53, 3) := by decide +kernel
theorem dX4_line_136 : decode cX4_line 136 = .ok (.dup, 1) := by decide +kernel
theorem dX4_line_137 : decode cX4_line 137 = .ok (.getfield 79, 3) := by decide +kernel
theorem dX4_line_140 : decode cX4_line 140 = .ok (.iconst 1, 1) := by decide +kernel
theorem dX4_line_141 : decode cX4_line 141 = .ok (.iadd, 1) := by decide +kernel
theorem dX4_line_142 : decode cX4_line 142 = .ok (.putfield 79, 3) := by decide +kernel
theorem dX4_line_145 : decode cX4_line 145 = .ok (.return_, 1) := by decide +kernel
theorem dX4_keepLaw_0 : decode cX4_keepLaw 0 = .ok (.aload_n 0, 1) := by decide +kernel
theorem dX4_keepLaw_1 : decode cX4_keepLaw 1 = .ok (.getfield 37, 3) := by decide +kernel
theorem dX4_keepLaw_4 : decode cX4_keepLaw 4 = .ok (.ifCond .eq 4, 3) := by decide +kernel
theorem dX4_keepLaw_7 : decode cX4_keepLaw 7 = .ok (.return_, 1) := by decide +kernel
theorem dX4_keepLaw_8 : decode cX4_keepLaw 8 = .ok (.new 169, 3) := by decide +kernel
theorem dX4_keepLaw_11 : decode cX4_keepLaw 11 = .ok (.dup, 1) := by decide +kernel
theorem dX4_keepLaw_12 : decode cX4_keepLaw 12 = .ok (.aload_n 0, 1) := by decide +kernel
theorem dX4_keepLaw_13 : decode cX4_keepLaw 13 = .ok (.getfield 21, 3) := by decide +kernel
theorem dX4_keepLaw_16 : decode cX4_keepLaw 16 = .ok (.aload_n 0, 1) := by decide +kernel
theorem dX4_keepLaw_17 : decode cX4_keepLaw 17 = .ok (.getfield 31, 3) := by decide +kernel
theorem dX4_keepLaw_20 : decode cX4_keepLaw 20 = .ok (.invokestatic 171, 3) := by decide +kernel
theorem dX4_keepLaw_23 : decode cX4_keepLaw 23 = .ok (.invokespecial 177, 3) := by decide +kernel
theorem dX4_keepLaw_26 : decode cX4_keepLaw 26 = .ok (.astore_n 1, 1) := by decide +kernel
theorem dX4_keepLaw_27 : decode cX4_keepLaw 27 = .ok (.aload_n 0, 1) := by decide +kernel
theorem dX4_keepLaw_28 : decode cX4_keepLaw 28 = .ok (.getfield 34, 3) := by decide +kernel
theorem dX4_keepLaw_31 : decode cX4_keepLaw 31 = .ok (.bipush 7, 2) := by decide +kernel
theorem dX4_keepLaw_33 : decode cX4_keepLaw 33 = .ok (.if_icmp .ne 14, 3) := by decide +kernel
theorem dX4_keepLaw_36 : decode cX4_keepLaw 36 = .ok (.aload_n 0, 1) := by decide +kernel
theorem dX4_keepLaw_37 : decode cX4_keepLaw 37 = .ok (.getfield 53, 3) := by decide +kernel
theorem dX4_keepLaw_40 : decode cX4_keepLaw 40 = .ok (.aload_n 1, 1) := by decide +kernel
theorem dX4_keepLaw_41 : decode cX4_keepLaw 41 = .ok (.putfield 180, 3) := by decide +kernel
theorem dX4_keepLaw_44 : decode cX4_keepLaw 44 = .ok (.goto 31, 3) := by decide +kernel
theorem dX4_keepLaw_47 : decode cX4_keepLaw 47 = .ok (.aload_n 0, 1) := by decide +kernel
theorem dX4_keepLaw_48 : decode cX4_keepLaw 48 = .ok (.getfield 34, 3) := by decide +kernel
theorem dX4_keepLaw_51 : decode cX4_keepLaw 51 = .ok (.bipush 8, 2) := by decide +kernel
theorem dX4_keepLaw_53 : decode cX4_keepLaw 53 = .ok (.if_icmp .ne 14, 3) := by decide +kernel
theorem dX4_keepLaw_56 : decode cX4_keepLaw 56 = .ok (.aload_n 0, 1) := by decide +kernel
theorem dX4_keepLaw_57 : decode cX4_keepLaw 57 = .ok (.getfield 53, 3) := by decide +kernel
theorem dX4_keepLaw_60 : decode cX4_keepLaw 60 = .ok (.aload_n 1, 1) := by decide +kernel
theorem dX4_keepLaw_61 : decode cX4_keepLaw 61 = .ok (.putfield 184, 3) := by decide +kernel
theorem dX4_keepLaw_64 : decode cX4_keepLaw 64 = .ok (.goto 11, 3) := by decide +kernel
theorem dX4_keepLaw_67 : decode cX4_keepLaw 67 = .ok (.aload_n 0, 1) := by decide +kernel
theorem dX4_keepLaw_68 : decode cX4_keepLaw 68 = .ok (.getfield 53, 3) := by decide +kernel
theorem dX4_keepLaw_71 : decode cX4_keepLaw 71 = .ok (.aload_n 1, 1) := by decide +kernel
theorem dX4_keepLaw_72 : decode cX4_keepLaw 72 = .ok (.putfield 187, 3) := by decide +kernel
theorem dX4_keepLaw_75 : decode cX4_keepLaw 75 = .ok (.return_, 1) := by decide +kernel
theorem dX4_personLine_0 : decode cX4_personLine 0 = .ok (.aload_n 0, 1) := by decide +kernel
theorem dX4_personLine_1 : decode cX4_personLine 1 = .ok (.getfield 53, 3) := by decide +kernel
theorem dX4_personLine_4 : decode cX4_personLine 4 = .ok (.getfield 190, 3) := by decide +kernel
theorem dX4_personLine_7 : decode cX4_personLine 7 = .ok (.istore_n 1, 1) := by decide +kernel
theorem dX4_personLine_8 : decode cX4_personLine 8 = .ok (.iload_n 1, 1) := by decide +kernel
theorem dX4_personLine_9 : decode cX4_personLine 9 = .ok (.bipush 8, 2) := by decide +kernel
theorem dX4_personLine_11 : decode cX4_personLine 11 = .ok (.if_icmp .lt 9, 3) := by decide +kernel
theorem dX4_personLine_14 : decode cX4_personLine 14 = .ok (.aload_n 0, 1) := by decide +kernel
theorem dX4_personLine_15 : decode cX4_personLine 15 = .ok (.iconst 4, 1) := by decide +kernel
theorem dX4_personLine_16 : decode cX4_personLine 16 = .ok (.invokevirtual 152, 3) := by decide +kernel
theorem dX4_personLine_19 : decode cX4_personLine 19 = .ok (.return_, 1) := by decide +kernel
theorem dX4_personLine_20 : decode cX4_personLine 20 = .ok (.aload_n 0, 1) := by decide +kernel
theorem dX4_personLine_21 : decode cX4_personLine 21 = .ok (.dup, 1) := by decide +kernel
theorem dX4_personLine_22 : decode cX4_personLine 22 = .ok (.getfield 28, 3) := by decide +kernel
theorem dX4_personLine_25 : decode cX4_personLine 25 = .ok (.iconst 1, 1) := by decide +kernel
theorem dX4_personLine_26 : decode cX4_personLine 26 = .ok (.iadd, 1) := by decide +kernel
theorem dX4_personLine_27 : decode cX4_personLine 27 = .ok (.putfield 28, 3) := by decide +kernel
theorem dX4_personLine_30 : decode cX4_personLine 30 = .ok (.aload_n 0, 1) := by decide +kernel
theorem dX4_personLine_31 : decode cX4_personLine 31 = .ok (.bipush 6, 2) := by decide +kernel
theorem dX4_personLine_33 : decode cX4_personLine 33 = .ok (.invokevirtual 65, 3) := by decide +kernel
theorem dX4_personLine_36 : decode cX4_personLine 36 = .ok (.aload_n 0, 1) := by decide +kernel
theorem dX4_personLine_37 : decode cX4_personLine 37 = .ok (.iconst 0, 1) := by decide +kernel
theorem dX4_personLine_38 : decode cX4_personLine 38 = .ok (.aload_n 0, 1) := by decide +kernel
theorem dX4_personLine_39 : decode cX4_personLine 39 = .ok (.getfield 53, 3) := by decide +kernel
theorem dX4_personLine_42 : decode cX4_personLine 42 = .ok (.getfield 73, 3) := by decide +kernel
theorem dX4_personLine_45 : decode cX4_personLine 45 = .ok (.iconst 1, 1) := by decide +kernel
theorem dX4_personLine_46 : decode cX4_personLine 46 = .ok (.isub, 1) := by decide +kernel
theorem dX4_personLine_47 : decode cX4_personLine 47 = .ok (.invokevirtual 69, 3) := by decide +kernel
theorem dX4_personLine_50 : decode cX4_personLine 50 = .ok (.istore_n 2, 1) := by decide +kernel
theorem dX4_personLine_51 : decode cX4_personLine 51 = .ok (.aload_n 0, 1) := by decide +kernel
theorem dX4_personLine_52 : decode cX4_personLine 52 = .ok (.iload_n 2, 1) := by decide +kernel
theorem dX4_personLine_53 : decode cX4_personLine 53 = .ok (.invokevirtual 193, 3) := by decide +kernel
theorem dX4_personLine_56 : decode cX4_personLine 56 = .ok (.istore_n 3, 1) := by decide +kernel
theorem dX4_personLine_57 : decode cX4_personLine 57 = .ok (.aload_n 0, 1) := by decide +kernel
theorem dX4_personLine_58 : decode cX4_personLine 58 = .ok (.getfield 37, 3) := by decide +kernel
theorem dX4_personLine_61 : decode cX4_personLine 61 = .ok (.ifCond .eq 4, 3) := by decide +kernel
theorem dX4_personLine_64 : decode cX4_personLine 64 = .ok (.return_, 1) := by decide +kernel
theorem dX4_personLine_65 : decode cX4_personLine 65 = .ok (.aload_n 0, 1) := by decide +kernel
theorem dX4_personLine_66 : decode cX4_personLine 66 = .ok (.getfield 43, 3) := by decide +kernel
theorem dX4_personLine_69 : decode cX4_personLine 69 = .ok (.iload_n 1, 1) := by decide +kernel
theorem dX4_personLine_70 : decode cX4_personLine 70 = .ok (.iload_n 2, 1) := by decide +kernel
theorem dX4_personLine_71 : decode cX4_personLine 71 = .ok (.iload_n 3, 1) := by decide +kernel
theorem dX4_personLine_72 : decode cX4_personLine 72 = .ok (.invokevirtual 196, 3) := by decide +kernel
theorem dX4_personLine_75 : decode cX4_personLine 75 = .ok (.aload_n 0, 1) := by decide +kernel
theorem dX4_personLine_76 : decode cX4_personLine 76 = .ok (.getfield 53, 3) := by decide +kernel
theorem dX4_personLine_79 : decode cX4_personLine 79 = .ok (.dup, 1) := by decide +kernel
theorem dX4_personLine_80 : decode cX4_personLine 80 = .ok (.getfield 190, 3) := by decide +kernel
theorem dX4_personLine_83 : decode cX4_personLine 83 = .ok (.iconst 1, 1) := by decide +kernel
theorem dX4_personLine_84 : decode cX4_personLine 84 = .ok (.iadd, 1) := by decide +kernel
theorem dX4_personLine_85 : decode cX4_personLine 85 = .ok (.putfield 190, 3) := by decide +kernel
theorem dX4_personLine_88 : decode cX4_personLine 88 = .ok (.iconst 0, 1) := by decide +kernel
theorem dX4_personLine_89 : decode cX4_personLine 89 = .ok (.istore 4, 2) := by decide +kernel
theorem dX4_personLine_91 : decode cX4_personLine 91 = .ok (.iload 4, 2) := by decide +kernel
theorem dX4_personLine_93 : decode cX4_personLine 93 = .ok (.sipush 900, 3) := by decide +kernel
theorem dX4_personLine_96 : decode cX4_personLine 96 = .ok (.if_icmp .ge 30, 3) := by decide +kernel
theorem dX4_personLine_99 : decode cX4_personLine 99 = .ok (.aload_n 0, 1) := by decide +kernel
theorem dX4_personLine_100 : decode cX4_personLine 100 = .ok (.getfield 37, 3) := by decide +kernel
theorem dX4_personLine_103 : decode cX4_personLine 103 = .ok (.ifCond .ne 23, 3) := by decide +kernel
theorem dX4_personLine_106 : decode cX4_personLine 106 = .ok (.aload_n 0, 1) := by decide +kernel
theorem dX4_personLine_107 : decode cX4_personLine 107 = .ok (.invokevirtual 82, 3) := by decide +kernel
theorem dX4_personLine_110 : decode cX4_personLine 110 = .ok (.bipush 59, 2) := by decide +kernel
theorem dX4_personLine_112 : decode cX4_personLine 112 = .ok (.if_icmp .eq 14, 3) := by decide +kernel
theorem dX4_personLine_115 : decode cX4_personLine 115 = .ok (.aload_n 0, 1) := by decide +kernel
theorem dX4_personLine_116 : decode cX4_personLine 116 = .ok (.iload_n 1, 1) := by decide +kernel
theorem dX4_personLine_117 : decode cX4_personLine 117 = .ok (.invokevirtual 199, 3) := by decide +kernel
theorem dX4_personLine_120 : decode cX4_personLine 120 = .ok (.iinc 4 1, 3) := by decide +kernel
theorem dX4_personLine_123 : decode cX4_personLine 123 = .ok (.goto (-32), 3) := by decide +kernel
theorem dX4_personLine_126 : decode cX4_personLine 126 = .ok (.return_, 1) := by decide +kernel
theorem dX4_freeRow_0 : decode cX4_freeRow 0 = .ok (.aload_n 0, 1) := by decide +kernel
theorem dX4_freeRow_1 : decode cX4_freeRow 1 = .ok (.getfield 37, 3) := by decide +kernel
theorem dX4_freeRow_4 : decode cX4_freeRow 4 = .ok (.ifCond .ne 37, 3) := by decide +kernel
theorem dX4_freeRow_7 : decode cX4_freeRow 7 = .ok (.aload_n 0, 1) := by decide +kernel
theorem dX4_freeRow_8 : decode cX4_freeRow 8 = .ok (.invokevirtual 82, 3) := by decide +kernel
theorem dX4_freeRow_11 : decode cX4_freeRow 11 = .ok (.iconst 2, 1) := by decide +kernel
theorem dX4_freeRow_12 : decode cX4_freeRow 12 = .ok (.if_icmp .ne 29, 3) := by decide +kernel
theorem dX4_freeRow_15 : decode cX4_freeRow 15 = .ok (.aload_n 0, 1) := by decide +kernel
theorem dX4_freeRow_16 : decode cX4_freeRow 16 = .ok (.getfield 43, 3) := by decide +kernel
theorem dX4_freeRow_19 : decode cX4_freeRow 19 = .ok (.iload_n 1, 1) := by decide +kernel
theorem dX4_freeRow_20 : decode cX4_freeRow 20 = .ok (.aload_n 0, 1) := by decide +kernel
theorem dX4_freeRow_21 : decode cX4_freeRow 21 = .ok (.getfield 15, 3) := by decide +kernel
theorem dX4_freeRow_24 : decode cX4_freeRow 24 = .ok (.aload_n 0, 1) := by decide +kernel
theorem dX4_freeRow_25 : decode cX4_freeRow 25 = .ok (.getfield 28, 3) := by decide +kernel
theorem dX4_freeRow_28 : decode cX4_freeRow 28 = .ok (.iaload, 1) := by decide +kernel
theorem dX4_freeRow_29 : decode cX4_freeRow 29 = .ok (.invokevirtual 202, 3) := by decide +kernel
theorem dX4_freeRow_32 : decode cX4_freeRow 32 = .ok (.iconst (-1), 1) := by decide +kernel
theorem dX4_freeRow_33 : decode cX4_freeRow 33 = .ok (.if_icmp .eq 8, 3) := by decide +kernel
theorem dX4_freeRow_36 : decode cX4_freeRow 36 = .ok (.aload_n 0, 1) := by decide +kernel
theorem dX4_freeRow_37 : decode cX4_freeRow 37 = .ok (.iconst 3, 1) := by decide +kernel
theorem dX4_freeRow_38 : decode cX4_freeRow 38 = .ok (.invokevirtual 152, 3) := by decide +kernel
theorem dX4_freeRow_41 : decode cX4_freeRow 41 = .ok (.aload_n 0, 1) := by decide +kernel
theorem dX4_freeRow_42 : decode cX4_freeRow 42 = .ok (.iconst 0, 1) := by decide +kernel
theorem dX4_freeRow_43 : decode cX4_freeRow 43 = .ok (.aload_n 0, 1) := by decide +kernel
theorem dX4_freeRow_44 : decode cX4_freeRow 44 = .ok (.getfield 53, 3) := by decide +kernel
theorem dX4_freeRow_47 : decode cX4_freeRow 47 = .ok (.getfield 76, 3) := by decide +kernel
theorem dX4_freeRow_50 : decode cX4_freeRow 50 = .ok (.iconst 1, 1) := by decide +kernel
theorem dX4_freeRow_51 : decode cX4_freeRow 51 = .ok (.isub, 1) := by decide +kernel
theorem dX4_freeRow_52 : decode cX4_freeRow 52 = .ok (.invokevirtual 69, 3) := by decide +kernel
theorem dX4_freeRow_55 : decode cX4_freeRow 55 = .ok (.ireturn, 1) := by decide +kernel
theorem dX4_flag_0 : decode cX4_flag 0 = .ok (.aload_n 0, 1) := by decide +kernel
theorem dX4_flag_1 : decode cX4_flag 1 = .ok (.invokevirtual 82, 3) := by decide +kernel
theorem dX4_flag_4 : decode cX4_flag 4 = .ok (.istore_n 2, 1) := by decide +kernel
theorem dX4_flag_5 : decode cX4_flag 5 = .ok (.iload_n 2, 1) := by decide +kernel
theorem dX4_flag_6 : decode cX4_flag 6 = .ok (.bipush 11, 2) := by decide +kernel
theorem dX4_flag_8 : decode cX4_flag 8 = .ok (.if_icmp .eq 21, 3) := by decide +kernel
theorem dX4_flag_11 : decode cX4_flag 11 = .ok (.iload_n 2, 1) := by decide +kernel
theorem dX4_flag_12 : decode cX4_flag 12 = .ok (.bipush 12, 2) := by decide +kernel
theorem dX4_flag_14 : decode cX4_flag 14 = .ok (.if_icmp .eq 15, 3) := by decide +kernel
theorem dX4_flag_17 : decode cX4_flag 17 = .ok (.iload_n 2, 1) := by decide +kernel
theorem dX4_flag_18 : decode cX4_flag 18 = .ok (.bipush 13, 2) := by decide +kernel
theorem dX4_flag_20 : decode cX4_flag 20 = .ok (.if_icmp .eq 9, 3) := by decide +kernel
theorem dX4_flag_23 : decode cX4_flag 23 = .ok (.aload_n 0, 1) := by decide +kernel
theorem dX4_flag_24 : decode cX4_flag 24 = .ok (.iconst 2, 1) := by decide +kernel
theorem dX4_flag_25 : decode cX4_flag 25 = .ok (.invokevirtual 152, 3) := by decide +kernel
theorem dX4_flag_28 : decode cX4_flag 28 = .ok (.return_, 1) := by decide +kernel
theorem dX4_flag_29 : decode cX4_flag 29 = .ok (.aload_n 0, 1) := by decide +kernel
theorem dX4_flag_30 : decode cX4_flag 30 = .ok (.dup, 1) := by decide +kernel
theorem dX4_flag_31 : decode cX4_flag 31 = .ok (.getfield 28, 3) := by decide +kernel
theorem dX4_flag_34 : decode cX4_flag 34 = .ok (.iconst 1, 1) := by decide +kernel
theorem dX4_flag_35 : decode cX4_flag 35 = .ok (.iadd, 1) := by decide +kernel
theorem dX4_flag_36 : decode cX4_flag 36 = .ok (.putfield 28, 3) := by decide +kernel
theorem dX4_flag_39 : decode cX4_flag 39 = .ok (.iload_n 2, 1) := by decide +kernel
theorem dX4_flag_40 : decode cX4_flag 40 = .ok (.bipush 11, 2) := by decide +kernel
theorem dX4_flag_42 : decode cX4_flag 42 = .ok (.if_icmp .ne 22, 3) := by decide +kernel
theorem dX4_flag_45 : decode cX4_flag 45 = .ok (.aload_n 0, 1) := by decide +kernel
theorem dX4_flag_46 : decode cX4_flag 46 = .ok (.getfield 53, 3) := by decide +kernel
theorem dX4_flag_49 : decode cX4_flag 49 = .ok (.getfield 205, 3) := by decide +kernel
theorem dX4_flag_52 : decode cX4_flag 52 = .ok (.iload_n 1, 1) := by decide +kernel
theorem dX4_flag_53 : decode cX4_flag 53 = .ok (.aload_n 0, 1) := by decide +kernel
theorem dX4_flag_54 : decode cX4_flag 54 = .ok (.iconst 0, 1) := by decide +kernel
theorem dX4_flag_55 : decode cX4_flag 55 = .ok (.bipush 99, 2) := by decide +kernel
theorem dX4_flag_57 : decode cX4_flag 57 = .ok (.invokevirtual 69, 3) := by decide +kernel
theorem dX4_flag_60 : decode cX4_flag 60 = .ok (.iastore, 1) := by decide +kernel
theorem dX4_flag_61 : decode cX4_flag 61 = .ok (.goto 66, 3) := by decide +kernel
theorem dX4_flag_64 : decode cX4_flag 64 = .ok (.iload_n 2, 1) := by decide +kernel
theorem dX4_flag_65 : decode cX4_flag 65 = .ok (.bipush 12, 2) := by decide +kernel
theorem dX4_flag_67 : decode cX4_flag 67 = .ok (.if_icmp .ne 21, 3) := by decide +kernel
theorem dX4_flag_70 : decode cX4_flag 70 = .ok (.aload_n 0, 1) := by decide +kernel
theorem dX4_flag_71 : decode cX4_flag 71 = .ok (.getfield 53, 3) := by decide +kernel
theorem dX4_flag_74 : decode cX4_flag 74 = .ok (.dup, 1) := by decide +kernel
theorem dX4_flag_75 : decode cX4_flag 75 = .ok (.getfield 207, 3) := by decide +kernel
theorem dX4_flag_78 : decode cX4_flag 78 = .ok (.iconst 1, 1) := by decide +kernel
theorem dX4_flag_79 : decode cX4_flag 79 = .ok (.iload_n 1, 1) := by decide +kernel
theorem dX4_flag_80 : decode cX4_flag 80 = .ok (.ishl, 1) := by decide +kernel
theorem dX4_flag_81 : decode cX4_flag 81 = .ok (.ior, 1) := by decide +kernel
theorem dX4_flag_82 : decode cX4_flag 82 = .ok (.putfield 207, 3) := by decide +kernel
theorem dX4_flag_85 : decode cX4_flag 85 = .ok (.goto 42, 3) := by decide +kernel
theorem dX4_flag_88 : decode cX4_flag 88 = .ok (.aload_n 0, 1) := by decide +kernel
theorem dX4_flag_89 : decode cX4_flag 89 = .ok (.getfield 53, 3) := by decide +kernel
theorem dX4_flag_92 : decode cX4_flag 92 = .ok (.getfield 209, 3) := by decide +kernel
theorem dX4_flag_95 : decode cX4_flag 95 = .ok (.iload_n 1, 1) := by decide +kernel
theorem dX4_flag_96 : decode cX4_flag 96 = .ok (.aload_n 0, 1) := by decide +kernel
theorem dX4_flag_97 : decode cX4_flag 97 = .ok (.iconst 0, 1) := by decide +kernel
theorem dX4_flag_98 : decode cX4_flag 98 = .ok (.sipush 999, 3) := by decide +kernel
theorem dX4_flag_101 : decode cX4_flag 101 = .ok (.invokevirtual 69, 3) := by decide +kernel
theorem dX4_flag_104 : decode cX4_flag 104 = .ok (.iastore, 1) := by decide +kernel
theorem dX4_flag_105 : decode cX4_flag 105 = .ok (.aload_n 0, 1) := by decide +kernel
theorem dX4_flag_106 : decode cX4_flag 106 = .ok (.bipush 14, 2) := by decide +kernel
theorem dX4_flag_108 : decode cX4_flag 108 = .ok (.invokevirtual 65, 3) := by decide +kernel
theorem dX4_flag_111 : decode cX4_flag 111 = .ok (.aload_n 0, 1) := by decide +kernel
theorem dX4_flag_112 : decode cX4_flag 112 = .ok (.getfield 53, 3) := by decide +kernel
theorem dX4_flag_115 : decode cX4_flag 115 = .ok (.getfield 212, 3) := by decide +kernel
theorem dX4_flag_118 : decode cX4_flag 118 = .ok (.iload_n 1, 1) := by decide +kernel
theorem dX4_flag_119 : decode cX4_flag 119 = .ok (.aload_n 0, 1) := by decide +kernel
theorem dX4_flag_120 : decode cX4_flag 120 = .ok (.iconst 1, 1) := by decide +kernel
theorem dX4_flag_121 : decode cX4_flag 121 = .ok (.bipush 99, 2) := by decide +kernel
theorem dX4_flag_123 : decode cX4_flag 123 = .ok (.invokevirtual 69, 3) := by decide +kernel
theorem dX4_flag_126 : decode cX4_flag 126 = .ok (.iastore, 1) := by decide +kernel
theorem dX4_flag_127 : decode cX4_flag 127 = .ok (.return_, 1) := by decide +kernel
theorem dX4_emit_0 : decode cX4_emit 0 = .ok (.aload_n 0, 1) := by decide +kernel
theorem dX4_emit_1 : decode cX4_emit 1 = .ok (.getfield 37, 3) := by decide +kernel
theorem dX4_emit_4 : decode cX4_emit 4 = .ok (.ifCond .ne 35, 3) := by decide +kernel
theorem dX4_emit_7 : decode cX4_emit 7 = .ok (.aload_n 0, 1) := by decide +kernel
theorem dX4_emit_8 : decode cX4_emit 8 = .ok (.getfield 31, 3) := by decide +kernel
theorem dX4_emit_11 : decode cX4_emit 11 = .ok (.aload_n 0, 1) := by decide +kernel
theorem dX4_emit_12 : decode cX4_emit 12 = .ok (.getfield 21, 3) := by decide +kernel
theorem dX4_emit_15 : decode cX4_emit 15 = .ok (.arraylength, 1) := by decide +kernel
theorem dX4_emit_16 : decode cX4_emit 16 = .ok (.if_icmp .ge 23, 3) := by decide +kernel
theorem dX4_emit_19 : decode cX4_emit 19 = .ok (.aload_n 0, 1) := by decide +kernel
theorem dX4_emit_20 : decode cX4_emit 20 = .ok (.getfield 21, 3) := by decide +kernel
theorem dX4_emit_23 : decode cX4_emit 23 = .ok (.aload_n 0, 1) := by decide +kernel
theorem dX4_emit_24 : decode cX4_emit 24 = .ok (.getfield 31, 3) := by decide +kernel
theorem dX4_emit_27 : decode cX4_emit 27 = .ok (.iload_n 1, 1) := by decide +kernel
theorem dX4_emit_28 : decode cX4_emit 28 = .ok (.iastore, 1) := by decide +kernel
theorem dX4_emit_29 : decode cX4_emit 29 = .ok (.aload_n 0, 1) := by decide +kernel
theorem dX4_emit_30 : decode cX4_emit 30 = .ok (.dup, 1) := by decide +kernel
theorem dX4_emit_31 : decode cX4_emit 31 = .ok (.getfield 31, 3) := by decide +kernel
theorem dX4_emit_34 : decode cX4_emit 34 = .ok (.iconst 1, 1) := by decide +kernel
theorem dX4_emit_35 : decode cX4_emit 35 = .ok (.iadd, 1) := by decide +kernel
theorem dX4_emit_36 : decode cX4_emit 36 = .ok (.putfield 31, 3) := by decide +kernel
theorem dX4_emit_39 : decode cX4_emit 39 = .ok (.return_, 1) := by decide +kernel
theorem dX4_truth_0 : decode cX4_truth 0 = .ok (.iconst 0, 1) := by decide +kernel
theorem dX4_truth_1 : decode cX4_truth 1 = .ok (.istore_n 2, 1) := by decide +kernel
theorem dX4_truth_2 : decode cX4_truth 2 = .ok (.iload_n 2, 1) := by decide +kernel
theorem dX4_truth_3 : decode cX4_truth 3 = .ok (.sipush 900, 3) := by decide +kernel
theorem dX4_truth_6 : decode cX4_truth 6 = .ok (.if_icmp .ge 103, 3) := by decide +kernel
theorem dX4_truth_9 : decode cX4_truth 9 = .ok (.aload_n 0, 1) := by decide +kernel
theorem dX4_truth_10 : decode cX4_truth 10 = .ok (.getfield 37, 3) := by decide +kernel
theorem dX4_truth_13 : decode cX4_truth 13 = .ok (.ifCond .ne 96, 3) := by decide +kernel
theorem dX4_truth_16 : decode cX4_truth 16 = .ok (.aload_n 0, 1) := by decide +kernel
theorem dX4_truth_17 : decode cX4_truth 17 = .ok (.iload_n 1, 1) := by decide +kernel
theorem dX4_truth_18 : decode cX4_truth 18 = .ok (.invokevirtual 215, 3) := by decide +kernel
theorem dX4_truth_21 : decode cX4_truth 21 = .ok (.iconst 0, 1) := by decide +kernel
theorem dX4_truth_22 : decode cX4_truth 22 = .ok (.istore_n 3, 1) := by decide +kernel
theorem dX4_truth_23 : decode cX4_truth 23 = .ok (.iload_n 3, 1) := by decide +kernel
theorem dX4_truth_24 : decode cX4_truth 24 = .ok (.sipush 900, 3) := by decide +kernel
theorem dX4_truth_27 : decode cX4_truth 27 = .ok (.if_icmp .ge 46, 3) := by decide +kernel
theorem dX4_truth_30 : decode cX4_truth 30 = .ok (.aload_n 0, 1) := by decide +kernel
theorem dX4_truth_31 : decode cX4_truth 31 = .ok (.getfield 37, 3) := by decide +kernel
theorem dX4_truth_34 : decode cX4_truth 34 = .ok (.ifCond .ne 39, 3) := by decide +kernel
theorem dX4_truth_37 : decode cX4_truth 37 = .ok (.aload_n 0, 1) := by decide +kernel
theorem dX4_truth_38 : decode cX4_truth 38 = .ok (.invokevirtual 82, 3) := by decide +kernel
theorem dX4_truth_41 : decode cX4_truth 41 = .ok (.bipush 16, 2) := by decide +kernel
theorem dX4_truth_43 : decode cX4_truth 43 = .ok (.if_icmp .ne 30, 3) := by decide +kernel
theorem dX4_truth_46 : decode cX4_truth 46 = .ok (.aload_n 0, 1) := by decide +kernel
theorem dX4_truth_47 : decode cX4_truth 47 = .ok (.dup, 1) := by decide +kernel
theorem dX4_truth_48 : decode cX4_truth 48 = .ok (.getfield 28, 3) := by decide +kernel
theorem dX4_truth_51 : decode cX4_truth 51 = .ok (.iconst 1, 1) := by decide +kernel
theorem dX4_truth_52 : decode cX4_truth 52 = .ok (.iadd, 1) := by decide +kernel
theorem dX4_truth_53 : decode cX4_truth 53 = .ok (.putfield 28, 3) := by decide +kernel
theorem dX4_truth_56 : decode cX4_truth 56 = .ok (.aload_n 0, 1) := by decide +kernel
theorem dX4_truth_57 : decode cX4_truth 57 = .ok (.iload_n 1, 1) := by decide +kernel
theorem dX4_truth_58 : decode cX4_truth 58 = .ok (.invokevirtual 215, 3) := by decide +kernel
theorem dX4_truth_61 : decode cX4_truth 61 = .ok (.aload_n 0, 1) := by decide +kernel
theorem dX4_truth_62 : decode cX4_truth 62 = .ok (.bipush (-7), 2) := by decide +kernel
theorem dX4_truth_64 : decode cX4_truth 64 = .ok (.invokevirtual 218, 3) := by decide +kernel
theorem dX4_truth_67 : decode cX4_truth 67 = .ok (.iinc 3 1, 3) := by decide +kernel
theorem dX4_truth_70 : decode cX4_truth 70 = .ok (.goto (-47), 3) := by decide +kernel
theorem dX4_truth_73 : decode cX4_truth 73 = .ok (.iload_n 2, 1) := by decide +kernel
theorem dX4_truth_74 : decode cX4_truth 74 = .ok (.ifCond .le 9, 3) := by decide +kernel
theorem dX4_truth_77 : decode cX4_truth 77 = .ok (.aload_n 0, 1) := by decide +kernel
theorem dX4_truth_78 : decode cX4_truth 78 = .ok (.bipush (-8), 2) := by decide +kernel
theorem dX4_truth_80 : decode cX4_truth 80 = .ok (.invokevirtual 218, 3) := by decide +kernel
theorem dX4_truth_83 : decode cX4_truth 83 = .ok (.aload_n 0, 1) := by decide +kernel
theorem dX4_truth_84 : decode cX4_truth 84 = .ok (.invokevirtual 82, 3) := by decide +kernel
theorem dX4_truth_87 : decode cX4_truth 87 = .ok (.bipush 17, 2) := by decide +kernel
theorem dX4_truth_89 : decode cX4_truth 89 = .ok (.if_icmp .eq 4, 3) := by decide +kernel
theorem dX4_truth_92 : decode cX4_truth 92 = .ok (.return_, 1) := by decide +kernel
theorem dX4_truth_93 : decode cX4_truth 93 = .ok (.aload_n 0, 1) := by decide +kernel
theorem dX4_truth_94 : decode cX4_truth 94 = .ok (.dup, 1) := by decide +kernel
theorem dX4_truth_95 : decode cX4_truth 95 = .ok (.getfield 28, 3) := by decide +kernel
theorem dX4_truth_98 : decode cX4_truth 98 = .ok (.iconst 1, 1) := by decide +kernel
theorem dX4_truth_99 : decode cX4_truth 99 = .ok (.iadd, 1) := by decide +kernel
theorem dX4_truth_100 : decode cX4_truth 100 = .ok (.putfield 28, 3) := by decide +kernel
theorem dX4_truth_103 : decode cX4_truth 103 = .ok (.iinc 2 1, 3) := by decide +kernel
theorem dX4_truth_106 : decode cX4_truth 106 = .ok (.goto (-104), 3) := by decide +kernel
theorem dX4_truth_109 : decode cX4_truth 109 = .ok (.return_, 1) := by decide +kernel
theorem dX4_unit_0 : decode cX4_unit 0 = .ok (.aload_n 0, 1) := by decide +kernel
theorem dX4_unit_1 : decode cX4_unit 1 = .ok (.invokevirtual 82, 3) := by decide +kernel
theorem dX4_unit_4 : decode cX4_unit 4 = .ok (.istore_n 2, 1) := by decide +kernel
theorem dX4_unit_5 : decode cX4_unit 5 = .ok (.aload_n 0, 1) := by decide +kernel
theorem dX4_unit_6 : decode cX4_unit 6 = .ok (.getfield 37, 3) := by decide +kernel
theorem dX4_unit_9 : decode cX4_unit 9 = .ok (.ifCond .eq 4, 3) := by decide +kernel
theorem dX4_unit_12 : decode cX4_unit 12 = .ok (.return_, 1) := by decide +kernel
theorem dX4_unit_13 : decode cX4_unit 13 = .ok (.iload_n 1, 1) := by decide +kernel
theorem dX4_unit_14 : decode cX4_unit 14 = .ok (.bipush 6, 2) := by decide +kernel
theorem dX4_unit_16 : decode cX4_unit 16 = .ok (.if_icmp .lt 23, 3) := by decide +kernel
theorem dX4_unit_19 : decode cX4_unit 19 = .ok (.iload_n 2, 1) := by decide +kernel
theorem dX4_unit_20 : decode cX4_unit 20 = .ok (.bipush 15, 2) := by decide +kernel
theorem dX4_unit_22 : decode cX4_unit 22 = .ok (.if_icmp .eq 9, 3) := by decide +kernel
theorem dX4_unit_25 : decode cX4_unit 25 = .ok (.iload_n 2, 1) := by decide +kernel
theorem dX4_unit_26 : decode cX4_unit 26 = .ok (.bipush 91, 2) := by decide +kernel
theorem dX4_unit_28 : decode cX4_unit 28 = .ok (.if_icmp .ne 11, 3) := by decide +kernel
theorem dX4_unit_31 : decode cX4_unit 31 = .ok (.aload_n 0, 1) := by decide +kernel
theorem dX4_unit_32 : decode cX4_unit 32 = .ok (.iconst 4, 1) := by decide +kernel
theorem dX4_unit_33 : decode cX4_unit 33 = .ok (.invokevirtual 152, 3) := by decide +kernel
theorem dX4_unit_36 : decode cX4_unit 36 = .ok (.goto 144, 3) := by decide +kernel
theorem dX4_unit_39 : decode cX4_unit 39 = .ok (.iload_n 2, 1) := by decide +kernel
theorem dX4_unit_40 : decode cX4_unit 40 = .ok (.bipush 15, 2) := by decide +kernel
theorem dX4_unit_42 : decode cX4_unit 42 = .ok (.if_icmp .ne 29, 3) := by decide +kernel
theorem dX4_unit_45 : decode cX4_unit 45 = .ok (.aload_n 0, 1) := by decide +kernel
theorem dX4_unit_46 : decode cX4_unit 46 = .ok (.dup, 1) := by decide +kernel
theorem dX4_unit_47 : decode cX4_unit 47 = .ok (.getfield 28, 3) := by decide +kernel
theorem dX4_unit_50 : decode cX4_unit 50 = .ok (.iconst 1, 1) := by decide +kernel
theorem dX4_unit_51 : decode cX4_unit 51 = .ok (.iadd, 1) := by decide +kernel
theorem dX4_unit_52 : decode cX4_unit 52 = .ok (.putfield 28, 3) := by decide +kernel
theorem dX4_unit_55 : decode cX4_unit 55 = .ok (.aload_n 0, 1) := by decide +kernel
theorem dX4_unit_56 : decode cX4_unit 56 = .ok (.iload_n 1, 1) := by decide +kernel
theorem dX4_unit_57 : decode cX4_unit 57 = .ok (.iconst 1, 1) := by decide +kernel
theorem dX4_unit_58 : decode cX4_unit 58 = .ok (.iadd, 1) := by decide +kernel
theorem dX4_unit_59 : decode cX4_unit 59 = .ok (.invokevirtual 215, 3) := by decide +kernel
theorem dX4_unit_62 : decode cX4_unit 62 = .ok (.aload_n 0, 1) := by decide +kernel
theorem dX4_unit_63 : decode cX4_unit 63 = .ok (.bipush (-6), 2) := by decide +kernel
theorem dX4_unit_65 : decode cX4_unit 65 = .ok (.invokevirtual 218, 3) := by decide +kernel
theorem dX4_unit_68 : decode cX4_unit 68 = .ok (.goto 112, 3) := by decide +kernel
theorem dX4_unit_71 : decode cX4_unit 71 = .ok (.iload_n 2, 1) := by decide +kernel
theorem dX4_unit_72 : decode cX4_unit 72 = .ok (.bipush 91, 2) := by decide +kernel
theorem dX4_unit_74 : decode cX4_unit 74 = .ok (.if_icmp .ne 29, 3) := by decide +kernel
theorem dX4_unit_77 : decode cX4_unit 77 = .ok (.aload_n 0, 1) := by decide +kernel
theorem dX4_unit_78 : decode cX4_unit 78 = .ok (.dup, 1) := by decide +kernel
theorem dX4_unit_79 : decode cX4_unit 79 = .ok (.getfield 28, 3) := by decide +kernel
theorem dX4_unit_82 : decode cX4_unit 82 = .ok (.iconst 1, 1) := by decide +kernel
theorem dX4_unit_83 : decode cX4_unit 83 = .ok (.iadd, 1) := by decide +kernel
theorem dX4_unit_84 : decode cX4_unit 84 = .ok (.putfield 28, 3) := by decide +kernel
theorem dX4_unit_87 : decode cX4_unit 87 = .ok (.aload_n 0, 1) := by decide +kernel
theorem dX4_unit_88 : decode cX4_unit 88 = .ok (.iload_n 1, 1) := by decide +kernel
theorem dX4_unit_89 : decode cX4_unit 89 = .ok (.iconst 1, 1) := by decide +kernel
theorem dX4_unit_90 : decode cX4_unit 90 = .ok (.iadd, 1) := by decide +kernel
theorem dX4_unit_91 : decode cX4_unit 91 = .ok (.invokevirtual 160, 3) := by decide +kernel
theorem dX4_unit_94 : decode cX4_unit 94 = .ok (.aload_n 0, 1) := by decide +kernel
theorem dX4_unit_95 : decode cX4_unit 95 = .ok (.bipush 93, 2) := by decide +kernel
theorem dX4_unit_97 : decode cX4_unit 97 = .ok (.invokevirtual 65, 3) := by decide +kernel
theorem dX4_unit_100 : decode cX4_unit 100 = .ok (.goto 80, 3) := by decide +kernel
theorem dX4_unit_103 : decode cX4_unit 103 = .ok (.aload_n 0, 1) := by decide +kernel
theorem dX4_unit_104 : decode cX4_unit 104 = .ok (.iload_n 1, 1) := by decide +kernel
theorem dX4_unit_105 : decode cX4_unit 105 = .ok (.invokevirtual 163, 3) := by decide +kernel
theorem dX4_unit_108 : decode cX4_unit 108 = .ok (.aload_n 0, 1) := by decide +kernel
theorem dX4_unit_109 : decode cX4_unit 109 = .ok (.invokevirtual 82, 3) := by decide +kernel
theorem dX4_unit_112 : decode cX4_unit 112 = .ok (.istore_n 3, 1) := by decide +kernel
theorem dX4_unit_113 : decode cX4_unit 113 = .ok (.iload_n 3, 1) := by decide +kernel
theorem dX4_unit_114 : decode cX4_unit 114 = .ok (.bipush 61, 2) := by decide +kernel
theorem dX4_unit_116 : decode cX4_unit 116 = .ok (.if_icmp .eq 21, 3) := by decide +kernel
theorem dX4_unit_119 : decode cX4_unit 119 = .ok (.iload_n 3, 1) := by decide +kernel
theorem dX4_unit_120 : decode cX4_unit 120 = .ok (.bipush 60, 2) := by decide +kernel
theorem dX4_unit_122 : decode cX4_unit 122 = .ok (.if_icmp .eq 15, 3) := by decide +kernel
theorem dX4_unit_125 : decode cX4_unit 125 = .ok (.iload_n 3, 1) := by decide +kernel
theorem dX4_unit_126 : decode cX4_unit 126 = .ok (.bipush 62, 2) := by decide +kernel
theorem dX4_unit_128 : decode cX4_unit 128 = .ok (.if_icmp .eq 9, 3) := by decide +kernel
theorem dX4_unit_131 : decode cX4_unit 131 = .ok (.aload_n 0, 1) := by decide +kernel
theorem dX4_unit_132 : decode cX4_unit 132 = .ok (.iconst 2, 1) := by decide +kernel
theorem dX4_unit_133 : decode cX4_unit 133 = .ok (.invokevirtual 152, 3) := by decide +kernel
theorem dX4_unit_136 : decode cX4_unit 136 = .ok (.return_, 1) := by decide +kernel
theorem dX4_unit_137 : decode cX4_unit 137 = .ok (.aload_n 0, 1) := by decide +kernel
theorem dX4_unit_138 : decode cX4_unit 138 = .ok (.dup, 1) := by decide +kernel
theorem dX4_unit_139 : decode cX4_unit 139 = .ok (.getfield 28, 3) := by decide +kernel
theorem dX4_unit_142 : decode cX4_unit 142 = .ok (.iconst 1, 1) := by decide +kernel
theorem dX4_unit_143 : decode cX4_unit 143 = .ok (.iadd, 1) := by decide +kernel
theorem dX4_unit_144 : decode cX4_unit 144 = .ok (.putfield 28, 3) := by decide +kernel
theorem dX4_unit_147 : decode cX4_unit 147 = .ok (.aload_n 0, 1) := by decide +kernel
theorem dX4_unit_148 : decode cX4_unit 148 = .ok (.iload_n 1, 1) := by decide +kernel
theorem dX4_unit_149 : decode cX4_unit 149 = .ok (.invokevirtual 163, 3) := by decide +kernel
theorem dX4_unit_152 : decode cX4_unit 152 = .ok (.aload_n 0, 1) := by decide +kernel
theorem dX4_unit_153 : decode cX4_unit 153 = .ok (.iload_n 3, 1) := by decide +kernel
theorem dX4_unit_154 : decode cX4_unit 154 = .ok (.bipush 61, 2) := by decide +kernel
theorem dX4_unit_156 : decode cX4_unit 156 = .ok (.if_icmp .ne 8, 3) := by decide +kernel
theorem dX4_unit_159 : decode cX4_unit 159 = .ok (.bipush (-9), 2) := by decide +kernel
theorem dX4_unit_161 : decode cX4_unit 161 = .ok (.goto 16, 3) := by decide +kernel
theorem dX4_unit_164 : decode cX4_unit 164 = .ok (.iload_n 3, 1) := by decide +kernel
theorem dX4_unit_165 : decode cX4_unit 165 = .ok (.bipush 60, 2) := by decide +kernel
theorem dX4_unit_167 : decode cX4_unit 167 = .ok (.if_icmp .ne 8, 3) := by decide +kernel
theorem dX4_unit_170 : decode cX4_unit 170 = .ok (.bipush (-10), 2) := by decide +kernel
theorem dX4_unit_172 : decode cX4_unit 172 = .ok (.goto 5, 3) := by decide +kernel
theorem dX4_unit_175 : decode cX4_unit 175 = .ok (.bipush (-11), 2) := by decide +kernel
theorem dX4_unit_177 : decode cX4_unit 177 = .ok (.invokevirtual 218, 3) := by decide +kernel
theorem dX4_unit_180 : decode cX4_unit 180 = .ok (.return_, 1) := by decide +kernel
theorem dX4_sum_0 : decode cX4_sum 0 = .ok (.bipush 43, 2) := by decide +kernel
theorem dX4_sum_2 : decode cX4_sum 2 = .ok (.istore_n 2, 1) := by decide +kernel
theorem dX4_sum_3 : decode cX4_sum 3 = .ok (.iconst 0, 1) := by decide +kernel
theorem dX4_sum_4 : decode cX4_sum 4 = .ok (.istore_n 3, 1) := by decide +kernel
theorem dX4_sum_5 : decode cX4_sum 5 = .ok (.iload_n 3, 1) := by decide +kernel
theorem dX4_sum_6 : decode cX4_sum 6 = .ok (.sipush 900, 3) := by decide +kernel
theorem dX4_sum_9 : decode cX4_sum 9 = .ok (.if_icmp .ge 124, 3) := by decide +kernel
theorem dX4_sum_12 : decode cX4_sum 12 = .ok (.aload_n 0, 1) := by decide +kernel
theorem dX4_sum_13 : decode cX4_sum 13 = .ok (.getfield 37, 3) := by decide +kernel
theorem dX4_sum_16 : decode cX4_sum 16 = .ok (.ifCond .ne 117, 3) := by decide +kernel
theorem dX4_sum_19 : decode cX4_sum 19 = .ok (.aload_n 0, 1) := by decide +kernel
theorem dX4_sum_20 : decode cX4_sum 20 = .ok (.iload_n 1, 1) := by decide +kernel
theorem dX4_sum_21 : decode cX4_sum 21 = .ok (.invokevirtual 221, 3) := by decide +kernel
theorem dX4_sum_24 : decode cX4_sum 24 = .ok (.iconst 0, 1) := by decide +kernel
theorem dX4_sum_25 : decode cX4_sum 25 = .ok (.istore 4, 2) := by decide +kernel
theorem dX4_sum_27 : decode cX4_sum 27 = .ok (.iload 4, 2) := by decide +kernel
theorem dX4_sum_29 : decode cX4_sum 29 = .ok (.sipush 900, 3) := by decide +kernel
theorem dX4_sum_32 : decode cX4_sum 32 = .ok (.if_icmp .ge 46, 3) := by decide +kernel
theorem dX4_sum_35 : decode cX4_sum 35 = .ok (.aload_n 0, 1) := by decide +kernel
theorem dX4_sum_36 : decode cX4_sum 36 = .ok (.getfield 37, 3) := by decide +kernel
theorem dX4_sum_39 : decode cX4_sum 39 = .ok (.ifCond .ne 39, 3) := by decide +kernel
theorem dX4_sum_42 : decode cX4_sum 42 = .ok (.aload_n 0, 1) := by decide +kernel
theorem dX4_sum_43 : decode cX4_sum 43 = .ok (.invokevirtual 82, 3) := by decide +kernel
theorem dX4_sum_46 : decode cX4_sum 46 = .ok (.bipush 42, 2) := by decide +kernel
theorem dX4_sum_48 : decode cX4_sum 48 = .ok (.if_icmp .ne 30, 3) := by decide +kernel
theorem dX4_sum_51 : decode cX4_sum 51 = .ok (.aload_n 0, 1) := by decide +kernel
theorem dX4_sum_52 : decode cX4_sum 52 = .ok (.dup, 1) := by decide +kernel
theorem dX4_sum_53 : decode cX4_sum 53 = .ok (.getfield 28, 3) := by decide +kernel
theorem dX4_sum_56 : decode cX4_sum 56 = .ok (.iconst 1, 1) := by decide +kernel
theorem dX4_sum_57 : decode cX4_sum 57 = .ok (.iadd, 1) := by decide +kernel
theorem dX4_sum_58 : decode cX4_sum 58 = .ok (.putfield 28, 3) := by decide +kernel
theorem dX4_sum_61 : decode cX4_sum 61 = .ok (.aload_n 0, 1) := by decide +kernel
theorem dX4_sum_62 : decode cX4_sum 62 = .ok (.iload_n 1, 1) := by decide +kernel
theorem dX4_sum_63 : decode cX4_sum 63 = .ok (.invokevirtual 221, 3) := by decide +kernel
theorem dX4_sum_66 : decode cX4_sum 66 = .ok (.aload_n 0, 1) := by decide +kernel
theorem dX4_sum_67 : decode cX4_sum 67 = .ok (.bipush (-14), 2) := by decide +kernel
theorem dX4_sum_69 : decode cX4_sum 69 = .ok (.invokevirtual 218, 3) := by decide +kernel
theorem dX4_sum_72 : decode cX4_sum 72 = .ok (.iinc 4 1, 3) := by decide +kernel
theorem dX4_sum_75 : decode cX4_sum 75 = .ok (.goto (-48), 3) := by decide +kernel
theorem dX4_sum_78 : decode cX4_sum 78 = .ok (.iload_n 3, 1) := by decide +kernel
theorem dX4_sum_79 : decode cX4_sum 79 = .ok (.ifCond .le 20, 3) := by decide +kernel
theorem dX4_sum_82 : decode cX4_sum 82 = .ok (.aload_n 0, 1) := by decide +kernel
theorem dX4_sum_83 : decode cX4_sum 83 = .ok (.iload_n 2, 1) := by decide +kernel
theorem dX4_sum_84 : decode cX4_sum 84 = .ok (.bipush 43, 2) := by decide +kernel
theorem dX4_sum_86 : decode cX4_sum 86 = .ok (.if_icmp .ne 8, 3) := by decide +kernel
theorem dX4_sum_89 : decode cX4_sum 89 = .ok (.bipush (-12), 2) := by decide +kernel
theorem dX4_sum_91 : decode cX4_sum 91 = .ok (.goto 5, 3) := by decide +kernel
theorem dX4_sum_94 : decode cX4_sum 94 = .ok (.bipush (-13), 2) := by decide +kernel
theorem dX4_sum_96 : decode cX4_sum 96 = .ok (.invokevirtual 218, 3) := by decide +kernel
theorem dX4_sum_99 : decode cX4_sum 99 = .ok (.aload_n 0, 1) := by decide +kernel
theorem dX4_sum_100 : decode cX4_sum 100 = .ok (.invokevirtual 82, 3) := by decide +kernel
theorem dX4_sum_103 : decode cX4_sum 103 = .ok (.istore_n 2, 1) := by decide +kernel
theorem dX4_sum_104 : decode cX4_sum 104 = .ok (.iload_n 2, 1) := by decide +kernel
theorem dX4_sum_105 : decode cX4_sum 105 = .ok (.bipush 43, 2) := by decide +kernel
theorem dX4_sum_107 : decode cX4_sum 107 = .ok (.if_icmp .eq 10, 3) := by decide +kernel
theorem dX4_sum_110 : decode cX4_sum 110 = .ok (.iload_n 2, 1) := by decide +kernel
theorem dX4_sum_111 : decode cX4_sum 111 = .ok (.bipush 45, 2) := by decide +kernel
theorem dX4_sum_113 : decode cX4_sum 113 = .ok (.if_icmp .eq 4, 3) := by decide +kernel
theorem dX4_sum_116 : decode cX4_sum 116 = .ok (.return_, 1) := by decide +kernel
theorem dX4_sum_117 : decode cX4_sum 117 = .ok (.aload_n 0, 1) := by decide +kernel
theorem dX4_sum_118 : decode cX4_sum 118 = .ok (.dup, 1) := by decide +kernel
theorem dX4_sum_119 : decode cX4_sum 119 = .ok (.getfield 28, 3) := by decide +kernel
theorem dX4_sum_122 : decode cX4_sum 122 = .ok (.iconst 1, 1) := by decide +kernel
theorem dX4_sum_123 : decode cX4_sum 123 = .ok (.iadd, 1) := by decide +kernel
theorem dX4_sum_124 : decode cX4_sum 124 = .ok (.putfield 28, 3) := by decide +kernel
theorem dX4_sum_127 : decode cX4_sum 127 = .ok (.iinc 3 1, 3) := by decide +kernel
theorem dX4_sum_130 : decode cX4_sum 130 = .ok (.goto (-125), 3) := by decide +kernel
theorem dX4_sum_133 : decode cX4_sum 133 = .ok (.return_, 1) := by decide +kernel
theorem dX4_atom_0 : decode cX4_atom 0 = .ok (.aload_n 0, 1) := by decide +kernel
theorem dX4_atom_1 : decode cX4_atom 1 = .ok (.invokevirtual 82, 3) := by decide +kernel
theorem dX4_atom_4 : decode cX4_atom 4 = .ok (.istore_n 2, 1) := by decide +kernel
theorem dX4_atom_5 : decode cX4_atom 5 = .ok (.aload_n 0, 1) := by decide +kernel
theorem dX4_atom_6 : decode cX4_atom 6 = .ok (.getfield 37, 3) := by decide +kernel
theorem dX4_atom_9 : decode cX4_atom 9 = .ok (.ifCond .eq 4, 3) := by decide +kernel
theorem dX4_atom_12 : decode cX4_atom 12 = .ok (.return_, 1) := by decide +kernel
theorem dX4_atom_13 : decode cX4_atom 13 = .ok (.iload_n 1, 1) := by decide +kernel
theorem dX4_atom_14 : decode cX4_atom 14 = .ok (.bipush 6, 2) := by decide +kernel
theorem dX4_atom_16 : decode cX4_atom 16 = .ok (.if_icmp .lt 17, 3) := by decide +kernel
theorem dX4_atom_19 : decode cX4_atom 19 = .ok (.iload_n 2, 1) := by decide +kernel
theorem dX4_atom_20 : decode cX4_atom 20 = .ok (.bipush 40, 2) := by decide +kernel
theorem dX4_atom_22 : decode cX4_atom 22 = .ok (.if_icmp .ne 11, 3) := by decide +kernel
theorem dX4_atom_25 : decode cX4_atom 25 = .ok (.aload_n 0, 1) := by decide +kernel
theorem dX4_atom_26 : decode cX4_atom 26 = .ok (.iconst 4, 1) := by decide +kernel
theorem dX4_atom_27 : decode cX4_atom 27 = .ok (.invokevirtual 152, 3) := by decide +kernel
theorem dX4_atom_30 : decode cX4_atom 30 = .ok (.goto 97, 3) := by decide +kernel
theorem dX4_atom_33 : decode cX4_atom 33 = .ok (.iload_n 2, 1) := by decide +kernel
theorem dX4_atom_34 : decode cX4_atom 34 = .ok (.bipush 40, 2) := by decide +kernel
theorem dX4_atom_36 : decode cX4_atom 36 = .ok (.if_icmp .ne 29, 3) := by decide +kernel
theorem dX4_atom_39 : decode cX4_atom 39 = .ok (.aload_n 0, 1) := by decide +kernel
theorem dX4_atom_40 : decode cX4_atom 40 = .ok (.dup, 1) := by decide +kernel
theorem dX4_atom_41 : decode cX4_atom 41 = .ok (.getfield 28, 3) := by decide +kernel
theorem dX4_atom_44 : decode cX4_atom 44 = .ok (.iconst 1, 1) := by decide +kernel
theorem dX4_atom_45 : decode cX4_atom 45 = .ok (.iadd, 1) := by decide +kernel
theorem dX4_atom_46 : decode cX4_atom 46 = .ok (.putfield 28, 3) := by decide +kernel
theorem dX4_atom_49 : decode cX4_atom 49 = .ok (.aload_n 0, 1) := by decide +kernel
theorem dX4_atom_50 : decode cX4_atom 50 = .ok (.iload_n 1, 1) := by decide +kernel
theorem dX4_atom_51 : decode cX4_atom 51 = .ok (.iconst 1, 1) := by decide +kernel
theorem dX4_atom_52 : decode cX4_atom 52 = .ok (.iadd, 1) := by decide +kernel
theorem dX4_atom_53 : decode cX4_atom 53 = .ok (.invokevirtual 163, 3) := by decide +kernel
theorem dX4_atom_56 : decode cX4_atom 56 = .ok (.aload_n 0, 1) := by decide +kernel
theorem dX4_atom_57 : decode cX4_atom 57 = .ok (.bipush 41, 2) := by decide +kernel
theorem dX4_atom_59 : decode cX4_atom 59 = .ok (.invokevirtual 65, 3) := by decide +kernel
theorem dX4_atom_62 : decode cX4_atom 62 = .ok (.goto 65, 3) := by decide +kernel
theorem dX4_atom_65 : decode cX4_atom 65 = .ok (.iload_n 2, 1) := by decide +kernel
theorem dX4_atom_66 : decode cX4_atom 66 = .ok (.iconst 2, 1) := by decide +kernel
theorem dX4_atom_67 : decode cX4_atom 67 = .ok (.if_icmp .ne 29, 3) := by decide +kernel
theorem dX4_atom_70 : decode cX4_atom 70 = .ok (.aload_n 0, 1) := by decide +kernel
theorem dX4_atom_71 : decode cX4_atom 71 = .ok (.aload_n 0, 1) := by decide +kernel
theorem dX4_atom_72 : decode cX4_atom 72 = .ok (.getfield 15, 3) := by decide +kernel
theorem dX4_atom_75 : decode cX4_atom 75 = .ok (.aload_n 0, 1) := by decide +kernel
theorem dX4_atom_76 : decode cX4_atom 76 = .ok (.getfield 28, 3) := by decide +kernel
theorem dX4_atom_79 : decode cX4_atom 79 = .ok (.iaload, 1) := by decide +kernel
theorem dX4_atom_80 : decode cX4_atom 80 = .ok (.invokevirtual 218, 3) := by decide +kernel
theorem dX4_atom_83 : decode cX4_atom 83 = .ok (.aload_n 0, 1) := by decide +kernel
theorem dX4_atom_84 : decode cX4_atom 84 = .ok (.dup, 1) := by decide +kernel
theorem dX4_atom_85 : decode cX4_atom 85 = .ok (.getfield 28, 3) := by decide +kernel
theorem dX4_atom_88 : decode cX4_atom 88 = .ok (.iconst 1, 1) := by decide +kernel
theorem dX4_atom_89 : decode cX4_atom 89 = .ok (.iadd, 1) := by decide +kernel
theorem dX4_atom_90 : decode cX4_atom 90 = .ok (.putfield 28, 3) := by decide +kernel
theorem dX4_atom_93 : decode cX4_atom 93 = .ok (.goto 34, 3) := by decide +kernel
theorem dX4_atom_96 : decode cX4_atom 96 = .ok (.aload_n 0, 1) := by decide +kernel
theorem dX4_atom_97 : decode cX4_atom 97 = .ok (.iload_n 2, 1) := by decide +kernel
theorem dX4_atom_98 : decode cX4_atom 98 = .ok (.invokevirtual 224, 3) := by decide +kernel
theorem dX4_atom_101 : decode cX4_atom 101 = .ok (.istore_n 3, 1) := by decide +kernel
theorem dX4_atom_102 : decode cX4_atom 102 = .ok (.iload_n 3, 1) := by decide +kernel
theorem dX4_atom_103 : decode cX4_atom 103 = .ok (.ifCond .ne 9, 3) := by decide +kernel
theorem dX4_atom_106 : decode cX4_atom 106 = .ok (.aload_n 0, 1) := by decide +kernel
theorem dX4_atom_107 : decode cX4_atom 107 = .ok (.iconst 2, 1) := by decide +kernel
theorem dX4_atom_108 : decode cX4_atom 108 = .ok (.invokevirtual 152, 3) := by decide +kernel
theorem dX4_atom_111 : decode cX4_atom 111 = .ok (.return_, 1) := by decide +kernel
theorem dX4_atom_112 : decode cX4_atom 112 = .ok (.aload_n 0, 1) := by decide +kernel
theorem dX4_atom_113 : decode cX4_atom 113 = .ok (.iload_n 3, 1) := by decide +kernel
theorem dX4_atom_114 : decode cX4_atom 114 = .ok (.invokevirtual 218, 3) := by decide +kernel
theorem dX4_atom_117 : decode cX4_atom 117 = .ok (.aload_n 0, 1) := by decide +kernel
theorem dX4_atom_118 : decode cX4_atom 118 = .ok (.dup, 1) := by decide +kernel
theorem dX4_atom_119 : decode cX4_atom 119 = .ok (.getfield 28, 3) := by decide +kernel
theorem dX4_atom_122 : decode cX4_atom 122 = .ok (.iconst 1, 1) := by decide +kernel
theorem dX4_atom_123 : decode cX4_atom 123 = .ok (.iadd, 1) := by decide +kernel
theorem dX4_atom_124 : decode cX4_atom 124 = .ok (.putfield 28, 3) := by decide +kernel
theorem dX4_atom_127 : decode cX4_atom 127 = .ok (.return_, 1) := by decide +kernel
theorem dX4_named_0 : decode cX4_named 0 = .ok (.iload_n 1, 1) := by decide +kernel
theorem dX4_named_1 : decode cX4_named 1 = .ok (.tableswitch 125 10 20 #[59, 109, 125, 125, 125, 125, 125, 125, 94, 62, 78], 59) := by decide +kernel
theorem dX4_named_60 : decode cX4_named 60 = .ok (.bipush (-5), 2) := by decide +kernel
theorem dX4_named_62 : decode cX4_named 62 = .ok (.ireturn, 1) := by decide +kernel
theorem dX4_named_63 : decode cX4_named 63 = .ok (.aload_n 0, 1) := by decide +kernel
theorem dX4_named_64 : decode cX4_named 64 = .ok (.getfield 34, 3) := by decide +kernel
theorem dX4_named_67 : decode cX4_named 67 = .ok (.bipush 8, 2) := by decide +kernel
theorem dX4_named_69 : decode cX4_named 69 = .ok (.if_icmp .ne 7, 3) := by decide +kernel
theorem dX4_named_72 : decode cX4_named 72 = .ok (.iconst 0, 1) := by decide +kernel
theorem dX4_named_73 : decode cX4_named 73 = .ok (.goto 5, 3) := by decide +kernel
theorem dX4_named_76 : decode cX4_named 76 = .ok (.bipush (-3), 2) := by decide +kernel
theorem dX4_named_78 : decode cX4_named 78 = .ok (.ireturn, 1) := by decide +kernel
theorem dX4_named_79 : decode cX4_named 79 = .ok (.aload_n 0, 1) := by decide +kernel
theorem dX4_named_80 : decode cX4_named 80 = .ok (.getfield 34, 3) := by decide +kernel
theorem dX4_named_83 : decode cX4_named 83 = .ok (.bipush 8, 2) := by decide +kernel
theorem dX4_named_85 : decode cX4_named 85 = .ok (.if_icmp .ne 7, 3) := by decide +kernel
theorem dX4_named_88 : decode cX4_named 88 = .ok (.iconst 0, 1) := by decide +kernel
theorem dX4_named_89 : decode cX4_named 89 = .ok (.goto 5, 3) := by decide +kernel
theorem dX4_named_92 : decode cX4_named 92 = .ok (.bipush (-4), 2) := by decide +kernel
theorem dX4_named_94 : decode cX4_named 94 = .ok (.ireturn, 1) := by decide +kernel
theorem dX4_named_95 : decode cX4_named 95 = .ok (.aload_n 0, 1) := by decide +kernel
theorem dX4_named_96 : decode cX4_named 96 = .ok (.getfield 34, 3) := by decide +kernel
theorem dX4_named_99 : decode cX4_named 99 = .ok (.bipush 7, 2) := by decide +kernel
theorem dX4_named_101 : decode cX4_named 101 = .ok (.if_icmp .ne 7, 3) := by decide +kernel
theorem dX4_named_104 : decode cX4_named 104 = .ok (.iconst (-1), 1) := by decide +kernel
theorem dX4_named_105 : decode cX4_named 105 = .ok (.goto 4, 3) := by decide +kernel
theorem dX4_named_108 : decode cX4_named 108 = .ok (.iconst 0, 1) := by decide +kernel
theorem dX4_named_109 : decode cX4_named 109 = .ok (.ireturn, 1) := by decide +kernel
theorem dX4_named_110 : decode cX4_named 110 = .ok (.aload_n 0, 1) := by decide +kernel
theorem dX4_named_111 : decode cX4_named 111 = .ok (.getfield 34, 3) := by decide +kernel
theorem dX4_named_114 : decode cX4_named 114 = .ok (.bipush 7, 2) := by decide +kernel
theorem dX4_named_116 : decode cX4_named 116 = .ok (.if_icmp .ne 8, 3) := by decide +kernel
theorem dX4_named_119 : decode cX4_named 119 = .ok (.bipush (-2), 2) := by decide +kernel
theorem dX4_named_121 : decode cX4_named 121 = .ok (.goto 4, 3) := by decide +kernel
theorem dX4_named_124 : decode cX4_named 124 = .ok (.iconst 0, 1) := by decide +kernel
theorem dX4_named_125 : decode cX4_named 125 = .ok (.ireturn, 1) := by decide +kernel
theorem dX4_named_126 : decode cX4_named 126 = .ok (.iconst 0, 1) := by decide +kernel
theorem dX4_named_127 : decode cX4_named 127 = .ok (.ireturn, 1) := by decide +kernel
