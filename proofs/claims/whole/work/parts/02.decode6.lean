theorem dX6_init_0 : decode cX6_init 0 = .ok (.aload_n 0, 1) := by decide +kernel
theorem dX6_init_1 : decode cX6_init 1 = .ok (.invokespecial 1, 3) := by decide +kernel
theorem dX6_init_4 : decode cX6_init 4 = .ok (.aload_n 0, 1) := by decide +kernel
theorem dX6_init_5 : decode cX6_init 5 = .ok (.bipush 120, 2) := by decide +kernel
theorem dX6_init_7 : decode cX6_init 7 = .ok (.newarray .int, 2) := by decide +kernel
theorem dX6_init_9 : decode cX6_init 9 = .ok (.putfield 7, 3) := by decide +kernel
theorem dX6_init_12 : decode cX6_init 12 = .ok (.aload_n 0, 1) := by decide +kernel
theorem dX6_init_13 : decode cX6_init 13 = .ok (.bipush 8, 2) := by decide +kernel
theorem dX6_init_15 : decode cX6_init 15 = .ok (.newarray .int, 2) := by decide +kernel
theorem dX6_init_17 : decode cX6_init 17 = .ok (.putfield 13, 3) := by decide +kernel
theorem dX6_init_20 : decode cX6_init 20 = .ok (.aload_n 0, 1) := by decide +kernel
theorem dX6_init_21 : decode cX6_init 21 = .ok (.bipush 8, 2) := by decide +kernel
theorem dX6_init_23 : decode cX6_init 23 = .ok (.newarray .int, 2) := by decide +kernel
theorem dX6_init_25 : decode cX6_init 25 = .ok (.putfield 16, 3) := by decide +kernel
theorem dX6_init_28 : decode cX6_init 28 = .ok (.aload_n 0, 1) := by decide +kernel
theorem dX6_init_29 : decode cX6_init 29 = .ok (.bipush 96, 2) := by decide +kernel
theorem dX6_init_31 : decode cX6_init 31 = .ok (.newarray .int, 2) := by decide +kernel
theorem dX6_init_33 : decode cX6_init 33 = .ok (.putfield 19, 3) := by decide +kernel
theorem dX6_init_36 : decode cX6_init 36 = .ok (.aload_n 0, 1) := by decide +kernel
theorem dX6_init_37 : decode cX6_init 37 = .ok (.bipush 8, 2) := by decide +kernel
theorem dX6_init_39 : decode cX6_init 39 = .ok (.newarray .int, 2) := by decide +kernel
theorem dX6_init_41 : decode cX6_init 41 = .ok (.putfield 22, 3) := by decide +kernel
theorem dX6_init_44 : decode cX6_init 44 = .ok (.aload_n 0, 1) := by decide +kernel
theorem dX6_init_45 : decode cX6_init 45 = .ok (.bipush 8, 2) := by decide +kernel
theorem dX6_init_47 : decode cX6_init 47 = .ok (.newarray .int, 2) := by decide +kernel
theorem dX6_init_49 : decode cX6_init 49 = .ok (.putfield 25, 3) := by decide +kernel
theorem dX6_init_52 : decode cX6_init 52 = .ok (.aload_n 0, 1) := by decide +kernel
theorem dX6_init_53 : decode cX6_init 53 = .ok (.bipush 8, 2) := by decide +kernel
theorem dX6_init_55 : decode cX6_init 55 = .ok (.newarray .int, 2) := by decide +kernel
theorem dX6_init_57 : decode cX6_init 57 = .ok (.putfield 28, 3) := by decide +kernel
theorem dX6_init_60 : decode cX6_init 60 = .ok (.aload_n 0, 1) := by decide +kernel
theorem dX6_init_61 : decode cX6_init 61 = .ok (.bipush 8, 2) := by decide +kernel
theorem dX6_init_63 : decode cX6_init 63 = .ok (.newarray .int, 2) := by decide +kernel
theorem dX6_init_65 : decode cX6_init 65 = .ok (.putfield 31, 3) := by decide +kernel
theorem dX6_init_68 : decode cX6_init 68 = .ok (.aload_n 0, 1) := by decide +kernel
theorem dX6_init_69 : decode cX6_init 69 = .ok (.bipush 8, 2) := by decide +kernel
theorem dX6_init_71 : decode cX6_init 71 = .ok (.newarray .int, 2) := by decide +kernel
theorem dX6_init_73 : decode cX6_init 73 = .ok (.putfield 34, 3) := by decide +kernel
theorem dX6_init_76 : decode cX6_init 76 = .ok (.aload_n 0, 1) := by decide +kernel
theorem dX6_init_77 : decode cX6_init 77 = .ok (.bipush 96, 2) := by decide +kernel
theorem dX6_init_79 : decode cX6_init 79 = .ok (.newarray .int, 2) := by decide +kernel
theorem dX6_init_81 : decode cX6_init 81 = .ok (.putfield 37, 3) := by decide +kernel
theorem dX6_init_84 : decode cX6_init 84 = .ok (.aload_n 0, 1) := by decide +kernel
theorem dX6_init_85 : decode cX6_init 85 = .ok (.bipush 8, 2) := by decide +kernel
theorem dX6_init_87 : decode cX6_init 87 = .ok (.newarray .int, 2) := by decide +kernel
theorem dX6_init_89 : decode cX6_init 89 = .ok (.putfield 40, 3) := by decide +kernel
theorem dX6_init_92 : decode cX6_init 92 = .ok (.aload_n 0, 1) := by decide +kernel
theorem dX6_init_93 : decode cX6_init 93 = .ok (.bipush 8, 2) := by decide +kernel
theorem dX6_init_95 : decode cX6_init 95 = .ok (.newarray .int, 2) := by decide +kernel
theorem dX6_init_97 : decode cX6_init 97 = .ok (.putfield 43, 3) := by decide +kernel
theorem dX6_init_100 : decode cX6_init 100 = .ok (.aload_n 0, 1) := by decide +kernel
theorem dX6_init_101 : decode cX6_init 101 = .ok (.bipush 8, 2) := by decide +kernel
theorem dX6_init_103 : decode cX6_init 103 = .ok (.newarray .int, 2) := by decide +kernel
theorem dX6_init_105 : decode cX6_init 105 = .ok (.putfield 46, 3) := by decide +kernel
theorem dX6_init_108 : decode cX6_init 108 = .ok (.aload_n 0, 1) := by decide +kernel
theorem dX6_init_109 : decode cX6_init 109 = .ok (.sipush 326, 3) := by decide +kernel
theorem dX6_init_112 : decode cX6_init 112 = .ok (.newarray .int, 2) := by decide +kernel
theorem dX6_init_114 : decode cX6_init 114 = .ok (.putfield 49, 3) := by decide +kernel
theorem dX6_init_117 : decode cX6_init 117 = .ok (.aload_n 0, 1) := by decide +kernel
theorem dX6_init_118 : decode cX6_init 118 = .ok (.sipush 326, 3) := by decide +kernel
theorem dX6_init_121 : decode cX6_init 121 = .ok (.newarray .int, 2) := by decide +kernel
theorem dX6_init_123 : decode cX6_init 123 = .ok (.putfield 52, 3) := by decide +kernel
theorem dX6_init_126 : decode cX6_init 126 = .ok (.aload_n 0, 1) := by decide +kernel
theorem dX6_init_127 : decode cX6_init 127 = .ok (.sipush 3912, 3) := by decide +kernel
theorem dX6_init_130 : decode cX6_init 130 = .ok (.newarray .int, 2) := by decide +kernel
theorem dX6_init_132 : decode cX6_init 132 = .ok (.putfield 55, 3) := by decide +kernel
theorem dX6_init_135 : decode cX6_init 135 = .ok (.aload_n 0, 1) := by decide +kernel
theorem dX6_init_136 : decode cX6_init 136 = .ok (.bipush 6, 2) := by decide +kernel
theorem dX6_init_138 : decode cX6_init 138 = .ok (.newarray .int, 2) := by decide +kernel
theorem dX6_init_140 : decode cX6_init 140 = .ok (.putfield 58, 3) := by decide +kernel
theorem dX6_init_143 : decode cX6_init 143 = .ok (.aload_n 0, 1) := by decide +kernel
theorem dX6_init_144 : decode cX6_init 144 = .ok (.bipush 6, 2) := by decide +kernel
theorem dX6_init_146 : decode cX6_init 146 = .ok (.newarray .int, 2) := by decide +kernel
theorem dX6_init_148 : decode cX6_init 148 = .ok (.putfield 61, 3) := by decide +kernel
theorem dX6_init_151 : decode cX6_init 151 = .ok (.aload_n 0, 1) := by decide +kernel
theorem dX6_init_152 : decode cX6_init 152 = .ok (.bipush 6, 2) := by decide +kernel
theorem dX6_init_154 : decode cX6_init 154 = .ok (.newarray .int, 2) := by decide +kernel
theorem dX6_init_156 : decode cX6_init 156 = .ok (.putfield 64, 3) := by decide +kernel
theorem dX6_init_159 : decode cX6_init 159 = .ok (.aload_n 0, 1) := by decide +kernel
theorem dX6_init_160 : decode cX6_init 160 = .ok (.iconst 2, 1) := by decide +kernel
theorem dX6_init_161 : decode cX6_init 161 = .ok (.newarray .boolean, 2) := by decide +kernel
theorem dX6_init_163 : decode cX6_init 163 = .ok (.putfield 67, 3) := by decide +kernel
theorem dX6_init_166 : decode cX6_init 166 = .ok (.aload_n 0, 1) := by decide +kernel
theorem dX6_init_167 : decode cX6_init 167 = .ok (.sipush 652, 3) := by decide +kernel
theorem dX6_init_170 : decode cX6_init 170 = .ok (.newarray .int, 2) := by decide +kernel
theorem dX6_init_172 : decode cX6_init 172 = .ok (.putfield 71, 3) := by decide +kernel
theorem dX6_init_175 : decode cX6_init 175 = .ok (.aload_n 0, 1) := by decide +kernel
theorem dX6_init_176 : decode cX6_init 176 = .ok (.invokevirtual 74, 3) := by decide +kernel
theorem dX6_init_179 : decode cX6_init 179 = .ok (.aload_n 0, 1) := by decide +kernel
theorem dX6_init_180 : decode cX6_init 180 = .ok (.invokevirtual 77, 3) := by decide +kernel
theorem dX6_init_183 : decode cX6_init 183 = .ok (.return_, 1) := by decide +kernel
theorem dX6_in_0 : decode cX6_in 0 = .ok (.iload_n 0, 1) := by decide +kernel
theorem dX6_in_1 : decode cX6_in 1 = .ok (.iload_n 1, 1) := by decide +kernel
theorem dX6_in_2 : decode cX6_in 2 = .ok (.if_icmp .lt 12, 3) := by decide +kernel
theorem dX6_in_5 : decode cX6_in 5 = .ok (.iload_n 0, 1) := by decide +kernel
theorem dX6_in_6 : decode cX6_in 6 = .ok (.iload_n 2, 1) := by decide +kernel
theorem dX6_in_7 : decode cX6_in 7 = .ok (.if_icmp .gt 7, 3) := by decide +kernel
theorem dX6_in_10 : decode cX6_in 10 = .ok (.iconst 1, 1) := by decide +kernel
theorem dX6_in_11 : decode cX6_in 11 = .ok (.goto 4, 3) := by decide +kernel
theorem dX6_in_14 : decode cX6_in 14 = .ok (.iconst 0, 1) := by decide +kernel
theorem dX6_in_15 : decode cX6_in 15 = .ok (.ireturn, 1) := by decide +kernel
theorem dX6_type_0 : decode cX6_type 0 = .ok (.iload_n 1, 1) := by decide +kernel
theorem dX6_type_1 : decode cX6_type 1 = .ok (.iconst 0, 1) := by decide +kernel
theorem dX6_type_2 : decode cX6_type 2 = .ok (.sipush 255, 3) := by decide +kernel
theorem dX6_type_5 : decode cX6_type 5 = .ok (.invokestatic 80, 3) := by decide +kernel
theorem dX6_type_8 : decode cX6_type 8 = .ok (.ifCond .ne 5, 3) := by decide +kernel
theorem dX6_type_11 : decode cX6_type 11 = .ok (.iconst (-1), 1) := by decide +kernel
theorem dX6_type_12 : decode cX6_type 12 = .ok (.ireturn, 1) := by decide +kernel
theorem dX6_type_13 : decode cX6_type 13 = .ok (.aload_n 0, 1) := by decide +kernel
theorem dX6_type_14 : decode cX6_type 14 = .ok (.getfield 84, 3) := by decide +kernel
theorem dX6_type_17 : decode cX6_type 17 = .ok (.bipush 120, 2) := by decide +kernel
theorem dX6_type_19 : decode cX6_type 19 = .ok (.if_icmp .ne 6, 3) := by decide +kernel
theorem dX6_type_22 : decode cX6_type 22 = .ok (.bipush (-3), 2) := by decide +kernel
theorem dX6_type_24 : decode cX6_type 24 = .ok (.ireturn, 1) := by decide +kernel
theorem dX6_type_25 : decode cX6_type 25 = .ok (.aload_n 0, 1) := by decide +kernel
theorem dX6_type_26 : decode cX6_type 26 = .ok (.getfield 7, 3) := by decide +kernel
theorem dX6_type_29 : decode cX6_type 29 = .ok (.aload_n 0, 1) := by decide +kernel
theorem dX6_type_30 : decode cX6_type 30 = .ok (.getfield 84, 3) := by decide +kernel
theorem dX6_type_33 : decode cX6_type 33 = .ok (.iload_n 1, 1) := by decide +kernel
theorem dX6_type_34 : decode cX6_type 34 = .ok (.iastore, 1) := by decide +kernel
theorem dX6_type_35 : decode cX6_type 35 = .ok (.aload_n 0, 1) := by decide +kernel
theorem dX6_type_36 : decode cX6_type 36 = .ok (.dup, 1) := by decide +kernel
theorem dX6_type_37 : decode cX6_type 37 = .ok (.getfield 84, 3) := by decide +kernel
theorem dX6_type_40 : decode cX6_type 40 = .ok (.iconst 1, 1) := by decide +kernel
theorem dX6_type_41 : decode cX6_type 41 = .ok (.iadd, 1) := by decide +kernel
theorem dX6_type_42 : decode cX6_type 42 = .ok (.putfield 84, 3) := by decide +kernel
theorem dX6_type_45 : decode cX6_type 45 = .ok (.aload_n 0, 1) := by decide +kernel
theorem dX6_type_46 : decode cX6_type 46 = .ok (.getfield 84, 3) := by decide +kernel
theorem dX6_type_49 : decode cX6_type 49 = .ok (.ireturn, 1) := by decide +kernel
theorem dX6_clear_0 : decode cX6_clear 0 = .ok (.aload_n 0, 1) := by decide +kernel
theorem dX6_clear_1 : decode cX6_clear 1 = .ok (.getfield 84, 3) := by decide +kernel
theorem dX6_clear_4 : decode cX6_clear 4 = .ok (.istore_n 1, 1) := by decide +kernel
theorem dX6_clear_5 : decode cX6_clear 5 = .ok (.aload_n 0, 1) := by decide +kernel
theorem dX6_clear_6 : decode cX6_clear 6 = .ok (.iconst 0, 1) := by decide +kernel
theorem dX6_clear_7 : decode cX6_clear 7 = .ok (.putfield 84, 3) := by decide +kernel
theorem dX6_clear_10 : decode cX6_clear 10 = .ok (.iload_n 1, 1) := by decide +kernel
theorem dX6_clear_11 : decode cX6_clear 11 = .ok (.ireturn, 1) := by decide +kernel
theorem dX6_isFigure_0 : decode cX6_isFigure 0 = .ok (.aload_n 0, 1) := by decide +kernel
theorem dX6_isFigure_1 : decode cX6_isFigure 1 = .ok (.getfield 88, 3) := by decide +kernel
theorem dX6_isFigure_4 : decode cX6_isFigure 4 = .ok (.aload_n 0, 1) := by decide +kernel
theorem dX6_isFigure_5 : decode cX6_isFigure 5 = .ok (.getfield 84, 3) := by decide +kernel
theorem dX6_isFigure_8 : decode cX6_isFigure 8 = .ok (.if_icmp .ge 26, 3) := by decide +kernel
theorem dX6_isFigure_11 : decode cX6_isFigure 11 = .ok (.aload_n 0, 1) := by decide +kernel
theorem dX6_isFigure_12 : decode cX6_isFigure 12 = .ok (.getfield 7, 3) := by decide +kernel
theorem dX6_isFigure_15 : decode cX6_isFigure 15 = .ok (.aload_n 0, 1) := by decide +kernel
theorem dX6_isFigure_16 : decode cX6_isFigure 16 = .ok (.getfield 88, 3) := by decide +kernel
theorem dX6_isFigure_19 : decode cX6_isFigure 19 = .ok (.iaload, 1) := by decide +kernel
theorem dX6_isFigure_20 : decode cX6_isFigure 20 = .ok (.bipush 48, 2) := by decide +kernel
theorem dX6_isFigure_22 : decode cX6_isFigure 22 = .ok (.bipush 57, 2) := by decide +kernel
theorem dX6_isFigure_24 : decode cX6_isFigure 24 = .ok (.invokestatic 80, 3) := by decide +kernel
theorem dX6_isFigure_27 : decode cX6_isFigure 27 = .ok (.ifCond .eq 7, 3) := by decide +kernel
theorem dX6_isFigure_30 : decode cX6_isFigure 30 = .ok (.iconst 1, 1) := by decide +kernel
theorem dX6_isFigure_31 : decode cX6_isFigure 31 = .ok (.goto 4, 3) := by decide +kernel
theorem dX6_isFigure_34 : decode cX6_isFigure 34 = .ok (.iconst 0, 1) := by decide +kernel
theorem dX6_isFigure_35 : decode cX6_isFigure 35 = .ok (.ireturn, 1) := by decide +kernel
theorem dX6_blanks_0 : decode cX6_blanks 0 = .ok (.aload_n 0, 1) := by decide +kernel
theorem dX6_blanks_1 : decode cX6_blanks 1 = .ok (.getfield 88, 3) := by decide +kernel
theorem dX6_blanks_4 : decode cX6_blanks 4 = .ok (.aload_n 0, 1) := by decide +kernel
theorem dX6_blanks_5 : decode cX6_blanks 5 = .ok (.getfield 84, 3) := by decide +kernel
theorem dX6_blanks_8 : decode cX6_blanks 8 = .ok (.if_icmp .ge 30, 3) := by decide +kernel
theorem dX6_blanks_11 : decode cX6_blanks 11 = .ok (.aload_n 0, 1) := by decide +kernel
theorem dX6_blanks_12 : decode cX6_blanks 12 = .ok (.getfield 7, 3) := by decide +kernel
theorem dX6_blanks_15 : decode cX6_blanks 15 = .ok (.aload_n 0, 1) := by decide +kernel
theorem dX6_blanks_16 : decode cX6_blanks 16 = .ok (.getfield 88, 3) := by decide +kernel
theorem dX6_blanks_19 : decode cX6_blanks 19 = .ok (.iaload, 1) := by decide +kernel
theorem dX6_blanks_20 : decode cX6_blanks 20 = .ok (.bipush 32, 2) := by decide +kernel
theorem dX6_blanks_22 : decode cX6_blanks 22 = .ok (.if_icmp .ne 16, 3) := by decide +kernel
theorem dX6_blanks_25 : decode cX6_blanks 25 = .ok (.aload_n 0, 1) := by decide +kernel
theorem dX6_blanks_26 : decode cX6_blanks 26 = .ok (.dup, 1) := by decide +kernel
theorem dX6_blanks_27 : decode cX6_blanks 27 = .ok (.getfield 88, 3) := by decide +kernel
theorem dX6_blanks_30 : decode cX6_blanks 30 = .ok (.iconst 1, 1) := by decide +kernel
theorem dX6_blanks_31 : decode cX6_blanks 31 = .ok (.iadd, 1) := by decide +kernel
theorem dX6_blanks_32 : decode cX6_blanks 32 = .ok (.putfield 88, 3) := by decide +kernel
theorem dX6_blanks_35 : decode cX6_blanks 35 = .ok (.goto (-35), 3) := by decide +kernel
theorem dX6_blanks_38 : decode cX6_blanks 38 = .ok (.return_, 1) := by decide +kernel
theorem dX6_isToken_0 : decode cX6_isToken 0 = .ok (.iload_n 0, 1) := by decide +kernel
theorem dX6_isToken_1 : decode cX6_isToken 1 = .ok (.lookupswitch 109 #[(59, 107), (98, 107), (99, 107), (100, 107), (102, 107), (103, 107), (106, 107), (114, 107), (115, 107), (116, 107), (119, 107), (120, 107)], 107) := by decide +kernel
theorem dX6_isToken_108 : decode cX6_isToken 108 = .ok (.iconst 1, 1) := by decide +kernel
theorem dX6_isToken_109 : decode cX6_isToken 109 = .ok (.ireturn, 1) := by decide +kernel
theorem dX6_isToken_110 : decode cX6_isToken 110 = .ok (.iconst 0, 1) := by decide +kernel
theorem dX6_isToken_111 : decode cX6_isToken 111 = .ok (.ireturn, 1) := by decide +kernel
theorem dX6_next_0 : decode cX6_next 0 = .ok (.aload_n 0, 1) := by decide +kernel
theorem dX6_next_1 : decode cX6_next 1 = .ok (.invokevirtual 91, 3) := by decide +kernel
theorem dX6_next_4 : decode cX6_next 4 = .ok (.aload_n 0, 1) := by decide +kernel
theorem dX6_next_5 : decode cX6_next 5 = .ok (.aload_n 0, 1) := by decide +kernel
theorem dX6_next_6 : decode cX6_next 6 = .ok (.getfield 88, 3) := by decide +kernel
theorem dX6_next_9 : decode cX6_next 9 = .ok (.putfield 94, 3) := by decide +kernel
theorem dX6_next_12 : decode cX6_next 12 = .ok (.aload_n 0, 1) := by decide +kernel
theorem dX6_next_13 : decode cX6_next 13 = .ok (.getfield 88, 3) := by decide +kernel
theorem dX6_next_16 : decode cX6_next 16 = .ok (.aload_n 0, 1) := by decide +kernel
theorem dX6_next_17 : decode cX6_next 17 = .ok (.getfield 84, 3) := by decide +kernel
theorem dX6_next_20 : decode cX6_next 20 = .ok (.if_icmp .ne 11, 3) := by decide +kernel
theorem dX6_next_23 : decode cX6_next 23 = .ok (.aload_n 0, 1) := by decide +kernel
theorem dX6_next_24 : decode cX6_next 24 = .ok (.iconst (-1), 1) := by decide +kernel
theorem dX6_next_25 : decode cX6_next 25 = .ok (.putfield 97, 3) := by decide +kernel
theorem dX6_next_28 : decode cX6_next 28 = .ok (.goto 167, 3) := by decide +kernel
theorem dX6_next_31 : decode cX6_next 31 = .ok (.aload_n 0, 1) := by decide +kernel
theorem dX6_next_32 : decode cX6_next 32 = .ok (.invokevirtual 100, 3) := by decide +kernel
theorem dX6_next_35 : decode cX6_next 35 = .ok (.ifCond .eq 117, 3) := by decide +kernel
theorem dX6_next_38 : decode cX6_next 38 = .ok (.aload_n 0, 1) := by decide +kernel
theorem dX6_next_39 : decode cX6_next 39 = .ok (.iconst 0, 1) := by decide +kernel
theorem dX6_next_40 : decode cX6_next 40 = .ok (.putfield 104, 3) := by decide +kernel
theorem dX6_next_43 : decode cX6_next 43 = .ok (.aload_n 0, 1) := by decide +kernel
theorem dX6_next_44 : decode cX6_next 44 = .ok (.invokevirtual 100, 3) := by decide +kernel
theorem dX6_next_47 : decode cX6_next 47 = .ok (.ifCond .eq 56, 3) := by decide +kernel
theorem dX6_next_50 : decode cX6_next 50 = .ok (.aload_n 0, 1) := by decide +kernel
theorem dX6_next_51 : decode cX6_next 51 = .ok (.aload_n 0, 1) := by decide +kernel
theorem dX6_next_52 : decode cX6_next 52 = .ok (.getfield 104, 3) := by decide +kernel
theorem dX6_next_55 : decode cX6_next 55 = .ok (.bipush 99, 2) := by decide +kernel
theorem dX6_next_57 : decode cX6_next 57 = .ok (.if_icmp .le 10, 3) := by decide +kernel
theorem dX6_next_60 : decode cX6_next 60 = .ok (.aload_n 0, 1) := by decide +kernel
theorem dX6_next_61 : decode cX6_next 61 = .ok (.getfield 104, 3) := by decide +kernel
theorem dX6_next_64 : decode cX6_next 64 = .ok (.goto 23, 3) := by decide +kernel
theorem dX6_next_67 : decode cX6_next 67 = .ok (.bipush 10, 2) := by decide +kernel
theorem dX6_next_69 : decode cX6_next 69 = .ok (.aload_n 0, 1) := by decide +kernel
theorem dX6_next_70 : decode cX6_next 70 = .ok (.getfield 104, 3) := by decide +kernel
theorem dX6_next_73 : decode cX6_next 73 = .ok (.imul, 1) := by decide +kernel
theorem dX6_next_74 : decode cX6_next 74 = .ok (.aload_n 0, 1) := by decide +kernel
theorem dX6_next_75 : decode cX6_next 75 = .ok (.getfield 7, 3) := by decide +kernel
theorem dX6_next_78 : decode cX6_next 78 = .ok (.aload_n 0, 1) := by decide +kernel
theorem dX6_next_79 : decode cX6_next 79 = .ok (.getfield 88, 3) := by decide +kernel
theorem dX6_next_82 : decode cX6_next 82 = .ok (.iaload, 1) := by decide +kernel
theorem dX6_next_83 : decode cX6_next 83 = .ok (.iadd, 1) := by decide +kernel
theorem dX6_next_84 : decode cX6_next 84 = .ok (.bipush 48, 2) := by decide +kernel
theorem dX6_next_86 : decode cX6_next 86 = .ok (.isub, 1) := by decide +kernel
theorem dX6_next_87 : decode cX6_next 87 = .ok (.putfield 104, 3) := by decide +kernel
theorem dX6_next_90 : decode cX6_next 90 = .ok (.aload_n 0, 1) := by decide +kernel
theorem dX6_next_91 : decode cX6_next 91 = .ok (.dup, 1) := by decide +kernel
theorem dX6_next_92 : decode cX6_next 92 = .ok (.getfield 88, 3) := by decide +kernel
theorem dX6_next_95 : decode cX6_next 95 = .ok (.iconst 1, 1) := by decide +kernel
theorem dX6_next_96 : decode cX6_next 96 = .ok (.iadd, 1) := by decide +kernel
theorem dX6_next_97 : decode cX6_next 97 = .ok (.putfield 88, 3) := by decide +kernel
theorem dX6_next_100 : decode cX6_next 100 = .ok (.goto (-57), 3) := by decide +kernel
theorem dX6_next_103 : decode cX6_next 103 = .ok (.aload_n 0, 1) := by decide +kernel
theorem dX6_next_104 : decode cX6_next 104 = .ok (.aload_n 0, 1) := by decide +kernel
theorem dX6_next_105 : decode cX6_next 105 = .ok (.getfield 104, 3) := by decide +kernel
theorem dX6_next_108 : decode cX6_next 108 = .ok (.bipush 99, 2) := by decide +kernel
theorem dX6_next_110 : decode cX6_next 110 = .ok (.if_icmp .gt 30, 3) := by decide +kernel
theorem dX6_next_113 : decode cX6_next 113 = .ok (.aload_n 0, 1) := by decide +kernel
theorem dX6_next_114 : decode cX6_next 114 = .ok (.getfield 7, 3) := by decide +kernel
theorem dX6_next_117 : decode cX6_next 117 = .ok (.aload_n 0, 1) := by decide +kernel
theorem dX6_next_118 : decode cX6_next 118 = .ok (.getfield 94, 3) := by decide +kernel
theorem dX6_next_121 : decode cX6_next 121 = .ok (.iaload, 1) := by decide +kernel
theorem dX6_next_122 : decode cX6_next 122 = .ok (.bipush 48, 2) := by decide +kernel
theorem dX6_next_124 : decode cX6_next 124 = .ok (.if_icmp .ne 21, 3) := by decide +kernel
theorem dX6_next_127 : decode cX6_next 127 = .ok (.aload_n 0, 1) := by decide +kernel
theorem dX6_next_128 : decode cX6_next 128 = .ok (.getfield 88, 3) := by decide +kernel
theorem dX6_next_131 : decode cX6_next 131 = .ok (.aload_n 0, 1) := by decide +kernel
theorem dX6_next_132 : decode cX6_next 132 = .ok (.getfield 94, 3) := by decide +kernel
theorem dX6_next_135 : decode cX6_next 135 = .ok (.isub, 1) := by decide +kernel
theorem dX6_next_136 : decode cX6_next 136 = .ok (.iconst 1, 1) := by decide +kernel
theorem dX6_next_137 : decode cX6_next 137 = .ok (.if_icmp .le 8, 3) := by decide +kernel
theorem dX6_next_140 : decode cX6_next 140 = .ok (.bipush (-2), 2) := by decide +kernel
theorem dX6_next_142 : decode cX6_next 142 = .ok (.goto 4, 3) := by decide +kernel
theorem dX6_next_145 : decode cX6_next 145 = .ok (.iconst 0, 1) := by decide +kernel
theorem dX6_next_146 : decode cX6_next 146 = .ok (.putfield 97, 3) := by decide +kernel
theorem dX6_next_149 : decode cX6_next 149 = .ok (.goto 46, 3) := by decide +kernel
theorem dX6_next_152 : decode cX6_next 152 = .ok (.aload_n 0, 1) := by decide +kernel
theorem dX6_next_153 : decode cX6_next 153 = .ok (.aload_n 0, 1) := by decide +kernel
theorem dX6_next_154 : decode cX6_next 154 = .ok (.getfield 7, 3) := by decide +kernel
theorem dX6_next_157 : decode cX6_next 157 = .ok (.aload_n 0, 1) := by decide +kernel
theorem dX6_next_158 : decode cX6_next 158 = .ok (.getfield 88, 3) := by decide +kernel
theorem dX6_next_161 : decode cX6_next 161 = .ok (.iaload, 1) := by decide +kernel
theorem dX6_next_162 : decode cX6_next 162 = .ok (.invokestatic 107, 3) := by decide +kernel
theorem dX6_next_165 : decode cX6_next 165 = .ok (.ifCond .eq 15, 3) := by decide +kernel
theorem dX6_next_168 : decode cX6_next 168 = .ok (.aload_n 0, 1) := by decide +kernel
theorem dX6_next_169 : decode cX6_next 169 = .ok (.getfield 7, 3) := by decide +kernel
theorem dX6_next_172 : decode cX6_next 172 = .ok (.aload_n 0, 1) := by decide +kernel
theorem dX6_next_173 : decode cX6_next 173 = .ok (.getfield 88, 3) := by decide +kernel
theorem dX6_next_176 : decode cX6_next 176 = .ok (.iaload, 1) := by decide +kernel
theorem dX6_next_177 : decode cX6_next 177 = .ok (.goto 5, 3) := by decide +kernel
theorem dX6_next_180 : decode cX6_next 180 = .ok (.bipush (-2), 2) := by decide +kernel
theorem dX6_next_182 : decode cX6_next 182 = .ok (.putfield 97, 3) := by decide +kernel
theorem dX6_next_185 : decode cX6_next 185 = .ok (.aload_n 0, 1) := by decide +kernel
theorem dX6_next_186 : decode cX6_next 186 = .ok (.dup, 1) := by decide +kernel
theorem dX6_next_187 : decode cX6_next 187 = .ok (.getfield 88, 3) := by decide +kernel
theorem dX6_next_190 : decode cX6_next 190 = .ok (.iconst 1, 1) := by decide +kernel
theorem dX6_next_191 : decode cX6_next 191 = .ok (.iadd, 1) := by decide +kernel
theorem dX6_next_192 : decode cX6_next 192 = .ok (.putfield 88, 3) := by decide +kernel
theorem dX6_next_195 : decode cX6_next 195 = .ok (.return_, 1) := by decide +kernel
theorem dX6_fails_0 : decode cX6_fails 0 = .ok (.aload_n 0, 1) := by decide +kernel
theorem dX6_fails_1 : decode cX6_fails 1 = .ok (.aload_n 0, 1) := by decide +kernel
theorem dX6_fails_2 : decode cX6_fails 2 = .ok (.getfield 94, 3) := by decide +kernel
theorem dX6_fails_5 : decode cX6_fails 5 = .ok (.putfield 111, 3) := by decide +kernel
theorem dX6_fails_8 : decode cX6_fails 8 = .ok (.iconst 0, 1) := by decide +kernel
theorem dX6_fails_9 : decode cX6_fails 9 = .ok (.ireturn, 1) := by decide +kernel
theorem dX6_number_0 : decode cX6_number 0 = .ok (.aload_n 0, 1) := by decide +kernel
theorem dX6_number_1 : decode cX6_number 1 = .ok (.invokevirtual 114, 3) := by decide +kernel
theorem dX6_number_4 : decode cX6_number 4 = .ok (.aload_n 0, 1) := by decide +kernel
theorem dX6_number_5 : decode cX6_number 5 = .ok (.getfield 97, 3) := by decide +kernel
theorem dX6_number_8 : decode cX6_number 8 = .ok (.ifCond .ne 15, 3) := by decide +kernel
theorem dX6_number_11 : decode cX6_number 11 = .ok (.aload_n 0, 1) := by decide +kernel
theorem dX6_number_12 : decode cX6_number 12 = .ok (.getfield 104, 3) := by decide +kernel
theorem dX6_number_15 : decode cX6_number 15 = .ok (.iload_n 1, 1) := by decide +kernel
theorem dX6_number_16 : decode cX6_number 16 = .ok (.iload_n 2, 1) := by decide +kernel
theorem dX6_number_17 : decode cX6_number 17 = .ok (.invokestatic 80, 3) := by decide +kernel
theorem dX6_number_20 : decode cX6_number 20 = .ok (.ifCond .ne 10, 3) := by decide +kernel
theorem dX6_number_23 : decode cX6_number 23 = .ok (.aload_n 0, 1) := by decide +kernel
theorem dX6_number_24 : decode cX6_number 24 = .ok (.invokevirtual 117, 3) := by decide +kernel
theorem dX6_number_27 : decode cX6_number 27 = .ok (.ifCond .eq 7, 3) := by decide +kernel
theorem dX6_number_30 : decode cX6_number 30 = .ok (.iconst 1, 1) := by decide +kernel
theorem dX6_number_31 : decode cX6_number 31 = .ok (.goto 4, 3) := by decide +kernel
theorem dX6_number_34 : decode cX6_number 34 = .ok (.iconst 0, 1) := by decide +kernel
theorem dX6_number_35 : decode cX6_number 35 = .ok (.ireturn, 1) := by decide +kernel
theorem dX6_ends_0 : decode cX6_ends 0 = .ok (.aload_n 0, 1) := by decide +kernel
theorem dX6_ends_1 : decode cX6_ends 1 = .ok (.invokevirtual 114, 3) := by decide +kernel
theorem dX6_ends_4 : decode cX6_ends 4 = .ok (.aload_n 0, 1) := by decide +kernel
theorem dX6_ends_5 : decode cX6_ends 5 = .ok (.getfield 97, 3) := by decide +kernel
theorem dX6_ends_8 : decode cX6_ends 8 = .ok (.bipush 59, 2) := by decide +kernel
theorem dX6_ends_10 : decode cX6_ends 10 = .ok (.if_icmp .eq 10, 3) := by decide +kernel
theorem dX6_ends_13 : decode cX6_ends 13 = .ok (.aload_n 0, 1) := by decide +kernel
theorem dX6_ends_14 : decode cX6_ends 14 = .ok (.invokevirtual 117, 3) := by decide +kernel
theorem dX6_ends_17 : decode cX6_ends 17 = .ok (.ifCond .eq 7, 3) := by decide +kernel
theorem dX6_ends_20 : decode cX6_ends 20 = .ok (.iconst 1, 1) := by decide +kernel
theorem dX6_ends_21 : decode cX6_ends 21 = .ok (.goto 4, 3) := by decide +kernel
theorem dX6_ends_24 : decode cX6_ends 24 = .ok (.iconst 0, 1) := by decide +kernel
theorem dX6_ends_25 : decode cX6_ends 25 = .ok (.ireturn, 1) := by decide +kernel
theorem dX6_begins_0 : decode cX6_begins 0 = .ok (.aload_n 0, 1) := by decide +kernel
theorem dX6_begins_1 : decode cX6_begins 1 = .ok (.iconst 0, 1) := by decide +kernel
theorem dX6_begins_2 : decode cX6_begins 2 = .ok (.putfield 120, 3) := by decide +kernel
theorem dX6_begins_5 : decode cX6_begins 5 = .ok (.aload_n 0, 1) := by decide +kernel
theorem dX6_begins_6 : decode cX6_begins 6 = .ok (.iconst 0, 1) := by decide +kernel
theorem dX6_begins_7 : decode cX6_begins 7 = .ok (.putfield 123, 3) := by decide +kernel
theorem dX6_begins_10 : decode cX6_begins 10 = .ok (.iconst 0, 1) := by decide +kernel
theorem dX6_begins_11 : decode cX6_begins 11 = .ok (.istore_n 1, 1) := by decide +kernel
theorem dX6_begins_12 : decode cX6_begins 12 = .ok (.iload_n 1, 1) := by decide +kernel
theorem dX6_begins_13 : decode cX6_begins 13 = .ok (.bipush 8, 2) := by decide +kernel
theorem dX6_begins_15 : decode cX6_begins 15 = .ok (.if_icmp .ge 46, 3) := by decide +kernel
theorem dX6_begins_18 : decode cX6_begins 18 = .ok (.aload_n 0, 1) := by decide +kernel
theorem dX6_begins_19 : decode cX6_begins 19 = .ok (.getfield 13, 3) := by decide +kernel
theorem dX6_begins_22 : decode cX6_begins 22 = .ok (.iload_n 1, 1) := by decide +kernel
theorem dX6_begins_23 : decode cX6_begins 23 = .ok (.bipush (-9), 2) := by decide +kernel
theorem dX6_begins_25 : decode cX6_begins 25 = .ok (.iastore, 1) := by decide +kernel
theorem dX6_begins_26 : decode cX6_begins 26 = .ok (.aload_n 0, 1) := by decide +kernel
theorem dX6_begins_27 : decode cX6_begins 27 = .ok (.getfield 16, 3) := by decide +kernel
theorem dX6_begins_30 : decode cX6_begins 30 = .ok (.iload_n 1, 1) := by decide +kernel
theorem dX6_begins_31 : decode cX6_begins 31 = .ok (.iconst 0, 1) := by decide +kernel
theorem dX6_begins_32 : decode cX6_begins 32 = .ok (.iastore, 1) := by decide +kernel
theorem dX6_begins_33 : decode cX6_begins 33 = .ok (.aload_n 0, 1) := by decide +kernel
theorem dX6_begins_34 : decode cX6_begins 34 = .ok (.getfield 22, 3) := by decide +kernel
theorem dX6_begins_37 : decode cX6_begins 37 = .ok (.iload_n 1, 1) := by decide +kernel
theorem dX6_begins_38 : decode cX6_begins 38 = .ok (.bipush 99, 2) := by decide +kernel
theorem dX6_begins_40 : decode cX6_begins 40 = .ok (.iastore, 1) := by decide +kernel
theorem dX6_begins_41 : decode cX6_begins 41 = .ok (.aload_n 0, 1) := by decide +kernel
theorem dX6_begins_42 : decode cX6_begins 42 = .ok (.getfield 25, 3) := by decide +kernel
theorem dX6_begins_45 : decode cX6_begins 45 = .ok (.iload_n 1, 1) := by decide +kernel
theorem dX6_begins_46 : decode cX6_begins 46 = .ok (.iconst 0, 1) := by decide +kernel
theorem dX6_begins_47 : decode cX6_begins 47 = .ok (.iastore, 1) := by decide +kernel
theorem dX6_begins_48 : decode cX6_begins 48 = .ok (.aload_n 0, 1) := by decide +kernel
theorem dX6_begins_49 : decode cX6_begins 49 = .ok (.getfield 28, 3) := by decide +kernel
theorem dX6_begins_52 : decode cX6_begins 52 = .ok (.iload_n 1, 1) := by decide +kernel
theorem dX6_begins_53 : decode cX6_begins 53 = .ok (.iconst 0, 1) := by decide +kernel
theorem dX6_begins_54 : decode cX6_begins 54 = .ok (.iastore, 1) := by decide +kernel
theorem dX6_begins_55 : decode cX6_begins 55 = .ok (.iinc 1 1, 3) := by decide +kernel
theorem dX6_begins_58 : decode cX6_begins 58 = .ok (.goto (-46), 3) := by decide +kernel
theorem dX6_begins_61 : decode cX6_begins 61 = .ok (.return_, 1) := by decide +kernel
theorem dX6_readsProgram_0 : decode cX6_readsProgram 0 = .ok (.aload_n 0, 1) := by decide +kernel
theorem dX6_readsProgram_1 : decode cX6_readsProgram 1 = .ok (.invokevirtual 114, 3) := by decide +kernel
theorem dX6_readsProgram_4 : decode cX6_readsProgram 4 = .ok (.aload_n 0, 1) := by decide +kernel
theorem dX6_readsProgram_5 : decode cX6_readsProgram 5 = .ok (.getfield 97, 3) := by decide +kernel
theorem dX6_readsProgram_8 : decode cX6_readsProgram 8 = .ok (.bipush 59, 2) := by decide +kernel
theorem dX6_readsProgram_10 : decode cX6_readsProgram 10 = .ok (.if_icmp .eq 157, 3) := by decide +kernel
theorem dX6_readsProgram_13 : decode cX6_readsProgram 13 = .ok (.aload_n 0, 1) := by decide +kernel
theorem dX6_readsProgram_14 : decode cX6_readsProgram 14 = .ok (.getfield 97, 3) := by decide +kernel
theorem dX6_readsProgram_17 : decode cX6_readsProgram 17 = .ok (.istore_n 2, 1) := by decide +kernel
theorem dX6_readsProgram_18 : decode cX6_readsProgram 18 = .ok (.iload_n 2, 1) := by decide +kernel
theorem dX6_readsProgram_19 : decode cX6_readsProgram 19 = .ok (.bipush 119, 2) := by decide +kernel
theorem dX6_readsProgram_21 : decode cX6_readsProgram 21 = .ok (.if_icmp .eq 27, 3) := by decide +kernel
theorem dX6_readsProgram_24 : decode cX6_readsProgram 24 = .ok (.iload_n 2, 1) := by decide +kernel
theorem dX6_readsProgram_25 : decode cX6_readsProgram 25 = .ok (.bipush 98, 2) := by decide +kernel
theorem dX6_readsProgram_27 : decode cX6_readsProgram 27 = .ok (.if_icmp .eq 21, 3) := by decide +kernel
theorem dX6_readsProgram_30 : decode cX6_readsProgram 30 = .ok (.iload_n 2, 1) := by decide +kernel
theorem dX6_readsProgram_31 : decode cX6_readsProgram 31 = .ok (.bipush 106, 2) := by decide +kernel
theorem dX6_readsProgram_33 : decode cX6_readsProgram 33 = .ok (.if_icmp .eq 15, 3) := by decide +kernel
theorem dX6_readsProgram_36 : decode cX6_readsProgram 36 = .ok (.iload_n 2, 1) := by decide +kernel
theorem dX6_readsProgram_37 : decode cX6_readsProgram 37 = .ok (.bipush 120, 2) := by decide +kernel
theorem dX6_readsProgram_39 : decode cX6_readsProgram 39 = .ok (.if_icmp .eq 9, 3) := by decide +kernel
theorem dX6_readsProgram_42 : decode cX6_readsProgram 42 = .ok (.iload_n 2, 1) := by decide +kernel
theorem dX6_readsProgram_43 : decode cX6_readsProgram 43 = .ok (.bipush 102, 2) := by decide +kernel
theorem dX6_readsProgram_45 : decode cX6_readsProgram 45 = .ok (.if_icmp .ne 7, 3) := by decide +kernel
theorem dX6_readsProgram_48 : decode cX6_readsProgram 48 = .ok (.iconst 1, 1) := by decide +kernel
theorem dX6_readsProgram_49 : decode cX6_readsProgram 49 = .ok (.goto 4, 3) := by decide +kernel
theorem dX6_readsProgram_52 : decode cX6_readsProgram 52 = .ok (.iconst 0, 1) := by decide +kernel
theorem dX6_readsProgram_53 : decode cX6_readsProgram 53 = .ok (.istore_n 3, 1) := by decide +kernel
theorem dX6_readsProgram_54 : decode cX6_readsProgram 54 = .ok (.iload_n 3, 1) := by decide +kernel
theorem dX6_readsProgram_55 : decode cX6_readsProgram 55 = .ok (.ifCond .eq 14, 3) := by decide +kernel
theorem dX6_readsProgram_58 : decode cX6_readsProgram 58 = .ok (.aload_n 0, 1) := by decide +kernel
theorem dX6_readsProgram_59 : decode cX6_readsProgram 59 = .ok (.getfield 16, 3) := by decide +kernel
theorem dX6_readsProgram_62 : decode cX6_readsProgram 62 = .ok (.iload_n 1, 1) := by decide +kernel
theorem dX6_readsProgram_63 : decode cX6_readsProgram 63 = .ok (.iaload, 1) := by decide +kernel
theorem dX6_readsProgram_64 : decode cX6_readsProgram 64 = .ok (.bipush 6, 2) := by decide +kernel
theorem dX6_readsProgram_66 : decode cX6_readsProgram 66 = .ok (.if_icmp .ne 8, 3) := by decide +kernel
theorem dX6_readsProgram_69 : decode cX6_readsProgram 69 = .ok (.aload_n 0, 1) := by decide +kernel
theorem dX6_readsProgram_70 : decode cX6_readsProgram 70 = .ok (.invokevirtual 117, 3) := by decide +kernel
theorem dX6_readsProgram_73 : decode cX6_readsProgram 73 = .ok (.ireturn, 1) := by decide +kernel
theorem dX6_readsProgram_74 : decode cX6_readsProgram 74 = .ok (.iload_n 2, 1) := by decide +kernel
theorem dX6_readsProgram_75 : decode cX6_readsProgram 75 = .ok (.bipush 119, 2) := by decide +kernel
theorem dX6_readsProgram_77 : decode cX6_readsProgram 77 = .ok (.if_icmp .eq 9, 3) := by decide +kernel
theorem dX6_readsProgram_80 : decode cX6_readsProgram 80 = .ok (.iload_n 2, 1) := by decide +kernel
theorem dX6_readsProgram_81 : decode cX6_readsProgram 81 = .ok (.bipush 102, 2) := by decide +kernel
theorem dX6_readsProgram_83 : decode cX6_readsProgram 83 = .ok (.if_icmp .ne 15, 3) := by decide +kernel
theorem dX6_readsProgram_86 : decode cX6_readsProgram 86 = .ok (.aload_n 0, 1) := by decide +kernel
theorem dX6_readsProgram_87 : decode cX6_readsProgram 87 = .ok (.iconst 1, 1) := by decide +kernel
theorem dX6_readsProgram_88 : decode cX6_readsProgram 88 = .ok (.bipush 9, 2) := by decide +kernel
theorem dX6_readsProgram_90 : decode cX6_readsProgram 90 = .ok (.invokevirtual 126, 3) := by decide +kernel
theorem dX6_readsProgram_93 : decode cX6_readsProgram 93 = .ok (.ifCond .ne 5, 3) := by decide +kernel
theorem dX6_readsProgram_96 : decode cX6_readsProgram 96 = .ok (.iconst 0, 1) := by decide +kernel
theorem dX6_readsProgram_97 : decode cX6_readsProgram 97 = .ok (.ireturn, 1) := by decide +kernel
theorem dX6_readsProgram_98 : decode cX6_readsProgram 98 = .ok (.bipush 12, 2) := by decide +kernel
theorem dX6_readsProgram_100 : decode cX6_readsProgram 100 = .ok (.iload_n 1, 1) := by decide +kernel
theorem dX6_readsProgram_101 : decode cX6_readsProgram 101 = .ok (.imul, 1) := by decide +kernel
theorem dX6_readsProgram_102 : decode cX6_readsProgram 102 = .ok (.iconst 2, 1) := by decide +kernel
theorem dX6_readsProgram_103 : decode cX6_readsProgram 103 = .ok (.aload_n 0, 1) := by decide +kernel
theorem dX6_readsProgram_104 : decode cX6_readsProgram 104 = .ok (.getfield 16, 3) := by decide +kernel
theorem dX6_readsProgram_107 : decode cX6_readsProgram 107 = .ok (.iload_n 1, 1) := by decide +kernel
theorem dX6_readsProgram_108 : decode cX6_readsProgram 108 = .ok (.iaload, 1) := by decide +kernel
theorem dX6_readsProgram_109 : decode cX6_readsProgram 109 = .ok (.imul, 1) := by decide +kernel
theorem dX6_readsProgram_110 : decode cX6_readsProgram 110 = .ok (.iadd, 1) := by decide +kernel
theorem dX6_readsProgram_111 : decode cX6_readsProgram 111 = .ok (.istore 4, 2) := by decide +kernel
theorem dX6_readsProgram_113 : decode cX6_readsProgram 113 = .ok (.aload_n 0, 1) := by decide +kernel
theorem dX6_readsProgram_114 : decode cX6_readsProgram 114 = .ok (.getfield 19, 3) := by decide +kernel
theorem dX6_readsProgram_117 : decode cX6_readsProgram 117 = .ok (.iload 4, 2) := by decide +kernel
theorem dX6_readsProgram_119 : decode cX6_readsProgram 119 = .ok (.iload_n 2, 1) := by decide +kernel
theorem dX6_readsProgram_120 : decode cX6_readsProgram 120 = .ok (.iastore, 1) := by decide +kernel
theorem dX6_readsProgram_121 : decode cX6_readsProgram 121 = .ok (.aload_n 0, 1) := by decide +kernel
theorem dX6_readsProgram_122 : decode cX6_readsProgram 122 = .ok (.getfield 19, 3) := by decide +kernel
theorem dX6_readsProgram_125 : decode cX6_readsProgram 125 = .ok (.iload 4, 2) := by decide +kernel
theorem dX6_readsProgram_127 : decode cX6_readsProgram 127 = .ok (.iconst 1, 1) := by decide +kernel
theorem dX6_readsProgram_128 : decode cX6_readsProgram 128 = .ok (.iadd, 1) := by decide +kernel
theorem dX6_readsProgram_129 : decode cX6_readsProgram 129 = .ok (.iload_n 2, 1) := by decide +kernel
theorem dX6_readsProgram_130 : decode cX6_readsProgram 130 = .ok (.bipush 119, 2) := by decide +kernel
theorem dX6_readsProgram_132 : decode cX6_readsProgram 132 = .ok (.if_icmp .eq 9, 3) := by decide +kernel
theorem dX6_readsProgram_135 : decode cX6_readsProgram 135 = .ok (.iload_n 2, 1) := by decide +kernel
theorem dX6_readsProgram_136 : decode cX6_readsProgram 136 = .ok (.bipush 102, 2) := by decide +kernel
theorem dX6_readsProgram_138 : decode cX6_readsProgram 138 = .ok (.if_icmp .ne 10, 3) := by decide +kernel
theorem dX6_readsProgram_141 : decode cX6_readsProgram 141 = .ok (.aload_n 0, 1) := by decide +kernel
theorem dX6_readsProgram_142 : decode cX6_readsProgram 142 = .ok (.getfield 104, 3) := by decide +kernel
theorem dX6_readsProgram_145 : decode cX6_readsProgram 145 = .ok (.goto 4, 3) := by decide +kernel
theorem dX6_readsProgram_148 : decode cX6_readsProgram 148 = .ok (.iconst 0, 1) := by decide +kernel
theorem dX6_readsProgram_149 : decode cX6_readsProgram 149 = .ok (.iastore, 1) := by decide +kernel
theorem dX6_readsProgram_150 : decode cX6_readsProgram 150 = .ok (.aload_n 0, 1) := by decide +kernel
theorem dX6_readsProgram_151 : decode cX6_readsProgram 151 = .ok (.getfield 16, 3) := by decide +kernel
theorem dX6_readsProgram_154 : decode cX6_readsProgram 154 = .ok (.iload_n 1, 1) := by decide +kernel
theorem dX6_readsProgram_155 : decode cX6_readsProgram 155 = .ok (.dup2, 1) := by decide +kernel
theorem dX6_readsProgram_156 : decode cX6_readsProgram 156 = .ok (.iaload, 1) := by decide +kernel
theorem dX6_readsProgram_157 : decode cX6_readsProgram 157 = .ok (.iconst 1, 1) := by decide +kernel
theorem dX6_readsProgram_158 : decode cX6_readsProgram 158 = .ok (.iadd, 1) := by decide +kernel
theorem dX6_readsProgram_159 : decode cX6_readsProgram 159 = .ok (.iastore, 1) := by decide +kernel
theorem dX6_readsProgram_160 : decode cX6_readsProgram 160 = .ok (.aload_n 0, 1) := by decide +kernel
theorem dX6_readsProgram_161 : decode cX6_readsProgram 161 = .ok (.invokevirtual 114, 3) := by decide +kernel
theorem dX6_readsProgram_164 : decode cX6_readsProgram 164 = .ok (.goto (-160), 3) := by decide +kernel
theorem dX6_readsProgram_167 : decode cX6_readsProgram 167 = .ok (.iconst 1, 1) := by decide +kernel
theorem dX6_readsProgram_168 : decode cX6_readsProgram 168 = .ok (.ireturn, 1) := by decide +kernel
theorem dX6_readsTask_0 : decode cX6_readsTask 0 = .ok (.aload_n 0, 1) := by decide +kernel
theorem dX6_readsTask_1 : decode cX6_readsTask 1 = .ok (.getfield 120, 3) := by decide +kernel
theorem dX6_readsTask_4 : decode cX6_readsTask 4 = .ok (.bipush 8, 2) := by decide +kernel
theorem dX6_readsTask_6 : decode cX6_readsTask 6 = .ok (.if_icmp .ne 8, 3) := by decide +kernel
theorem dX6_readsTask_9 : decode cX6_readsTask 9 = .ok (.aload_n 0, 1) := by decide +kernel
theorem dX6_readsTask_10 : decode cX6_readsTask 10 = .ok (.invokevirtual 117, 3) := by decide +kernel
theorem dX6_readsTask_13 : decode cX6_readsTask 13 = .ok (.ireturn, 1) := by decide +kernel
theorem dX6_readsTask_14 : decode cX6_readsTask 14 = .ok (.aload_n 0, 1) := by decide +kernel
theorem dX6_readsTask_15 : decode cX6_readsTask 15 = .ok (.iconst 0, 1) := by decide +kernel
theorem dX6_readsTask_16 : decode cX6_readsTask 16 = .ok (.aload_n 0, 1) := by decide +kernel
theorem dX6_readsTask_17 : decode cX6_readsTask 17 = .ok (.getfield 120, 3) := by decide +kernel
theorem dX6_readsTask_20 : decode cX6_readsTask 20 = .ok (.iconst 1, 1) := by decide +kernel
theorem dX6_readsTask_21 : decode cX6_readsTask 21 = .ok (.isub, 1) := by decide +kernel
theorem dX6_readsTask_22 : decode cX6_readsTask 22 = .ok (.invokevirtual 126, 3) := by decide +kernel
theorem dX6_readsTask_25 : decode cX6_readsTask 25 = .ok (.ifCond .ne 5, 3) := by decide +kernel
theorem dX6_readsTask_28 : decode cX6_readsTask 28 = .ok (.iconst 0, 1) := by decide +kernel
theorem dX6_readsTask_29 : decode cX6_readsTask 29 = .ok (.ireturn, 1) := by decide +kernel
theorem dX6_readsTask_30 : decode cX6_readsTask 30 = .ok (.aload_n 0, 1) := by decide +kernel
theorem dX6_readsTask_31 : decode cX6_readsTask 31 = .ok (.getfield 13, 3) := by decide +kernel
theorem dX6_readsTask_34 : decode cX6_readsTask 34 = .ok (.aload_n 0, 1) := by decide +kernel
theorem dX6_readsTask_35 : decode cX6_readsTask 35 = .ok (.getfield 120, 3) := by decide +kernel
theorem dX6_readsTask_38 : decode cX6_readsTask 38 = .ok (.aload_n 0, 1) := by decide +kernel
theorem dX6_readsTask_39 : decode cX6_readsTask 39 = .ok (.getfield 104, 3) := by decide +kernel
theorem dX6_readsTask_42 : decode cX6_readsTask 42 = .ok (.iastore, 1) := by decide +kernel
theorem dX6_readsTask_43 : decode cX6_readsTask 43 = .ok (.aload_n 0, 1) := by decide +kernel
theorem dX6_readsTask_44 : decode cX6_readsTask 44 = .ok (.dup, 1) := by decide +kernel
theorem dX6_readsTask_45 : decode cX6_readsTask 45 = .ok (.getfield 120, 3) := by decide +kernel
theorem dX6_readsTask_48 : decode cX6_readsTask 48 = .ok (.iconst 1, 1) := by decide +kernel
theorem dX6_readsTask_49 : decode cX6_readsTask 49 = .ok (.iadd, 1) := by decide +kernel
theorem dX6_readsTask_50 : decode cX6_readsTask 50 = .ok (.putfield 120, 3) := by decide +kernel
theorem dX6_readsTask_53 : decode cX6_readsTask 53 = .ok (.aload_n 0, 1) := by decide +kernel
theorem dX6_readsTask_54 : decode cX6_readsTask 54 = .ok (.aload_n 0, 1) := by decide +kernel
theorem dX6_readsTask_55 : decode cX6_readsTask 55 = .ok (.getfield 120, 3) := by decide +kernel
theorem dX6_readsTask_58 : decode cX6_readsTask 58 = .ok (.iconst 1, 1) := by decide +kernel
theorem dX6_readsTask_59 : decode cX6_readsTask 59 = .ok (.isub, 1) := by decide +kernel
theorem dX6_readsTask_60 : decode cX6_readsTask 60 = .ok (.invokevirtual 130, 3) := by decide +kernel
theorem dX6_readsTask_63 : decode cX6_readsTask 63 = .ok (.ireturn, 1) := by decide +kernel
theorem dX6_readsOf_0 : decode cX6_readsOf 0 = .ok (.aload_n 0, 1) := by decide +kernel
theorem dX6_readsOf_1 : decode cX6_readsOf 1 = .ok (.iconst 0, 1) := by decide +kernel
theorem dX6_readsOf_2 : decode cX6_readsOf 2 = .ok (.aload_n 0, 1) := by decide +kernel
theorem dX6_readsOf_3 : decode cX6_readsOf 3 = .ok (.getfield 120, 3) := by decide +kernel
theorem dX6_readsOf_6 : decode cX6_readsOf 6 = .ok (.iconst 1, 1) := by decide +kernel
theorem dX6_readsOf_7 : decode cX6_readsOf 7 = .ok (.isub, 1) := by decide +kernel
theorem dX6_readsOf_8 : decode cX6_readsOf 8 = .ok (.invokevirtual 126, 3) := by decide +kernel
theorem dX6_readsOf_11 : decode cX6_readsOf 11 = .ok (.ifCond .ne 5, 3) := by decide +kernel
theorem dX6_readsOf_14 : decode cX6_readsOf 14 = .ok (.iconst 0, 1) := by decide +kernel
theorem dX6_readsOf_15 : decode cX6_readsOf 15 = .ok (.ireturn, 1) := by decide +kernel
theorem dX6_readsOf_16 : decode cX6_readsOf 16 = .ok (.aload_n 0, 1) := by decide +kernel
theorem dX6_readsOf_17 : decode cX6_readsOf 17 = .ok (.getfield 104, 3) := by decide +kernel
theorem dX6_readsOf_20 : decode cX6_readsOf 20 = .ok (.istore_n 2, 1) := by decide +kernel
theorem dX6_readsOf_21 : decode cX6_readsOf 21 = .ok (.iload_n 1, 1) := by decide +kernel
theorem dX6_readsOf_22 : decode cX6_readsOf 22 = .ok (.bipush 103, 2) := by decide +kernel
theorem dX6_readsOf_24 : decode cX6_readsOf 24 = .ok (.if_icmp .ne 37, 3) := by decide +kernel
theorem dX6_readsOf_27 : decode cX6_readsOf 27 = .ok (.aload_n 0, 1) := by decide +kernel
theorem dX6_readsOf_28 : decode cX6_readsOf 28 = .ok (.getfield 123, 3) := by decide +kernel
theorem dX6_readsOf_31 : decode cX6_readsOf 31 = .ok (.iload_n 2, 1) := by decide +kernel
theorem dX6_readsOf_32 : decode cX6_readsOf 32 = .ok (.ishr, 1) := by decide +kernel
theorem dX6_readsOf_33 : decode cX6_readsOf 33 = .ok (.iconst 1, 1) := by decide +kernel
theorem dX6_readsOf_34 : decode cX6_readsOf 34 = .ok (.iand, 1) := by decide +kernel
theorem dX6_readsOf_35 : decode cX6_readsOf 35 = .ok (.iconst 1, 1) := by decide +kernel
theorem dX6_readsOf_36 : decode cX6_readsOf 36 = .ok (.if_icmp .ne 8, 3) := by decide +kernel
theorem dX6_readsOf_39 : decode cX6_readsOf 39 = .ok (.aload_n 0, 1) := by decide +kernel
theorem dX6_readsOf_40 : decode cX6_readsOf 40 = .ok (.invokevirtual 117, 3) := by decide +kernel
theorem dX6_readsOf_43 : decode cX6_readsOf 43 = .ok (.ireturn, 1) := by decide +kernel
theorem dX6_readsOf_44 : decode cX6_readsOf 44 = .ok (.aload_n 0, 1) := by decide +kernel
theorem dX6_readsOf_45 : decode cX6_readsOf 45 = .ok (.dup, 1) := by decide +kernel
theorem dX6_readsOf_46 : decode cX6_readsOf 46 = .ok (.getfield 123, 3) := by decide +kernel
theorem dX6_readsOf_49 : decode cX6_readsOf 49 = .ok (.iconst 1, 1) := by decide +kernel
theorem dX6_readsOf_50 : decode cX6_readsOf 50 = .ok (.iload_n 2, 1) := by decide +kernel
theorem dX6_readsOf_51 : decode cX6_readsOf 51 = .ok (.ishl, 1) := by decide +kernel
theorem dX6_readsOf_52 : decode cX6_readsOf 52 = .ok (.ior, 1) := by decide +kernel
theorem dX6_readsOf_53 : decode cX6_readsOf 53 = .ok (.putfield 123, 3) := by decide +kernel
theorem dX6_readsOf_56 : decode cX6_readsOf 56 = .ok (.aload_n 0, 1) := by decide +kernel
theorem dX6_readsOf_57 : decode cX6_readsOf 57 = .ok (.invokevirtual 133, 3) := by decide +kernel
theorem dX6_readsOf_60 : decode cX6_readsOf 60 = .ok (.ireturn, 1) := by decide +kernel
theorem dX6_readsOf_61 : decode cX6_readsOf 61 = .ok (.aload_n 0, 1) := by decide +kernel
theorem dX6_readsOf_62 : decode cX6_readsOf 62 = .ok (.iload_n 1, 1) := by decide +kernel
theorem dX6_readsOf_63 : decode cX6_readsOf 63 = .ok (.bipush 100, 2) := by decide +kernel
theorem dX6_readsOf_65 : decode cX6_readsOf 65 = .ok (.if_icmp .ne 7, 3) := by decide +kernel
theorem dX6_readsOf_68 : decode cX6_readsOf 68 = .ok (.iconst 1, 1) := by decide +kernel
theorem dX6_readsOf_69 : decode cX6_readsOf 69 = .ok (.goto 4, 3) := by decide +kernel
theorem dX6_readsOf_72 : decode cX6_readsOf 72 = .ok (.iconst 0, 1) := by decide +kernel
theorem dX6_readsOf_73 : decode cX6_readsOf 73 = .ok (.iload_n 1, 1) := by decide +kernel
theorem dX6_readsOf_74 : decode cX6_readsOf 74 = .ok (.bipush 100, 2) := by decide +kernel
theorem dX6_readsOf_76 : decode cX6_readsOf 76 = .ok (.if_icmp .ne 8, 3) := by decide +kernel
theorem dX6_readsOf_79 : decode cX6_readsOf 79 = .ok (.bipush 60, 2) := by decide +kernel
theorem dX6_readsOf_81 : decode cX6_readsOf 81 = .ok (.goto 15, 3) := by decide +kernel
theorem dX6_readsOf_84 : decode cX6_readsOf 84 = .ok (.iload_n 1, 1) := by decide +kernel
theorem dX6_readsOf_85 : decode cX6_readsOf 85 = .ok (.bipush 115, 2) := by decide +kernel
theorem dX6_readsOf_87 : decode cX6_readsOf 87 = .ok (.if_icmp .ne 8, 3) := by decide +kernel
theorem dX6_readsOf_90 : decode cX6_readsOf 90 = .ok (.bipush 6, 2) := by decide +kernel
theorem dX6_readsOf_92 : decode cX6_readsOf 92 = .ok (.goto 4, 3) := by decide +kernel
theorem dX6_readsOf_95 : decode cX6_readsOf 95 = .ok (.iconst 5, 1) := by decide +kernel
theorem dX6_readsOf_96 : decode cX6_readsOf 96 = .ok (.invokevirtual 126, 3) := by decide +kernel
theorem dX6_readsOf_99 : decode cX6_readsOf 99 = .ok (.ifCond .ne 5, 3) := by decide +kernel
theorem dX6_readsOf_102 : decode cX6_readsOf 102 = .ok (.iconst 0, 1) := by decide +kernel
theorem dX6_readsOf_103 : decode cX6_readsOf 103 = .ok (.ireturn, 1) := by decide +kernel
theorem dX6_readsOf_104 : decode cX6_readsOf 104 = .ok (.aload_n 0, 1) := by decide +kernel
theorem dX6_readsOf_105 : decode cX6_readsOf 105 = .ok (.getfield 22, 3) := by decide +kernel
theorem dX6_readsOf_108 : decode cX6_readsOf 108 = .ok (.iload_n 2, 1) := by decide +kernel
theorem dX6_readsOf_109 : decode cX6_readsOf 109 = .ok (.iload_n 1, 1) := by decide +kernel
theorem dX6_readsOf_110 : decode cX6_readsOf 110 = .ok (.bipush 100, 2) := by decide +kernel
theorem dX6_readsOf_112 : decode cX6_readsOf 112 = .ok (.if_icmp .ne 10, 3) := by decide +kernel
theorem dX6_readsOf_115 : decode cX6_readsOf 115 = .ok (.aload_n 0, 1) := by decide +kernel
theorem dX6_readsOf_116 : decode cX6_readsOf 116 = .ok (.getfield 104, 3) := by decide +kernel
theorem dX6_readsOf_119 : decode cX6_readsOf 119 = .ok (.goto 9, 3) := by decide +kernel
theorem dX6_readsOf_122 : decode cX6_readsOf 122 = .ok (.aload_n 0, 1) := by decide +kernel
theorem dX6_readsOf_123 : decode cX6_readsOf 123 = .ok (.getfield 22, 3) := by decide +kernel
theorem dX6_readsOf_126 : decode cX6_readsOf 126 = .ok (.iload_n 2, 1) := by decide +kernel
theorem dX6_readsOf_127 : decode cX6_readsOf 127 = .ok (.iaload, 1) := by decide +kernel
theorem dX6_readsOf_128 : decode cX6_readsOf 128 = .ok (.iastore, 1) := by decide +kernel
theorem dX6_readsOf_129 : decode cX6_readsOf 129 = .ok (.aload_n 0, 1) := by decide +kernel
theorem dX6_readsOf_130 : decode cX6_readsOf 130 = .ok (.getfield 25, 3) := by decide +kernel
theorem dX6_readsOf_133 : decode cX6_readsOf 133 = .ok (.iload_n 2, 1) := by decide +kernel
theorem dX6_readsOf_134 : decode cX6_readsOf 134 = .ok (.iload_n 1, 1) := by decide +kernel
theorem dX6_readsOf_135 : decode cX6_readsOf 135 = .ok (.bipush 115, 2) := by decide +kernel
theorem dX6_readsOf_137 : decode cX6_readsOf 137 = .ok (.if_icmp .ne 10, 3) := by decide +kernel
theorem dX6_readsOf_140 : decode cX6_readsOf 140 = .ok (.aload_n 0, 1) := by decide +kernel
theorem dX6_readsOf_141 : decode cX6_readsOf 141 = .ok (.getfield 104, 3) := by decide +kernel
theorem dX6_readsOf_144 : decode cX6_readsOf 144 = .ok (.goto 9, 3) := by decide +kernel
theorem dX6_readsOf_147 : decode cX6_readsOf 147 = .ok (.aload_n 0, 1) := by decide +kernel
theorem dX6_readsOf_148 : decode cX6_readsOf 148 = .ok (.getfield 25, 3) := by decide +kernel
theorem dX6_readsOf_151 : decode cX6_readsOf 151 = .ok (.iload_n 2, 1) := by decide +kernel
theorem dX6_readsOf_152 : decode cX6_readsOf 152 = .ok (.iaload, 1) := by decide +kernel
theorem dX6_readsOf_153 : decode cX6_readsOf 153 = .ok (.iastore, 1) := by decide +kernel
theorem dX6_readsOf_154 : decode cX6_readsOf 154 = .ok (.aload_n 0, 1) := by decide +kernel
theorem dX6_readsOf_155 : decode cX6_readsOf 155 = .ok (.getfield 28, 3) := by decide +kernel
theorem dX6_readsOf_158 : decode cX6_readsOf 158 = .ok (.iload_n 2, 1) := by decide +kernel
theorem dX6_readsOf_159 : decode cX6_readsOf 159 = .ok (.iload_n 1, 1) := by decide +kernel
theorem dX6_readsOf_160 : decode cX6_readsOf 160 = .ok (.bipush 99, 2) := by decide +kernel
theorem dX6_readsOf_162 : decode cX6_readsOf 162 = .ok (.if_icmp .ne 10, 3) := by decide +kernel
theorem dX6_readsOf_165 : decode cX6_readsOf 165 = .ok (.aload_n 0, 1) := by decide +kernel
theorem dX6_readsOf_166 : decode cX6_readsOf 166 = .ok (.getfield 104, 3) := by decide +kernel
theorem dX6_readsOf_169 : decode cX6_readsOf 169 = .ok (.goto 9, 3) := by decide +kernel
theorem dX6_readsOf_172 : decode cX6_readsOf 172 = .ok (.aload_n 0, 1) := by decide +kernel
theorem dX6_readsOf_173 : decode cX6_readsOf 173 = .ok (.getfield 28, 3) := by decide +kernel
theorem dX6_readsOf_176 : decode cX6_readsOf 176 = .ok (.iload_n 2, 1) := by decide +kernel
theorem dX6_readsOf_177 : decode cX6_readsOf 177 = .ok (.iaload, 1) := by decide +kernel
theorem dX6_readsOf_178 : decode cX6_readsOf 178 = .ok (.iastore, 1) := by decide +kernel
theorem dX6_readsOf_179 : decode cX6_readsOf 179 = .ok (.aload_n 0, 1) := by decide +kernel
theorem dX6_readsOf_180 : decode cX6_readsOf 180 = .ok (.invokevirtual 133, 3) := by decide +kernel
theorem dX6_readsOf_183 : decode cX6_readsOf 183 = .ok (.ireturn, 1) := by decide +kernel
theorem dX6_readsItem_0 : decode cX6_readsItem 0 = .ok (.aload_n 0, 1) := by decide +kernel
theorem dX6_readsItem_1 : decode cX6_readsItem 1 = .ok (.invokevirtual 114, 3) := by decide +kernel
theorem dX6_readsItem_4 : decode cX6_readsItem 4 = .ok (.aload_n 0, 1) := by decide +kernel
theorem dX6_readsItem_5 : decode cX6_readsItem 5 = .ok (.getfield 97, 3) := by decide +kernel
theorem dX6_readsItem_8 : decode cX6_readsItem 8 = .ok (.istore_n 1, 1) := by decide +kernel
theorem dX6_readsItem_9 : decode cX6_readsItem 9 = .ok (.iload_n 1, 1) := by decide +kernel
theorem dX6_readsItem_10 : decode cX6_readsItem 10 = .ok (.bipush 114, 2) := by decide +kernel
theorem dX6_readsItem_12 : decode cX6_readsItem 12 = .ok (.if_icmp .ne 26, 3) := by decide +kernel
theorem dX6_readsItem_15 : decode cX6_readsItem 15 = .ok (.aload_n 0, 1) := by decide +kernel
theorem dX6_readsItem_16 : decode cX6_readsItem 16 = .ok (.getfield 120, 3) := by decide +kernel
theorem dX6_readsItem_19 : decode cX6_readsItem 19 = .ok (.ifCond .le 8, 3) := by decide +kernel
theorem dX6_readsItem_22 : decode cX6_readsItem 22 = .ok (.aload_n 0, 1) := by decide +kernel
theorem dX6_readsItem_23 : decode cX6_readsItem 23 = .ok (.invokevirtual 117, 3) := by decide +kernel
theorem dX6_readsItem_26 : decode cX6_readsItem 26 = .ok (.ireturn, 1) := by decide +kernel
theorem dX6_readsItem_27 : decode cX6_readsItem 27 = .ok (.aload_n 0, 1) := by decide +kernel
theorem dX6_readsItem_28 : decode cX6_readsItem 28 = .ok (.iconst 1, 1) := by decide +kernel
theorem dX6_readsItem_29 : decode cX6_readsItem 29 = .ok (.putfield 120, 3) := by decide +kernel
theorem dX6_readsItem_32 : decode cX6_readsItem 32 = .ok (.aload_n 0, 1) := by decide +kernel
theorem dX6_readsItem_33 : decode cX6_readsItem 33 = .ok (.iconst 0, 1) := by decide +kernel
theorem dX6_readsItem_34 : decode cX6_readsItem 34 = .ok (.invokevirtual 130, 3) := by decide +kernel
theorem dX6_readsItem_37 : decode cX6_readsItem 37 = .ok (.ireturn, 1) := by decide +kernel
theorem dX6_readsItem_38 : decode cX6_readsItem 38 = .ok (.aload_n 0, 1) := by decide +kernel
theorem dX6_readsItem_39 : decode cX6_readsItem 39 = .ok (.getfield 120, 3) := by decide +kernel
theorem dX6_readsItem_42 : decode cX6_readsItem 42 = .ok (.ifCond .ne 8, 3) := by decide +kernel
theorem dX6_readsItem_45 : decode cX6_readsItem 45 = .ok (.aload_n 0, 1) := by decide +kernel
theorem dX6_readsItem_46 : decode cX6_readsItem 46 = .ok (.invokevirtual 117, 3) := by decide +kernel
theorem dX6_readsItem_49 : decode cX6_readsItem 49 = .ok (.ireturn, 1) := by decide +kernel
theorem dX6_readsItem_50 : decode cX6_readsItem 50 = .ok (.iload_n 1, 1) := by decide +kernel
theorem dX6_readsItem_51 : decode cX6_readsItem 51 = .ok (.lookupswitch 60 #[(99, 54), (100, 54), (103, 54), (115, 54), (116, 49)], 49) := by decide +kernel
theorem dX6_readsItem_100 : decode cX6_readsItem 100 = .ok (.aload_n 0, 1) := by decide +kernel
theorem dX6_readsItem_101 : decode cX6_readsItem 101 = .ok (.invokevirtual 136, 3) := by decide +kernel
theorem dX6_readsItem_104 : decode cX6_readsItem 104 = .ok (.ireturn, 1) := by decide +kernel
theorem dX6_readsItem_105 : decode cX6_readsItem 105 = .ok (.aload_n 0, 1) := by decide +kernel
theorem dX6_readsItem_106 : decode cX6_readsItem 106 = .ok (.iload_n 1, 1) := by decide +kernel
theorem dX6_readsItem_107 : decode cX6_readsItem 107 = .ok (.invokevirtual 139, 3) := by decide +kernel
theorem dX6_readsItem_110 : decode cX6_readsItem 110 = .ok (.ireturn, 1) := by decide +kernel
theorem dX6_readsItem_111 : decode cX6_readsItem 111 = .ok (.aload_n 0, 1) := by decide +kernel
theorem dX6_readsItem_112 : decode cX6_readsItem 112 = .ok (.invokevirtual 117, 3) := by decide +kernel
theorem dX6_readsItem_115 : decode cX6_readsItem 115 = .ok (.ireturn, 1) := by decide +kernel
theorem dX6_tellsAll_0 : decode cX6_tellsAll 0 = .ok (.aload_n 0, 1) := by decide +kernel
theorem dX6_tellsAll_1 : decode cX6_tellsAll 1 = .ok (.aload_n 0, 1) := by decide +kernel
theorem dX6_tellsAll_2 : decode cX6_tellsAll 2 = .ok (.getfield 120, 3) := by decide +kernel
theorem dX6_tellsAll_5 : decode cX6_tellsAll 5 = .ok (.ifCond .le 10, 3) := by decide +kernel
theorem dX6_tellsAll_8 : decode cX6_tellsAll 8 = .ok (.aload_n 0, 1) := by decide +kernel
theorem dX6_tellsAll_9 : decode cX6_tellsAll 9 = .ok (.getfield 120, 3) := by decide +kernel
theorem dX6_tellsAll_12 : decode cX6_tellsAll 12 = .ok (.goto 4, 3) := by decide +kernel
theorem dX6_tellsAll_15 : decode cX6_tellsAll 15 = .ok (.iconst 1, 1) := by decide +kernel
theorem dX6_tellsAll_16 : decode cX6_tellsAll 16 = .ok (.putfield 142, 3) := by decide +kernel
theorem dX6_tellsAll_19 : decode cX6_tellsAll 19 = .ok (.aload_n 0, 1) := by decide +kernel
theorem dX6_tellsAll_20 : decode cX6_tellsAll 20 = .ok (.aload_n 0, 1) := by decide +kernel
theorem dX6_tellsAll_21 : decode cX6_tellsAll 21 = .ok (.getfield 123, 3) := by decide +kernel
theorem dX6_tellsAll_24 : decode cX6_tellsAll 24 = .ok (.putfield 145, 3) := by decide +kernel
theorem dX6_tellsAll_27 : decode cX6_tellsAll 27 = .ok (.iconst 0, 1) := by decide +kernel
theorem dX6_tellsAll_28 : decode cX6_tellsAll 28 = .ok (.istore_n 1, 1) := by decide +kernel
theorem dX6_tellsAll_29 : decode cX6_tellsAll 29 = .ok (.iload_n 1, 1) := by decide +kernel
theorem dX6_tellsAll_30 : decode cX6_tellsAll 30 = .ok (.bipush 8, 2) := by decide +kernel
theorem dX6_tellsAll_32 : decode cX6_tellsAll 32 = .ok (.if_icmp .ge 103, 3) := by decide +kernel
theorem dX6_tellsAll_35 : decode cX6_tellsAll 35 = .ok (.aload_n 0, 1) := by decide +kernel
theorem dX6_tellsAll_36 : decode cX6_tellsAll 36 = .ok (.getfield 31, 3) := by decide +kernel
theorem dX6_tellsAll_39 : decode cX6_tellsAll 39 = .ok (.iload_n 1, 1) := by decide +kernel
theorem dX6_tellsAll_40 : decode cX6_tellsAll 40 = .ok (.aload_n 0, 1) := by decide +kernel
theorem dX6_tellsAll_41 : decode cX6_tellsAll 41 = .ok (.getfield 13, 3) := by decide +kernel
theorem dX6_tellsAll_44 : decode cX6_tellsAll 44 = .ok (.iload_n 1, 1) := by decide +kernel
theorem dX6_tellsAll_45 : decode cX6_tellsAll 45 = .ok (.iaload, 1) := by decide +kernel
theorem dX6_tellsAll_46 : decode cX6_tellsAll 46 = .ok (.iastore, 1) := by decide +kernel
theorem dX6_tellsAll_47 : decode cX6_tellsAll 47 = .ok (.aload_n 0, 1) := by decide +kernel
theorem dX6_tellsAll_48 : decode cX6_tellsAll 48 = .ok (.getfield 34, 3) := by decide +kernel
theorem dX6_tellsAll_51 : decode cX6_tellsAll 51 = .ok (.iload_n 1, 1) := by decide +kernel
theorem dX6_tellsAll_52 : decode cX6_tellsAll 52 = .ok (.aload_n 0, 1) := by decide +kernel
theorem dX6_tellsAll_53 : decode cX6_tellsAll 53 = .ok (.getfield 16, 3) := by decide +kernel
theorem dX6_tellsAll_56 : decode cX6_tellsAll 56 = .ok (.iload_n 1, 1) := by decide +kernel
theorem dX6_tellsAll_57 : decode cX6_tellsAll 57 = .ok (.iaload, 1) := by decide +kernel
theorem dX6_tellsAll_58 : decode cX6_tellsAll 58 = .ok (.iastore, 1) := by decide +kernel
theorem dX6_tellsAll_59 : decode cX6_tellsAll 59 = .ok (.aload_n 0, 1) := by decide +kernel
theorem dX6_tellsAll_60 : decode cX6_tellsAll 60 = .ok (.getfield 40, 3) := by decide +kernel
theorem dX6_tellsAll_63 : decode cX6_tellsAll 63 = .ok (.iload_n 1, 1) := by decide +kernel
theorem dX6_tellsAll_64 : decode cX6_tellsAll 64 = .ok (.aload_n 0, 1) := by decide +kernel
theorem dX6_tellsAll_65 : decode cX6_tellsAll 65 = .ok (.getfield 22, 3) := by decide +kernel
theorem dX6_tellsAll_68 : decode cX6_tellsAll 68 = .ok (.iload_n 1, 1) := by decide +kernel
theorem dX6_tellsAll_69 : decode cX6_tellsAll 69 = .ok (.iaload, 1) := by decide +kernel
theorem dX6_tellsAll_70 : decode cX6_tellsAll 70 = .ok (.iastore, 1) := by decide +kernel
theorem dX6_tellsAll_71 : decode cX6_tellsAll 71 = .ok (.aload_n 0, 1) := by decide +kernel
theorem dX6_tellsAll_72 : decode cX6_tellsAll 72 = .ok (.getfield 43, 3) := by decide +kernel
theorem dX6_tellsAll_75 : decode cX6_tellsAll 75 = .ok (.iload_n 1, 1) := by decide +kernel
theorem dX6_tellsAll_76 : decode cX6_tellsAll 76 = .ok (.aload_n 0, 1) := by decide +kernel
theorem dX6_tellsAll_77 : decode cX6_tellsAll 77 = .ok (.getfield 25, 3) := by decide +kernel
theorem dX6_tellsAll_80 : decode cX6_tellsAll 80 = .ok (.iload_n 1, 1) := by decide +kernel
theorem dX6_tellsAll_81 : decode cX6_tellsAll 81 = .ok (.iaload, 1) := by decide +kernel
theorem dX6_tellsAll_82 : decode cX6_tellsAll 82 = .ok (.iastore, 1) := by decide +kernel
theorem dX6_tellsAll_83 : decode cX6_tellsAll 83 = .ok (.aload_n 0, 1) := by decide +kernel
theorem dX6_tellsAll_84 : decode cX6_tellsAll 84 = .ok (.getfield 46, 3) := by decide +kernel
theorem dX6_tellsAll_87 : decode cX6_tellsAll 87 = .ok (.iload_n 1, 1) := by decide +kernel
theorem dX6_tellsAll_88 : decode cX6_tellsAll 88 = .ok (.aload_n 0, 1) := by decide +kernel
theorem dX6_tellsAll_89 : decode cX6_tellsAll 89 = .ok (.getfield 28, 3) := by decide +kernel
theorem dX6_tellsAll_92 : decode cX6_tellsAll 92 = .ok (.iload_n 1, 1) := by decide +kernel
theorem dX6_tellsAll_93 : decode cX6_tellsAll 93 = .ok (.iaload, 1) := by decide +kernel
theorem dX6_tellsAll_94 : decode cX6_tellsAll 94 = .ok (.iastore, 1) := by decide +kernel
theorem dX6_tellsAll_95 : decode cX6_tellsAll 95 = .ok (.bipush 12, 2) := by decide +kernel
theorem dX6_tellsAll_97 : decode cX6_tellsAll 97 = .ok (.iload_n 1, 1) := by decide +kernel
theorem dX6_tellsAll_98 : decode cX6_tellsAll 98 = .ok (.imul, 1) := by decide +kernel
theorem dX6_tellsAll_99 : decode cX6_tellsAll 99 = .ok (.istore_n 2, 1) := by decide +kernel
theorem dX6_tellsAll_100 : decode cX6_tellsAll 100 = .ok (.iload_n 2, 1) := by decide +kernel
theorem dX6_tellsAll_101 : decode cX6_tellsAll 101 = .ok (.bipush 12, 2) := by decide +kernel
theorem dX6_tellsAll_103 : decode cX6_tellsAll 103 = .ok (.iload_n 1, 1) := by decide +kernel
theorem dX6_tellsAll_104 : decode cX6_tellsAll 104 = .ok (.imul, 1) := by decide +kernel
theorem dX6_tellsAll_105 : decode cX6_tellsAll 105 = .ok (.bipush 12, 2) := by decide +kernel
theorem dX6_tellsAll_107 : decode cX6_tellsAll 107 = .ok (.iadd, 1) := by decide +kernel
theorem dX6_tellsAll_108 : decode cX6_tellsAll 108 = .ok (.if_icmp .ge 21, 3) := by decide +kernel
theorem dX6_tellsAll_111 : decode cX6_tellsAll 111 = .ok (.aload_n 0, 1) := by decide +kernel
theorem dX6_tellsAll_112 : decode cX6_tellsAll 112 = .ok (.getfield 37, 3) := by decide +kernel
theorem dX6_tellsAll_115 : decode cX6_tellsAll 115 = .ok (.iload_n 2, 1) := by decide +kernel
theorem dX6_tellsAll_116 : decode cX6_tellsAll 116 = .ok (.aload_n 0, 1) := by decide +kernel
theorem dX6_tellsAll_117 : decode cX6_tellsAll 117 = .ok (.getfield 19, 3) := by decide +kernel
theorem dX6_tellsAll_120 : decode cX6_tellsAll 120 = .ok (.iload_n 2, 1) := by decide +kernel
theorem dX6_tellsAll_121 : decode cX6_tellsAll 121 = .ok (.iaload, 1) := by decide +kernel
theorem dX6_tellsAll_122 : decode cX6_tellsAll 122 = .ok (.iastore, 1) := by decide +kernel
theorem dX6_tellsAll_123 : decode cX6_tellsAll 123 = .ok (.iinc 2 1, 3) := by decide +kernel
theorem dX6_tellsAll_126 : decode cX6_tellsAll 126 = .ok (.goto (-26), 3) := by decide +kernel
theorem dX6_tellsAll_129 : decode cX6_tellsAll 129 = .ok (.iinc 1 1, 3) := by decide +kernel
theorem dX6_tellsAll_132 : decode cX6_tellsAll 132 = .ok (.goto (-103), 3) := by decide +kernel
theorem dX6_tellsAll_135 : decode cX6_tellsAll 135 = .ok (.aload_n 0, 1) := by decide +kernel
theorem dX6_tellsAll_136 : decode cX6_tellsAll 136 = .ok (.aload_n 0, 1) := by decide +kernel
theorem dX6_tellsAll_137 : decode cX6_tellsAll 137 = .ok (.getfield 49, 3) := by decide +kernel
theorem dX6_tellsAll_140 : decode cX6_tellsAll 140 = .ok (.invokevirtual 148, 3) := by decide +kernel
theorem dX6_tellsAll_143 : decode cX6_tellsAll 143 = .ok (.aload_n 0, 1) := by decide +kernel
theorem dX6_tellsAll_144 : decode cX6_tellsAll 144 = .ok (.iconst 0, 1) := by decide +kernel
theorem dX6_tellsAll_145 : decode cX6_tellsAll 145 = .ok (.putfield 152, 3) := by decide +kernel
theorem dX6_tellsAll_148 : decode cX6_tellsAll 148 = .ok (.aload_n 0, 1) := by decide +kernel
theorem dX6_tellsAll_149 : decode cX6_tellsAll 149 = .ok (.iconst 0, 1) := by decide +kernel
theorem dX6_tellsAll_150 : decode cX6_tellsAll 150 = .ok (.putfield 155, 3) := by decide +kernel
theorem dX6_tellsAll_153 : decode cX6_tellsAll 153 = .ok (.aload_n 0, 1) := by decide +kernel
theorem dX6_tellsAll_154 : decode cX6_tellsAll 154 = .ok (.getfield 67, 3) := by decide +kernel
theorem dX6_tellsAll_157 : decode cX6_tellsAll 157 = .ok (.iconst 0, 1) := by decide +kernel
theorem dX6_tellsAll_158 : decode cX6_tellsAll 158 = .ok (.iconst 0, 1) := by decide +kernel
theorem dX6_tellsAll_159 : decode cX6_tellsAll 159 = .ok (.bastore, 1) := by decide +kernel
theorem dX6_tellsAll_160 : decode cX6_tellsAll 160 = .ok (.aload_n 0, 1) := by decide +kernel
theorem dX6_tellsAll_161 : decode cX6_tellsAll 161 = .ok (.getfield 67, 3) := by decide +kernel
theorem dX6_tellsAll_164 : decode cX6_tellsAll 164 = .ok (.iconst 1, 1) := by decide +kernel
theorem dX6_tellsAll_165 : decode cX6_tellsAll 165 = .ok (.iconst 0, 1) := by decide +kernel
theorem dX6_tellsAll_166 : decode cX6_tellsAll 166 = .ok (.bastore, 1) := by decide +kernel
theorem dX6_tellsAll_167 : decode cX6_tellsAll 167 = .ok (.return_, 1) := by decide +kernel
theorem dX6_tree_0 : decode cX6_tree 0 = .ok (.aload_n 0, 1) := by decide +kernel
theorem dX6_tree_1 : decode cX6_tree 1 = .ok (.invokevirtual 74, 3) := by decide +kernel
theorem dX6_tree_4 : decode cX6_tree 4 = .ok (.aload_n 0, 1) := by decide +kernel
theorem dX6_tree_5 : decode cX6_tree 5 = .ok (.iconst 0, 1) := by decide +kernel
theorem dX6_tree_6 : decode cX6_tree 6 = .ok (.putfield 88, 3) := by decide +kernel
theorem dX6_tree_9 : decode cX6_tree 9 = .ok (.iconst 0, 1) := by decide +kernel
theorem dX6_tree_10 : decode cX6_tree 10 = .ok (.istore_n 1, 1) := by decide +kernel
theorem dX6_tree_11 : decode cX6_tree 11 = .ok (.aload_n 0, 1) := by decide +kernel
theorem dX6_tree_12 : decode cX6_tree 12 = .ok (.invokevirtual 91, 3) := by decide +kernel
theorem dX6_tree_15 : decode cX6_tree 15 = .ok (.aload_n 0, 1) := by decide +kernel
theorem dX6_tree_16 : decode cX6_tree 16 = .ok (.getfield 88, 3) := by decide +kernel
theorem dX6_tree_19 : decode cX6_tree 19 = .ok (.aload_n 0, 1) := by decide +kernel
theorem dX6_tree_20 : decode cX6_tree 20 = .ok (.getfield 84, 3) := by decide +kernel
theorem dX6_tree_23 : decode cX6_tree 23 = .ok (.if_icmp .ge 28, 3) := by decide +kernel
theorem dX6_tree_26 : decode cX6_tree 26 = .ok (.aload_n 0, 1) := by decide +kernel
theorem dX6_tree_27 : decode cX6_tree 27 = .ok (.invokevirtual 158, 3) := by decide +kernel
theorem dX6_tree_30 : decode cX6_tree 30 = .ok (.ifCond .ne 11, 3) := by decide +kernel
theorem dX6_tree_33 : decode cX6_tree 33 = .ok (.bipush (-10), 2) := by decide +kernel
theorem dX6_tree_35 : decode cX6_tree 35 = .ok (.aload_n 0, 1) := by decide +kernel
theorem dX6_tree_36 : decode cX6_tree 36 = .ok (.getfield 111, 3) := by decide +kernel
theorem dX6_tree_39 : decode cX6_tree 39 = .ok (.isub, 1) := by decide +kernel
theorem dX6_tree_40 : decode cX6_tree 40 = .ok (.ireturn, 1) := by decide +kernel
theorem dX6_tree_41 : decode cX6_tree 41 = .ok (.iinc 1 1, 3) := by decide +kernel
theorem dX6_tree_44 : decode cX6_tree 44 = .ok (.aload_n 0, 1) := by decide +kernel
theorem dX6_tree_45 : decode cX6_tree 45 = .ok (.invokevirtual 91, 3) := by decide +kernel
theorem dX6_tree_48 : decode cX6_tree 48 = .ok (.goto (-33), 3) := by decide +kernel
theorem dX6_tree_51 : decode cX6_tree 51 = .ok (.aload_n 0, 1) := by decide +kernel
theorem dX6_tree_52 : decode cX6_tree 52 = .ok (.iconst 0, 1) := by decide +kernel
theorem dX6_tree_53 : decode cX6_tree 53 = .ok (.putfield 84, 3) := by decide +kernel
theorem dX6_tree_56 : decode cX6_tree 56 = .ok (.aload_n 0, 1) := by decide +kernel
theorem dX6_tree_57 : decode cX6_tree 57 = .ok (.invokevirtual 77, 3) := by decide +kernel
theorem dX6_tree_60 : decode cX6_tree 60 = .ok (.iload_n 1, 1) := by decide +kernel
theorem dX6_tree_61 : decode cX6_tree 61 = .ok (.ireturn, 1) := by decide +kernel
theorem dX6_copies_0 : decode cX6_copies 0 = .ok (.iconst 0, 1) := by decide +kernel
theorem dX6_copies_1 : decode cX6_copies 1 = .ok (.istore_n 2, 1) := by decide +kernel
theorem dX6_copies_2 : decode cX6_copies 2 = .ok (.iload_n 2, 1) := by decide +kernel
theorem dX6_copies_3 : decode cX6_copies 3 = .ok (.sipush 326, 3) := by decide +kernel
theorem dX6_copies_6 : decode cX6_copies 6 = .ok (.if_icmp .ge 15, 3) := by decide +kernel
theorem dX6_copies_9 : decode cX6_copies 9 = .ok (.aload_n 1, 1) := by decide +kernel
theorem dX6_copies_10 : decode cX6_copies 10 = .ok (.iload_n 2, 1) := by decide +kernel
theorem dX6_copies_11 : decode cX6_copies 11 = .ok (.aload_n 0, 1) := by decide +kernel
theorem dX6_copies_12 : decode cX6_copies 12 = .ok (.iload_n 2, 1) := by decide +kernel
theorem dX6_copies_13 : decode cX6_copies 13 = .ok (.iaload, 1) := by decide +kernel
theorem dX6_copies_14 : decode cX6_copies 14 = .ok (.iastore, 1) := by decide +kernel
theorem dX6_copies_15 : decode cX6_copies 15 = .ok (.iinc 2 1, 3) := by decide +kernel
theorem dX6_copies_18 : decode cX6_copies 18 = .ok (.goto (-16), 3) := by decide +kernel
theorem dX6_copies_21 : decode cX6_copies 21 = .ok (.return_, 1) := by decide +kernel
theorem dX6_starts_0 : decode cX6_starts 0 = .ok (.iconst 0, 1) := by decide +kernel
theorem dX6_starts_1 : decode cX6_starts 1 = .ok (.istore_n 2, 1) := by decide +kernel
theorem dX6_starts_2 : decode cX6_starts 2 = .ok (.iload_n 2, 1) := by decide +kernel
theorem dX6_starts_3 : decode cX6_starts 3 = .ok (.sipush 326, 3) := by decide +kernel
theorem dX6_starts_6 : decode cX6_starts 6 = .ok (.if_icmp .ge 13, 3) := by decide +kernel
theorem dX6_starts_9 : decode cX6_starts 9 = .ok (.aload_n 1, 1) := by decide +kernel
theorem dX6_starts_10 : decode cX6_starts 10 = .ok (.iload_n 2, 1) := by decide +kernel
theorem dX6_starts_11 : decode cX6_starts 11 = .ok (.iconst 0, 1) := by decide +kernel
theorem dX6_starts_12 : decode cX6_starts 12 = .ok (.iastore, 1) := by decide +kernel
theorem dX6_starts_13 : decode cX6_starts 13 = .ok (.iinc 2 1, 3) := by decide +kernel
theorem dX6_starts_16 : decode cX6_starts 16 = .ok (.goto (-14), 3) := by decide +kernel
theorem dX6_starts_19 : decode cX6_starts 19 = .ok (.iconst 0, 1) := by decide +kernel
theorem dX6_starts_20 : decode cX6_starts 20 = .ok (.istore_n 2, 1) := by decide +kernel
theorem dX6_starts_21 : decode cX6_starts 21 = .ok (.iload_n 2, 1) := by decide +kernel
theorem dX6_starts_22 : decode cX6_starts 22 = .ok (.bipush 8, 2) := by decide +kernel
theorem dX6_starts_24 : decode cX6_starts 24 = .ok (.if_icmp .ge 30, 3) := by decide +kernel
theorem dX6_starts_27 : decode cX6_starts 27 = .ok (.aload_n 1, 1) := by decide +kernel
theorem dX6_starts_28 : decode cX6_starts 28 = .ok (.bipush 18, 2) := by decide +kernel
theorem dX6_starts_30 : decode cX6_starts 30 = .ok (.iload_n 2, 1) := by decide +kernel
theorem dX6_starts_31 : decode cX6_starts 31 = .ok (.imul, 1) := by decide +kernel
theorem dX6_starts_32 : decode cX6_starts 32 = .ok (.iconst 1, 1) := by decide +kernel
theorem dX6_starts_33 : decode cX6_starts 33 = .ok (.iadd, 1) := by decide +kernel
theorem dX6_starts_34 : decode cX6_starts 34 = .ok (.bipush (-9), 2) := by decide +kernel
theorem dX6_starts_36 : decode cX6_starts 36 = .ok (.iastore, 1) := by decide +kernel
theorem dX6_starts_37 : decode cX6_starts 37 = .ok (.aload_n 1, 1) := by decide +kernel
theorem dX6_starts_38 : decode cX6_starts 38 = .ok (.bipush 18, 2) := by decide +kernel
theorem dX6_starts_40 : decode cX6_starts 40 = .ok (.iload_n 2, 1) := by decide +kernel
theorem dX6_starts_41 : decode cX6_starts 41 = .ok (.imul, 1) := by decide +kernel
theorem dX6_starts_42 : decode cX6_starts 42 = .ok (.bipush 8, 2) := by decide +kernel
theorem dX6_starts_44 : decode cX6_starts 44 = .ok (.iadd, 1) := by decide +kernel
theorem dX6_starts_45 : decode cX6_starts 45 = .ok (.bipush (-9), 2) := by decide +kernel
theorem dX6_starts_47 : decode cX6_starts 47 = .ok (.iastore, 1) := by decide +kernel
theorem dX6_starts_48 : decode cX6_starts 48 = .ok (.iinc 2 1, 3) := by decide +kernel
theorem dX6_starts_51 : decode cX6_starts 51 = .ok (.goto (-30), 3) := by decide +kernel
theorem dX6_starts_54 : decode cX6_starts 54 = .ok (.aload_n 1, 1) := by decide +kernel
theorem dX6_starts_55 : decode cX6_starts 55 = .ok (.iconst 0, 1) := by decide +kernel
theorem dX6_starts_56 : decode cX6_starts 56 = .ok (.iconst 1, 1) := by decide +kernel
theorem dX6_starts_57 : decode cX6_starts 57 = .ok (.iastore, 1) := by decide +kernel
theorem dX6_starts_58 : decode cX6_starts 58 = .ok (.aload_n 1, 1) := by decide +kernel
theorem dX6_starts_59 : decode cX6_starts 59 = .ok (.iconst 4, 1) := by decide +kernel
theorem dX6_starts_60 : decode cX6_starts 60 = .ok (.aload_n 0, 1) := by decide +kernel
theorem dX6_starts_61 : decode cX6_starts 61 = .ok (.getfield 40, 3) := by decide +kernel
theorem dX6_starts_64 : decode cX6_starts 64 = .ok (.iconst 0, 1) := by decide +kernel
theorem dX6_starts_65 : decode cX6_starts 65 = .ok (.iaload, 1) := by decide +kernel
theorem dX6_starts_66 : decode cX6_starts 66 = .ok (.bipush 99, 2) := by decide +kernel
theorem dX6_starts_68 : decode cX6_starts 68 = .ok (.if_icmp .ne 9, 3) := by decide +kernel
theorem dX6_starts_71 : decode cX6_starts 71 = .ok (.sipush 9999, 3) := by decide +kernel
theorem dX6_starts_74 : decode cX6_starts 74 = .ok (.goto 9, 3) := by decide +kernel
theorem dX6_starts_77 : decode cX6_starts 77 = .ok (.aload_n 0, 1) := by decide +kernel
theorem dX6_starts_78 : decode cX6_starts 78 = .ok (.getfield 40, 3) := by decide +kernel
theorem dX6_starts_81 : decode cX6_starts 81 = .ok (.iconst 0, 1) := by decide +kernel
theorem dX6_starts_82 : decode cX6_starts 82 = .ok (.iaload, 1) := by decide +kernel
theorem dX6_starts_83 : decode cX6_starts 83 = .ok (.iastore, 1) := by decide +kernel
theorem dX6_starts_84 : decode cX6_starts 84 = .ok (.return_, 1) := by decide +kernel
theorem dX6_at_0 : decode cX6_at 0 = .ok (.aload_n 0, 1) := by decide +kernel
theorem dX6_at_1 : decode cX6_at 1 = .ok (.bipush 18, 2) := by decide +kernel
theorem dX6_at_3 : decode cX6_at 3 = .ok (.iload_n 1, 1) := by decide +kernel
theorem dX6_at_4 : decode cX6_at 4 = .ok (.imul, 1) := by decide +kernel
theorem dX6_at_5 : decode cX6_at 5 = .ok (.iload_n 2, 1) := by decide +kernel
theorem dX6_at_6 : decode cX6_at 6 = .ok (.iadd, 1) := by decide +kernel
theorem dX6_at_7 : decode cX6_at 7 = .ok (.iaload, 1) := by decide +kernel
theorem dX6_at_8 : decode cX6_at 8 = .ok (.ireturn, 1) := by decide +kernel
theorem dX6_isHow_0 : decode cX6_isHow 0 = .ok (.aload_n 0, 1) := by decide +kernel
theorem dX6_isHow_1 : decode cX6_isHow 1 = .ok (.bipush 18, 2) := by decide +kernel
theorem dX6_isHow_3 : decode cX6_isHow 3 = .ok (.iload_n 1, 1) := by decide +kernel
theorem dX6_isHow_4 : decode cX6_isHow 4 = .ok (.imul, 1) := by decide +kernel
theorem dX6_isHow_5 : decode cX6_isHow 5 = .ok (.iconst 0, 1) := by decide +kernel
theorem dX6_isHow_6 : decode cX6_isHow 6 = .ok (.iadd, 1) := by decide +kernel
theorem dX6_isHow_7 : decode cX6_isHow 7 = .ok (.iaload, 1) := by decide +kernel
theorem dX6_isHow_8 : decode cX6_isHow 8 = .ok (.iload_n 2, 1) := by decide +kernel
theorem dX6_isHow_9 : decode cX6_isHow 9 = .ok (.if_icmp .ne 7, 3) := by decide +kernel
theorem dX6_isHow_12 : decode cX6_isHow 12 = .ok (.iconst 1, 1) := by decide +kernel
theorem dX6_isHow_13 : decode cX6_isHow 13 = .ok (.goto 4, 3) := by decide +kernel
theorem dX6_isHow_16 : decode cX6_isHow 16 = .ok (.iconst 0, 1) := by decide +kernel
theorem dX6_isHow_17 : decode cX6_isHow 17 = .ok (.ireturn, 1) := by decide +kernel
theorem dX6_traces_0 : decode cX6_traces 0 = .ok (.aload_n 0, 1) := by decide +kernel
theorem dX6_traces_1 : decode cX6_traces 1 = .ok (.sipush 145, 3) := by decide +kernel
theorem dX6_traces_4 : decode cX6_traces 4 = .ok (.iaload, 1) := by decide +kernel
theorem dX6_traces_5 : decode cX6_traces 5 = .ok (.bipush 60, 2) := by decide +kernel
theorem dX6_traces_7 : decode cX6_traces 7 = .ok (.if_icmp .ge 44, 3) := by decide +kernel
theorem dX6_traces_10 : decode cX6_traces 10 = .ok (.sipush 146, 3) := by decide +kernel
theorem dX6_traces_13 : decode cX6_traces 13 = .ok (.iconst 3, 1) := by decide +kernel
theorem dX6_traces_14 : decode cX6_traces 14 = .ok (.aload_n 0, 1) := by decide +kernel
theorem dX6_traces_15 : decode cX6_traces 15 = .ok (.sipush 145, 3) := by decide +kernel
theorem dX6_traces_18 : decode cX6_traces 18 = .ok (.iaload, 1) := by decide +kernel
theorem dX6_traces_19 : decode cX6_traces 19 = .ok (.imul, 1) := by decide +kernel
theorem dX6_traces_20 : decode cX6_traces 20 = .ok (.iadd, 1) := by decide +kernel
theorem dX6_traces_21 : decode cX6_traces 21 = .ok (.istore_n 3, 1) := by decide +kernel
theorem dX6_traces_22 : decode cX6_traces 22 = .ok (.aload_n 0, 1) := by decide +kernel
theorem dX6_traces_23 : decode cX6_traces 23 = .ok (.iload_n 3, 1) := by decide +kernel
theorem dX6_traces_24 : decode cX6_traces 24 = .ok (.aload_n 0, 1) := by decide +kernel
theorem dX6_traces_25 : decode cX6_traces 25 = .ok (.sipush 144, 3) := by decide +kernel
theorem dX6_traces_28 : decode cX6_traces 28 = .ok (.iaload, 1) := by decide +kernel
theorem dX6_traces_29 : decode cX6_traces 29 = .ok (.iastore, 1) := by decide +kernel
theorem dX6_traces_30 : decode cX6_traces 30 = .ok (.aload_n 0, 1) := by decide +kernel
theorem dX6_traces_31 : decode cX6_traces 31 = .ok (.iload_n 3, 1) := by decide +kernel
theorem dX6_traces_32 : decode cX6_traces 32 = .ok (.iconst 1, 1) := by decide +kernel
theorem dX6_traces_33 : decode cX6_traces 33 = .ok (.iadd, 1) := by decide +kernel
theorem dX6_traces_34 : decode cX6_traces 34 = .ok (.iload_n 1, 1) := by decide +kernel
theorem dX6_traces_35 : decode cX6_traces 35 = .ok (.iastore, 1) := by decide +kernel
theorem dX6_traces_36 : decode cX6_traces 36 = .ok (.aload_n 0, 1) := by decide +kernel
theorem dX6_traces_37 : decode cX6_traces 37 = .ok (.iload_n 3, 1) := by decide +kernel
theorem dX6_traces_38 : decode cX6_traces 38 = .ok (.iconst 2, 1) := by decide +kernel
theorem dX6_traces_39 : decode cX6_traces 39 = .ok (.iadd, 1) := by decide +kernel
theorem dX6_traces_40 : decode cX6_traces 40 = .ok (.iload_n 2, 1) := by decide +kernel
theorem dX6_traces_41 : decode cX6_traces 41 = .ok (.iastore, 1) := by decide +kernel
theorem dX6_traces_42 : decode cX6_traces 42 = .ok (.aload_n 0, 1) := by decide +kernel
theorem dX6_traces_43 : decode cX6_traces 43 = .ok (.sipush 145, 3) := by decide +kernel
theorem dX6_traces_46 : decode cX6_traces 46 = .ok (.dup2, 1) := by decide +kernel
theorem dX6_traces_47 : decode cX6_traces 47 = .ok (.iaload, 1) := by decide +kernel
theorem dX6_traces_48 : decode cX6_traces 48 = .ok (.iconst 1, 1) := by decide +kernel
theorem dX6_traces_49 : decode cX6_traces 49 = .ok (.iadd, 1) := by decide +kernel
theorem dX6_traces_50 : decode cX6_traces 50 = .ok (.iastore, 1) := by decide +kernel
theorem dX6_traces_51 : decode cX6_traces 51 = .ok (.return_, 1) := by decide +kernel
theorem dX6_codes_0 : decode cX6_codes 0 = .ok (.aload_n 0, 1) := by decide +kernel
theorem dX6_codes_1 : decode cX6_codes 1 = .ok (.iload_n 1, 1) := by decide +kernel
theorem dX6_codes_2 : decode cX6_codes 2 = .ok (.bipush 9, 2) := by decide +kernel
theorem dX6_codes_4 : decode cX6_codes 4 = .ok (.invokestatic 161, 3) := by decide +kernel
theorem dX6_codes_7 : decode cX6_codes 7 = .ok (.bipush 8, 2) := by decide +kernel
theorem dX6_codes_9 : decode cX6_codes 9 = .ok (.if_icmp .ge 34, 3) := by decide +kernel
theorem dX6_codes_12 : decode cX6_codes 12 = .ok (.aload_n 0, 1) := by decide +kernel
theorem dX6_codes_13 : decode cX6_codes 13 = .ok (.bipush 18, 2) := by decide +kernel
theorem dX6_codes_15 : decode cX6_codes 15 = .ok (.iload_n 1, 1) := by decide +kernel
theorem dX6_codes_16 : decode cX6_codes 16 = .ok (.imul, 1) := by decide +kernel
theorem dX6_codes_17 : decode cX6_codes 17 = .ok (.bipush 10, 2) := by decide +kernel
theorem dX6_codes_19 : decode cX6_codes 19 = .ok (.iadd, 1) := by decide +kernel
theorem dX6_codes_20 : decode cX6_codes 20 = .ok (.aload_n 0, 1) := by decide +kernel
theorem dX6_codes_21 : decode cX6_codes 21 = .ok (.iload_n 1, 1) := by decide +kernel
theorem dX6_codes_22 : decode cX6_codes 22 = .ok (.bipush 9, 2) := by decide +kernel
theorem dX6_codes_24 : decode cX6_codes 24 = .ok (.invokestatic 161, 3) := by decide +kernel
theorem dX6_codes_27 : decode cX6_codes 27 = .ok (.iadd, 1) := by decide +kernel
theorem dX6_codes_28 : decode cX6_codes 28 = .ok (.iload_n 2, 1) := by decide +kernel
theorem dX6_codes_29 : decode cX6_codes 29 = .ok (.iastore, 1) := by decide +kernel
theorem dX6_codes_30 : decode cX6_codes 30 = .ok (.aload_n 0, 1) := by decide +kernel
theorem dX6_codes_31 : decode cX6_codes 31 = .ok (.bipush 18, 2) := by decide +kernel
theorem dX6_codes_33 : decode cX6_codes 33 = .ok (.iload_n 1, 1) := by decide +kernel
theorem dX6_codes_34 : decode cX6_codes 34 = .ok (.imul, 1) := by decide +kernel
theorem dX6_codes_35 : decode cX6_codes 35 = .ok (.bipush 9, 2) := by decide +kernel
theorem dX6_codes_37 : decode cX6_codes 37 = .ok (.iadd, 1) := by decide +kernel
theorem dX6_codes_38 : decode cX6_codes 38 = .ok (.dup2, 1) := by decide +kernel
theorem dX6_codes_39 : decode cX6_codes 39 = .ok (.iaload, 1) := by decide +kernel
theorem dX6_codes_40 : decode cX6_codes 40 = .ok (.iconst 1, 1) := by decide +kernel
theorem dX6_codes_41 : decode cX6_codes 41 = .ok (.iadd, 1) := by decide +kernel
theorem dX6_codes_42 : decode cX6_codes 42 = .ok (.iastore, 1) := by decide +kernel
theorem dX6_codes_43 : decode cX6_codes 43 = .ok (.return_, 1) := by decide +kernel
theorem dX6_asksChildren_0 : decode cX6_asksChildren 0 = .ok (.iconst 1, 1) := by decide +kernel
theorem dX6_asksChildren_1 : decode cX6_asksChildren 1 = .ok (.istore_n 3, 1) := by decide +kernel
theorem dX6_asksChildren_2 : decode cX6_asksChildren 2 = .ok (.iload_n 3, 1) := by decide +kernel
theorem dX6_asksChildren_3 : decode cX6_asksChildren 3 = .ok (.aload_n 0, 1) := by decide +kernel
theorem dX6_asksChildren_4 : decode cX6_asksChildren 4 = .ok (.getfield 142, 3) := by decide +kernel
theorem dX6_asksChildren_7 : decode cX6_asksChildren 7 = .ok (.if_icmp .ge 37, 3) := by decide +kernel
theorem dX6_asksChildren_10 : decode cX6_asksChildren 10 = .ok (.aload_n 0, 1) := by decide +kernel
theorem dX6_asksChildren_11 : decode cX6_asksChildren 11 = .ok (.getfield 31, 3) := by decide +kernel
theorem dX6_asksChildren_14 : decode cX6_asksChildren 14 = .ok (.iload_n 3, 1) := by decide +kernel
theorem dX6_asksChildren_15 : decode cX6_asksChildren 15 = .ok (.iaload, 1) := by decide +kernel
theorem dX6_asksChildren_16 : decode cX6_asksChildren 16 = .ok (.iload_n 2, 1) := by decide +kernel
theorem dX6_asksChildren_17 : decode cX6_asksChildren 17 = .ok (.if_icmp .ne 21, 3) := by decide +kernel
theorem dX6_asksChildren_20 : decode cX6_asksChildren 20 = .ok (.aload_n 1, 1) := by decide +kernel
theorem dX6_asksChildren_21 : decode cX6_asksChildren 21 = .ok (.iload_n 3, 1) := by decide +kernel
theorem dX6_asksChildren_22 : decode cX6_asksChildren 22 = .ok (.iconst 1, 1) := by decide +kernel
theorem dX6_asksChildren_23 : decode cX6_asksChildren 23 = .ok (.invokestatic 165, 3) := by decide +kernel
theorem dX6_asksChildren_26 : decode cX6_asksChildren 26 = .ok (.ifCond .eq 12, 3) := by decide +kernel
theorem dX6_asksChildren_29 : decode cX6_asksChildren 29 = .ok (.aload_n 1, 1) := by decide +kernel
theorem dX6_asksChildren_30 : decode cX6_asksChildren 30 = .ok (.bipush 18, 2) := by decide +kernel
theorem dX6_asksChildren_32 : decode cX6_asksChildren 32 = .ok (.iload_n 3, 1) := by decide +kernel
theorem dX6_asksChildren_33 : decode cX6_asksChildren 33 = .ok (.imul, 1) := by decide +kernel
theorem dX6_asksChildren_34 : decode cX6_asksChildren 34 = .ok (.iconst 5, 1) := by decide +kernel
theorem dX6_asksChildren_35 : decode cX6_asksChildren 35 = .ok (.iadd, 1) := by decide +kernel
theorem dX6_asksChildren_36 : decode cX6_asksChildren 36 = .ok (.iconst 1, 1) := by decide +kernel
theorem dX6_asksChildren_37 : decode cX6_asksChildren 37 = .ok (.iastore, 1) := by decide +kernel
theorem dX6_asksChildren_38 : decode cX6_asksChildren 38 = .ok (.iinc 3 1, 3) := by decide +kernel
theorem dX6_asksChildren_41 : decode cX6_asksChildren 41 = .ok (.goto (-39), 3) := by decide +kernel
theorem dX6_asksChildren_44 : decode cX6_asksChildren 44 = .ok (.return_, 1) := by decide +kernel
theorem dX6_closes_0 : decode cX6_closes 0 = .ok (.aload_n 1, 1) := by decide +kernel
theorem dX6_closes_1 : decode cX6_closes 1 = .ok (.iload_n 2, 1) := by decide +kernel
theorem dX6_closes_2 : decode cX6_closes 2 = .ok (.bipush 9, 2) := by decide +kernel
theorem dX6_closes_4 : decode cX6_closes 4 = .ok (.invokestatic 161, 3) := by decide +kernel
theorem dX6_closes_7 : decode cX6_closes 7 = .ok (.ifCond .le 7, 3) := by decide +kernel
theorem dX6_closes_10 : decode cX6_closes 10 = .ok (.iconst 1, 1) := by decide +kernel
theorem dX6_closes_11 : decode cX6_closes 11 = .ok (.goto 4, 3) := by decide +kernel
theorem dX6_closes_14 : decode cX6_closes 14 = .ok (.iconst 0, 1) := by decide +kernel
theorem dX6_closes_15 : decode cX6_closes 15 = .ok (.istore 4, 2) := by decide +kernel
theorem dX6_closes_17 : decode cX6_closes 17 = .ok (.aload_n 1, 1) := by decide +kernel
theorem dX6_closes_18 : decode cX6_closes 18 = .ok (.bipush 18, 2) := by decide +kernel
theorem dX6_closes_20 : decode cX6_closes 20 = .ok (.iload_n 2, 1) := by decide +kernel
theorem dX6_closes_21 : decode cX6_closes 21 = .ok (.imul, 1) := by decide +kernel
theorem dX6_closes_22 : decode cX6_closes 22 = .ok (.iconst 0, 1) := by decide +kernel
theorem dX6_closes_23 : decode cX6_closes 23 = .ok (.iadd, 1) := by decide +kernel
theorem dX6_closes_24 : decode cX6_closes 24 = .ok (.iconst 2, 1) := by decide +kernel
theorem dX6_closes_25 : decode cX6_closes 25 = .ok (.iastore, 1) := by decide +kernel
theorem dX6_closes_26 : decode cX6_closes 26 = .ok (.aload_n 1, 1) := by decide +kernel
theorem dX6_closes_27 : decode cX6_closes 27 = .ok (.bipush 18, 2) := by decide +kernel
theorem dX6_closes_29 : decode cX6_closes 29 = .ok (.iload_n 2, 1) := by decide +kernel
theorem dX6_closes_30 : decode cX6_closes 30 = .ok (.imul, 1) := by decide +kernel
theorem dX6_closes_31 : decode cX6_closes 31 = .ok (.iconst 1, 1) := by decide +kernel
theorem dX6_closes_32 : decode cX6_closes 32 = .ok (.iadd, 1) := by decide +kernel
theorem dX6_closes_33 : decode cX6_closes 33 = .ok (.iload_n 3, 1) := by decide +kernel
theorem dX6_closes_34 : decode cX6_closes 34 = .ok (.ifCond .ne 12, 3) := by decide +kernel
theorem dX6_closes_37 : decode cX6_closes 37 = .ok (.iload 4, 2) := by decide +kernel
theorem dX6_closes_39 : decode cX6_closes 39 = .ok (.ifCond .eq 7, 3) := by decide +kernel
theorem dX6_closes_42 : decode cX6_closes 42 = .ok (.iconst 1, 1) := by decide +kernel
theorem dX6_closes_43 : decode cX6_closes 43 = .ok (.goto 4, 3) := by decide +kernel
theorem dX6_closes_46 : decode cX6_closes 46 = .ok (.iload_n 3, 1) := by decide +kernel
theorem dX6_closes_47 : decode cX6_closes 47 = .ok (.iastore, 1) := by decide +kernel
theorem dX6_closes_48 : decode cX6_closes 48 = .ok (.iload_n 3, 1) := by decide +kernel
theorem dX6_closes_49 : decode cX6_closes 49 = .ok (.ifCond .ne 8, 3) := by decide +kernel
theorem dX6_closes_52 : decode cX6_closes 52 = .ok (.iload 4, 2) := by decide +kernel
theorem dX6_closes_54 : decode cX6_closes 54 = .ok (.ifCond .eq 9, 3) := by decide +kernel
theorem dX6_closes_57 : decode cX6_closes 57 = .ok (.aload_n 0, 1) := by decide +kernel
theorem dX6_closes_58 : decode cX6_closes 58 = .ok (.aload_n 1, 1) := by decide +kernel
theorem dX6_closes_59 : decode cX6_closes 59 = .ok (.iload_n 2, 1) := by decide +kernel
theorem dX6_closes_60 : decode cX6_closes 60 = .ok (.invokevirtual 169, 3) := by decide +kernel
theorem dX6_closes_63 : decode cX6_closes 63 = .ok (.aload_n 1, 1) := by decide +kernel
theorem dX6_closes_64 : decode cX6_closes 64 = .ok (.iload_n 2, 1) := by decide +kernel
theorem dX6_closes_65 : decode cX6_closes 65 = .ok (.iconst 1, 1) := by decide +kernel
theorem dX6_closes_66 : decode cX6_closes 66 = .ok (.invokestatic 173, 3) := by decide +kernel
theorem dX6_closes_69 : decode cX6_closes 69 = .ok (.return_, 1) := by decide +kernel
theorem dX6_begin_0 : decode cX6_begin 0 = .ok (.aload_n 0, 1) := by decide +kernel
theorem dX6_begin_1 : decode cX6_begin 1 = .ok (.getfield 40, 3) := by decide +kernel
theorem dX6_begin_4 : decode cX6_begin 4 = .ok (.iload_n 2, 1) := by decide +kernel
theorem dX6_begin_5 : decode cX6_begin 5 = .ok (.iaload, 1) := by decide +kernel
theorem dX6_begin_6 : decode cX6_begin 6 = .ok (.bipush 99, 2) := by decide +kernel
theorem dX6_begin_8 : decode cX6_begin 8 = .ok (.if_icmp .ne 9, 3) := by decide +kernel
theorem dX6_begin_11 : decode cX6_begin 11 = .ok (.sipush 9999, 3) := by decide +kernel
theorem dX6_begin_14 : decode cX6_begin 14 = .ok (.goto 15, 3) := by decide +kernel
theorem dX6_begin_17 : decode cX6_begin 17 = .ok (.aload_n 1, 1) := by decide +kernel
theorem dX6_begin_18 : decode cX6_begin 18 = .ok (.sipush 144, 3) := by decide +kernel
theorem dX6_begin_21 : decode cX6_begin 21 = .ok (.iaload, 1) := by decide +kernel
theorem dX6_begin_22 : decode cX6_begin 22 = .ok (.aload_n 0, 1) := by decide +kernel
theorem dX6_begin_23 : decode cX6_begin 23 = .ok (.getfield 40, 3) := by decide +kernel
theorem dX6_begin_26 : decode cX6_begin 26 = .ok (.iload_n 2, 1) := by decide +kernel
theorem dX6_begin_27 : decode cX6_begin 27 = .ok (.iaload, 1) := by decide +kernel
theorem dX6_begin_28 : decode cX6_begin 28 = .ok (.iadd, 1) := by decide +kernel
theorem dX6_begin_29 : decode cX6_begin 29 = .ok (.istore_n 3, 1) := by decide +kernel
theorem dX6_begin_30 : decode cX6_begin 30 = .ok (.aload_n 1, 1) := by decide +kernel
theorem dX6_begin_31 : decode cX6_begin 31 = .ok (.aload_n 0, 1) := by decide +kernel
theorem dX6_begin_32 : decode cX6_begin 32 = .ok (.getfield 31, 3) := by decide +kernel
theorem dX6_begin_35 : decode cX6_begin 35 = .ok (.iload_n 2, 1) := by decide +kernel
theorem dX6_begin_36 : decode cX6_begin 36 = .ok (.iaload, 1) := by decide +kernel
theorem dX6_begin_37 : decode cX6_begin 37 = .ok (.iconst 4, 1) := by decide +kernel
theorem dX6_begin_38 : decode cX6_begin 38 = .ok (.invokestatic 161, 3) := by decide +kernel
theorem dX6_begin_41 : decode cX6_begin 41 = .ok (.istore 4, 2) := by decide +kernel
theorem dX6_begin_43 : decode cX6_begin 43 = .ok (.aload_n 1, 1) := by decide +kernel
theorem dX6_begin_44 : decode cX6_begin 44 = .ok (.bipush 18, 2) := by decide +kernel
theorem dX6_begin_46 : decode cX6_begin 46 = .ok (.iload_n 2, 1) := by decide +kernel
theorem dX6_begin_47 : decode cX6_begin 47 = .ok (.imul, 1) := by decide +kernel
theorem dX6_begin_48 : decode cX6_begin 48 = .ok (.iconst 0, 1) := by decide +kernel
theorem dX6_begin_49 : decode cX6_begin 49 = .ok (.iadd, 1) := by decide +kernel
theorem dX6_begin_50 : decode cX6_begin 50 = .ok (.iconst 1, 1) := by decide +kernel
theorem dX6_begin_51 : decode cX6_begin 51 = .ok (.iastore, 1) := by decide +kernel
theorem dX6_begin_52 : decode cX6_begin 52 = .ok (.aload_n 1, 1) := by decide +kernel
theorem dX6_begin_53 : decode cX6_begin 53 = .ok (.bipush 18, 2) := by decide +kernel
theorem dX6_begin_55 : decode cX6_begin 55 = .ok (.iload_n 2, 1) := by decide +kernel
theorem dX6_begin_56 : decode cX6_begin 56 = .ok (.imul, 1) := by decide +kernel
theorem dX6_begin_57 : decode cX6_begin 57 = .ok (.iconst 4, 1) := by decide +kernel
theorem dX6_begin_58 : decode cX6_begin 58 = .ok (.iadd, 1) := by decide +kernel
theorem dX6_begin_59 : decode cX6_begin 59 = .ok (.iload_n 3, 1) := by decide +kernel
theorem dX6_begin_60 : decode cX6_begin 60 = .ok (.iload 4, 2) := by decide +kernel
theorem dX6_begin_62 : decode cX6_begin 62 = .ok (.if_icmp .ge 7, 3) := by decide +kernel
theorem dX6_begin_65 : decode cX6_begin 65 = .ok (.iload_n 3, 1) := by decide +kernel
theorem dX6_begin_66 : decode cX6_begin 66 = .ok (.goto 5, 3) := by decide +kernel
theorem dX6_begin_69 : decode cX6_begin 69 = .ok (.iload 4, 2) := by decide +kernel
theorem dX6_begin_71 : decode cX6_begin 71 = .ok (.iastore, 1) := by decide +kernel
theorem dX6_begin_72 : decode cX6_begin 72 = .ok (.aload_n 1, 1) := by decide +kernel
theorem dX6_begin_73 : decode cX6_begin 73 = .ok (.bipush 18, 2) := by decide +kernel
theorem dX6_begin_75 : decode cX6_begin 75 = .ok (.iload_n 2, 1) := by decide +kernel
theorem dX6_begin_76 : decode cX6_begin 76 = .ok (.imul, 1) := by decide +kernel
theorem dX6_begin_77 : decode cX6_begin 77 = .ok (.bipush 7, 2) := by decide +kernel
theorem dX6_begin_79 : decode cX6_begin 79 = .ok (.iadd, 1) := by decide +kernel
theorem dX6_begin_80 : decode cX6_begin 80 = .ok (.aload_n 1, 1) := by decide +kernel
theorem dX6_begin_81 : decode cX6_begin 81 = .ok (.sipush 144, 3) := by decide +kernel
theorem dX6_begin_84 : decode cX6_begin 84 = .ok (.iaload, 1) := by decide +kernel
theorem dX6_begin_85 : decode cX6_begin 85 = .ok (.iastore, 1) := by decide +kernel
theorem dX6_begin_86 : decode cX6_begin 86 = .ok (.aload_n 1, 1) := by decide +kernel
theorem dX6_begin_87 : decode cX6_begin 87 = .ok (.iload_n 2, 1) := by decide +kernel
theorem dX6_begin_88 : decode cX6_begin 88 = .ok (.iconst 0, 1) := by decide +kernel
theorem dX6_begin_89 : decode cX6_begin 89 = .ok (.invokestatic 173, 3) := by decide +kernel
theorem dX6_begin_92 : decode cX6_begin 92 = .ok (.return_, 1) := by decide +kernel
theorem dX6_beginsChild_0 : decode cX6_beginsChild 0 = .ok (.iconst 1, 1) := by decide +kernel
theorem dX6_beginsChild_1 : decode cX6_beginsChild 1 = .ok (.istore_n 3, 1) := by decide +kernel
theorem dX6_beginsChild_2 : decode cX6_beginsChild 2 = .ok (.iload_n 3, 1) := by decide +kernel
theorem dX6_beginsChild_3 : decode cX6_beginsChild 3 = .ok (.aload_n 0, 1) := by decide +kernel
theorem dX6_beginsChild_4 : decode cX6_beginsChild 4 = .ok (.getfield 142, 3) := by decide +kernel
theorem dX6_beginsChild_7 : decode cX6_beginsChild 7 = .ok (.if_icmp .ge 35, 3) := by decide +kernel
theorem dX6_beginsChild_10 : decode cX6_beginsChild 10 = .ok (.aload_n 0, 1) := by decide +kernel
theorem dX6_beginsChild_11 : decode cX6_beginsChild 11 = .ok (.getfield 31, 3) := by decide +kernel
theorem dX6_beginsChild_14 : decode cX6_beginsChild 14 = .ok (.iload_n 3, 1) := by decide +kernel
theorem dX6_beginsChild_15 : decode cX6_beginsChild 15 = .ok (.iaload, 1) := by decide +kernel
theorem dX6_beginsChild_16 : decode cX6_beginsChild 16 = .ok (.iload_n 2, 1) := by decide +kernel
theorem dX6_beginsChild_17 : decode cX6_beginsChild 17 = .ok (.if_icmp .ne 19, 3) := by decide +kernel
theorem dX6_beginsChild_20 : decode cX6_beginsChild 20 = .ok (.aload_n 1, 1) := by decide +kernel
theorem dX6_beginsChild_21 : decode cX6_beginsChild 21 = .ok (.iload_n 3, 1) := by decide +kernel
theorem dX6_beginsChild_22 : decode cX6_beginsChild 22 = .ok (.iconst 0, 1) := by decide +kernel
theorem dX6_beginsChild_23 : decode cX6_beginsChild 23 = .ok (.invokestatic 165, 3) := by decide +kernel
theorem dX6_beginsChild_26 : decode cX6_beginsChild 26 = .ok (.ifCond .eq 10, 3) := by decide +kernel
theorem dX6_beginsChild_29 : decode cX6_beginsChild 29 = .ok (.aload_n 0, 1) := by decide +kernel
theorem dX6_beginsChild_30 : decode cX6_beginsChild 30 = .ok (.aload_n 1, 1) := by decide +kernel
theorem dX6_beginsChild_31 : decode cX6_beginsChild 31 = .ok (.iload_n 3, 1) := by decide +kernel
theorem dX6_beginsChild_32 : decode cX6_beginsChild 32 = .ok (.invokevirtual 177, 3) := by decide +kernel
theorem dX6_beginsChild_35 : decode cX6_beginsChild 35 = .ok (.return_, 1) := by decide +kernel
theorem dX6_beginsChild_36 : decode cX6_beginsChild 36 = .ok (.iinc 3 1, 3) := by decide +kernel
theorem dX6_beginsChild_39 : decode cX6_beginsChild 39 = .ok (.goto (-37), 3) := by decide +kernel
theorem dX6_beginsChild_42 : decode cX6_beginsChild 42 = .ok (.return_, 1) := by decide +kernel
theorem dX6_isBusy_0 : decode cX6_isBusy 0 = .ok (.iconst 0, 1) := by decide +kernel
theorem dX6_isBusy_1 : decode cX6_isBusy 1 = .ok (.istore_n 3, 1) := by decide +kernel
theorem dX6_isBusy_2 : decode cX6_isBusy 2 = .ok (.iconst 1, 1) := by decide +kernel
theorem dX6_isBusy_3 : decode cX6_isBusy 3 = .ok (.istore 4, 2) := by decide +kernel
theorem dX6_isBusy_5 : decode cX6_isBusy 5 = .ok (.iload 4, 2) := by decide +kernel
theorem dX6_isBusy_7 : decode cX6_isBusy 7 = .ok (.aload_n 0, 1) := by decide +kernel
theorem dX6_isBusy_8 : decode cX6_isBusy 8 = .ok (.getfield 142, 3) := by decide +kernel
theorem dX6_isBusy_11 : decode cX6_isBusy 11 = .ok (.if_icmp .ge 50, 3) := by decide +kernel
theorem dX6_isBusy_14 : decode cX6_isBusy 14 = .ok (.iload_n 3, 1) := by decide +kernel
theorem dX6_isBusy_15 : decode cX6_isBusy 15 = .ok (.ifCond .ne 34, 3) := by decide +kernel
theorem dX6_isBusy_18 : decode cX6_isBusy 18 = .ok (.aload_n 0, 1) := by decide +kernel
theorem dX6_isBusy_19 : decode cX6_isBusy 19 = .ok (.getfield 31, 3) := by decide +kernel
theorem dX6_isBusy_22 : decode cX6_isBusy 22 = .ok (.iload 4, 2) := by decide +kernel
theorem dX6_isBusy_24 : decode cX6_isBusy 24 = .ok (.iaload, 1) := by decide +kernel
theorem dX6_isBusy_25 : decode cX6_isBusy 25 = .ok (.iload_n 2, 1) := by decide +kernel
theorem dX6_isBusy_26 : decode cX6_isBusy 26 = .ok (.if_icmp .ne 27, 3) := by decide +kernel
theorem dX6_isBusy_29 : decode cX6_isBusy 29 = .ok (.aload_n 1, 1) := by decide +kernel
theorem dX6_isBusy_30 : decode cX6_isBusy 30 = .ok (.iload 4, 2) := by decide +kernel
theorem dX6_isBusy_32 : decode cX6_isBusy 32 = .ok (.iconst 1, 1) := by decide +kernel
theorem dX6_isBusy_33 : decode cX6_isBusy 33 = .ok (.invokestatic 165, 3) := by decide +kernel
theorem dX6_isBusy_36 : decode cX6_isBusy 36 = .ok (.ifCond .ne 13, 3) := by decide +kernel
theorem dX6_isBusy_39 : decode cX6_isBusy 39 = .ok (.aload_n 1, 1) := by decide +kernel
theorem dX6_isBusy_40 : decode cX6_isBusy 40 = .ok (.iload 4, 2) := by decide +kernel
theorem dX6_isBusy_42 : decode cX6_isBusy 42 = .ok (.iconst 2, 1) := by decide +kernel
theorem dX6_isBusy_43 : decode cX6_isBusy 43 = .ok (.invokestatic 165, 3) := by decide +kernel
theorem dX6_isBusy_46 : decode cX6_isBusy 46 = .ok (.ifCond .eq 7, 3) := by decide +kernel
theorem dX6_isBusy_49 : decode cX6_isBusy 49 = .ok (.iconst 1, 1) := by decide +kernel
theorem dX6_isBusy_50 : decode cX6_isBusy 50 = .ok (.goto 4, 3) := by decide +kernel
theorem dX6_isBusy_53 : decode cX6_isBusy 53 = .ok (.iconst 0, 1) := by decide +kernel
theorem dX6_isBusy_54 : decode cX6_isBusy 54 = .ok (.istore_n 3, 1) := by decide +kernel
theorem dX6_isBusy_55 : decode cX6_isBusy 55 = .ok (.iinc 4 1, 3) := by decide +kernel
theorem dX6_isBusy_58 : decode cX6_isBusy 58 = .ok (.goto (-53), 3) := by decide +kernel
theorem dX6_isBusy_61 : decode cX6_isBusy 61 = .ok (.iload_n 3, 1) := by decide +kernel
theorem dX6_isBusy_62 : decode cX6_isBusy 62 = .ok (.ireturn, 1) := by decide +kernel
theorem dX6_works_0 : decode cX6_works 0 = .ok (.bipush 18, 2) := by decide +kernel
theorem dX6_works_2 : decode cX6_works 2 = .ok (.iload_n 2, 1) := by decide +kernel
theorem dX6_works_3 : decode cX6_works 3 = .ok (.imul, 1) := by decide +kernel
theorem dX6_works_4 : decode cX6_works 4 = .ok (.istore_n 3, 1) := by decide +kernel
theorem dX6_works_5 : decode cX6_works 5 = .ok (.bipush 12, 2) := by decide +kernel
theorem dX6_works_7 : decode cX6_works 7 = .ok (.iload_n 2, 1) := by decide +kernel
theorem dX6_works_8 : decode cX6_works 8 = .ok (.imul, 1) := by decide +kernel
theorem dX6_works_9 : decode cX6_works 9 = .ok (.iconst 2, 1) := by decide +kernel
theorem dX6_works_10 : decode cX6_works 10 = .ok (.aload_n 1, 1) := by decide +kernel
theorem dX6_works_11 : decode cX6_works 11 = .ok (.iload_n 3, 1) := by decide +kernel
theorem dX6_works_12 : decode cX6_works 12 = .ok (.iconst 2, 1) := by decide +kernel
theorem dX6_works_13 : decode cX6_works 13 = .ok (.iadd, 1) := by decide +kernel
theorem dX6_works_14 : decode cX6_works 14 = .ok (.iaload, 1) := by decide +kernel
theorem dX6_works_15 : decode cX6_works 15 = .ok (.imul, 1) := by decide +kernel
theorem dX6_works_16 : decode cX6_works 16 = .ok (.iadd, 1) := by decide +kernel
theorem dX6_works_17 : decode cX6_works 17 = .ok (.istore 4, 2) := by decide +kernel
theorem dX6_works_19 : decode cX6_works 19 = .ok (.aload_n 0, 1) := by decide +kernel
theorem dX6_works_20 : decode cX6_works 20 = .ok (.getfield 37, 3) := by decide +kernel
theorem dX6_works_23 : decode cX6_works 23 = .ok (.iload 4, 2) := by decide +kernel
theorem dX6_works_25 : decode cX6_works 25 = .ok (.iaload, 1) := by decide +kernel
theorem dX6_works_26 : decode cX6_works 26 = .ok (.lookupswitch 147 #[(98, 86), (106, 104), (119, 42), (120, 129)], 42) := by decide +kernel
theorem dX6_works_68 : decode cX6_works 68 = .ok (.aload_n 1, 1) := by decide +kernel
theorem dX6_works_69 : decode cX6_works 69 = .ok (.iload_n 3, 1) := by decide +kernel
theorem dX6_works_70 : decode cX6_works 70 = .ok (.iconst 3, 1) := by decide +kernel
theorem dX6_works_71 : decode cX6_works 71 = .ok (.iadd, 1) := by decide +kernel
theorem dX6_works_72 : decode cX6_works 72 = .ok (.dup2, 1) := by decide +kernel
theorem dX6_works_73 : decode cX6_works 73 = .ok (.iaload, 1) := by decide +kernel
theorem dX6_works_74 : decode cX6_works 74 = .ok (.iconst 1, 1) := by decide +kernel
theorem dX6_works_75 : decode cX6_works 75 = .ok (.iadd, 1) := by decide +kernel
theorem dX6_works_76 : decode cX6_works 76 = .ok (.iastore, 1) := by decide +kernel
theorem dX6_works_77 : decode cX6_works 77 = .ok (.aload_n 1, 1) := by decide +kernel
theorem dX6_works_78 : decode cX6_works 78 = .ok (.iload_n 3, 1) := by decide +kernel
theorem dX6_works_79 : decode cX6_works 79 = .ok (.iconst 3, 1) := by decide +kernel
theorem dX6_works_80 : decode cX6_works 80 = .ok (.iadd, 1) := by decide +kernel
theorem dX6_works_81 : decode cX6_works 81 = .ok (.iaload, 1) := by decide +kernel
theorem dX6_works_82 : decode cX6_works 82 = .ok (.aload_n 0, 1) := by decide +kernel
theorem dX6_works_83 : decode cX6_works 83 = .ok (.getfield 37, 3) := by decide +kernel
theorem dX6_works_86 : decode cX6_works 86 = .ok (.iload 4, 2) := by decide +kernel
theorem dX6_works_88 : decode cX6_works 88 = .ok (.iconst 1, 1) := by decide +kernel
theorem dX6_works_89 : decode cX6_works 89 = .ok (.iadd, 1) := by decide +kernel
theorem dX6_works_90 : decode cX6_works 90 = .ok (.iaload, 1) := by decide +kernel
theorem dX6_works_91 : decode cX6_works 91 = .ok (.if_icmp .ne 103, 3) := by decide +kernel
theorem dX6_works_94 : decode cX6_works 94 = .ok (.aload_n 1, 1) := by decide +kernel
theorem dX6_works_95 : decode cX6_works 95 = .ok (.iload_n 3, 1) := by decide +kernel
theorem dX6_works_96 : decode cX6_works 96 = .ok (.iconst 3, 1) := by decide +kernel
theorem dX6_works_97 : decode cX6_works 97 = .ok (.iadd, 1) := by decide +kernel
theorem dX6_works_98 : decode cX6_works 98 = .ok (.iconst 0, 1) := by decide +kernel
theorem dX6_works_99 : decode cX6_works 99 = .ok (.iastore, 1) := by decide +kernel
theorem dX6_works_100 : decode cX6_works 100 = .ok (.aload_n 1, 1) := by decide +kernel
theorem dX6_works_101 : decode cX6_works 101 = .ok (.iload_n 3, 1) := by decide +kernel
theorem dX6_works_102 : decode cX6_works 102 = .ok (.iconst 2, 1) := by decide +kernel
theorem dX6_works_103 : decode cX6_works 103 = .ok (.iadd, 1) := by decide +kernel
theorem dX6_works_104 : decode cX6_works 104 = .ok (.dup2, 1) := by decide +kernel
theorem dX6_works_105 : decode cX6_works 105 = .ok (.iaload, 1) := by decide +kernel
theorem dX6_works_106 : decode cX6_works 106 = .ok (.iconst 1, 1) := by decide +kernel
theorem dX6_works_107 : decode cX6_works 107 = .ok (.iadd, 1) := by decide +kernel
theorem dX6_works_108 : decode cX6_works 108 = .ok (.iastore, 1) := by decide +kernel
theorem dX6_works_109 : decode cX6_works 109 = .ok (.goto 85, 3) := by decide +kernel
theorem dX6_works_112 : decode cX6_works 112 = .ok (.aload_n 1, 1) := by decide +kernel
theorem dX6_works_113 : decode cX6_works 113 = .ok (.iload_n 3, 1) := by decide +kernel
theorem dX6_works_114 : decode cX6_works 114 = .ok (.iconst 2, 1) := by decide +kernel
theorem dX6_works_115 : decode cX6_works 115 = .ok (.iadd, 1) := by decide +kernel
theorem dX6_works_116 : decode cX6_works 116 = .ok (.dup2, 1) := by decide +kernel
theorem dX6_works_117 : decode cX6_works 117 = .ok (.iaload, 1) := by decide +kernel
theorem dX6_works_118 : decode cX6_works 118 = .ok (.iconst 1, 1) := by decide +kernel
theorem dX6_works_119 : decode cX6_works 119 = .ok (.iadd, 1) := by decide +kernel
theorem dX6_works_120 : decode cX6_works 120 = .ok (.iastore, 1) := by decide +kernel
theorem dX6_works_121 : decode cX6_works 121 = .ok (.aload_n 0, 1) := by decide +kernel
theorem dX6_works_122 : decode cX6_works 122 = .ok (.aload_n 1, 1) := by decide +kernel
theorem dX6_works_123 : decode cX6_works 123 = .ok (.iload_n 2, 1) := by decide +kernel
theorem dX6_works_124 : decode cX6_works 124 = .ok (.invokevirtual 180, 3) := by decide +kernel
theorem dX6_works_127 : decode cX6_works 127 = .ok (.goto 67, 3) := by decide +kernel
theorem dX6_works_130 : decode cX6_works 130 = .ok (.aload_n 1, 1) := by decide +kernel
theorem dX6_works_131 : decode cX6_works 131 = .ok (.iload_n 3, 1) := by decide +kernel
theorem dX6_works_132 : decode cX6_works 132 = .ok (.iconst 2, 1) := by decide +kernel
theorem dX6_works_133 : decode cX6_works 133 = .ok (.iadd, 1) := by decide +kernel
theorem dX6_works_134 : decode cX6_works 134 = .ok (.dup2, 1) := by decide +kernel
theorem dX6_works_135 : decode cX6_works 135 = .ok (.iaload, 1) := by decide +kernel
theorem dX6_works_136 : decode cX6_works 136 = .ok (.aload_n 0, 1) := by decide +kernel
theorem dX6_works_137 : decode cX6_works 137 = .ok (.aload_n 1, 1) := by decide +kernel
theorem dX6_works_138 : decode cX6_works 138 = .ok (.iload_n 2, 1) := by decide +kernel
theorem dX6_works_139 : decode cX6_works 139 = .ok (.invokevirtual 183, 3) := by decide +kernel
theorem dX6_works_142 : decode cX6_works 142 = .ok (.ifCond .eq 7, 3) := by decide +kernel
theorem dX6_works_145 : decode cX6_works 145 = .ok (.iconst 0, 1) := by decide +kernel
theorem dX6_works_146 : decode cX6_works 146 = .ok (.goto 4, 3) := by decide +kernel
theorem dX6_works_149 : decode cX6_works 149 = .ok (.iconst 1, 1) := by decide +kernel
theorem dX6_works_150 : decode cX6_works 150 = .ok (.iadd, 1) := by decide +kernel
theorem dX6_works_151 : decode cX6_works 151 = .ok (.iastore, 1) := by decide +kernel
theorem dX6_works_152 : decode cX6_works 152 = .ok (.goto 42, 3) := by decide +kernel
theorem dX6_works_155 : decode cX6_works 155 = .ok (.aload_n 1, 1) := by decide +kernel
theorem dX6_works_156 : decode cX6_works 156 = .ok (.iload_n 3, 1) := by decide +kernel
theorem dX6_works_157 : decode cX6_works 157 = .ok (.iconst 2, 1) := by decide +kernel
theorem dX6_works_158 : decode cX6_works 158 = .ok (.iadd, 1) := by decide +kernel
theorem dX6_works_159 : decode cX6_works 159 = .ok (.dup2, 1) := by decide +kernel
theorem dX6_works_160 : decode cX6_works 160 = .ok (.iaload, 1) := by decide +kernel
theorem dX6_works_161 : decode cX6_works 161 = .ok (.iconst 1, 1) := by decide +kernel
theorem dX6_works_162 : decode cX6_works 162 = .ok (.iadd, 1) := by decide +kernel
theorem dX6_works_163 : decode cX6_works 163 = .ok (.iastore, 1) := by decide +kernel
theorem dX6_works_164 : decode cX6_works 164 = .ok (.aload_n 0, 1) := by decide +kernel
theorem dX6_works_165 : decode cX6_works 165 = .ok (.aload_n 1, 1) := by decide +kernel
theorem dX6_works_166 : decode cX6_works 166 = .ok (.iload_n 2, 1) := by decide +kernel
theorem dX6_works_167 : decode cX6_works 167 = .ok (.invokevirtual 169, 3) := by decide +kernel
theorem dX6_works_170 : decode cX6_works 170 = .ok (.goto 24, 3) := by decide +kernel
theorem dX6_works_173 : decode cX6_works 173 = .ok (.aload_n 1, 1) := by decide +kernel
theorem dX6_works_174 : decode cX6_works 174 = .ok (.iload_n 2, 1) := by decide +kernel
theorem dX6_works_175 : decode cX6_works 175 = .ok (.aload_n 0, 1) := by decide +kernel
theorem dX6_works_176 : decode cX6_works 176 = .ok (.getfield 37, 3) := by decide +kernel
theorem dX6_works_179 : decode cX6_works 179 = .ok (.iload 4, 2) := by decide +kernel
theorem dX6_works_181 : decode cX6_works 181 = .ok (.iconst 1, 1) := by decide +kernel
theorem dX6_works_182 : decode cX6_works 182 = .ok (.iadd, 1) := by decide +kernel
theorem dX6_works_183 : decode cX6_works 183 = .ok (.iaload, 1) := by decide +kernel
theorem dX6_works_184 : decode cX6_works 184 = .ok (.invokestatic 187, 3) := by decide +kernel
theorem dX6_works_187 : decode cX6_works 187 = .ok (.aload_n 0, 1) := by decide +kernel
theorem dX6_works_188 : decode cX6_works 188 = .ok (.aload_n 1, 1) := by decide +kernel
theorem dX6_works_189 : decode cX6_works 189 = .ok (.iload_n 2, 1) := by decide +kernel
theorem dX6_works_190 : decode cX6_works 190 = .ok (.iconst 1, 1) := by decide +kernel
theorem dX6_works_191 : decode cX6_works 191 = .ok (.invokevirtual 190, 3) := by decide +kernel
theorem dX6_works_194 : decode cX6_works 194 = .ok (.return_, 1) := by decide +kernel
theorem dX6_moves_0 : decode cX6_moves 0 = .ok (.aload_n 1, 1) := by decide +kernel
theorem dX6_moves_1 : decode cX6_moves 1 = .ok (.iload_n 2, 1) := by decide +kernel
theorem dX6_moves_2 : decode cX6_moves 2 = .ok (.iconst 5, 1) := by decide +kernel
theorem dX6_moves_3 : decode cX6_moves 3 = .ok (.invokestatic 161, 3) := by decide +kernel
theorem dX6_moves_6 : decode cX6_moves 6 = .ok (.iconst 1, 1) := by decide +kernel
theorem dX6_moves_7 : decode cX6_moves 7 = .ok (.if_icmp .ne 28, 3) := by decide +kernel
theorem dX6_moves_10 : decode cX6_moves 10 = .ok (.aload_n 1, 1) := by decide +kernel
theorem dX6_moves_11 : decode cX6_moves 11 = .ok (.iload_n 2, 1) := by decide +kernel
theorem dX6_moves_12 : decode cX6_moves 12 = .ok (.iconst 2, 1) := by decide +kernel
theorem dX6_moves_13 : decode cX6_moves 13 = .ok (.invokestatic 161, 3) := by decide +kernel
theorem dX6_moves_16 : decode cX6_moves 16 = .ok (.aload_n 0, 1) := by decide +kernel
theorem dX6_moves_17 : decode cX6_moves 17 = .ok (.getfield 43, 3) := by decide +kernel
theorem dX6_moves_20 : decode cX6_moves 20 = .ok (.iload_n 2, 1) := by decide +kernel
theorem dX6_moves_21 : decode cX6_moves 21 = .ok (.iaload, 1) := by decide +kernel
theorem dX6_moves_22 : decode cX6_moves 22 = .ok (.if_icmp .lt 13, 3) := by decide +kernel
theorem dX6_moves_25 : decode cX6_moves 25 = .ok (.aload_n 0, 1) := by decide +kernel
theorem dX6_moves_26 : decode cX6_moves 26 = .ok (.aload_n 1, 1) := by decide +kernel
theorem dX6_moves_27 : decode cX6_moves 27 = .ok (.iload_n 2, 1) := by decide +kernel
theorem dX6_moves_28 : decode cX6_moves 28 = .ok (.iconst 2, 1) := by decide +kernel
theorem dX6_moves_29 : decode cX6_moves 29 = .ok (.invokevirtual 190, 3) := by decide +kernel
theorem dX6_moves_32 : decode cX6_moves 32 = .ok (.goto 34, 3) := by decide +kernel
theorem dX6_moves_35 : decode cX6_moves 35 = .ok (.aload_n 1, 1) := by decide +kernel
theorem dX6_moves_36 : decode cX6_moves 36 = .ok (.iload_n 2, 1) := by decide +kernel
theorem dX6_moves_37 : decode cX6_moves 37 = .ok (.iconst 2, 1) := by decide +kernel
theorem dX6_moves_38 : decode cX6_moves 38 = .ok (.invokestatic 161, 3) := by decide +kernel
theorem dX6_moves_41 : decode cX6_moves 41 = .ok (.aload_n 0, 1) := by decide +kernel
theorem dX6_moves_42 : decode cX6_moves 42 = .ok (.getfield 34, 3) := by decide +kernel
theorem dX6_moves_45 : decode cX6_moves 45 = .ok (.iload_n 2, 1) := by decide +kernel
theorem dX6_moves_46 : decode cX6_moves 46 = .ok (.iaload, 1) := by decide +kernel
theorem dX6_moves_47 : decode cX6_moves 47 = .ok (.if_icmp .ne 13, 3) := by decide +kernel
theorem dX6_moves_50 : decode cX6_moves 50 = .ok (.aload_n 0, 1) := by decide +kernel
theorem dX6_moves_51 : decode cX6_moves 51 = .ok (.aload_n 1, 1) := by decide +kernel
theorem dX6_moves_52 : decode cX6_moves 52 = .ok (.iload_n 2, 1) := by decide +kernel
theorem dX6_moves_53 : decode cX6_moves 53 = .ok (.iconst 0, 1) := by decide +kernel
theorem dX6_moves_54 : decode cX6_moves 54 = .ok (.invokevirtual 190, 3) := by decide +kernel
theorem dX6_moves_57 : decode cX6_moves 57 = .ok (.goto 9, 3) := by decide +kernel
theorem dX6_moves_60 : decode cX6_moves 60 = .ok (.aload_n 0, 1) := by decide +kernel
theorem dX6_moves_61 : decode cX6_moves 61 = .ok (.aload_n 1, 1) := by decide +kernel
theorem dX6_moves_62 : decode cX6_moves 62 = .ok (.iload_n 2, 1) := by decide +kernel
theorem dX6_moves_63 : decode cX6_moves 63 = .ok (.invokevirtual 193, 3) := by decide +kernel
theorem dX6_moves_66 : decode cX6_moves 66 = .ok (.return_, 1) := by decide +kernel
theorem dX6_gives_0 : decode cX6_gives 0 = .ok (.aload_n 0, 1) := by decide +kernel
theorem dX6_gives_1 : decode cX6_gives 1 = .ok (.getfield 31, 3) := by decide +kernel
theorem dX6_gives_4 : decode cX6_gives 4 = .ok (.iload_n 2, 1) := by decide +kernel
theorem dX6_gives_5 : decode cX6_gives 5 = .ok (.iaload, 1) := by decide +kernel
theorem dX6_gives_6 : decode cX6_gives 6 = .ok (.istore_n 3, 1) := by decide +kernel
theorem dX6_gives_7 : decode cX6_gives 7 = .ok (.iconst 0, 1) := by decide +kernel
theorem dX6_gives_8 : decode cX6_gives 8 = .ok (.istore 4, 2) := by decide +kernel
theorem dX6_gives_10 : decode cX6_gives 10 = .ok (.iload 4, 2) := by decide +kernel
theorem dX6_gives_12 : decode cX6_gives 12 = .ok (.aload_n 1, 1) := by decide +kernel
theorem dX6_gives_13 : decode cX6_gives 13 = .ok (.iload_n 2, 1) := by decide +kernel
theorem dX6_gives_14 : decode cX6_gives 14 = .ok (.bipush 9, 2) := by decide +kernel
theorem dX6_gives_16 : decode cX6_gives 16 = .ok (.invokestatic 161, 3) := by decide +kernel
theorem dX6_gives_19 : decode cX6_gives 19 = .ok (.if_icmp .ge 24, 3) := by decide +kernel
theorem dX6_gives_22 : decode cX6_gives 22 = .ok (.aload_n 1, 1) := by decide +kernel
theorem dX6_gives_23 : decode cX6_gives 23 = .ok (.iload_n 3, 1) := by decide +kernel
theorem dX6_gives_24 : decode cX6_gives 24 = .ok (.aload_n 1, 1) := by decide +kernel
theorem dX6_gives_25 : decode cX6_gives 25 = .ok (.iload_n 2, 1) := by decide +kernel
theorem dX6_gives_26 : decode cX6_gives 26 = .ok (.bipush 10, 2) := by decide +kernel
theorem dX6_gives_28 : decode cX6_gives 28 = .ok (.iload 4, 2) := by decide +kernel
theorem dX6_gives_30 : decode cX6_gives 30 = .ok (.iadd, 1) := by decide +kernel
theorem dX6_gives_31 : decode cX6_gives 31 = .ok (.invokestatic 161, 3) := by decide +kernel
theorem dX6_gives_34 : decode cX6_gives 34 = .ok (.invokestatic 187, 3) := by decide +kernel
theorem dX6_gives_37 : decode cX6_gives 37 = .ok (.iinc 4 1, 3) := by decide +kernel
theorem dX6_gives_40 : decode cX6_gives 40 = .ok (.goto (-30), 3) := by decide +kernel
theorem dX6_gives_43 : decode cX6_gives 43 = .ok (.aload_n 1, 1) := by decide +kernel
theorem dX6_gives_44 : decode cX6_gives 44 = .ok (.iload_n 3, 1) := by decide +kernel
theorem dX6_gives_45 : decode cX6_gives 45 = .ok (.iconst 1, 1) := by decide +kernel
theorem dX6_gives_46 : decode cX6_gives 46 = .ok (.invokestatic 165, 3) := by decide +kernel
theorem dX6_gives_49 : decode cX6_gives 49 = .ok (.ifCond .eq 24, 3) := by decide +kernel
theorem dX6_gives_52 : decode cX6_gives 52 = .ok (.aload_n 0, 1) := by decide +kernel
theorem dX6_gives_53 : decode cX6_gives 53 = .ok (.getfield 145, 3) := by decide +kernel
theorem dX6_gives_56 : decode cX6_gives 56 = .ok (.iload_n 3, 1) := by decide +kernel
theorem dX6_gives_57 : decode cX6_gives 57 = .ok (.ishr, 1) := by decide +kernel
theorem dX6_gives_58 : decode cX6_gives 58 = .ok (.iconst 1, 1) := by decide +kernel
theorem dX6_gives_59 : decode cX6_gives 59 = .ok (.iand, 1) := by decide +kernel
theorem dX6_gives_60 : decode cX6_gives 60 = .ok (.ifCond .ne 13, 3) := by decide +kernel
theorem dX6_gives_63 : decode cX6_gives 63 = .ok (.aload_n 0, 1) := by decide +kernel
theorem dX6_gives_64 : decode cX6_gives 64 = .ok (.aload_n 1, 1) := by decide +kernel
theorem dX6_gives_65 : decode cX6_gives 65 = .ok (.iload_n 3, 1) := by decide +kernel
theorem dX6_gives_66 : decode cX6_gives 66 = .ok (.iconst 1, 1) := by decide +kernel
theorem dX6_gives_67 : decode cX6_gives 67 = .ok (.invokevirtual 190, 3) := by decide +kernel
theorem dX6_gives_70 : decode cX6_gives 70 = .ok (.goto 36, 3) := by decide +kernel
theorem dX6_gives_73 : decode cX6_gives 73 = .ok (.aload_n 1, 1) := by decide +kernel
theorem dX6_gives_74 : decode cX6_gives 74 = .ok (.iload_n 3, 1) := by decide +kernel
theorem dX6_gives_75 : decode cX6_gives 75 = .ok (.iconst 2, 1) := by decide +kernel
theorem dX6_gives_76 : decode cX6_gives 76 = .ok (.invokestatic 165, 3) := by decide +kernel
theorem dX6_gives_79 : decode cX6_gives 79 = .ok (.ifCond .eq 27, 3) := by decide +kernel
theorem dX6_gives_82 : decode cX6_gives 82 = .ok (.aload_n 1, 1) := by decide +kernel
theorem dX6_gives_83 : decode cX6_gives 83 = .ok (.iload_n 3, 1) := by decide +kernel
theorem dX6_gives_84 : decode cX6_gives 84 = .ok (.iconst 1, 1) := by decide +kernel
theorem dX6_gives_85 : decode cX6_gives 85 = .ok (.invokestatic 161, 3) := by decide +kernel
theorem dX6_gives_88 : decode cX6_gives 88 = .ok (.ifCond .ne 18, 3) := by decide +kernel
theorem dX6_gives_91 : decode cX6_gives 91 = .ok (.aload_n 1, 1) := by decide +kernel
theorem dX6_gives_92 : decode cX6_gives 92 = .ok (.bipush 18, 2) := by decide +kernel
theorem dX6_gives_94 : decode cX6_gives 94 = .ok (.iload_n 3, 1) := by decide +kernel
theorem dX6_gives_95 : decode cX6_gives 95 = .ok (.imul, 1) := by decide +kernel
theorem dX6_gives_96 : decode cX6_gives 96 = .ok (.iconst 1, 1) := by decide +kernel
theorem dX6_gives_97 : decode cX6_gives 97 = .ok (.iadd, 1) := by decide +kernel
theorem dX6_gives_98 : decode cX6_gives 98 = .ok (.iconst 1, 1) := by decide +kernel
theorem dX6_gives_99 : decode cX6_gives 99 = .ok (.iastore, 1) := by decide +kernel
theorem dX6_gives_100 : decode cX6_gives 100 = .ok (.aload_n 0, 1) := by decide +kernel
theorem dX6_gives_101 : decode cX6_gives 101 = .ok (.aload_n 1, 1) := by decide +kernel
theorem dX6_gives_102 : decode cX6_gives 102 = .ok (.iload_n 3, 1) := by decide +kernel
theorem dX6_gives_103 : decode cX6_gives 103 = .ok (.invokevirtual 169, 3) := by decide +kernel
theorem dX6_gives_106 : decode cX6_gives 106 = .ok (.return_, 1) := by decide +kernel
theorem dX6_cleansUp_0 : decode cX6_cleansUp 0 = .ok (.aload_n 1, 1) := by decide +kernel
theorem dX6_cleansUp_1 : decode cX6_cleansUp 1 = .ok (.iload_n 2, 1) := by decide +kernel
theorem dX6_cleansUp_2 : decode cX6_cleansUp 2 = .ok (.bipush 6, 2) := by decide +kernel
theorem dX6_cleansUp_4 : decode cX6_cleansUp 4 = .ok (.invokestatic 161, 3) := by decide +kernel
theorem dX6_cleansUp_7 : decode cX6_cleansUp 7 = .ok (.aload_n 0, 1) := by decide +kernel
theorem dX6_cleansUp_8 : decode cX6_cleansUp 8 = .ok (.getfield 46, 3) := by decide +kernel
theorem dX6_cleansUp_11 : decode cX6_cleansUp 11 = .ok (.iload_n 2, 1) := by decide +kernel
theorem dX6_cleansUp_12 : decode cX6_cleansUp 12 = .ok (.iaload, 1) := by decide +kernel
theorem dX6_cleansUp_13 : decode cX6_cleansUp 13 = .ok (.if_icmp .ge 16, 3) := by decide +kernel
theorem dX6_cleansUp_16 : decode cX6_cleansUp 16 = .ok (.aload_n 1, 1) := by decide +kernel
theorem dX6_cleansUp_17 : decode cX6_cleansUp 17 = .ok (.bipush 18, 2) := by decide +kernel
theorem dX6_cleansUp_19 : decode cX6_cleansUp 19 = .ok (.iload_n 2, 1) := by decide +kernel
theorem dX6_cleansUp_20 : decode cX6_cleansUp 20 = .ok (.imul, 1) := by decide +kernel
theorem dX6_cleansUp_21 : decode cX6_cleansUp 21 = .ok (.bipush 6, 2) := by decide +kernel
theorem dX6_cleansUp_23 : decode cX6_cleansUp 23 = .ok (.iadd, 1) := by decide +kernel
theorem dX6_cleansUp_24 : decode cX6_cleansUp 24 = .ok (.dup2, 1) := by decide +kernel
theorem dX6_cleansUp_25 : decode cX6_cleansUp 25 = .ok (.iaload, 1) := by decide +kernel
theorem dX6_cleansUp_26 : decode cX6_cleansUp 26 = .ok (.iconst 1, 1) := by decide +kernel
theorem dX6_cleansUp_27 : decode cX6_cleansUp 27 = .ok (.iadd, 1) := by decide +kernel
theorem dX6_cleansUp_28 : decode cX6_cleansUp 28 = .ok (.iastore, 1) := by decide +kernel
theorem dX6_cleansUp_29 : decode cX6_cleansUp 29 = .ok (.aload_n 1, 1) := by decide +kernel
theorem dX6_cleansUp_30 : decode cX6_cleansUp 30 = .ok (.iload_n 2, 1) := by decide +kernel
theorem dX6_cleansUp_31 : decode cX6_cleansUp 31 = .ok (.bipush 6, 2) := by decide +kernel
theorem dX6_cleansUp_33 : decode cX6_cleansUp 33 = .ok (.invokestatic 161, 3) := by decide +kernel
theorem dX6_cleansUp_36 : decode cX6_cleansUp 36 = .ok (.aload_n 0, 1) := by decide +kernel
theorem dX6_cleansUp_37 : decode cX6_cleansUp 37 = .ok (.getfield 46, 3) := by decide +kernel
theorem dX6_cleansUp_40 : decode cX6_cleansUp 40 = .ok (.iload_n 2, 1) := by decide +kernel
theorem dX6_cleansUp_41 : decode cX6_cleansUp 41 = .ok (.iaload, 1) := by decide +kernel
theorem dX6_cleansUp_42 : decode cX6_cleansUp 42 = .ok (.if_icmp .ne 59, 3) := by decide +kernel
theorem dX6_cleansUp_45 : decode cX6_cleansUp 45 = .ok (.aload_n 1, 1) := by decide +kernel
theorem dX6_cleansUp_46 : decode cX6_cleansUp 46 = .ok (.bipush 18, 2) := by decide +kernel
theorem dX6_cleansUp_48 : decode cX6_cleansUp 48 = .ok (.iload_n 2, 1) := by decide +kernel
theorem dX6_cleansUp_49 : decode cX6_cleansUp 49 = .ok (.imul, 1) := by decide +kernel
theorem dX6_cleansUp_50 : decode cX6_cleansUp 50 = .ok (.iconst 0, 1) := by decide +kernel
theorem dX6_cleansUp_51 : decode cX6_cleansUp 51 = .ok (.iadd, 1) := by decide +kernel
theorem dX6_cleansUp_52 : decode cX6_cleansUp 52 = .ok (.iconst 3, 1) := by decide +kernel
theorem dX6_cleansUp_53 : decode cX6_cleansUp 53 = .ok (.iastore, 1) := by decide +kernel
theorem dX6_cleansUp_54 : decode cX6_cleansUp 54 = .ok (.aload_n 1, 1) := by decide +kernel
theorem dX6_cleansUp_55 : decode cX6_cleansUp 55 = .ok (.bipush 18, 2) := by decide +kernel
theorem dX6_cleansUp_57 : decode cX6_cleansUp 57 = .ok (.iload_n 2, 1) := by decide +kernel
theorem dX6_cleansUp_58 : decode cX6_cleansUp 58 = .ok (.imul, 1) := by decide +kernel
theorem dX6_cleansUp_59 : decode cX6_cleansUp 59 = .ok (.bipush 8, 2) := by decide +kernel
theorem dX6_cleansUp_61 : decode cX6_cleansUp 61 = .ok (.iadd, 1) := by decide +kernel
theorem dX6_cleansUp_62 : decode cX6_cleansUp 62 = .ok (.aload_n 1, 1) := by decide +kernel
theorem dX6_cleansUp_63 : decode cX6_cleansUp 63 = .ok (.sipush 144, 3) := by decide +kernel
theorem dX6_cleansUp_66 : decode cX6_cleansUp 66 = .ok (.iaload, 1) := by decide +kernel
theorem dX6_cleansUp_67 : decode cX6_cleansUp 67 = .ok (.iastore, 1) := by decide +kernel
theorem dX6_cleansUp_68 : decode cX6_cleansUp 68 = .ok (.aload_n 1, 1) := by decide +kernel
theorem dX6_cleansUp_69 : decode cX6_cleansUp 69 = .ok (.iload_n 2, 1) := by decide +kernel
theorem dX6_cleansUp_70 : decode cX6_cleansUp 70 = .ok (.iconst 2, 1) := by decide +kernel
theorem dX6_cleansUp_71 : decode cX6_cleansUp 71 = .ok (.invokestatic 173, 3) := by decide +kernel
theorem dX6_cleansUp_74 : decode cX6_cleansUp 74 = .ok (.aload_n 1, 1) := by decide +kernel
theorem dX6_cleansUp_75 : decode cX6_cleansUp 75 = .ok (.iload_n 2, 1) := by decide +kernel
theorem dX6_cleansUp_76 : decode cX6_cleansUp 76 = .ok (.iconst 1, 1) := by decide +kernel
theorem dX6_cleansUp_77 : decode cX6_cleansUp 77 = .ok (.invokestatic 161, 3) := by decide +kernel
theorem dX6_cleansUp_80 : decode cX6_cleansUp 80 = .ok (.istore_n 3, 1) := by decide +kernel
theorem dX6_cleansUp_81 : decode cX6_cleansUp 81 = .ok (.iload_n 2, 1) := by decide +kernel
theorem dX6_cleansUp_82 : decode cX6_cleansUp 82 = .ok (.ifCond .le 19, 3) := by decide +kernel
theorem dX6_cleansUp_85 : decode cX6_cleansUp 85 = .ok (.iload_n 3, 1) := by decide +kernel
theorem dX6_cleansUp_86 : decode cX6_cleansUp 86 = .ok (.iconst 1, 1) := by decide +kernel
theorem dX6_cleansUp_87 : decode cX6_cleansUp 87 = .ok (.if_icmp .eq 8, 3) := by decide +kernel
theorem dX6_cleansUp_90 : decode cX6_cleansUp 90 = .ok (.iload_n 3, 1) := by decide +kernel
theorem dX6_cleansUp_91 : decode cX6_cleansUp 91 = .ok (.iconst 3, 1) := by decide +kernel
theorem dX6_cleansUp_92 : decode cX6_cleansUp 92 = .ok (.if_icmp .ne 9, 3) := by decide +kernel
theorem dX6_cleansUp_95 : decode cX6_cleansUp 95 = .ok (.aload_n 0, 1) := by decide +kernel
theorem dX6_cleansUp_96 : decode cX6_cleansUp 96 = .ok (.aload_n 1, 1) := by decide +kernel
theorem dX6_cleansUp_97 : decode cX6_cleansUp 97 = .ok (.iload_n 2, 1) := by decide +kernel
theorem dX6_cleansUp_98 : decode cX6_cleansUp 98 = .ok (.invokevirtual 196, 3) := by decide +kernel
theorem dX6_cleansUp_101 : decode cX6_cleansUp 101 = .ok (.return_, 1) := by decide +kernel
theorem dX6_tick_0 : decode cX6_tick 0 = .ok (.aload_n 1, 1) := by decide +kernel
theorem dX6_tick_1 : decode cX6_tick 1 = .ok (.sipush 144, 3) := by decide +kernel
theorem dX6_tick_4 : decode cX6_tick 4 = .ok (.dup2, 1) := by decide +kernel
theorem dX6_tick_5 : decode cX6_tick 5 = .ok (.iaload, 1) := by decide +kernel
theorem dX6_tick_6 : decode cX6_tick 6 = .ok (.iconst 1, 1) := by decide +kernel
theorem dX6_tick_7 : decode cX6_tick 7 = .ok (.iadd, 1) := by decide +kernel
theorem dX6_tick_8 : decode cX6_tick 8 = .ok (.iastore, 1) := by decide +kernel
theorem dX6_tick_9 : decode cX6_tick 9 = .ok (.iconst 0, 1) := by decide +kernel
theorem dX6_tick_10 : decode cX6_tick 10 = .ok (.istore_n 2, 1) := by decide +kernel
theorem dX6_tick_11 : decode cX6_tick 11 = .ok (.iload_n 2, 1) := by decide +kernel
theorem dX6_tick_12 : decode cX6_tick 12 = .ok (.aload_n 0, 1) := by decide +kernel
theorem dX6_tick_13 : decode cX6_tick 13 = .ok (.getfield 142, 3) := by decide +kernel
theorem dX6_tick_16 : decode cX6_tick 16 = .ok (.if_icmp .ge 46, 3) := by decide +kernel
theorem dX6_tick_19 : decode cX6_tick 19 = .ok (.aload_n 1, 1) := by decide +kernel
theorem dX6_tick_20 : decode cX6_tick 20 = .ok (.iload_n 2, 1) := by decide +kernel
theorem dX6_tick_21 : decode cX6_tick 21 = .ok (.iconst 1, 1) := by decide +kernel
theorem dX6_tick_22 : decode cX6_tick 22 = .ok (.invokestatic 165, 3) := by decide +kernel
theorem dX6_tick_25 : decode cX6_tick 25 = .ok (.ifCond .eq 31, 3) := by decide +kernel
theorem dX6_tick_28 : decode cX6_tick 28 = .ok (.aload_n 1, 1) := by decide +kernel
theorem dX6_tick_29 : decode cX6_tick 29 = .ok (.sipush 144, 3) := by decide +kernel
theorem dX6_tick_32 : decode cX6_tick 32 = .ok (.iaload, 1) := by decide +kernel
theorem dX6_tick_33 : decode cX6_tick 33 = .ok (.aload_n 1, 1) := by decide +kernel
theorem dX6_tick_34 : decode cX6_tick 34 = .ok (.iload_n 2, 1) := by decide +kernel
theorem dX6_tick_35 : decode cX6_tick 35 = .ok (.iconst 4, 1) := by decide +kernel
theorem dX6_tick_36 : decode cX6_tick 36 = .ok (.invokestatic 161, 3) := by decide +kernel
theorem dX6_tick_39 : decode cX6_tick 39 = .ok (.if_icmp .le 17, 3) := by decide +kernel
theorem dX6_tick_42 : decode cX6_tick 42 = .ok (.aload_n 1, 1) := by decide +kernel
theorem dX6_tick_43 : decode cX6_tick 43 = .ok (.iload_n 2, 1) := by decide +kernel
theorem dX6_tick_44 : decode cX6_tick 44 = .ok (.bipush 10, 2) := by decide +kernel
theorem dX6_tick_46 : decode cX6_tick 46 = .ok (.invokestatic 187, 3) := by decide +kernel
theorem dX6_tick_49 : decode cX6_tick 49 = .ok (.aload_n 0, 1) := by decide +kernel
theorem dX6_tick_50 : decode cX6_tick 50 = .ok (.aload_n 1, 1) := by decide +kernel
theorem dX6_tick_51 : decode cX6_tick 51 = .ok (.iload_n 2, 1) := by decide +kernel
theorem dX6_tick_52 : decode cX6_tick 52 = .ok (.iconst 3, 1) := by decide +kernel
theorem dX6_tick_53 : decode cX6_tick 53 = .ok (.invokevirtual 190, 3) := by decide +kernel
theorem dX6_tick_56 : decode cX6_tick 56 = .ok (.iinc 2 1, 3) := by decide +kernel
theorem dX6_tick_59 : decode cX6_tick 59 = .ok (.goto (-48), 3) := by decide +kernel
theorem dX6_tick_62 : decode cX6_tick 62 = .ok (.iconst 0, 1) := by decide +kernel
theorem dX6_tick_63 : decode cX6_tick 63 = .ok (.istore_n 2, 1) := by decide +kernel
theorem dX6_tick_64 : decode cX6_tick 64 = .ok (.iload_n 2, 1) := by decide +kernel
theorem dX6_tick_65 : decode cX6_tick 65 = .ok (.aload_n 0, 1) := by decide +kernel
theorem dX6_tick_66 : decode cX6_tick 66 = .ok (.getfield 142, 3) := by decide +kernel
theorem dX6_tick_69 : decode cX6_tick 69 = .ok (.if_icmp .ge 43, 3) := by decide +kernel
theorem dX6_tick_72 : decode cX6_tick 72 = .ok (.aload_n 1, 1) := by decide +kernel
theorem dX6_tick_73 : decode cX6_tick 73 = .ok (.iload_n 2, 1) := by decide +kernel
theorem dX6_tick_74 : decode cX6_tick 74 = .ok (.iconst 1, 1) := by decide +kernel
theorem dX6_tick_75 : decode cX6_tick 75 = .ok (.invokestatic 165, 3) := by decide +kernel
theorem dX6_tick_78 : decode cX6_tick 78 = .ok (.ifCond .eq 28, 3) := by decide +kernel
theorem dX6_tick_81 : decode cX6_tick 81 = .ok (.iload_n 2, 1) := by decide +kernel
theorem dX6_tick_82 : decode cX6_tick 82 = .ok (.ifCond .eq 18, 3) := by decide +kernel
theorem dX6_tick_85 : decode cX6_tick 85 = .ok (.aload_n 1, 1) := by decide +kernel
theorem dX6_tick_86 : decode cX6_tick 86 = .ok (.iload_n 2, 1) := by decide +kernel
theorem dX6_tick_87 : decode cX6_tick 87 = .ok (.bipush 7, 2) := by decide +kernel
theorem dX6_tick_89 : decode cX6_tick 89 = .ok (.invokestatic 161, 3) := by decide +kernel
theorem dX6_tick_92 : decode cX6_tick 92 = .ok (.aload_n 1, 1) := by decide +kernel
theorem dX6_tick_93 : decode cX6_tick 93 = .ok (.sipush 144, 3) := by decide +kernel
theorem dX6_tick_96 : decode cX6_tick 96 = .ok (.iaload, 1) := by decide +kernel
theorem dX6_tick_97 : decode cX6_tick 97 = .ok (.if_icmp .ge 9, 3) := by decide +kernel
theorem dX6_tick_100 : decode cX6_tick 100 = .ok (.aload_n 0, 1) := by decide +kernel
theorem dX6_tick_101 : decode cX6_tick 101 = .ok (.aload_n 1, 1) := by decide +kernel
theorem dX6_tick_102 : decode cX6_tick 102 = .ok (.iload_n 2, 1) := by decide +kernel
theorem dX6_tick_103 : decode cX6_tick 103 = .ok (.invokevirtual 199, 3) := by decide +kernel
theorem dX6_tick_106 : decode cX6_tick 106 = .ok (.iinc 2 1, 3) := by decide +kernel
theorem dX6_tick_109 : decode cX6_tick 109 = .ok (.goto (-45), 3) := by decide +kernel
theorem dX6_tick_112 : decode cX6_tick 112 = .ok (.aload_n 0, 1) := by decide +kernel
theorem dX6_tick_113 : decode cX6_tick 113 = .ok (.getfield 142, 3) := by decide +kernel
theorem dX6_tick_116 : decode cX6_tick 116 = .ok (.iconst 1, 1) := by decide +kernel
theorem dX6_tick_117 : decode cX6_tick 117 = .ok (.isub, 1) := by decide +kernel
theorem dX6_tick_118 : decode cX6_tick 118 = .ok (.istore_n 2, 1) := by decide +kernel
theorem dX6_tick_119 : decode cX6_tick 119 = .ok (.iload_n 2, 1) := by decide +kernel
theorem dX6_tick_120 : decode cX6_tick 120 = .ok (.ifCond .lt 33, 3) := by decide +kernel
theorem dX6_tick_123 : decode cX6_tick 123 = .ok (.aload_n 1, 1) := by decide +kernel
theorem dX6_tick_124 : decode cX6_tick 124 = .ok (.iload_n 2, 1) := by decide +kernel
theorem dX6_tick_125 : decode cX6_tick 125 = .ok (.iconst 2, 1) := by decide +kernel
theorem dX6_tick_126 : decode cX6_tick 126 = .ok (.invokestatic 165, 3) := by decide +kernel
theorem dX6_tick_129 : decode cX6_tick 129 = .ok (.ifCond .eq 18, 3) := by decide +kernel
theorem dX6_tick_132 : decode cX6_tick 132 = .ok (.aload_n 0, 1) := by decide +kernel
theorem dX6_tick_133 : decode cX6_tick 133 = .ok (.aload_n 1, 1) := by decide +kernel
theorem dX6_tick_134 : decode cX6_tick 134 = .ok (.iload_n 2, 1) := by decide +kernel
theorem dX6_tick_135 : decode cX6_tick 135 = .ok (.invokevirtual 183, 3) := by decide +kernel
theorem dX6_tick_138 : decode cX6_tick 138 = .ok (.ifCond .ne 9, 3) := by decide +kernel
theorem dX6_tick_141 : decode cX6_tick 141 = .ok (.aload_n 0, 1) := by decide +kernel
theorem dX6_tick_142 : decode cX6_tick 142 = .ok (.aload_n 1, 1) := by decide +kernel
theorem dX6_tick_143 : decode cX6_tick 143 = .ok (.iload_n 2, 1) := by decide +kernel
theorem dX6_tick_144 : decode cX6_tick 144 = .ok (.invokevirtual 202, 3) := by decide +kernel
theorem dX6_tick_147 : decode cX6_tick 147 = .ok (.iinc 2 (-1), 3) := by decide +kernel
theorem dX6_tick_150 : decode cX6_tick 150 = .ok (.goto (-31), 3) := by decide +kernel
theorem dX6_tick_153 : decode cX6_tick 153 = .ok (.return_, 1) := by decide +kernel
theorem dX6_isTask_0 : decode cX6_isTask 0 = .ok (.iload_n 1, 1) := by decide +kernel
theorem dX6_isTask_1 : decode cX6_isTask 1 = .ok (.iconst 0, 1) := by decide +kernel
theorem dX6_isTask_2 : decode cX6_isTask 2 = .ok (.aload_n 0, 1) := by decide +kernel
theorem dX6_isTask_3 : decode cX6_isTask 3 = .ok (.getfield 142, 3) := by decide +kernel
theorem dX6_isTask_6 : decode cX6_isTask 6 = .ok (.iconst 1, 1) := by decide +kernel
theorem dX6_isTask_7 : decode cX6_isTask 7 = .ok (.isub, 1) := by decide +kernel
theorem dX6_isTask_8 : decode cX6_isTask 8 = .ok (.invokestatic 80, 3) := by decide +kernel
theorem dX6_isTask_11 : decode cX6_isTask 11 = .ok (.ireturn, 1) := by decide +kernel
theorem dX6_remember_0 : decode cX6_remember 0 = .ok (.iconst 0, 1) := by decide +kernel
theorem dX6_remember_1 : decode cX6_remember 1 = .ok (.istore_n 1, 1) := by decide +kernel
theorem dX6_remember_2 : decode cX6_remember 2 = .ok (.iload_n 1, 1) := by decide +kernel
theorem dX6_remember_3 : decode cX6_remember 3 = .ok (.sipush 326, 3) := by decide +kernel
theorem dX6_remember_6 : decode cX6_remember 6 = .ok (.if_icmp .ge 30, 3) := by decide +kernel
theorem dX6_remember_9 : decode cX6_remember 9 = .ok (.aload_n 0, 1) := by decide +kernel
theorem dX6_remember_10 : decode cX6_remember 10 = .ok (.getfield 55, 3) := by decide +kernel
theorem dX6_remember_13 : decode cX6_remember 13 = .ok (.sipush 326, 3) := by decide +kernel
theorem dX6_remember_16 : decode cX6_remember 16 = .ok (.aload_n 0, 1) := by decide +kernel
theorem dX6_remember_17 : decode cX6_remember 17 = .ok (.getfield 205, 3) := by decide +kernel
theorem dX6_remember_20 : decode cX6_remember 20 = .ok (.imul, 1) := by decide +kernel
theorem dX6_remember_21 : decode cX6_remember 21 = .ok (.iload_n 1, 1) := by decide +kernel
theorem dX6_remember_22 : decode cX6_remember 22 = .ok (.iadd, 1) := by decide +kernel
theorem dX6_remember_23 : decode cX6_remember 23 = .ok (.aload_n 0, 1) := by decide +kernel
theorem dX6_remember_24 : decode cX6_remember 24 = .ok (.getfield 49, 3) := by decide +kernel
theorem dX6_remember_27 : decode cX6_remember 27 = .ok (.iload_n 1, 1) := by decide +kernel
theorem dX6_remember_28 : decode cX6_remember 28 = .ok (.iaload, 1) := by decide +kernel
theorem dX6_remember_29 : decode cX6_remember 29 = .ok (.iastore, 1) := by decide +kernel
theorem dX6_remember_30 : decode cX6_remember 30 = .ok (.iinc 1 1, 3) := by decide +kernel
theorem dX6_remember_33 : decode cX6_remember 33 = .ok (.goto (-31), 3) := by decide +kernel
theorem dX6_remember_36 : decode cX6_remember 36 = .ok (.aload_n 0, 1) := by decide +kernel
theorem dX6_remember_37 : decode cX6_remember 37 = .ok (.aload_n 0, 1) := by decide +kernel
theorem dX6_remember_38 : decode cX6_remember 38 = .ok (.getfield 205, 3) := by decide +kernel
theorem dX6_remember_41 : decode cX6_remember 41 = .ok (.iconst 1, 1) := by decide +kernel
theorem dX6_remember_42 : decode cX6_remember 42 = .ok (.iadd, 1) := by decide +kernel
theorem dX6_remember_43 : decode cX6_remember 43 = .ok (.bipush 12, 2) := by decide +kernel
theorem dX6_remember_45 : decode cX6_remember 45 = .ok (.irem, 1) := by decide +kernel
theorem dX6_remember_46 : decode cX6_remember 46 = .ok (.putfield 205, 3) := by decide +kernel
theorem dX6_remember_49 : decode cX6_remember 49 = .ok (.aload_n 0, 1) := by decide +kernel
theorem dX6_remember_50 : decode cX6_remember 50 = .ok (.dup, 1) := by decide +kernel
theorem dX6_remember_51 : decode cX6_remember 51 = .ok (.getfield 152, 3) := by decide +kernel
theorem dX6_remember_54 : decode cX6_remember 54 = .ok (.aload_n 0, 1) := by decide +kernel
theorem dX6_remember_55 : decode cX6_remember 55 = .ok (.getfield 152, 3) := by decide +kernel
theorem dX6_remember_58 : decode cX6_remember 58 = .ok (.bipush 12, 2) := by decide +kernel
theorem dX6_remember_60 : decode cX6_remember 60 = .ok (.if_icmp .ge 7, 3) := by decide +kernel
theorem dX6_remember_63 : decode cX6_remember 63 = .ok (.iconst 1, 1) := by decide +kernel
theorem dX6_remember_64 : decode cX6_remember 64 = .ok (.goto 4, 3) := by decide +kernel
theorem dX6_remember_67 : decode cX6_remember 67 = .ok (.iconst 0, 1) := by decide +kernel
theorem dX6_remember_68 : decode cX6_remember 68 = .ok (.iadd, 1) := by decide +kernel
theorem dX6_remember_69 : decode cX6_remember 69 = .ok (.putfield 152, 3) := by decide +kernel
theorem dX6_remember_72 : decode cX6_remember 72 = .ok (.return_, 1) := by decide +kernel
theorem dX6_ticks_0 : decode cX6_ticks 0 = .ok (.iload_n 1, 1) := by decide +kernel
theorem dX6_ticks_1 : decode cX6_ticks 1 = .ok (.iconst 1, 1) := by decide +kernel
theorem dX6_ticks_2 : decode cX6_ticks 2 = .ok (.bipush 12, 2) := by decide +kernel
theorem dX6_ticks_4 : decode cX6_ticks 4 = .ok (.invokestatic 80, 3) := by decide +kernel
theorem dX6_ticks_7 : decode cX6_ticks 7 = .ok (.ifCond .ne 5, 3) := by decide +kernel
theorem dX6_ticks_10 : decode cX6_ticks 10 = .ok (.iconst (-1), 1) := by decide +kernel
theorem dX6_ticks_11 : decode cX6_ticks 11 = .ok (.ireturn, 1) := by decide +kernel
theorem dX6_ticks_12 : decode cX6_ticks 12 = .ok (.aload_n 0, 1) := by decide +kernel
theorem dX6_ticks_13 : decode cX6_ticks 13 = .ok (.getfield 49, 3) := by decide +kernel
theorem dX6_ticks_16 : decode cX6_ticks 16 = .ok (.iconst 0, 1) := by decide +kernel
theorem dX6_ticks_17 : decode cX6_ticks 17 = .ok (.iconst 3, 1) := by decide +kernel
theorem dX6_ticks_18 : decode cX6_ticks 18 = .ok (.invokestatic 165, 3) := by decide +kernel
theorem dX6_ticks_21 : decode cX6_ticks 21 = .ok (.ifCond .eq 6, 3) := by decide +kernel
theorem dX6_ticks_24 : decode cX6_ticks 24 = .ok (.bipush (-2), 2) := by decide +kernel
theorem dX6_ticks_26 : decode cX6_ticks 26 = .ok (.ireturn, 1) := by decide +kernel
theorem dX6_ticks_27 : decode cX6_ticks 27 = .ok (.aload_n 0, 1) := by decide +kernel
theorem dX6_ticks_28 : decode cX6_ticks 28 = .ok (.getfield 49, 3) := by decide +kernel
theorem dX6_ticks_31 : decode cX6_ticks 31 = .ok (.sipush 144, 3) := by decide +kernel
theorem dX6_ticks_34 : decode cX6_ticks 34 = .ok (.iaload, 1) := by decide +kernel
theorem dX6_ticks_35 : decode cX6_ticks 35 = .ok (.iload_n 1, 1) := by decide +kernel
theorem dX6_ticks_36 : decode cX6_ticks 36 = .ok (.iadd, 1) := by decide +kernel
theorem dX6_ticks_37 : decode cX6_ticks 37 = .ok (.sipush 999, 3) := by decide +kernel
theorem dX6_ticks_40 : decode cX6_ticks 40 = .ok (.if_icmp .le 6, 3) := by decide +kernel
theorem dX6_ticks_43 : decode cX6_ticks 43 = .ok (.bipush (-3), 2) := by decide +kernel
theorem dX6_ticks_45 : decode cX6_ticks 45 = .ok (.ireturn, 1) := by decide +kernel
theorem dX6_ticks_46 : decode cX6_ticks 46 = .ok (.iconst 0, 1) := by decide +kernel
theorem dX6_ticks_47 : decode cX6_ticks 47 = .ok (.istore_n 2, 1) := by decide +kernel
theorem dX6_ticks_48 : decode cX6_ticks 48 = .ok (.iload_n 2, 1) := by decide +kernel
theorem dX6_ticks_49 : decode cX6_ticks 49 = .ok (.iload_n 1, 1) := by decide +kernel
theorem dX6_ticks_50 : decode cX6_ticks 50 = .ok (.if_icmp .ge 33, 3) := by decide +kernel
theorem dX6_ticks_53 : decode cX6_ticks 53 = .ok (.aload_n 0, 1) := by decide +kernel
theorem dX6_ticks_54 : decode cX6_ticks 54 = .ok (.getfield 49, 3) := by decide +kernel
theorem dX6_ticks_57 : decode cX6_ticks 57 = .ok (.iconst 0, 1) := by decide +kernel
theorem dX6_ticks_58 : decode cX6_ticks 58 = .ok (.iconst 3, 1) := by decide +kernel
theorem dX6_ticks_59 : decode cX6_ticks 59 = .ok (.invokestatic 165, 3) := by decide +kernel
theorem dX6_ticks_62 : decode cX6_ticks 62 = .ok (.ifCond .ne 21, 3) := by decide +kernel
theorem dX6_ticks_65 : decode cX6_ticks 65 = .ok (.aload_n 0, 1) := by decide +kernel
theorem dX6_ticks_66 : decode cX6_ticks 66 = .ok (.invokevirtual 208, 3) := by decide +kernel
theorem dX6_ticks_69 : decode cX6_ticks 69 = .ok (.aload_n 0, 1) := by decide +kernel
theorem dX6_ticks_70 : decode cX6_ticks 70 = .ok (.aload_n 0, 1) := by decide +kernel
theorem dX6_ticks_71 : decode cX6_ticks 71 = .ok (.getfield 49, 3) := by decide +kernel
theorem dX6_ticks_74 : decode cX6_ticks 74 = .ok (.invokevirtual 211, 3) := by decide +kernel
theorem dX6_ticks_77 : decode cX6_ticks 77 = .ok (.iinc 2 1, 3) := by decide +kernel
theorem dX6_ticks_80 : decode cX6_ticks 80 = .ok (.goto (-32), 3) := by decide +kernel
theorem dX6_ticks_83 : decode cX6_ticks 83 = .ok (.aload_n 0, 1) := by decide +kernel
theorem dX6_ticks_84 : decode cX6_ticks 84 = .ok (.getfield 49, 3) := by decide +kernel
theorem dX6_ticks_87 : decode cX6_ticks 87 = .ok (.sipush 144, 3) := by decide +kernel
theorem dX6_ticks_90 : decode cX6_ticks 90 = .ok (.iaload, 1) := by decide +kernel
theorem dX6_ticks_91 : decode cX6_ticks 91 = .ok (.ireturn, 1) := by decide +kernel
theorem dX6_asks_0 : decode cX6_asks 0 = .ok (.aload_n 0, 1) := by decide +kernel
theorem dX6_asks_1 : decode cX6_asks 1 = .ok (.iload_n 1, 1) := by decide +kernel
theorem dX6_asks_2 : decode cX6_asks 2 = .ok (.invokevirtual 214, 3) := by decide +kernel
theorem dX6_asks_5 : decode cX6_asks 5 = .ok (.ifCond .ne 5, 3) := by decide +kernel
theorem dX6_asks_8 : decode cX6_asks 8 = .ok (.iconst (-1), 1) := by decide +kernel
theorem dX6_asks_9 : decode cX6_asks 9 = .ok (.ireturn, 1) := by decide +kernel
theorem dX6_asks_10 : decode cX6_asks 10 = .ok (.aload_n 0, 1) := by decide +kernel
theorem dX6_asks_11 : decode cX6_asks 11 = .ok (.getfield 49, 3) := by decide +kernel
theorem dX6_asks_14 : decode cX6_asks 14 = .ok (.iload_n 1, 1) := by decide +kernel
theorem dX6_asks_15 : decode cX6_asks 15 = .ok (.iconst 1, 1) := by decide +kernel
theorem dX6_asks_16 : decode cX6_asks 16 = .ok (.invokestatic 165, 3) := by decide +kernel
theorem dX6_asks_19 : decode cX6_asks 19 = .ok (.ifCond .eq 16, 3) := by decide +kernel
theorem dX6_asks_22 : decode cX6_asks 22 = .ok (.aload_n 0, 1) := by decide +kernel
theorem dX6_asks_23 : decode cX6_asks 23 = .ok (.getfield 49, 3) := by decide +kernel
theorem dX6_asks_26 : decode cX6_asks 26 = .ok (.iload_n 1, 1) := by decide +kernel
theorem dX6_asks_27 : decode cX6_asks 27 = .ok (.iconst 5, 1) := by decide +kernel
theorem dX6_asks_28 : decode cX6_asks 28 = .ok (.invokestatic 161, 3) := by decide +kernel
theorem dX6_asks_31 : decode cX6_asks 31 = .ok (.iconst 1, 1) := by decide +kernel
theorem dX6_asks_32 : decode cX6_asks 32 = .ok (.if_icmp .ne 6, 3) := by decide +kernel
theorem dX6_asks_35 : decode cX6_asks 35 = .ok (.bipush (-2), 2) := by decide +kernel
theorem dX6_asks_37 : decode cX6_asks 37 = .ok (.ireturn, 1) := by decide +kernel
theorem dX6_asks_38 : decode cX6_asks 38 = .ok (.aload_n 0, 1) := by decide +kernel
theorem dX6_asks_39 : decode cX6_asks 39 = .ok (.invokevirtual 208, 3) := by decide +kernel
theorem dX6_asks_42 : decode cX6_asks 42 = .ok (.aload_n 0, 1) := by decide +kernel
theorem dX6_asks_43 : decode cX6_asks 43 = .ok (.getfield 49, 3) := by decide +kernel
theorem dX6_asks_46 : decode cX6_asks 46 = .ok (.bipush 18, 2) := by decide +kernel
theorem dX6_asks_48 : decode cX6_asks 48 = .ok (.iload_n 1, 1) := by decide +kernel
theorem dX6_asks_49 : decode cX6_asks 49 = .ok (.imul, 1) := by decide +kernel
theorem dX6_asks_50 : decode cX6_asks 50 = .ok (.iconst 5, 1) := by decide +kernel
theorem dX6_asks_51 : decode cX6_asks 51 = .ok (.iadd, 1) := by decide +kernel
theorem dX6_asks_52 : decode cX6_asks 52 = .ok (.iconst 1, 1) := by decide +kernel
theorem dX6_asks_53 : decode cX6_asks 53 = .ok (.iastore, 1) := by decide +kernel
theorem dX6_asks_54 : decode cX6_asks 54 = .ok (.aload_n 0, 1) := by decide +kernel
theorem dX6_asks_55 : decode cX6_asks 55 = .ok (.getfield 49, 3) := by decide +kernel
theorem dX6_asks_58 : decode cX6_asks 58 = .ok (.iload_n 1, 1) := by decide +kernel
theorem dX6_asks_59 : decode cX6_asks 59 = .ok (.iconst 2, 1) := by decide +kernel
theorem dX6_asks_60 : decode cX6_asks 60 = .ok (.invokestatic 161, 3) := by decide +kernel
theorem dX6_asks_63 : decode cX6_asks 63 = .ok (.ireturn, 1) := by decide +kernel
theorem dX6_undo_0 : decode cX6_undo 0 = .ok (.aload_n 0, 1) := by decide +kernel
theorem dX6_undo_1 : decode cX6_undo 1 = .ok (.getfield 152, 3) := by decide +kernel
theorem dX6_undo_4 : decode cX6_undo 4 = .ok (.ifCond .ne 6, 3) := by decide +kernel
theorem dX6_undo_7 : decode cX6_undo 7 = .ok (.bipush (-2), 2) := by decide +kernel
theorem dX6_undo_9 : decode cX6_undo 9 = .ok (.ireturn, 1) := by decide +kernel
theorem dX6_undo_10 : decode cX6_undo 10 = .ok (.aload_n 0, 1) := by decide +kernel
theorem dX6_undo_11 : decode cX6_undo 11 = .ok (.aload_n 0, 1) := by decide +kernel
theorem dX6_undo_12 : decode cX6_undo 12 = .ok (.getfield 205, 3) := by decide +kernel
theorem dX6_undo_15 : decode cX6_undo 15 = .ok (.bipush 12, 2) := by decide +kernel
theorem dX6_undo_17 : decode cX6_undo 17 = .ok (.iadd, 1) := by decide +kernel
theorem dX6_undo_18 : decode cX6_undo 18 = .ok (.iconst 1, 1) := by decide +kernel
theorem dX6_undo_19 : decode cX6_undo 19 = .ok (.isub, 1) := by decide +kernel
theorem dX6_undo_20 : decode cX6_undo 20 = .ok (.bipush 12, 2) := by decide +kernel
theorem dX6_undo_22 : decode cX6_undo 22 = .ok (.irem, 1) := by decide +kernel
theorem dX6_undo_23 : decode cX6_undo 23 = .ok (.putfield 205, 3) := by decide +kernel
theorem dX6_undo_26 : decode cX6_undo 26 = .ok (.aload_n 0, 1) := by decide +kernel
theorem dX6_undo_27 : decode cX6_undo 27 = .ok (.dup, 1) := by decide +kernel
theorem dX6_undo_28 : decode cX6_undo 28 = .ok (.getfield 152, 3) := by decide +kernel
theorem dX6_undo_31 : decode cX6_undo 31 = .ok (.iconst 1, 1) := by decide +kernel
theorem dX6_undo_32 : decode cX6_undo 32 = .ok (.isub, 1) := by decide +kernel
theorem dX6_undo_33 : decode cX6_undo 33 = .ok (.putfield 152, 3) := by decide +kernel
theorem dX6_undo_36 : decode cX6_undo 36 = .ok (.iconst 0, 1) := by decide +kernel
theorem dX6_undo_37 : decode cX6_undo 37 = .ok (.istore_n 1, 1) := by decide +kernel
theorem dX6_undo_38 : decode cX6_undo 38 = .ok (.iload_n 1, 1) := by decide +kernel
theorem dX6_undo_39 : decode cX6_undo 39 = .ok (.sipush 326, 3) := by decide +kernel
theorem dX6_undo_42 : decode cX6_undo 42 = .ok (.if_icmp .ge 30, 3) := by decide +kernel
theorem dX6_undo_45 : decode cX6_undo 45 = .ok (.aload_n 0, 1) := by decide +kernel
theorem dX6_undo_46 : decode cX6_undo 46 = .ok (.getfield 49, 3) := by decide +kernel
theorem dX6_undo_49 : decode cX6_undo 49 = .ok (.iload_n 1, 1) := by decide +kernel
theorem dX6_undo_50 : decode cX6_undo 50 = .ok (.aload_n 0, 1) := by decide +kernel
theorem dX6_undo_51 : decode cX6_undo 51 = .ok (.getfield 55, 3) := by decide +kernel
theorem dX6_undo_54 : decode cX6_undo 54 = .ok (.sipush 326, 3) := by decide +kernel
theorem dX6_undo_57 : decode cX6_undo 57 = .ok (.aload_n 0, 1) := by decide +kernel
theorem dX6_undo_58 : decode cX6_undo 58 = .ok (.getfield 205, 3) := by decide +kernel
theorem dX6_undo_61 : decode cX6_undo 61 = .ok (.imul, 1) := by decide +kernel
theorem dX6_undo_62 : decode cX6_undo 62 = .ok (.iload_n 1, 1) := by decide +kernel
theorem dX6_undo_63 : decode cX6_undo 63 = .ok (.iadd, 1) := by decide +kernel
theorem dX6_undo_64 : decode cX6_undo 64 = .ok (.iaload, 1) := by decide +kernel
theorem dX6_undo_65 : decode cX6_undo 65 = .ok (.iastore, 1) := by decide +kernel
theorem dX6_undo_66 : decode cX6_undo 66 = .ok (.iinc 1 1, 3) := by decide +kernel
theorem dX6_undo_69 : decode cX6_undo 69 = .ok (.goto (-31), 3) := by decide +kernel
theorem dX6_undo_72 : decode cX6_undo 72 = .ok (.aload_n 0, 1) := by decide +kernel
theorem dX6_undo_73 : decode cX6_undo 73 = .ok (.getfield 152, 3) := by decide +kernel
theorem dX6_undo_76 : decode cX6_undo 76 = .ok (.ireturn, 1) := by decide +kernel
theorem dX6_busySet_0 : decode cX6_busySet 0 = .ok (.iconst 0, 1) := by decide +kernel
theorem dX6_busySet_1 : decode cX6_busySet 1 = .ok (.istore_n 2, 1) := by decide +kernel
theorem dX6_busySet_2 : decode cX6_busySet 2 = .ok (.iconst 1, 1) := by decide +kernel
theorem dX6_busySet_3 : decode cX6_busySet 3 = .ok (.istore_n 3, 1) := by decide +kernel
theorem dX6_busySet_4 : decode cX6_busySet 4 = .ok (.iload_n 3, 1) := by decide +kernel
theorem dX6_busySet_5 : decode cX6_busySet 5 = .ok (.aload_n 0, 1) := by decide +kernel
theorem dX6_busySet_6 : decode cX6_busySet 6 = .ok (.getfield 142, 3) := by decide +kernel
theorem dX6_busySet_9 : decode cX6_busySet 9 = .ok (.if_icmp .ge 53, 3) := by decide +kernel
theorem dX6_busySet_12 : decode cX6_busySet 12 = .ok (.iload_n 2, 1) := by decide +kernel
theorem dX6_busySet_13 : decode cX6_busySet 13 = .ok (.aload_n 0, 1) := by decide +kernel
theorem dX6_busySet_14 : decode cX6_busySet 14 = .ok (.getfield 31, 3) := by decide +kernel
theorem dX6_busySet_17 : decode cX6_busySet 17 = .ok (.iload_n 3, 1) := by decide +kernel
theorem dX6_busySet_18 : decode cX6_busySet 18 = .ok (.iaload, 1) := by decide +kernel
theorem dX6_busySet_19 : decode cX6_busySet 19 = .ok (.iload_n 1, 1) := by decide +kernel
theorem dX6_busySet_20 : decode cX6_busySet 20 = .ok (.if_icmp .ne 33, 3) := by decide +kernel
theorem dX6_busySet_23 : decode cX6_busySet 23 = .ok (.aload_n 0, 1) := by decide +kernel
theorem dX6_busySet_24 : decode cX6_busySet 24 = .ok (.getfield 49, 3) := by decide +kernel
theorem dX6_busySet_27 : decode cX6_busySet 27 = .ok (.iload_n 3, 1) := by decide +kernel
theorem dX6_busySet_28 : decode cX6_busySet 28 = .ok (.iconst 1, 1) := by decide +kernel
theorem dX6_busySet_29 : decode cX6_busySet 29 = .ok (.invokestatic 165, 3) := by decide +kernel
theorem dX6_busySet_32 : decode cX6_busySet 32 = .ok (.ifCond .ne 15, 3) := by decide +kernel
theorem dX6_busySet_35 : decode cX6_busySet 35 = .ok (.aload_n 0, 1) := by decide +kernel
theorem dX6_busySet_36 : decode cX6_busySet 36 = .ok (.getfield 49, 3) := by decide +kernel
theorem dX6_busySet_39 : decode cX6_busySet 39 = .ok (.iload_n 3, 1) := by decide +kernel
theorem dX6_busySet_40 : decode cX6_busySet 40 = .ok (.iconst 2, 1) := by decide +kernel
theorem dX6_busySet_41 : decode cX6_busySet 41 = .ok (.invokestatic 165, 3) := by decide +kernel
theorem dX6_busySet_44 : decode cX6_busySet 44 = .ok (.ifCond .eq 9, 3) := by decide +kernel
theorem dX6_busySet_47 : decode cX6_busySet 47 = .ok (.iconst 1, 1) := by decide +kernel
theorem dX6_busySet_48 : decode cX6_busySet 48 = .ok (.iload_n 3, 1) := by decide +kernel
theorem dX6_busySet_49 : decode cX6_busySet 49 = .ok (.ishl, 1) := by decide +kernel
theorem dX6_busySet_50 : decode cX6_busySet 50 = .ok (.goto 4, 3) := by decide +kernel
theorem dX6_busySet_53 : decode cX6_busySet 53 = .ok (.iconst 0, 1) := by decide +kernel
theorem dX6_busySet_54 : decode cX6_busySet 54 = .ok (.ior, 1) := by decide +kernel
theorem dX6_busySet_55 : decode cX6_busySet 55 = .ok (.istore_n 2, 1) := by decide +kernel
theorem dX6_busySet_56 : decode cX6_busySet 56 = .ok (.iinc 3 1, 3) := by decide +kernel
theorem dX6_busySet_59 : decode cX6_busySet 59 = .ok (.goto (-55), 3) := by decide +kernel
theorem dX6_busySet_62 : decode cX6_busySet 62 = .ok (.iload_n 2, 1) := by decide +kernel
theorem dX6_busySet_63 : decode cX6_busySet 63 = .ok (.ireturn, 1) := by decide +kernel
theorem dX6_task_0 : decode cX6_task 0 = .ok (.aload_n 0, 1) := by decide +kernel
theorem dX6_task_1 : decode cX6_task 1 = .ok (.iload_n 1, 1) := by decide +kernel
theorem dX6_task_2 : decode cX6_task 2 = .ok (.invokevirtual 214, 3) := by decide +kernel
theorem dX6_task_5 : decode cX6_task 5 = .ok (.ifCond .eq 13, 3) := by decide +kernel
theorem dX6_task_8 : decode cX6_task 8 = .ok (.iload_n 2, 1) := by decide +kernel
theorem dX6_task_9 : decode cX6_task 9 = .ok (.iconst 0, 1) := by decide +kernel
theorem dX6_task_10 : decode cX6_task 10 = .ok (.bipush 7, 2) := by decide +kernel
theorem dX6_task_12 : decode cX6_task 12 = .ok (.invokestatic 80, 3) := by decide +kernel
theorem dX6_task_15 : decode cX6_task 15 = .ok (.ifCond .ne 5, 3) := by decide +kernel
theorem dX6_task_18 : decode cX6_task 18 = .ok (.iconst (-1), 1) := by decide +kernel
theorem dX6_task_19 : decode cX6_task 19 = .ok (.ireturn, 1) := by decide +kernel
theorem dX6_task_20 : decode cX6_task 20 = .ok (.iload_n 2, 1) := by decide +kernel
theorem dX6_task_21 : decode cX6_task 21 = .ok (.tableswitch 143 0 6 #[43, 50, 60, 70, 80, 122, 132], 43) := by decide +kernel
theorem dX6_task_64 : decode cX6_task 64 = .ok (.aload_n 0, 1) := by decide +kernel
theorem dX6_task_65 : decode cX6_task 65 = .ok (.getfield 31, 3) := by decide +kernel
theorem dX6_task_68 : decode cX6_task 68 = .ok (.iload_n 1, 1) := by decide +kernel
theorem dX6_task_69 : decode cX6_task 69 = .ok (.iaload, 1) := by decide +kernel
theorem dX6_task_70 : decode cX6_task 70 = .ok (.ireturn, 1) := by decide +kernel
theorem dX6_task_71 : decode cX6_task 71 = .ok (.aload_n 0, 1) := by decide +kernel
theorem dX6_task_72 : decode cX6_task 72 = .ok (.getfield 49, 3) := by decide +kernel
theorem dX6_task_75 : decode cX6_task 75 = .ok (.iload_n 1, 1) := by decide +kernel
theorem dX6_task_76 : decode cX6_task 76 = .ok (.iconst 0, 1) := by decide +kernel
theorem dX6_task_77 : decode cX6_task 77 = .ok (.invokestatic 161, 3) := by decide +kernel
theorem dX6_task_80 : decode cX6_task 80 = .ok (.ireturn, 1) := by decide +kernel
theorem dX6_task_81 : decode cX6_task 81 = .ok (.aload_n 0, 1) := by decide +kernel
theorem dX6_task_82 : decode cX6_task 82 = .ok (.getfield 49, 3) := by decide +kernel
theorem dX6_task_85 : decode cX6_task 85 = .ok (.iload_n 1, 1) := by decide +kernel
theorem dX6_task_86 : decode cX6_task 86 = .ok (.iconst 1, 1) := by decide +kernel
theorem dX6_task_87 : decode cX6_task 87 = .ok (.invokestatic 161, 3) := by decide +kernel
theorem dX6_task_90 : decode cX6_task 90 = .ok (.ireturn, 1) := by decide +kernel
theorem dX6_task_91 : decode cX6_task 91 = .ok (.aload_n 0, 1) := by decide +kernel
theorem dX6_task_92 : decode cX6_task 92 = .ok (.getfield 49, 3) := by decide +kernel
theorem dX6_task_95 : decode cX6_task 95 = .ok (.iload_n 1, 1) := by decide +kernel
theorem dX6_task_96 : decode cX6_task 96 = .ok (.iconst 2, 1) := by decide +kernel
theorem dX6_task_97 : decode cX6_task 97 = .ok (.invokestatic 161, 3) := by decide +kernel
theorem dX6_task_100 : decode cX6_task 100 = .ok (.ireturn, 1) := by decide +kernel
theorem dX6_task_101 : decode cX6_task 101 = .ok (.aload_n 0, 1) := by decide +kernel
theorem dX6_task_102 : decode cX6_task 102 = .ok (.getfield 49, 3) := by decide +kernel
theorem dX6_task_105 : decode cX6_task 105 = .ok (.iload_n 1, 1) := by decide +kernel
theorem dX6_task_106 : decode cX6_task 106 = .ok (.iconst 0, 1) := by decide +kernel
theorem dX6_task_107 : decode cX6_task 107 = .ok (.invokestatic 165, 3) := by decide +kernel
theorem dX6_task_110 : decode cX6_task 110 = .ok (.ifCond .ne 18, 3) := by decide +kernel
theorem dX6_task_113 : decode cX6_task 113 = .ok (.aload_n 0, 1) := by decide +kernel
theorem dX6_task_114 : decode cX6_task 114 = .ok (.getfield 49, 3) := by decide +kernel
theorem dX6_task_117 : decode cX6_task 117 = .ok (.iload_n 1, 1) := by decide +kernel
theorem dX6_task_118 : decode cX6_task 118 = .ok (.iconst 4, 1) := by decide +kernel
theorem dX6_task_119 : decode cX6_task 119 = .ok (.invokestatic 161, 3) := by decide +kernel
theorem dX6_task_122 : decode cX6_task 122 = .ok (.sipush 9999, 3) := by decide +kernel
theorem dX6_task_125 : decode cX6_task 125 = .ok (.if_icmp .ne 8, 3) := by decide +kernel
theorem dX6_task_128 : decode cX6_task 128 = .ok (.bipush (-9), 2) := by decide +kernel
theorem dX6_task_130 : decode cX6_task 130 = .ok (.goto 12, 3) := by decide +kernel
theorem dX6_task_133 : decode cX6_task 133 = .ok (.aload_n 0, 1) := by decide +kernel
theorem dX6_task_134 : decode cX6_task 134 = .ok (.getfield 49, 3) := by decide +kernel
theorem dX6_task_137 : decode cX6_task 137 = .ok (.iload_n 1, 1) := by decide +kernel
theorem dX6_task_138 : decode cX6_task 138 = .ok (.iconst 4, 1) := by decide +kernel
theorem dX6_task_139 : decode cX6_task 139 = .ok (.invokestatic 161, 3) := by decide +kernel
theorem dX6_task_142 : decode cX6_task 142 = .ok (.ireturn, 1) := by decide +kernel
theorem dX6_task_143 : decode cX6_task 143 = .ok (.aload_n 0, 1) := by decide +kernel
theorem dX6_task_144 : decode cX6_task 144 = .ok (.getfield 49, 3) := by decide +kernel
theorem dX6_task_147 : decode cX6_task 147 = .ok (.iload_n 1, 1) := by decide +kernel
theorem dX6_task_148 : decode cX6_task 148 = .ok (.iconst 5, 1) := by decide +kernel
theorem dX6_task_149 : decode cX6_task 149 = .ok (.invokestatic 161, 3) := by decide +kernel
theorem dX6_task_152 : decode cX6_task 152 = .ok (.ireturn, 1) := by decide +kernel
theorem dX6_task_153 : decode cX6_task 153 = .ok (.aload_n 0, 1) := by decide +kernel
theorem dX6_task_154 : decode cX6_task 154 = .ok (.getfield 49, 3) := by decide +kernel
theorem dX6_task_157 : decode cX6_task 157 = .ok (.iload_n 1, 1) := by decide +kernel
theorem dX6_task_158 : decode cX6_task 158 = .ok (.bipush 9, 2) := by decide +kernel
theorem dX6_task_160 : decode cX6_task 160 = .ok (.invokestatic 161, 3) := by decide +kernel
theorem dX6_task_163 : decode cX6_task 163 = .ok (.ireturn, 1) := by decide +kernel
theorem dX6_task_164 : decode cX6_task 164 = .ok (.aload_n 0, 1) := by decide +kernel
theorem dX6_task_165 : decode cX6_task 165 = .ok (.iload_n 1, 1) := by decide +kernel
theorem dX6_task_166 : decode cX6_task 166 = .ok (.invokevirtual 217, 3) := by decide +kernel
theorem dX6_task_169 : decode cX6_task 169 = .ok (.ireturn, 1) := by decide +kernel
theorem dX6_failure_0 : decode cX6_failure 0 = .ok (.aload_n 0, 1) := by decide +kernel
theorem dX6_failure_1 : decode cX6_failure 1 = .ok (.iload_n 1, 1) := by decide +kernel
theorem dX6_failure_2 : decode cX6_failure 2 = .ok (.invokevirtual 214, 3) := by decide +kernel
theorem dX6_failure_5 : decode cX6_failure 5 = .ok (.ifCond .eq 7, 3) := by decide +kernel
theorem dX6_failure_8 : decode cX6_failure 8 = .ok (.iload_n 2, 1) := by decide +kernel
theorem dX6_failure_9 : decode cX6_failure 9 = .ok (.ifCond .ge 5, 3) := by decide +kernel
theorem dX6_failure_12 : decode cX6_failure 12 = .ok (.iconst (-1), 1) := by decide +kernel
theorem dX6_failure_13 : decode cX6_failure 13 = .ok (.ireturn, 1) := by decide +kernel
theorem dX6_failure_14 : decode cX6_failure 14 = .ok (.iload_n 2, 1) := by decide +kernel
theorem dX6_failure_15 : decode cX6_failure 15 = .ok (.aload_n 0, 1) := by decide +kernel
theorem dX6_failure_16 : decode cX6_failure 16 = .ok (.getfield 49, 3) := by decide +kernel
theorem dX6_failure_19 : decode cX6_failure 19 = .ok (.iload_n 1, 1) := by decide +kernel
theorem dX6_failure_20 : decode cX6_failure 20 = .ok (.bipush 9, 2) := by decide +kernel
theorem dX6_failure_22 : decode cX6_failure 22 = .ok (.invokestatic 161, 3) := by decide +kernel
theorem dX6_failure_25 : decode cX6_failure 25 = .ok (.if_icmp .ge 18, 3) := by decide +kernel
theorem dX6_failure_28 : decode cX6_failure 28 = .ok (.aload_n 0, 1) := by decide +kernel
theorem dX6_failure_29 : decode cX6_failure 29 = .ok (.getfield 49, 3) := by decide +kernel
theorem dX6_failure_32 : decode cX6_failure 32 = .ok (.iload_n 1, 1) := by decide +kernel
theorem dX6_failure_33 : decode cX6_failure 33 = .ok (.bipush 10, 2) := by decide +kernel
theorem dX6_failure_35 : decode cX6_failure 35 = .ok (.iload_n 2, 1) := by decide +kernel
theorem dX6_failure_36 : decode cX6_failure 36 = .ok (.iadd, 1) := by decide +kernel
theorem dX6_failure_37 : decode cX6_failure 37 = .ok (.invokestatic 161, 3) := by decide +kernel
theorem dX6_failure_40 : decode cX6_failure 40 = .ok (.goto 5, 3) := by decide +kernel
theorem dX6_failure_43 : decode cX6_failure 43 = .ok (.bipush (-9), 2) := by decide +kernel
theorem dX6_failure_45 : decode cX6_failure 45 = .ok (.ireturn, 1) := by decide +kernel
theorem dX6_trace_0 : decode cX6_trace 0 = .ok (.iload_n 1, 1) := by decide +kernel
theorem dX6_trace_1 : decode cX6_trace 1 = .ok (.ifCond .lt 12, 3) := by decide +kernel
theorem dX6_trace_4 : decode cX6_trace 4 = .ok (.iload_n 2, 1) := by decide +kernel
theorem dX6_trace_5 : decode cX6_trace 5 = .ok (.iconst 0, 1) := by decide +kernel
theorem dX6_trace_6 : decode cX6_trace 6 = .ok (.iconst 2, 1) := by decide +kernel
theorem dX6_trace_7 : decode cX6_trace 7 = .ok (.invokestatic 80, 3) := by decide +kernel
theorem dX6_trace_10 : decode cX6_trace 10 = .ok (.ifCond .ne 5, 3) := by decide +kernel
theorem dX6_trace_13 : decode cX6_trace 13 = .ok (.iconst (-1), 1) := by decide +kernel
theorem dX6_trace_14 : decode cX6_trace 14 = .ok (.ireturn, 1) := by decide +kernel
theorem dX6_trace_15 : decode cX6_trace 15 = .ok (.iload_n 1, 1) := by decide +kernel
theorem dX6_trace_16 : decode cX6_trace 16 = .ok (.aload_n 0, 1) := by decide +kernel
theorem dX6_trace_17 : decode cX6_trace 17 = .ok (.getfield 49, 3) := by decide +kernel
theorem dX6_trace_20 : decode cX6_trace 20 = .ok (.sipush 145, 3) := by decide +kernel
theorem dX6_trace_23 : decode cX6_trace 23 = .ok (.iaload, 1) := by decide +kernel
theorem dX6_trace_24 : decode cX6_trace 24 = .ok (.if_icmp .ge 20, 3) := by decide +kernel
theorem dX6_trace_27 : decode cX6_trace 27 = .ok (.aload_n 0, 1) := by decide +kernel
theorem dX6_trace_28 : decode cX6_trace 28 = .ok (.getfield 49, 3) := by decide +kernel
theorem dX6_trace_31 : decode cX6_trace 31 = .ok (.sipush 146, 3) := by decide +kernel
theorem dX6_trace_34 : decode cX6_trace 34 = .ok (.iconst 3, 1) := by decide +kernel
theorem dX6_trace_35 : decode cX6_trace 35 = .ok (.iload_n 1, 1) := by decide +kernel
theorem dX6_trace_36 : decode cX6_trace 36 = .ok (.imul, 1) := by decide +kernel
theorem dX6_trace_37 : decode cX6_trace 37 = .ok (.iadd, 1) := by decide +kernel
theorem dX6_trace_38 : decode cX6_trace 38 = .ok (.iload_n 2, 1) := by decide +kernel
theorem dX6_trace_39 : decode cX6_trace 39 = .ok (.iadd, 1) := by decide +kernel
theorem dX6_trace_40 : decode cX6_trace 40 = .ok (.iaload, 1) := by decide +kernel
theorem dX6_trace_41 : decode cX6_trace 41 = .ok (.goto 5, 3) := by decide +kernel
theorem dX6_trace_44 : decode cX6_trace 44 = .ok (.bipush (-9), 2) := by decide +kernel
theorem dX6_trace_46 : decode cX6_trace 46 = .ok (.ireturn, 1) := by decide +kernel
theorem dX6_goesOn_0 : decode cX6_goesOn 0 = .ok (.iconst 0, 1) := by decide +kernel
theorem dX6_goesOn_1 : decode cX6_goesOn 1 = .ok (.istore_n 2, 1) := by decide +kernel
theorem dX6_goesOn_2 : decode cX6_goesOn 2 = .ok (.iload_n 2, 1) := by decide +kernel
theorem dX6_goesOn_3 : decode cX6_goesOn 3 = .ok (.iload_n 1, 1) := by decide +kernel
theorem dX6_goesOn_4 : decode cX6_goesOn 4 = .ok (.if_icmp .ge 29, 3) := by decide +kernel
theorem dX6_goesOn_7 : decode cX6_goesOn 7 = .ok (.aload_n 0, 1) := by decide +kernel
theorem dX6_goesOn_8 : decode cX6_goesOn 8 = .ok (.getfield 52, 3) := by decide +kernel
theorem dX6_goesOn_11 : decode cX6_goesOn 11 = .ok (.iconst 0, 1) := by decide +kernel
theorem dX6_goesOn_12 : decode cX6_goesOn 12 = .ok (.iconst 3, 1) := by decide +kernel
theorem dX6_goesOn_13 : decode cX6_goesOn 13 = .ok (.invokestatic 165, 3) := by decide +kernel
theorem dX6_goesOn_16 : decode cX6_goesOn 16 = .ok (.ifCond .ne 17, 3) := by decide +kernel
theorem dX6_goesOn_19 : decode cX6_goesOn 19 = .ok (.aload_n 0, 1) := by decide +kernel
theorem dX6_goesOn_20 : decode cX6_goesOn 20 = .ok (.aload_n 0, 1) := by decide +kernel
theorem dX6_goesOn_21 : decode cX6_goesOn 21 = .ok (.getfield 52, 3) := by decide +kernel
theorem dX6_goesOn_24 : decode cX6_goesOn 24 = .ok (.invokevirtual 211, 3) := by decide +kernel
theorem dX6_goesOn_27 : decode cX6_goesOn 27 = .ok (.iinc 2 1, 3) := by decide +kernel
theorem dX6_goesOn_30 : decode cX6_goesOn 30 = .ok (.goto (-28), 3) := by decide +kernel
theorem dX6_goesOn_33 : decode cX6_goesOn 33 = .ok (.return_, 1) := by decide +kernel
theorem dX6_ends__0 : decode cX6_ends_ 0 = .ok (.aload_n 0, 1) := by decide +kernel
theorem dX6_ends__1 : decode cX6_ends_ 1 = .ok (.iload_n 1, 1) := by decide +kernel
theorem dX6_ends__2 : decode cX6_ends_ 2 = .ok (.invokevirtual 214, 3) := by decide +kernel
theorem dX6_ends__5 : decode cX6_ends_ 5 = .ok (.ifCond .eq 12, 3) := by decide +kernel
theorem dX6_ends__8 : decode cX6_ends_ 8 = .ok (.iload_n 2, 1) := by decide +kernel
theorem dX6_ends__9 : decode cX6_ends_ 9 = .ok (.iconst 0, 1) := by decide +kernel
theorem dX6_ends__10 : decode cX6_ends_ 10 = .ok (.iconst 1, 1) := by decide +kernel
theorem dX6_ends__11 : decode cX6_ends_ 11 = .ok (.invokestatic 80, 3) := by decide +kernel
theorem dX6_ends__14 : decode cX6_ends_ 14 = .ok (.ifCond .ne 5, 3) := by decide +kernel
theorem dX6_ends__17 : decode cX6_ends_ 17 = .ok (.iconst (-1), 1) := by decide +kernel
theorem dX6_ends__18 : decode cX6_ends_ 18 = .ok (.ireturn, 1) := by decide +kernel
theorem dX6_ends__19 : decode cX6_ends_ 19 = .ok (.aload_n 0, 1) := by decide +kernel
theorem dX6_ends__20 : decode cX6_ends_ 20 = .ok (.getfield 49, 3) := by decide +kernel
theorem dX6_ends__23 : decode cX6_ends_ 23 = .ok (.aload_n 0, 1) := by decide +kernel
theorem dX6_ends__24 : decode cX6_ends_ 24 = .ok (.getfield 52, 3) := by decide +kernel
theorem dX6_ends__27 : decode cX6_ends_ 27 = .ok (.invokestatic 221, 3) := by decide +kernel
theorem dX6_ends__30 : decode cX6_ends_ 30 = .ok (.aload_n 0, 1) := by decide +kernel
theorem dX6_ends__31 : decode cX6_ends_ 31 = .ok (.sipush 200, 3) := by decide +kernel
theorem dX6_ends__34 : decode cX6_ends_ 34 = .ok (.invokevirtual 225, 3) := by decide +kernel
theorem dX6_ends__37 : decode cX6_ends_ 37 = .ok (.aload_n 0, 1) := by decide +kernel
theorem dX6_ends__38 : decode cX6_ends_ 38 = .ok (.getfield 52, 3) := by decide +kernel
theorem dX6_ends__41 : decode cX6_ends_ 41 = .ok (.iload_n 1, 1) := by decide +kernel
theorem dX6_ends__42 : decode cX6_ends_ 42 = .ok (.iconst 3, 1) := by decide +kernel
theorem dX6_ends__43 : decode cX6_ends_ 43 = .ok (.invokestatic 165, 3) := by decide +kernel
theorem dX6_ends__46 : decode cX6_ends_ 46 = .ok (.ifCond .ne 8, 3) := by decide +kernel
theorem dX6_ends__49 : decode cX6_ends_ 49 = .ok (.bipush (-9), 2) := by decide +kernel
theorem dX6_ends__51 : decode cX6_ends_ 51 = .ok (.goto 21, 3) := by decide +kernel
theorem dX6_ends__54 : decode cX6_ends_ 54 = .ok (.aload_n 0, 1) := by decide +kernel
theorem dX6_ends__55 : decode cX6_ends_ 55 = .ok (.getfield 52, 3) := by decide +kernel
theorem dX6_ends__58 : decode cX6_ends_ 58 = .ok (.iload_n 1, 1) := by decide +kernel
theorem dX6_ends__59 : decode cX6_ends_ 59 = .ok (.iload_n 2, 1) := by decide +kernel
theorem dX6_ends__60 : decode cX6_ends_ 60 = .ok (.ifCond .ne 8, 3) := by decide +kernel
theorem dX6_ends__63 : decode cX6_ends_ 63 = .ok (.bipush 8, 2) := by decide +kernel
theorem dX6_ends__65 : decode cX6_ends_ 65 = .ok (.goto 4, 3) := by decide +kernel
theorem dX6_ends__68 : decode cX6_ends_ 68 = .ok (.iconst 1, 1) := by decide +kernel
theorem dX6_ends__69 : decode cX6_ends_ 69 = .ok (.invokestatic 161, 3) := by decide +kernel
theorem dX6_ends__72 : decode cX6_ends_ 72 = .ok (.ireturn, 1) := by decide +kernel
theorem dX6_wellBy_0 : decode cX6_wellBy 0 = .ok (.aload_n 0, 1) := by decide +kernel
theorem dX6_wellBy_1 : decode cX6_wellBy 1 = .ok (.getfield 40, 3) := by decide +kernel
theorem dX6_wellBy_4 : decode cX6_wellBy 4 = .ok (.iconst 0, 1) := by decide +kernel
theorem dX6_wellBy_5 : decode cX6_wellBy 5 = .ok (.iaload, 1) := by decide +kernel
theorem dX6_wellBy_6 : decode cX6_wellBy 6 = .ok (.istore_n 1, 1) := by decide +kernel
theorem dX6_wellBy_7 : decode cX6_wellBy 7 = .ok (.bipush (-9), 2) := by decide +kernel
theorem dX6_wellBy_9 : decode cX6_wellBy 9 = .ok (.istore_n 2, 1) := by decide +kernel
theorem dX6_wellBy_10 : decode cX6_wellBy 10 = .ok (.iconst 1, 1) := by decide +kernel
theorem dX6_wellBy_11 : decode cX6_wellBy 11 = .ok (.istore_n 3, 1) := by decide +kernel
theorem dX6_wellBy_12 : decode cX6_wellBy 12 = .ok (.iload_n 3, 1) := by decide +kernel
theorem dX6_wellBy_13 : decode cX6_wellBy 13 = .ok (.bipush 60, 2) := by decide +kernel
theorem dX6_wellBy_15 : decode cX6_wellBy 15 = .ok (.if_icmp .gt 65, 3) := by decide +kernel
theorem dX6_wellBy_18 : decode cX6_wellBy 18 = .ok (.iload_n 2, 1) := by decide +kernel
theorem dX6_wellBy_19 : decode cX6_wellBy 19 = .ok (.bipush (-9), 2) := by decide +kernel
theorem dX6_wellBy_21 : decode cX6_wellBy 21 = .ok (.if_icmp .ne 59, 3) := by decide +kernel
theorem dX6_wellBy_24 : decode cX6_wellBy 24 = .ok (.aload_n 0, 1) := by decide +kernel
theorem dX6_wellBy_25 : decode cX6_wellBy 25 = .ok (.getfield 40, 3) := by decide +kernel
theorem dX6_wellBy_28 : decode cX6_wellBy 28 = .ok (.iconst 0, 1) := by decide +kernel
theorem dX6_wellBy_29 : decode cX6_wellBy 29 = .ok (.iload_n 3, 1) := by decide +kernel
theorem dX6_wellBy_30 : decode cX6_wellBy 30 = .ok (.iastore, 1) := by decide +kernel
theorem dX6_wellBy_31 : decode cX6_wellBy 31 = .ok (.aload_n 0, 1) := by decide +kernel
theorem dX6_wellBy_32 : decode cX6_wellBy 32 = .ok (.aload_n 0, 1) := by decide +kernel
theorem dX6_wellBy_33 : decode cX6_wellBy 33 = .ok (.getfield 52, 3) := by decide +kernel
theorem dX6_wellBy_36 : decode cX6_wellBy 36 = .ok (.invokevirtual 148, 3) := by decide +kernel
theorem dX6_wellBy_39 : decode cX6_wellBy 39 = .ok (.aload_n 0, 1) := by decide +kernel
theorem dX6_wellBy_40 : decode cX6_wellBy 40 = .ok (.sipush 200, 3) := by decide +kernel
theorem dX6_wellBy_43 : decode cX6_wellBy 43 = .ok (.invokevirtual 225, 3) := by decide +kernel
theorem dX6_wellBy_46 : decode cX6_wellBy 46 = .ok (.aload_n 0, 1) := by decide +kernel
theorem dX6_wellBy_47 : decode cX6_wellBy 47 = .ok (.getfield 52, 3) := by decide +kernel
theorem dX6_wellBy_50 : decode cX6_wellBy 50 = .ok (.iconst 0, 1) := by decide +kernel
theorem dX6_wellBy_51 : decode cX6_wellBy 51 = .ok (.iconst 3, 1) := by decide +kernel
theorem dX6_wellBy_52 : decode cX6_wellBy 52 = .ok (.invokestatic 165, 3) := by decide +kernel
theorem dX6_wellBy_55 : decode cX6_wellBy 55 = .ok (.ifCond .eq 16, 3) := by decide +kernel
theorem dX6_wellBy_58 : decode cX6_wellBy 58 = .ok (.aload_n 0, 1) := by decide +kernel
theorem dX6_wellBy_59 : decode cX6_wellBy 59 = .ok (.getfield 52, 3) := by decide +kernel
theorem dX6_wellBy_62 : decode cX6_wellBy 62 = .ok (.iconst 1, 1) := by decide +kernel
theorem dX6_wellBy_63 : decode cX6_wellBy 63 = .ok (.iaload, 1) := by decide +kernel
theorem dX6_wellBy_64 : decode cX6_wellBy 64 = .ok (.ifCond .ne 7, 3) := by decide +kernel
theorem dX6_wellBy_67 : decode cX6_wellBy 67 = .ok (.iload_n 3, 1) := by decide +kernel
theorem dX6_wellBy_68 : decode cX6_wellBy 68 = .ok (.goto 5, 3) := by decide +kernel
theorem dX6_wellBy_71 : decode cX6_wellBy 71 = .ok (.bipush (-9), 2) := by decide +kernel
theorem dX6_wellBy_73 : decode cX6_wellBy 73 = .ok (.istore_n 2, 1) := by decide +kernel
theorem dX6_wellBy_74 : decode cX6_wellBy 74 = .ok (.iinc 3 1, 3) := by decide +kernel
theorem dX6_wellBy_77 : decode cX6_wellBy 77 = .ok (.goto (-65), 3) := by decide +kernel
theorem dX6_wellBy_80 : decode cX6_wellBy 80 = .ok (.aload_n 0, 1) := by decide +kernel
theorem dX6_wellBy_81 : decode cX6_wellBy 81 = .ok (.getfield 40, 3) := by decide +kernel
theorem dX6_wellBy_84 : decode cX6_wellBy 84 = .ok (.iconst 0, 1) := by decide +kernel
theorem dX6_wellBy_85 : decode cX6_wellBy 85 = .ok (.iload_n 1, 1) := by decide +kernel
theorem dX6_wellBy_86 : decode cX6_wellBy 86 = .ok (.iastore, 1) := by decide +kernel
theorem dX6_wellBy_87 : decode cX6_wellBy 87 = .ok (.iload_n 2, 1) := by decide +kernel
theorem dX6_wellBy_88 : decode cX6_wellBy 88 = .ok (.ireturn, 1) := by decide +kernel
theorem dX6_spares_0 : decode cX6_spares 0 = .ok (.aload_n 0, 1) := by decide +kernel
theorem dX6_spares_1 : decode cX6_spares 1 = .ok (.iload_n 1, 1) := by decide +kernel
theorem dX6_spares_2 : decode cX6_spares 2 = .ok (.invokevirtual 214, 3) := by decide +kernel
theorem dX6_spares_5 : decode cX6_spares 5 = .ok (.ifCond .eq 15, 3) := by decide +kernel
theorem dX6_spares_8 : decode cX6_spares 8 = .ok (.aload_n 0, 1) := by decide +kernel
theorem dX6_spares_9 : decode cX6_spares 9 = .ok (.getfield 49, 3) := by decide +kernel
theorem dX6_spares_12 : decode cX6_spares 12 = .ok (.iload_n 1, 1) := by decide +kernel
theorem dX6_spares_13 : decode cX6_spares 13 = .ok (.iconst 1, 1) := by decide +kernel
theorem dX6_spares_14 : decode cX6_spares 14 = .ok (.invokestatic 165, 3) := by decide +kernel
theorem dX6_spares_17 : decode cX6_spares 17 = .ok (.ifCond .ne 6, 3) := by decide +kernel
theorem dX6_spares_20 : decode cX6_spares 20 = .ok (.ldc 229, 2) := by decide +kernel
theorem dX6_spares_22 : decode cX6_spares 22 = .ok (.ireturn, 1) := by decide +kernel
theorem dX6_spares_23 : decode cX6_spares 23 = .ok (.aload_n 0, 1) := by decide +kernel
theorem dX6_spares_24 : decode cX6_spares 24 = .ok (.getfield 49, 3) := by decide +kernel
theorem dX6_spares_27 : decode cX6_spares 27 = .ok (.aload_n 0, 1) := by decide +kernel
theorem dX6_spares_28 : decode cX6_spares 28 = .ok (.getfield 52, 3) := by decide +kernel
theorem dX6_spares_31 : decode cX6_spares 31 = .ok (.invokestatic 221, 3) := by decide +kernel
theorem dX6_spares_34 : decode cX6_spares 34 = .ok (.aload_n 0, 1) := by decide +kernel
theorem dX6_spares_35 : decode cX6_spares 35 = .ok (.sipush 200, 3) := by decide +kernel
theorem dX6_spares_38 : decode cX6_spares 38 = .ok (.invokevirtual 225, 3) := by decide +kernel
theorem dX6_spares_41 : decode cX6_spares 41 = .ok (.aload_n 0, 1) := by decide +kernel
theorem dX6_spares_42 : decode cX6_spares 42 = .ok (.getfield 52, 3) := by decide +kernel
theorem dX6_spares_45 : decode cX6_spares 45 = .ok (.bipush 8, 2) := by decide +kernel
theorem dX6_spares_47 : decode cX6_spares 47 = .ok (.iaload, 1) := by decide +kernel
theorem dX6_spares_48 : decode cX6_spares 48 = .ok (.istore_n 2, 1) := by decide +kernel
theorem dX6_spares_49 : decode cX6_spares 49 = .ok (.aload_n 0, 1) := by decide +kernel
theorem dX6_spares_50 : decode cX6_spares 50 = .ok (.getfield 49, 3) := by decide +kernel
theorem dX6_spares_53 : decode cX6_spares 53 = .ok (.aload_n 0, 1) := by decide +kernel
theorem dX6_spares_54 : decode cX6_spares 54 = .ok (.getfield 52, 3) := by decide +kernel
theorem dX6_spares_57 : decode cX6_spares 57 = .ok (.invokestatic 221, 3) := by decide +kernel
theorem dX6_spares_60 : decode cX6_spares 60 = .ok (.aload_n 0, 1) := by decide +kernel
theorem dX6_spares_61 : decode cX6_spares 61 = .ok (.getfield 52, 3) := by decide +kernel
theorem dX6_spares_64 : decode cX6_spares 64 = .ok (.bipush 18, 2) := by decide +kernel
theorem dX6_spares_66 : decode cX6_spares 66 = .ok (.iload_n 1, 1) := by decide +kernel
theorem dX6_spares_67 : decode cX6_spares 67 = .ok (.imul, 1) := by decide +kernel
theorem dX6_spares_68 : decode cX6_spares 68 = .ok (.iconst 5, 1) := by decide +kernel
theorem dX6_spares_69 : decode cX6_spares 69 = .ok (.iadd, 1) := by decide +kernel
theorem dX6_spares_70 : decode cX6_spares 70 = .ok (.iconst 1, 1) := by decide +kernel
theorem dX6_spares_71 : decode cX6_spares 71 = .ok (.iastore, 1) := by decide +kernel
theorem dX6_spares_72 : decode cX6_spares 72 = .ok (.aload_n 0, 1) := by decide +kernel
theorem dX6_spares_73 : decode cX6_spares 73 = .ok (.sipush 200, 3) := by decide +kernel
theorem dX6_spares_76 : decode cX6_spares 76 = .ok (.invokevirtual 225, 3) := by decide +kernel
theorem dX6_spares_79 : decode cX6_spares 79 = .ok (.iload_n 2, 1) := by decide +kernel
theorem dX6_spares_80 : decode cX6_spares 80 = .ok (.bipush (-9), 2) := by decide +kernel
theorem dX6_spares_82 : decode cX6_spares 82 = .ok (.if_icmp .eq 15, 3) := by decide +kernel
theorem dX6_spares_85 : decode cX6_spares 85 = .ok (.aload_n 0, 1) := by decide +kernel
theorem dX6_spares_86 : decode cX6_spares 86 = .ok (.getfield 52, 3) := by decide +kernel
theorem dX6_spares_89 : decode cX6_spares 89 = .ok (.bipush 8, 2) := by decide +kernel
theorem dX6_spares_91 : decode cX6_spares 91 = .ok (.iaload, 1) := by decide +kernel
theorem dX6_spares_92 : decode cX6_spares 92 = .ok (.bipush (-9), 2) := by decide +kernel
theorem dX6_spares_94 : decode cX6_spares 94 = .ok (.if_icmp .ne 8, 3) := by decide +kernel
theorem dX6_spares_97 : decode cX6_spares 97 = .ok (.ldc 229, 2) := by decide +kernel
theorem dX6_spares_99 : decode cX6_spares 99 = .ok (.goto 12, 3) := by decide +kernel
theorem dX6_spares_102 : decode cX6_spares 102 = .ok (.iload_n 2, 1) := by decide +kernel
theorem dX6_spares_103 : decode cX6_spares 103 = .ok (.aload_n 0, 1) := by decide +kernel
theorem dX6_spares_104 : decode cX6_spares 104 = .ok (.getfield 52, 3) := by decide +kernel
theorem dX6_spares_107 : decode cX6_spares 107 = .ok (.bipush 8, 2) := by decide +kernel
theorem dX6_spares_109 : decode cX6_spares 109 = .ok (.iaload, 1) := by decide +kernel
theorem dX6_spares_110 : decode cX6_spares 110 = .ok (.isub, 1) := by decide +kernel
theorem dX6_spares_111 : decode cX6_spares 111 = .ok (.ireturn, 1) := by decide +kernel
theorem dX6_sees_0 : decode cX6_sees 0 = .ok (.aload_n 0, 1) := by decide +kernel
theorem dX6_sees_1 : decode cX6_sees 1 = .ok (.iload_n 1, 1) := by decide +kernel
theorem dX6_sees_2 : decode cX6_sees 2 = .ok (.invokevirtual 214, 3) := by decide +kernel
theorem dX6_sees_5 : decode cX6_sees 5 = .ok (.ifCond .eq 22, 3) := by decide +kernel
theorem dX6_sees_8 : decode cX6_sees 8 = .ok (.iload_n 2, 1) := by decide +kernel
theorem dX6_sees_9 : decode cX6_sees 9 = .ok (.iconst 1, 1) := by decide +kernel
theorem dX6_sees_10 : decode cX6_sees 10 = .ok (.bipush 60, 2) := by decide +kernel
theorem dX6_sees_12 : decode cX6_sees 12 = .ok (.invokestatic 80, 3) := by decide +kernel
theorem dX6_sees_15 : decode cX6_sees 15 = .ok (.ifCond .eq 12, 3) := by decide +kernel
theorem dX6_sees_18 : decode cX6_sees 18 = .ok (.iload_n 3, 1) := by decide +kernel
theorem dX6_sees_19 : decode cX6_sees 19 = .ok (.iconst 0, 1) := by decide +kernel
theorem dX6_sees_20 : decode cX6_sees 20 = .ok (.iconst 1, 1) := by decide +kernel
theorem dX6_sees_21 : decode cX6_sees 21 = .ok (.invokestatic 80, 3) := by decide +kernel
theorem dX6_sees_24 : decode cX6_sees 24 = .ok (.ifCond .ne 5, 3) := by decide +kernel
theorem dX6_sees_27 : decode cX6_sees 27 = .ok (.iconst (-1), 1) := by decide +kernel
theorem dX6_sees_28 : decode cX6_sees 28 = .ok (.ireturn, 1) := by decide +kernel
theorem dX6_sees_29 : decode cX6_sees 29 = .ok (.aload_n 0, 1) := by decide +kernel
theorem dX6_sees_30 : decode cX6_sees 30 = .ok (.getfield 155, 3) := by decide +kernel
theorem dX6_sees_33 : decode cX6_sees 33 = .ok (.bipush 6, 2) := by decide +kernel
theorem dX6_sees_35 : decode cX6_sees 35 = .ok (.if_icmp .ne 6, 3) := by decide +kernel
theorem dX6_sees_38 : decode cX6_sees 38 = .ok (.bipush (-3), 2) := by decide +kernel
theorem dX6_sees_40 : decode cX6_sees 40 = .ok (.ireturn, 1) := by decide +kernel
theorem dX6_sees_41 : decode cX6_sees 41 = .ok (.aload_n 0, 1) := by decide +kernel
theorem dX6_sees_42 : decode cX6_sees 42 = .ok (.getfield 58, 3) := by decide +kernel
theorem dX6_sees_45 : decode cX6_sees 45 = .ok (.aload_n 0, 1) := by decide +kernel
theorem dX6_sees_46 : decode cX6_sees 46 = .ok (.getfield 155, 3) := by decide +kernel
theorem dX6_sees_49 : decode cX6_sees 49 = .ok (.iload_n 1, 1) := by decide +kernel
theorem dX6_sees_50 : decode cX6_sees 50 = .ok (.iastore, 1) := by decide +kernel
theorem dX6_sees_51 : decode cX6_sees 51 = .ok (.aload_n 0, 1) := by decide +kernel
theorem dX6_sees_52 : decode cX6_sees 52 = .ok (.getfield 61, 3) := by decide +kernel
theorem dX6_sees_55 : decode cX6_sees 55 = .ok (.aload_n 0, 1) := by decide +kernel
theorem dX6_sees_56 : decode cX6_sees 56 = .ok (.getfield 155, 3) := by decide +kernel
theorem dX6_sees_59 : decode cX6_sees 59 = .ok (.iload_n 2, 1) := by decide +kernel
theorem dX6_sees_60 : decode cX6_sees 60 = .ok (.iastore, 1) := by decide +kernel
theorem dX6_sees_61 : decode cX6_sees 61 = .ok (.aload_n 0, 1) := by decide +kernel
theorem dX6_sees_62 : decode cX6_sees 62 = .ok (.getfield 64, 3) := by decide +kernel
theorem dX6_sees_65 : decode cX6_sees 65 = .ok (.aload_n 0, 1) := by decide +kernel
theorem dX6_sees_66 : decode cX6_sees 66 = .ok (.getfield 155, 3) := by decide +kernel
theorem dX6_sees_69 : decode cX6_sees 69 = .ok (.iload_n 3, 1) := by decide +kernel
theorem dX6_sees_70 : decode cX6_sees 70 = .ok (.iastore, 1) := by decide +kernel
theorem dX6_sees_71 : decode cX6_sees 71 = .ok (.aload_n 0, 1) := by decide +kernel
theorem dX6_sees_72 : decode cX6_sees 72 = .ok (.dup, 1) := by decide +kernel
theorem dX6_sees_73 : decode cX6_sees 73 = .ok (.getfield 155, 3) := by decide +kernel
theorem dX6_sees_76 : decode cX6_sees 76 = .ok (.iconst 1, 1) := by decide +kernel
theorem dX6_sees_77 : decode cX6_sees 77 = .ok (.iadd, 1) := by decide +kernel
theorem dX6_sees_78 : decode cX6_sees 78 = .ok (.putfield 155, 3) := by decide +kernel
theorem dX6_sees_81 : decode cX6_sees 81 = .ok (.aload_n 0, 1) := by decide +kernel
theorem dX6_sees_82 : decode cX6_sees 82 = .ok (.getfield 155, 3) := by decide +kernel
theorem dX6_sees_85 : decode cX6_sees 85 = .ok (.ireturn, 1) := by decide +kernel
theorem dX6_forget_0 : decode cX6_forget 0 = .ok (.aload_n 0, 1) := by decide +kernel
theorem dX6_forget_1 : decode cX6_forget 1 = .ok (.getfield 155, 3) := by decide +kernel
theorem dX6_forget_4 : decode cX6_forget 4 = .ok (.istore_n 1, 1) := by decide +kernel
theorem dX6_forget_5 : decode cX6_forget 5 = .ok (.aload_n 0, 1) := by decide +kernel
theorem dX6_forget_6 : decode cX6_forget 6 = .ok (.iconst 0, 1) := by decide +kernel
theorem dX6_forget_7 : decode cX6_forget 7 = .ok (.putfield 155, 3) := by decide +kernel
theorem dX6_forget_10 : decode cX6_forget 10 = .ok (.iload_n 1, 1) := by decide +kernel
theorem dX6_forget_11 : decode cX6_forget 11 = .ok (.ireturn, 1) := by decide +kernel
theorem dX6_fits_0 : decode cX6_fits 0 = .ok (.aload_n 0, 1) := by decide +kernel
theorem dX6_fits_1 : decode cX6_fits 1 = .ok (.iload_n 1, 1) := by decide +kernel
theorem dX6_fits_2 : decode cX6_fits 2 = .ok (.invokevirtual 214, 3) := by decide +kernel
theorem dX6_fits_5 : decode cX6_fits 5 = .ok (.ifCond .ne 5, 3) := by decide +kernel
theorem dX6_fits_8 : decode cX6_fits 8 = .ok (.iconst (-1), 1) := by decide +kernel
theorem dX6_fits_9 : decode cX6_fits 9 = .ok (.ireturn, 1) := by decide +kernel
theorem dX6_fits_10 : decode cX6_fits 10 = .ok (.aload_n 0, 1) := by decide +kernel
theorem dX6_fits_11 : decode cX6_fits 11 = .ok (.getfield 40, 3) := by decide +kernel
theorem dX6_fits_14 : decode cX6_fits 14 = .ok (.iload_n 1, 1) := by decide +kernel
theorem dX6_fits_15 : decode cX6_fits 15 = .ok (.iaload, 1) := by decide +kernel
theorem dX6_fits_16 : decode cX6_fits 16 = .ok (.istore_n 2, 1) := by decide +kernel
theorem dX6_fits_17 : decode cX6_fits 17 = .ok (.iconst 0, 1) := by decide +kernel
theorem dX6_fits_18 : decode cX6_fits 18 = .ok (.istore_n 3, 1) := by decide +kernel
theorem dX6_fits_19 : decode cX6_fits 19 = .ok (.iconst 1, 1) := by decide +kernel
theorem dX6_fits_20 : decode cX6_fits 20 = .ok (.istore 4, 2) := by decide +kernel
theorem dX6_fits_22 : decode cX6_fits 22 = .ok (.iload 4, 2) := by decide +kernel
theorem dX6_fits_24 : decode cX6_fits 24 = .ok (.bipush 30, 2) := by decide +kernel
theorem dX6_fits_26 : decode cX6_fits 26 = .ok (.if_icmp .gt 132, 3) := by decide +kernel
theorem dX6_fits_29 : decode cX6_fits 29 = .ok (.aload_n 0, 1) := by decide +kernel
theorem dX6_fits_30 : decode cX6_fits 30 = .ok (.getfield 40, 3) := by decide +kernel
theorem dX6_fits_33 : decode cX6_fits 33 = .ok (.iload_n 1, 1) := by decide +kernel
theorem dX6_fits_34 : decode cX6_fits 34 = .ok (.iload 4, 2) := by decide +kernel
theorem dX6_fits_36 : decode cX6_fits 36 = .ok (.iastore, 1) := by decide +kernel
theorem dX6_fits_37 : decode cX6_fits 37 = .ok (.aload_n 0, 1) := by decide +kernel
theorem dX6_fits_38 : decode cX6_fits 38 = .ok (.aload_n 0, 1) := by decide +kernel
theorem dX6_fits_39 : decode cX6_fits 39 = .ok (.getfield 52, 3) := by decide +kernel
theorem dX6_fits_42 : decode cX6_fits 42 = .ok (.invokevirtual 148, 3) := by decide +kernel
theorem dX6_fits_45 : decode cX6_fits 45 = .ok (.aload_n 0, 1) := by decide +kernel
theorem dX6_fits_46 : decode cX6_fits 46 = .ok (.bipush 60, 2) := by decide +kernel
theorem dX6_fits_48 : decode cX6_fits 48 = .ok (.invokevirtual 225, 3) := by decide +kernel
theorem dX6_fits_51 : decode cX6_fits 51 = .ok (.iconst 1, 1) := by decide +kernel
theorem dX6_fits_52 : decode cX6_fits 52 = .ok (.istore 5, 2) := by decide +kernel
theorem dX6_fits_54 : decode cX6_fits 54 = .ok (.iconst 0, 1) := by decide +kernel
theorem dX6_fits_55 : decode cX6_fits 55 = .ok (.istore 6, 2) := by decide +kernel
theorem dX6_fits_57 : decode cX6_fits 57 = .ok (.iload 6, 2) := by decide +kernel
theorem dX6_fits_59 : decode cX6_fits 59 = .ok (.aload_n 0, 1) := by decide +kernel
theorem dX6_fits_60 : decode cX6_fits 60 = .ok (.getfield 155, 3) := by decide +kernel
theorem dX6_fits_63 : decode cX6_fits 63 = .ok (.if_icmp .ge 73, 3) := by decide +kernel
theorem dX6_fits_66 : decode cX6_fits 66 = .ok (.aload_n 0, 1) := by decide +kernel
theorem dX6_fits_67 : decode cX6_fits 67 = .ok (.getfield 52, 3) := by decide +kernel
theorem dX6_fits_70 : decode cX6_fits 70 = .ok (.aload_n 0, 1) := by decide +kernel
theorem dX6_fits_71 : decode cX6_fits 71 = .ok (.getfield 58, 3) := by decide +kernel
theorem dX6_fits_74 : decode cX6_fits 74 = .ok (.iload 6, 2) := by decide +kernel
theorem dX6_fits_76 : decode cX6_fits 76 = .ok (.iaload, 1) := by decide +kernel
theorem dX6_fits_77 : decode cX6_fits 77 = .ok (.bipush 8, 2) := by decide +kernel
theorem dX6_fits_79 : decode cX6_fits 79 = .ok (.invokestatic 161, 3) := by decide +kernel
theorem dX6_fits_82 : decode cX6_fits 82 = .ok (.istore 7, 2) := by decide +kernel
theorem dX6_fits_84 : decode cX6_fits 84 = .ok (.iload 5, 2) := by decide +kernel
theorem dX6_fits_86 : decode cX6_fits 86 = .ok (.ifCond .eq 41, 3) := by decide +kernel
theorem dX6_fits_89 : decode cX6_fits 89 = .ok (.iload 7, 2) := by decide +kernel
theorem dX6_fits_91 : decode cX6_fits 91 = .ok (.bipush (-9), 2) := by decide +kernel
theorem dX6_fits_93 : decode cX6_fits 93 = .ok (.if_icmp .eq 19, 3) := by decide +kernel
theorem dX6_fits_96 : decode cX6_fits 96 = .ok (.iload 7, 2) := by decide +kernel
theorem dX6_fits_98 : decode cX6_fits 98 = .ok (.aload_n 0, 1) := by decide +kernel
theorem dX6_fits_99 : decode cX6_fits 99 = .ok (.getfield 61, 3) := by decide +kernel
theorem dX6_fits_102 : decode cX6_fits 102 = .ok (.iload 6, 2) := by decide +kernel
theorem dX6_fits_104 : decode cX6_fits 104 = .ok (.iaload, 1) := by decide +kernel
theorem dX6_fits_105 : decode cX6_fits 105 = .ok (.if_icmp .gt 7, 3) := by decide +kernel
theorem dX6_fits_108 : decode cX6_fits 108 = .ok (.iconst 1, 1) := by decide +kernel
theorem dX6_fits_109 : decode cX6_fits 109 = .ok (.goto 4, 3) := by decide +kernel
theorem dX6_fits_112 : decode cX6_fits 112 = .ok (.iconst 0, 1) := by decide +kernel
theorem dX6_fits_113 : decode cX6_fits 113 = .ok (.aload_n 0, 1) := by decide +kernel
theorem dX6_fits_114 : decode cX6_fits 114 = .ok (.getfield 64, 3) := by decide +kernel
theorem dX6_fits_117 : decode cX6_fits 117 = .ok (.iload 6, 2) := by decide +kernel
theorem dX6_fits_119 : decode cX6_fits 119 = .ok (.iaload, 1) := by decide +kernel
theorem dX6_fits_120 : decode cX6_fits 120 = .ok (.if_icmp .ne 7, 3) := by decide +kernel
theorem dX6_fits_123 : decode cX6_fits 123 = .ok (.iconst 1, 1) := by decide +kernel
theorem dX6_fits_124 : decode cX6_fits 124 = .ok (.goto 4, 3) := by decide +kernel
theorem dX6_fits_127 : decode cX6_fits 127 = .ok (.iconst 0, 1) := by decide +kernel
theorem dX6_fits_128 : decode cX6_fits 128 = .ok (.istore 5, 2) := by decide +kernel
theorem dX6_fits_130 : decode cX6_fits 130 = .ok (.iinc 6 1, 3) := by decide +kernel
theorem dX6_fits_133 : decode cX6_fits 133 = .ok (.goto (-76), 3) := by decide +kernel
theorem dX6_fits_136 : decode cX6_fits 136 = .ok (.iload_n 3, 1) := by decide +kernel
theorem dX6_fits_137 : decode cX6_fits 137 = .ok (.iload 5, 2) := by decide +kernel
theorem dX6_fits_139 : decode cX6_fits 139 = .ok (.ifCond .eq 10, 3) := by decide +kernel
theorem dX6_fits_142 : decode cX6_fits 142 = .ok (.iconst 1, 1) := by decide +kernel
theorem dX6_fits_143 : decode cX6_fits 143 = .ok (.iload 4, 2) := by decide +kernel
theorem dX6_fits_145 : decode cX6_fits 145 = .ok (.ishl, 1) := by decide +kernel
theorem dX6_fits_146 : decode cX6_fits 146 = .ok (.goto 4, 3) := by decide +kernel
theorem dX6_fits_149 : decode cX6_fits 149 = .ok (.iconst 0, 1) := by decide +kernel
theorem dX6_fits_150 : decode cX6_fits 150 = .ok (.ior, 1) := by decide +kernel
theorem dX6_fits_151 : decode cX6_fits 151 = .ok (.istore_n 3, 1) := by decide +kernel
theorem dX6_fits_152 : decode cX6_fits 152 = .ok (.iinc 4 1, 3) := by decide +kernel
theorem dX6_fits_155 : decode cX6_fits 155 = .ok (.goto (-133), 3) := by decide +kernel
theorem dX6_fits_158 : decode cX6_fits 158 = .ok (.aload_n 0, 1) := by decide +kernel
theorem dX6_fits_159 : decode cX6_fits 159 = .ok (.getfield 40, 3) := by decide +kernel
theorem dX6_fits_162 : decode cX6_fits 162 = .ok (.iload_n 1, 1) := by decide +kernel
theorem dX6_fits_163 : decode cX6_fits 163 = .ok (.iload_n 2, 1) := by decide +kernel
theorem dX6_fits_164 : decode cX6_fits 164 = .ok (.iastore, 1) := by decide +kernel
theorem dX6_fits_165 : decode cX6_fits 165 = .ok (.iload_n 3, 1) := by decide +kernel
theorem dX6_fits_166 : decode cX6_fits 166 = .ok (.ireturn, 1) := by decide +kernel
theorem dX6_keep_0 : decode cX6_keep 0 = .ok (.iload_n 1, 1) := by decide +kernel
theorem dX6_keep_1 : decode cX6_keep 1 = .ok (.iconst 0, 1) := by decide +kernel
theorem dX6_keep_2 : decode cX6_keep 2 = .ok (.iconst 1, 1) := by decide +kernel
theorem dX6_keep_3 : decode cX6_keep 3 = .ok (.invokestatic 80, 3) := by decide +kernel
theorem dX6_keep_6 : decode cX6_keep 6 = .ok (.ifCond .ne 5, 3) := by decide +kernel
theorem dX6_keep_9 : decode cX6_keep 9 = .ok (.iconst (-1), 1) := by decide +kernel
theorem dX6_keep_10 : decode cX6_keep 10 = .ok (.ireturn, 1) := by decide +kernel
theorem dX6_keep_11 : decode cX6_keep 11 = .ok (.aload_n 0, 1) := by decide +kernel
theorem dX6_keep_12 : decode cX6_keep 12 = .ok (.getfield 67, 3) := by decide +kernel
theorem dX6_keep_15 : decode cX6_keep 15 = .ok (.iload_n 1, 1) := by decide +kernel
theorem dX6_keep_16 : decode cX6_keep 16 = .ok (.iconst 1, 1) := by decide +kernel
theorem dX6_keep_17 : decode cX6_keep 17 = .ok (.bastore, 1) := by decide +kernel
theorem dX6_keep_18 : decode cX6_keep 18 = .ok (.iconst 0, 1) := by decide +kernel
theorem dX6_keep_19 : decode cX6_keep 19 = .ok (.istore_n 2, 1) := by decide +kernel
theorem dX6_keep_20 : decode cX6_keep 20 = .ok (.iload_n 2, 1) := by decide +kernel
theorem dX6_keep_21 : decode cX6_keep 21 = .ok (.sipush 326, 3) := by decide +kernel
theorem dX6_keep_24 : decode cX6_keep 24 = .ok (.if_icmp .ge 27, 3) := by decide +kernel
theorem dX6_keep_27 : decode cX6_keep 27 = .ok (.aload_n 0, 1) := by decide +kernel
theorem dX6_keep_28 : decode cX6_keep 28 = .ok (.getfield 71, 3) := by decide +kernel
theorem dX6_keep_31 : decode cX6_keep 31 = .ok (.sipush 326, 3) := by decide +kernel
theorem dX6_keep_34 : decode cX6_keep 34 = .ok (.iload_n 1, 1) := by decide +kernel
theorem dX6_keep_35 : decode cX6_keep 35 = .ok (.imul, 1) := by decide +kernel
theorem dX6_keep_36 : decode cX6_keep 36 = .ok (.iload_n 2, 1) := by decide +kernel
theorem dX6_keep_37 : decode cX6_keep 37 = .ok (.iadd, 1) := by decide +kernel
theorem dX6_keep_38 : decode cX6_keep 38 = .ok (.aload_n 0, 1) := by decide +kernel
theorem dX6_keep_39 : decode cX6_keep 39 = .ok (.getfield 49, 3) := by decide +kernel
theorem dX6_keep_42 : decode cX6_keep 42 = .ok (.iload_n 2, 1) := by decide +kernel
theorem dX6_keep_43 : decode cX6_keep 43 = .ok (.iaload, 1) := by decide +kernel
theorem dX6_keep_44 : decode cX6_keep 44 = .ok (.iastore, 1) := by decide +kernel
theorem dX6_keep_45 : decode cX6_keep 45 = .ok (.iinc 2 1, 3) := by decide +kernel
theorem dX6_keep_48 : decode cX6_keep 48 = .ok (.goto (-28), 3) := by decide +kernel
theorem dX6_keep_51 : decode cX6_keep 51 = .ok (.aload_n 0, 1) := by decide +kernel
theorem dX6_keep_52 : decode cX6_keep 52 = .ok (.getfield 49, 3) := by decide +kernel
theorem dX6_keep_55 : decode cX6_keep 55 = .ok (.sipush 144, 3) := by decide +kernel
theorem dX6_keep_58 : decode cX6_keep 58 = .ok (.iaload, 1) := by decide +kernel
theorem dX6_keep_59 : decode cX6_keep 59 = .ok (.ireturn, 1) := by decide +kernel
theorem dX6_back_0 : decode cX6_back 0 = .ok (.iload_n 1, 1) := by decide +kernel
theorem dX6_back_1 : decode cX6_back 1 = .ok (.iconst 0, 1) := by decide +kernel
theorem dX6_back_2 : decode cX6_back 2 = .ok (.iconst 1, 1) := by decide +kernel
theorem dX6_back_3 : decode cX6_back 3 = .ok (.invokestatic 80, 3) := by decide +kernel
theorem dX6_back_6 : decode cX6_back 6 = .ok (.ifCond .ne 5, 3) := by decide +kernel
theorem dX6_back_9 : decode cX6_back 9 = .ok (.iconst (-1), 1) := by decide +kernel
theorem dX6_back_10 : decode cX6_back 10 = .ok (.ireturn, 1) := by decide +kernel
theorem dX6_back_11 : decode cX6_back 11 = .ok (.aload_n 0, 1) := by decide +kernel
theorem dX6_back_12 : decode cX6_back 12 = .ok (.getfield 67, 3) := by decide +kernel
theorem dX6_back_15 : decode cX6_back 15 = .ok (.iload_n 1, 1) := by decide +kernel
theorem dX6_back_16 : decode cX6_back 16 = .ok (.baload, 1) := by decide +kernel
theorem dX6_back_17 : decode cX6_back 17 = .ok (.ifCond .ne 6, 3) := by decide +kernel
theorem dX6_back_20 : decode cX6_back 20 = .ok (.bipush (-2), 2) := by decide +kernel
theorem dX6_back_22 : decode cX6_back 22 = .ok (.ireturn, 1) := by decide +kernel
theorem dX6_back_23 : decode cX6_back 23 = .ok (.iconst 0, 1) := by decide +kernel
theorem dX6_back_24 : decode cX6_back 24 = .ok (.istore_n 2, 1) := by decide +kernel
theorem dX6_back_25 : decode cX6_back 25 = .ok (.iload_n 2, 1) := by decide +kernel
theorem dX6_back_26 : decode cX6_back 26 = .ok (.sipush 326, 3) := by decide +kernel
theorem dX6_back_29 : decode cX6_back 29 = .ok (.if_icmp .ge 27, 3) := by decide +kernel
theorem dX6_back_32 : decode cX6_back 32 = .ok (.aload_n 0, 1) := by decide +kernel
theorem dX6_back_33 : decode cX6_back 33 = .ok (.getfield 49, 3) := by decide +kernel
theorem dX6_back_36 : decode cX6_back 36 = .ok (.iload_n 2, 1) := by decide +kernel
theorem dX6_back_37 : decode cX6_back 37 = .ok (.aload_n 0, 1) := by decide +kernel
theorem dX6_back_38 : decode cX6_back 38 = .ok (.getfield 71, 3) := by decide +kernel
theorem dX6_back_41 : decode cX6_back 41 = .ok (.sipush 326, 3) := by decide +kernel
theorem dX6_back_44 : decode cX6_back 44 = .ok (.iload_n 1, 1) := by decide +kernel
theorem dX6_back_45 : decode cX6_back 45 = .ok (.imul, 1) := by decide +kernel
theorem dX6_back_46 : decode cX6_back 46 = .ok (.iload_n 2, 1) := by decide +kernel
theorem dX6_back_47 : decode cX6_back 47 = .ok (.iadd, 1) := by decide +kernel
theorem dX6_back_48 : decode cX6_back 48 = .ok (.iaload, 1) := by decide +kernel
theorem dX6_back_49 : decode cX6_back 49 = .ok (.iastore, 1) := by decide +kernel
theorem dX6_back_50 : decode cX6_back 50 = .ok (.iinc 2 1, 3) := by decide +kernel
theorem dX6_back_53 : decode cX6_back 53 = .ok (.goto (-28), 3) := by decide +kernel
theorem dX6_back_56 : decode cX6_back 56 = .ok (.aload_n 0, 1) := by decide +kernel
theorem dX6_back_57 : decode cX6_back 57 = .ok (.iconst 0, 1) := by decide +kernel
theorem dX6_back_58 : decode cX6_back 58 = .ok (.putfield 152, 3) := by decide +kernel
theorem dX6_back_61 : decode cX6_back 61 = .ok (.aload_n 0, 1) := by decide +kernel
theorem dX6_back_62 : decode cX6_back 62 = .ok (.getfield 49, 3) := by decide +kernel
theorem dX6_back_65 : decode cX6_back 65 = .ok (.sipush 144, 3) := by decide +kernel
theorem dX6_back_68 : decode cX6_back 68 = .ok (.iaload, 1) := by decide +kernel
theorem dX6_back_69 : decode cX6_back 69 = .ok (.ireturn, 1) := by decide +kernel
theorem dX6_howMany_0 : decode cX6_howMany 0 = .ok (.iconst 0, 1) := by decide +kernel
theorem dX6_howMany_1 : decode cX6_howMany 1 = .ok (.istore_n 2, 1) := by decide +kernel
theorem dX6_howMany_2 : decode cX6_howMany 2 = .ok (.iconst 0, 1) := by decide +kernel
theorem dX6_howMany_3 : decode cX6_howMany 3 = .ok (.istore_n 3, 1) := by decide +kernel
theorem dX6_howMany_4 : decode cX6_howMany 4 = .ok (.iload_n 3, 1) := by decide +kernel
theorem dX6_howMany_5 : decode cX6_howMany 5 = .ok (.aload_n 0, 1) := by decide +kernel
theorem dX6_howMany_6 : decode cX6_howMany 6 = .ok (.getfield 142, 3) := by decide +kernel
theorem dX6_howMany_9 : decode cX6_howMany 9 = .ok (.if_icmp .ge 29, 3) := by decide +kernel
theorem dX6_howMany_12 : decode cX6_howMany 12 = .ok (.iload_n 2, 1) := by decide +kernel
theorem dX6_howMany_13 : decode cX6_howMany 13 = .ok (.aload_n 0, 1) := by decide +kernel
theorem dX6_howMany_14 : decode cX6_howMany 14 = .ok (.getfield 49, 3) := by decide +kernel
theorem dX6_howMany_17 : decode cX6_howMany 17 = .ok (.iload_n 3, 1) := by decide +kernel
theorem dX6_howMany_18 : decode cX6_howMany 18 = .ok (.iload_n 1, 1) := by decide +kernel
theorem dX6_howMany_19 : decode cX6_howMany 19 = .ok (.invokestatic 165, 3) := by decide +kernel
theorem dX6_howMany_22 : decode cX6_howMany 22 = .ok (.ifCond .eq 7, 3) := by decide +kernel
theorem dX6_howMany_25 : decode cX6_howMany 25 = .ok (.iconst 1, 1) := by decide +kernel
theorem dX6_howMany_26 : decode cX6_howMany 26 = .ok (.goto 4, 3) := by decide +kernel
theorem dX6_howMany_29 : decode cX6_howMany 29 = .ok (.iconst 0, 1) := by decide +kernel
theorem dX6_howMany_30 : decode cX6_howMany 30 = .ok (.iadd, 1) := by decide +kernel
theorem dX6_howMany_31 : decode cX6_howMany 31 = .ok (.istore_n 2, 1) := by decide +kernel
theorem dX6_howMany_32 : decode cX6_howMany 32 = .ok (.iinc 3 1, 3) := by decide +kernel
theorem dX6_howMany_35 : decode cX6_howMany 35 = .ok (.goto (-31), 3) := by decide +kernel
theorem dX6_howMany_38 : decode cX6_howMany 38 = .ok (.iload_n 2, 1) := by decide +kernel
theorem dX6_howMany_39 : decode cX6_howMany 39 = .ok (.ireturn, 1) := by decide +kernel
theorem dX6_count_0 : decode cX6_count 0 = .ok (.iload_n 1, 1) := by decide +kernel
theorem dX6_count_1 : decode cX6_count 1 = .ok (.tableswitch 107 0 8 #[51, 56, 65, 71, 77, 83, 92, 97, 102], 51) := by decide +kernel
theorem dX6_count_52 : decode cX6_count 52 = .ok (.aload_n 0, 1) := by decide +kernel
theorem dX6_count_53 : decode cX6_count 53 = .ok (.getfield 142, 3) := by decide +kernel
theorem dX6_count_56 : decode cX6_count 56 = .ok (.ireturn, 1) := by decide +kernel
theorem dX6_count_57 : decode cX6_count 57 = .ok (.aload_n 0, 1) := by decide +kernel
theorem dX6_count_58 : decode cX6_count 58 = .ok (.getfield 49, 3) := by decide +kernel
theorem dX6_count_61 : decode cX6_count 61 = .ok (.sipush 144, 3) := by decide +kernel
theorem dX6_count_64 : decode cX6_count 64 = .ok (.iaload, 1) := by decide +kernel
theorem dX6_count_65 : decode cX6_count 65 = .ok (.ireturn, 1) := by decide +kernel
theorem dX6_count_66 : decode cX6_count 66 = .ok (.aload_n 0, 1) := by decide +kernel
theorem dX6_count_67 : decode cX6_count 67 = .ok (.iconst 1, 1) := by decide +kernel
theorem dX6_count_68 : decode cX6_count 68 = .ok (.invokevirtual 230, 3) := by decide +kernel
theorem dX6_count_71 : decode cX6_count 71 = .ok (.ireturn, 1) := by decide +kernel
theorem dX6_count_72 : decode cX6_count 72 = .ok (.aload_n 0, 1) := by decide +kernel
theorem dX6_count_73 : decode cX6_count 73 = .ok (.iconst 2, 1) := by decide +kernel
theorem dX6_count_74 : decode cX6_count 74 = .ok (.invokevirtual 230, 3) := by decide +kernel
theorem dX6_count_77 : decode cX6_count 77 = .ok (.ireturn, 1) := by decide +kernel
theorem dX6_count_78 : decode cX6_count 78 = .ok (.aload_n 0, 1) := by decide +kernel
theorem dX6_count_79 : decode cX6_count 79 = .ok (.iconst 3, 1) := by decide +kernel
theorem dX6_count_80 : decode cX6_count 80 = .ok (.invokevirtual 230, 3) := by decide +kernel
theorem dX6_count_83 : decode cX6_count 83 = .ok (.ireturn, 1) := by decide +kernel
theorem dX6_count_84 : decode cX6_count 84 = .ok (.aload_n 0, 1) := by decide +kernel
theorem dX6_count_85 : decode cX6_count 85 = .ok (.getfield 49, 3) := by decide +kernel
theorem dX6_count_88 : decode cX6_count 88 = .ok (.sipush 145, 3) := by decide +kernel
theorem dX6_count_91 : decode cX6_count 91 = .ok (.iaload, 1) := by decide +kernel
theorem dX6_count_92 : decode cX6_count 92 = .ok (.ireturn, 1) := by decide +kernel
theorem dX6_count_93 : decode cX6_count 93 = .ok (.aload_n 0, 1) := by decide +kernel
theorem dX6_count_94 : decode cX6_count 94 = .ok (.getfield 155, 3) := by decide +kernel
theorem dX6_count_97 : decode cX6_count 97 = .ok (.ireturn, 1) := by decide +kernel
theorem dX6_count_98 : decode cX6_count 98 = .ok (.aload_n 0, 1) := by decide +kernel
theorem dX6_count_99 : decode cX6_count 99 = .ok (.getfield 84, 3) := by decide +kernel
theorem dX6_count_102 : decode cX6_count 102 = .ok (.ireturn, 1) := by decide +kernel
theorem dX6_count_103 : decode cX6_count 103 = .ok (.aload_n 0, 1) := by decide +kernel
theorem dX6_count_104 : decode cX6_count 104 = .ok (.getfield 152, 3) := by decide +kernel
theorem dX6_count_107 : decode cX6_count 107 = .ok (.ireturn, 1) := by decide +kernel
theorem dX6_count_108 : decode cX6_count 108 = .ok (.iconst (-1), 1) := by decide +kernel
theorem dX6_count_109 : decode cX6_count 109 = .ok (.ireturn, 1) := by decide +kernel
