theorem dX11_put_25 : decode cX11_put 25 = .ok (.iconst 0, 1) := by decide +kernel
theorem dX11_put_26 : decode cX11_put 26 = .ok (.aload_n 0, 1) := by decide +kernel
theorem dX11_put_27 : decode cX11_put 27 = .ok (.getfield 22, 3) := by decide +kernel
theorem dX11_put_30 : decode cX11_put 30 = .ok (.iload_n 1, 1) := by decide +kernel
theorem dX11_put_31 : decode cX11_put 31 = .ok (.iaload, 1) := by decide +kernel
theorem dX11_put_32 : decode cX11_put 32 = .ok (.iconst 1, 1) := by decide +kernel
theorem dX11_put_33 : decode cX11_put 33 = .ok (.isub, 1) := by decide +kernel
theorem dX11_put_34 : decode cX11_put 34 = .ok (.invokestatic 75, 3) := by decide +kernel
theorem dX11_put_37 : decode cX11_put 37 = .ok (.ifCond .ne 9, 3) := by decide +kernel
theorem dX11_put_40 : decode cX11_put 40 = .ok (.aload_n 0, 1) := by decide +kernel
theorem dX11_put_41 : decode cX11_put 41 = .ok (.iconst 2, 1) := by decide +kernel
theorem dX11_put_42 : decode cX11_put 42 = .ok (.invokevirtual 83, 3) := by decide +kernel
theorem dX11_put_45 : decode cX11_put 45 = .ok (.ireturn, 1) := by decide +kernel
theorem dX11_put_46 : decode cX11_put 46 = .ok (.aload_n 0, 1) := by decide +kernel
theorem dX11_put_47 : decode cX11_put 47 = .ok (.getfield 25, 3) := by decide +kernel
theorem dX11_put_50 : decode cX11_put 50 = .ok (.bipush 120, 2) := by decide +kernel
theorem dX11_put_52 : decode cX11_put 52 = .ok (.iload_n 1, 1) := by decide +kernel
theorem dX11_put_53 : decode cX11_put 53 = .ok (.imul, 1) := by decide +kernel
theorem dX11_put_54 : decode cX11_put 54 = .ok (.iload_n 2, 1) := by decide +kernel
theorem dX11_put_55 : decode cX11_put 55 = .ok (.iadd, 1) := by decide +kernel
theorem dX11_put_56 : decode cX11_put 56 = .ok (.baload, 1) := by decide +kernel
theorem dX11_put_57 : decode cX11_put 57 = .ok (.istore 4, 2) := by decide +kernel
theorem dX11_put_59 : decode cX11_put 59 = .ok (.aload_n 0, 1) := by decide +kernel
theorem dX11_put_60 : decode cX11_put 60 = .ok (.getfield 25, 3) := by decide +kernel
theorem dX11_put_63 : decode cX11_put 63 = .ok (.bipush 120, 2) := by decide +kernel
theorem dX11_put_65 : decode cX11_put 65 = .ok (.iload_n 1, 1) := by decide +kernel
theorem dX11_put_66 : decode cX11_put 66 = .ok (.imul, 1) := by decide +kernel
theorem dX11_put_67 : decode cX11_put 67 = .ok (.iload_n 2, 1) := by decide +kernel
theorem dX11_put_68 : decode cX11_put 68 = .ok (.iadd, 1) := by decide +kernel
theorem dX11_put_69 : decode cX11_put 69 = .ok (.iload_n 3, 1) := by decide +kernel
theorem dX11_put_70 : decode cX11_put 70 = .ok (.i2b, 1) := by decide +kernel
theorem dX11_put_71 : decode cX11_put 71 = .ok (.bastore, 1) := by decide +kernel
theorem dX11_put_72 : decode cX11_put 72 = .ok (.sipush 1000, 3) := by decide +kernel
theorem dX11_put_75 : decode cX11_put 75 = .ok (.iload 4, 2) := by decide +kernel
theorem dX11_put_77 : decode cX11_put 77 = .ok (.iadd, 1) := by decide +kernel
theorem dX11_put_78 : decode cX11_put 78 = .ok (.ireturn, 1) := by decide +kernel
theorem dX11_byteAt_0 : decode cX11_byteAt 0 = .ok (.iload_n 2, 1) := by decide +kernel
theorem dX11_byteAt_1 : decode cX11_byteAt 1 = .ok (.aload_n 0, 1) := by decide +kernel
theorem dX11_byteAt_2 : decode cX11_byteAt 2 = .ok (.getfield 22, 3) := by decide +kernel
theorem dX11_byteAt_5 : decode cX11_byteAt 5 = .ok (.iload_n 1, 1) := by decide +kernel
theorem dX11_byteAt_6 : decode cX11_byteAt 6 = .ok (.iaload, 1) := by decide +kernel
theorem dX11_byteAt_7 : decode cX11_byteAt 7 = .ok (.if_icmp .ge 17, 3) := by decide +kernel
theorem dX11_byteAt_10 : decode cX11_byteAt 10 = .ok (.aload_n 0, 1) := by decide +kernel
theorem dX11_byteAt_11 : decode cX11_byteAt 11 = .ok (.getfield 25, 3) := by decide +kernel
theorem dX11_byteAt_14 : decode cX11_byteAt 14 = .ok (.bipush 120, 2) := by decide +kernel
theorem dX11_byteAt_16 : decode cX11_byteAt 16 = .ok (.iload_n 1, 1) := by decide +kernel
theorem dX11_byteAt_17 : decode cX11_byteAt 17 = .ok (.imul, 1) := by decide +kernel
theorem dX11_byteAt_18 : decode cX11_byteAt 18 = .ok (.iload_n 2, 1) := by decide +kernel
theorem dX11_byteAt_19 : decode cX11_byteAt 19 = .ok (.iadd, 1) := by decide +kernel
theorem dX11_byteAt_20 : decode cX11_byteAt 20 = .ok (.baload, 1) := by decide +kernel
theorem dX11_byteAt_21 : decode cX11_byteAt 21 = .ok (.goto 4, 3) := by decide +kernel
theorem dX11_byteAt_24 : decode cX11_byteAt 24 = .ok (.iconst (-1), 1) := by decide +kernel
theorem dX11_byteAt_25 : decode cX11_byteAt 25 = .ok (.ireturn, 1) := by decide +kernel
theorem dX11_blanks_0 : decode cX11_blanks 0 = .ok (.aload_n 0, 1) := by decide +kernel
theorem dX11_blanks_1 : decode cX11_blanks 1 = .ok (.iload_n 1, 1) := by decide +kernel
theorem dX11_blanks_2 : decode cX11_blanks 2 = .ok (.aload_n 0, 1) := by decide +kernel
theorem dX11_blanks_3 : decode cX11_blanks 3 = .ok (.getfield 97, 3) := by decide +kernel
theorem dX11_blanks_6 : decode cX11_blanks 6 = .ok (.invokevirtual 100, 3) := by decide +kernel
theorem dX11_blanks_9 : decode cX11_blanks 9 = .ok (.bipush 32, 2) := by decide +kernel
theorem dX11_blanks_11 : decode cX11_blanks 11 = .ok (.if_icmp .ne 16, 3) := by decide +kernel
theorem dX11_blanks_14 : decode cX11_blanks 14 = .ok (.aload_n 0, 1) := by decide +kernel
theorem dX11_blanks_15 : decode cX11_blanks 15 = .ok (.dup, 1) := by decide +kernel
theorem dX11_blanks_16 : decode cX11_blanks 16 = .ok (.getfield 97, 3) := by decide +kernel
theorem dX11_blanks_19 : decode cX11_blanks 19 = .ok (.iconst 1, 1) := by decide +kernel
theorem dX11_blanks_20 : decode cX11_blanks 20 = .ok (.iadd, 1) := by decide +kernel
theorem dX11_blanks_21 : decode cX11_blanks 21 = .ok (.putfield 97, 3) := by decide +kernel
theorem dX11_blanks_24 : decode cX11_blanks 24 = .ok (.goto (-24), 3) := by decide +kernel
theorem dX11_blanks_27 : decode cX11_blanks 27 = .ok (.return_, 1) := by decide +kernel
theorem dX11_isLetter_0 : decode cX11_isLetter 0 = .ok (.aload_n 0, 1) := by decide +kernel
theorem dX11_isLetter_1 : decode cX11_isLetter 1 = .ok (.getfield 97, 3) := by decide +kernel
theorem dX11_isLetter_4 : decode cX11_isLetter 4 = .ok (.aload_n 0, 1) := by decide +kernel
theorem dX11_isLetter_5 : decode cX11_isLetter 5 = .ok (.getfield 22, 3) := by decide +kernel
theorem dX11_isLetter_8 : decode cX11_isLetter 8 = .ok (.iload_n 1, 1) := by decide +kernel
theorem dX11_isLetter_9 : decode cX11_isLetter 9 = .ok (.iaload, 1) := by decide +kernel
theorem dX11_isLetter_10 : decode cX11_isLetter 10 = .ok (.if_icmp .ge 26, 3) := by decide +kernel
theorem dX11_isLetter_13 : decode cX11_isLetter 13 = .ok (.aload_n 0, 1) := by decide +kernel
theorem dX11_isLetter_14 : decode cX11_isLetter 14 = .ok (.iload_n 1, 1) := by decide +kernel
theorem dX11_isLetter_15 : decode cX11_isLetter 15 = .ok (.aload_n 0, 1) := by decide +kernel
theorem dX11_isLetter_16 : decode cX11_isLetter 16 = .ok (.getfield 97, 3) := by decide +kernel
theorem dX11_isLetter_19 : decode cX11_isLetter 19 = .ok (.invokevirtual 100, 3) := by decide +kernel
theorem dX11_isLetter_22 : decode cX11_isLetter 22 = .ok (.bipush 97, 2) := by decide +kernel
theorem dX11_isLetter_24 : decode cX11_isLetter 24 = .ok (.bipush 122, 2) := by decide +kernel
theorem dX11_isLetter_26 : decode cX11_isLetter 26 = .ok (.invokestatic 75, 3) := by decide +kernel
theorem dX11_isLetter_29 : decode cX11_isLetter 29 = .ok (.ifCond .eq 7, 3) := by decide +kernel
theorem dX11_isLetter_32 : decode cX11_isLetter 32 = .ok (.iconst 1, 1) := by decide +kernel
theorem dX11_isLetter_33 : decode cX11_isLetter 33 = .ok (.goto 4, 3) := by decide +kernel
theorem dX11_isLetter_36 : decode cX11_isLetter 36 = .ok (.iconst 0, 1) := by decide +kernel
theorem dX11_isLetter_37 : decode cX11_isLetter 37 = .ok (.ireturn, 1) := by decide +kernel
theorem dX11_isFigure_0 : decode cX11_isFigure 0 = .ok (.aload_n 0, 1) := by decide +kernel
theorem dX11_isFigure_1 : decode cX11_isFigure 1 = .ok (.getfield 97, 3) := by decide +kernel
theorem dX11_isFigure_4 : decode cX11_isFigure 4 = .ok (.aload_n 0, 1) := by decide +kernel
theorem dX11_isFigure_5 : decode cX11_isFigure 5 = .ok (.getfield 22, 3) := by decide +kernel
theorem dX11_isFigure_8 : decode cX11_isFigure 8 = .ok (.iload_n 1, 1) := by decide +kernel
theorem dX11_isFigure_9 : decode cX11_isFigure 9 = .ok (.iaload, 1) := by decide +kernel
theorem dX11_isFigure_10 : decode cX11_isFigure 10 = .ok (.if_icmp .ge 26, 3) := by decide +kernel
theorem dX11_isFigure_13 : decode cX11_isFigure 13 = .ok (.aload_n 0, 1) := by decide +kernel
theorem dX11_isFigure_14 : decode cX11_isFigure 14 = .ok (.iload_n 1, 1) := by decide +kernel
theorem dX11_isFigure_15 : decode cX11_isFigure 15 = .ok (.aload_n 0, 1) := by decide +kernel
theorem dX11_isFigure_16 : decode cX11_isFigure 16 = .ok (.getfield 97, 3) := by decide +kernel
theorem dX11_isFigure_19 : decode cX11_isFigure 19 = .ok (.invokevirtual 100, 3) := by decide +kernel
theorem dX11_isFigure_22 : decode cX11_isFigure 22 = .ok (.bipush 48, 2) := by decide +kernel
theorem dX11_isFigure_24 : decode cX11_isFigure 24 = .ok (.bipush 57, 2) := by decide +kernel
theorem dX11_isFigure_26 : decode cX11_isFigure 26 = .ok (.invokestatic 75, 3) := by decide +kernel
theorem dX11_isFigure_29 : decode cX11_isFigure 29 = .ok (.ifCond .eq 7, 3) := by decide +kernel
theorem dX11_isFigure_32 : decode cX11_isFigure 32 = .ok (.iconst 1, 1) := by decide +kernel
theorem dX11_isFigure_33 : decode cX11_isFigure 33 = .ok (.goto 4, 3) := by decide +kernel
theorem dX11_isFigure_36 : decode cX11_isFigure 36 = .ok (.iconst 0, 1) := by decide +kernel
theorem dX11_isFigure_37 : decode cX11_isFigure 37 = .ok (.ireturn, 1) := by decide +kernel
theorem dX11_next_0 : decode cX11_next 0 = .ok (.aload_n 0, 1) := by decide +kernel
theorem dX11_next_1 : decode cX11_next 1 = .ok (.iload_n 1, 1) := by decide +kernel
theorem dX11_next_2 : decode cX11_next 2 = .ok (.invokevirtual 103, 3) := by decide +kernel
theorem dX11_next_5 : decode cX11_next 5 = .ok (.aload_n 0, 1) := by decide +kernel
theorem dX11_next_6 : decode cX11_next 6 = .ok (.aload_n 0, 1) := by decide +kernel
theorem dX11_next_7 : decode cX11_next 7 = .ok (.getfield 97, 3) := by decide +kernel
theorem dX11_next_10 : decode cX11_next 10 = .ok (.putfield 107, 3) := by decide +kernel
theorem dX11_next_13 : decode cX11_next 13 = .ok (.aload_n 0, 1) := by decide +kernel
theorem dX11_next_14 : decode cX11_next 14 = .ok (.getfield 97, 3) := by decide +kernel
theorem dX11_next_17 : decode cX11_next 17 = .ok (.aload_n 0, 1) := by decide +kernel
theorem dX11_next_18 : decode cX11_next 18 = .ok (.getfield 22, 3) := by decide +kernel
theorem dX11_next_21 : decode cX11_next 21 = .ok (.iload_n 1, 1) := by decide +kernel
theorem dX11_next_22 : decode cX11_next 22 = .ok (.iaload, 1) := by decide +kernel
theorem dX11_next_23 : decode cX11_next 23 = .ok (.if_icmp .ne 11, 3) := by decide +kernel
theorem dX11_next_26 : decode cX11_next 26 = .ok (.aload_n 0, 1) := by decide +kernel
theorem dX11_next_27 : decode cX11_next 27 = .ok (.iconst 0, 1) := by decide +kernel
theorem dX11_next_28 : decode cX11_next 28 = .ok (.putfield 110, 3) := by decide +kernel
theorem dX11_next_31 : decode cX11_next 31 = .ok (.goto 148, 3) := by decide +kernel
theorem dX11_next_34 : decode cX11_next 34 = .ok (.aload_n 0, 1) := by decide +kernel
theorem dX11_next_35 : decode cX11_next 35 = .ok (.iload_n 1, 1) := by decide +kernel
theorem dX11_next_36 : decode cX11_next 36 = .ok (.invokevirtual 113, 3) := by decide +kernel
theorem dX11_next_39 : decode cX11_next 39 = .ok (.ifCond .eq 29, 3) := by decide +kernel
theorem dX11_next_42 : decode cX11_next 42 = .ok (.aload_n 0, 1) := by decide +kernel
theorem dX11_next_43 : decode cX11_next 43 = .ok (.iconst 1, 1) := by decide +kernel
theorem dX11_next_44 : decode cX11_next 44 = .ok (.putfield 110, 3) := by decide +kernel
theorem dX11_next_47 : decode cX11_next 47 = .ok (.aload_n 0, 1) := by decide +kernel
theorem dX11_next_48 : decode cX11_next 48 = .ok (.iload_n 1, 1) := by decide +kernel
theorem dX11_next_49 : decode cX11_next 49 = .ok (.invokevirtual 113, 3) := by decide +kernel
theorem dX11_next_52 : decode cX11_next 52 = .ok (.ifCond .eq 127, 3) := by decide +kernel
theorem dX11_next_55 : decode cX11_next 55 = .ok (.aload_n 0, 1) := by decide +kernel
theorem dX11_next_56 : decode cX11_next 56 = .ok (.dup, 1) := by decide +kernel
theorem dX11_next_57 : decode cX11_next 57 = .ok (.getfield 97, 3) := by decide +kernel
theorem dX11_next_60 : decode cX11_next 60 = .ok (.iconst 1, 1) := by decide +kernel
theorem dX11_next_61 : decode cX11_next 61 = .ok (.iadd, 1) := by decide +kernel
theorem dX11_next_62 : decode cX11_next 62 = .ok (.putfield 97, 3) := by decide +kernel
theorem dX11_next_65 : decode cX11_next 65 = .ok (.goto (-18), 3) := by decide +kernel
theorem dX11_next_68 : decode cX11_next 68 = .ok (.aload_n 0, 1) := by decide +kernel
theorem dX11_next_69 : decode cX11_next 69 = .ok (.iload_n 1, 1) := by decide +kernel
theorem dX11_next_70 : decode cX11_next 70 = .ok (.invokevirtual 116, 3) := by decide +kernel
theorem dX11_next_73 : decode cX11_next 73 = .ok (.ifCond .eq 73, 3) := by decide +kernel
theorem dX11_next_76 : decode cX11_next 76 = .ok (.aload_n 0, 1) := by decide +kernel
theorem dX11_next_77 : decode cX11_next 77 = .ok (.iconst 2, 1) := by decide +kernel
theorem dX11_next_78 : decode cX11_next 78 = .ok (.putfield 110, 3) := by decide +kernel
theorem dX11_next_81 : decode cX11_next 81 = .ok (.aload_n 0, 1) := by decide +kernel
theorem dX11_next_82 : decode cX11_next 82 = .ok (.iconst 0, 1) := by decide +kernel
theorem dX11_next_83 : decode cX11_next 83 = .ok (.putfield 119, 3) := by decide +kernel
theorem dX11_next_86 : decode cX11_next 86 = .ok (.aload_n 0, 1) := by decide +kernel
theorem dX11_next_87 : decode cX11_next 87 = .ok (.iload_n 1, 1) := by decide +kernel
theorem dX11_next_88 : decode cX11_next 88 = .ok (.invokevirtual 116, 3) := by decide +kernel
theorem dX11_next_91 : decode cX11_next 91 = .ok (.ifCond .eq 88, 3) := by decide +kernel
theorem dX11_next_94 : decode cX11_next 94 = .ok (.aload_n 0, 1) := by decide +kernel
theorem dX11_next_95 : decode cX11_next 95 = .ok (.aload_n 0, 1) := by decide +kernel
theorem dX11_next_96 : decode cX11_next 96 = .ok (.getfield 119, 3) := by decide +kernel
theorem dX11_next_99 : decode cX11_next 99 = .ok (.bipush 99, 2) := by decide +kernel
theorem dX11_next_101 : decode cX11_next 101 = .ok (.if_icmp .le 9, 3) := by decide +kernel
theorem dX11_next_104 : decode cX11_next 104 = .ok (.sipush 1000, 3) := by decide +kernel
theorem dX11_next_107 : decode cX11_next 107 = .ok (.goto 23, 3) := by decide +kernel
theorem dX11_next_110 : decode cX11_next 110 = .ok (.bipush 10, 2) := by decide +kernel
theorem dX11_next_112 : decode cX11_next 112 = .ok (.aload_n 0, 1) := by decide +kernel
theorem dX11_next_113 : decode cX11_next 113 = .ok (.getfield 119, 3) := by decide +kernel
theorem dX11_next_116 : decode cX11_next 116 = .ok (.imul, 1) := by decide +kernel
theorem dX11_next_117 : decode cX11_next 117 = .ok (.aload_n 0, 1) := by decide +kernel
theorem dX11_next_118 : decode cX11_next 118 = .ok (.iload_n 1, 1) := by decide +kernel
theorem dX11_next_119 : decode cX11_next 119 = .ok (.aload_n 0, 1) := by decide +kernel
theorem dX11_next_120 : decode cX11_next 120 = .ok (.getfield 97, 3) := by decide +kernel
theorem dX11_next_123 : decode cX11_next 123 = .ok (.invokevirtual 100, 3) := by decide +kernel
theorem dX11_next_126 : decode cX11_next 126 = .ok (.iadd, 1) := by decide +kernel
theorem dX11_next_127 : decode cX11_next 127 = .ok (.bipush 48, 2) := by decide +kernel
theorem dX11_next_129 : decode cX11_next 129 = .ok (.isub, 1) := by decide +kernel
theorem dX11_next_130 : decode cX11_next 130 = .ok (.putfield 119, 3) := by decide +kernel
theorem dX11_next_133 : decode cX11_next 133 = .ok (.aload_n 0, 1) := by decide +kernel
theorem dX11_next_134 : decode cX11_next 134 = .ok (.dup, 1) := by decide +kernel
theorem dX11_next_135 : decode cX11_next 135 = .ok (.getfield 97, 3) := by decide +kernel
theorem dX11_next_138 : decode cX11_next 138 = .ok (.iconst 1, 1) := by decide +kernel
theorem dX11_next_139 : decode cX11_next 139 = .ok (.iadd, 1) := by decide +kernel
theorem dX11_next_140 : decode cX11_next 140 = .ok (.putfield 97, 3) := by decide +kernel
theorem dX11_next_143 : decode cX11_next 143 = .ok (.goto (-57), 3) := by decide +kernel
theorem dX11_next_146 : decode cX11_next 146 = .ok (.aload_n 0, 1) := by decide +kernel
theorem dX11_next_147 : decode cX11_next 147 = .ok (.aload_n 0, 1) := by decide +kernel
theorem dX11_next_148 : decode cX11_next 148 = .ok (.iload_n 1, 1) := by decide +kernel
theorem dX11_next_149 : decode cX11_next 149 = .ok (.aload_n 0, 1) := by decide +kernel
theorem dX11_next_150 : decode cX11_next 150 = .ok (.getfield 97, 3) := by decide +kernel
theorem dX11_next_153 : decode cX11_next 153 = .ok (.invokevirtual 100, 3) := by decide +kernel
theorem dX11_next_156 : decode cX11_next 156 = .ok (.bipush 59, 2) := by decide +kernel
theorem dX11_next_158 : decode cX11_next 158 = .ok (.if_icmp .ne 7, 3) := by decide +kernel
theorem dX11_next_161 : decode cX11_next 161 = .ok (.iconst 3, 1) := by decide +kernel
theorem dX11_next_162 : decode cX11_next 162 = .ok (.goto 4, 3) := by decide +kernel
theorem dX11_next_165 : decode cX11_next 165 = .ok (.iconst 4, 1) := by decide +kernel
theorem dX11_next_166 : decode cX11_next 166 = .ok (.putfield 110, 3) := by decide +kernel
theorem dX11_next_169 : decode cX11_next 169 = .ok (.aload_n 0, 1) := by decide +kernel
theorem dX11_next_170 : decode cX11_next 170 = .ok (.dup, 1) := by decide +kernel
theorem dX11_next_171 : decode cX11_next 171 = .ok (.getfield 97, 3) := by decide +kernel
theorem dX11_next_174 : decode cX11_next 174 = .ok (.iconst 1, 1) := by decide +kernel
theorem dX11_next_175 : decode cX11_next 175 = .ok (.iadd, 1) := by decide +kernel
theorem dX11_next_176 : decode cX11_next 176 = .ok (.putfield 97, 3) := by decide +kernel
theorem dX11_next_179 : decode cX11_next 179 = .ok (.return_, 1) := by decide +kernel
theorem dX11_fails_0 : decode cX11_fails 0 = .ok (.aload_n 0, 1) := by decide +kernel
theorem dX11_fails_1 : decode cX11_fails 1 = .ok (.aload_n 0, 1) := by decide +kernel
theorem dX11_fails_2 : decode cX11_fails 2 = .ok (.getfield 107, 3) := by decide +kernel
theorem dX11_fails_5 : decode cX11_fails 5 = .ok (.putfield 122, 3) := by decide +kernel
theorem dX11_fails_8 : decode cX11_fails 8 = .ok (.iconst 0, 1) := by decide +kernel
theorem dX11_fails_9 : decode cX11_fails 9 = .ok (.ireturn, 1) := by decide +kernel
theorem dX11_word_0 : decode cX11_word 0 = .ok (.iconst 0, 1) := by decide +kernel
theorem dX11_word_1 : decode cX11_word 1 = .ok (.istore_n 2, 1) := by decide +kernel
theorem dX11_word_2 : decode cX11_word 2 = .ok (.aload_n 0, 1) := by decide +kernel
theorem dX11_word_3 : decode cX11_word 3 = .ok (.getfield 107, 3) := by decide +kernel
theorem dX11_word_6 : decode cX11_word 6 = .ok (.istore_n 3, 1) := by decide +kernel
theorem dX11_word_7 : decode cX11_word 7 = .ok (.iload_n 3, 1) := by decide +kernel
theorem dX11_word_8 : decode cX11_word 8 = .ok (.aload_n 0, 1) := by decide +kernel
theorem dX11_word_9 : decode cX11_word 9 = .ok (.getfield 97, 3) := by decide +kernel
theorem dX11_word_12 : decode cX11_word 12 = .ok (.if_icmp .ge 35, 3) := by decide +kernel
theorem dX11_word_15 : decode cX11_word 15 = .ok (.iload_n 3, 1) := by decide +kernel
theorem dX11_word_16 : decode cX11_word 16 = .ok (.aload_n 0, 1) := by decide +kernel
theorem dX11_word_17 : decode cX11_word 17 = .ok (.getfield 107, 3) := by decide +kernel
theorem dX11_word_20 : decode cX11_word 20 = .ok (.bipush 6, 2) := by decide +kernel
theorem dX11_word_22 : decode cX11_word 22 = .ok (.iadd, 1) := by decide +kernel
theorem dX11_word_23 : decode cX11_word 23 = .ok (.if_icmp .ge 24, 3) := by decide +kernel
theorem dX11_word_26 : decode cX11_word 26 = .ok (.bipush 27, 2) := by decide +kernel
theorem dX11_word_28 : decode cX11_word 28 = .ok (.iload_n 2, 1) := by decide +kernel
theorem dX11_word_29 : decode cX11_word 29 = .ok (.imul, 1) := by decide +kernel
theorem dX11_word_30 : decode cX11_word 30 = .ok (.aload_n 0, 1) := by decide +kernel
theorem dX11_word_31 : decode cX11_word 31 = .ok (.iload_n 1, 1) := by decide +kernel
theorem dX11_word_32 : decode cX11_word 32 = .ok (.iload_n 3, 1) := by decide +kernel
theorem dX11_word_33 : decode cX11_word 33 = .ok (.invokevirtual 100, 3) := by decide +kernel
theorem dX11_word_36 : decode cX11_word 36 = .ok (.iadd, 1) := by decide +kernel
theorem dX11_word_37 : decode cX11_word 37 = .ok (.bipush 96, 2) := by decide +kernel
theorem dX11_word_39 : decode cX11_word 39 = .ok (.isub, 1) := by decide +kernel
theorem dX11_word_40 : decode cX11_word 40 = .ok (.istore_n 2, 1) := by decide +kernel
theorem dX11_word_41 : decode cX11_word 41 = .ok (.iinc 3 1, 3) := by decide +kernel
theorem dX11_word_44 : decode cX11_word 44 = .ok (.goto (-37), 3) := by decide +kernel
theorem dX11_word_47 : decode cX11_word 47 = .ok (.aload_n 0, 1) := by decide +kernel
theorem dX11_word_48 : decode cX11_word 48 = .ok (.getfield 97, 3) := by decide +kernel
theorem dX11_word_51 : decode cX11_word 51 = .ok (.aload_n 0, 1) := by decide +kernel
theorem dX11_word_52 : decode cX11_word 52 = .ok (.getfield 107, 3) := by decide +kernel
theorem dX11_word_55 : decode cX11_word 55 = .ok (.isub, 1) := by decide +kernel
theorem dX11_word_56 : decode cX11_word 56 = .ok (.bipush 6, 2) := by decide +kernel
theorem dX11_word_58 : decode cX11_word 58 = .ok (.if_icmp .le 7, 3) := by decide +kernel
theorem dX11_word_61 : decode cX11_word 61 = .ok (.iconst 0, 1) := by decide +kernel
theorem dX11_word_62 : decode cX11_word 62 = .ok (.goto 4, 3) := by decide +kernel
theorem dX11_word_65 : decode cX11_word 65 = .ok (.iload_n 2, 1) := by decide +kernel
theorem dX11_word_66 : decode cX11_word 66 = .ok (.ireturn, 1) := by decide +kernel
theorem dX11_number_0 : decode cX11_number 0 = .ok (.aload_n 0, 1) := by decide +kernel
theorem dX11_number_1 : decode cX11_number 1 = .ok (.iload_n 1, 1) := by decide +kernel
theorem dX11_number_2 : decode cX11_number 2 = .ok (.invokevirtual 125, 3) := by decide +kernel
theorem dX11_number_5 : decode cX11_number 5 = .ok (.aload_n 0, 1) := by decide +kernel
theorem dX11_number_6 : decode cX11_number 6 = .ok (.getfield 110, 3) := by decide +kernel
theorem dX11_number_9 : decode cX11_number 9 = .ok (.iconst 2, 1) := by decide +kernel
theorem dX11_number_10 : decode cX11_number 10 = .ok (.if_icmp .ne 15, 3) := by decide +kernel
theorem dX11_number_13 : decode cX11_number 13 = .ok (.aload_n 0, 1) := by decide +kernel
theorem dX11_number_14 : decode cX11_number 14 = .ok (.getfield 119, 3) := by decide +kernel
theorem dX11_number_17 : decode cX11_number 17 = .ok (.iload_n 2, 1) := by decide +kernel
theorem dX11_number_18 : decode cX11_number 18 = .ok (.iload_n 3, 1) := by decide +kernel
theorem dX11_number_19 : decode cX11_number 19 = .ok (.invokestatic 75, 3) := by decide +kernel
theorem dX11_number_22 : decode cX11_number 22 = .ok (.ifCond .ne 10, 3) := by decide +kernel
theorem dX11_number_25 : decode cX11_number 25 = .ok (.aload_n 0, 1) := by decide +kernel
theorem dX11_number_26 : decode cX11_number 26 = .ok (.invokevirtual 128, 3) := by decide +kernel
theorem dX11_number_29 : decode cX11_number 29 = .ok (.ifCond .eq 7, 3) := by decide +kernel
theorem dX11_number_32 : decode cX11_number 32 = .ok (.iconst 1, 1) := by decide +kernel
theorem dX11_number_33 : decode cX11_number 33 = .ok (.goto 4, 3) := by decide +kernel
theorem dX11_number_36 : decode cX11_number 36 = .ok (.iconst 0, 1) := by decide +kernel
theorem dX11_number_37 : decode cX11_number 37 = .ok (.ireturn, 1) := by decide +kernel
theorem dX11_ends_0 : decode cX11_ends 0 = .ok (.aload_n 0, 1) := by decide +kernel
theorem dX11_ends_1 : decode cX11_ends 1 = .ok (.iload_n 1, 1) := by decide +kernel
theorem dX11_ends_2 : decode cX11_ends 2 = .ok (.invokevirtual 125, 3) := by decide +kernel
theorem dX11_ends_5 : decode cX11_ends 5 = .ok (.aload_n 0, 1) := by decide +kernel
theorem dX11_ends_6 : decode cX11_ends 6 = .ok (.getfield 110, 3) := by decide +kernel
theorem dX11_ends_9 : decode cX11_ends 9 = .ok (.iconst 3, 1) := by decide +kernel
theorem dX11_ends_10 : decode cX11_ends 10 = .ok (.if_icmp .eq 10, 3) := by decide +kernel
theorem dX11_ends_13 : decode cX11_ends 13 = .ok (.aload_n 0, 1) := by decide +kernel
theorem dX11_ends_14 : decode cX11_ends 14 = .ok (.invokevirtual 128, 3) := by decide +kernel
theorem dX11_ends_17 : decode cX11_ends 17 = .ok (.ifCond .eq 7, 3) := by decide +kernel
theorem dX11_ends_20 : decode cX11_ends 20 = .ok (.iconst 1, 1) := by decide +kernel
theorem dX11_ends_21 : decode cX11_ends 21 = .ok (.goto 4, 3) := by decide +kernel
theorem dX11_ends_24 : decode cX11_ends 24 = .ok (.iconst 0, 1) := by decide +kernel
theorem dX11_ends_25 : decode cX11_ends 25 = .ok (.ireturn, 1) := by decide +kernel
theorem dX11_readsPage_0 : decode cX11_readsPage 0 = .ok (.aload_n 0, 1) := by decide +kernel
theorem dX11_readsPage_1 : decode cX11_readsPage 1 = .ok (.iload_n 1, 1) := by decide +kernel
theorem dX11_readsPage_2 : decode cX11_readsPage 2 = .ok (.iconst 4, 1) := by decide +kernel
theorem dX11_readsPage_3 : decode cX11_readsPage 3 = .ok (.bipush 16, 2) := by decide +kernel
theorem dX11_readsPage_5 : decode cX11_readsPage 5 = .ok (.invokevirtual 132, 3) := by decide +kernel
theorem dX11_readsPage_8 : decode cX11_readsPage 8 = .ok (.ifCond .ne 5, 3) := by decide +kernel
theorem dX11_readsPage_11 : decode cX11_readsPage 11 = .ok (.iconst 0, 1) := by decide +kernel
theorem dX11_readsPage_12 : decode cX11_readsPage 12 = .ok (.ireturn, 1) := by decide +kernel
theorem dX11_readsPage_13 : decode cX11_readsPage 13 = .ok (.aload_n 0, 1) := by decide +kernel
theorem dX11_readsPage_14 : decode cX11_readsPage 14 = .ok (.aload_n 0, 1) := by decide +kernel
theorem dX11_readsPage_15 : decode cX11_readsPage 15 = .ok (.getfield 119, 3) := by decide +kernel
theorem dX11_readsPage_18 : decode cX11_readsPage 18 = .ok (.putfield 135, 3) := by decide +kernel
theorem dX11_readsPage_21 : decode cX11_readsPage 21 = .ok (.aload_n 0, 1) := by decide +kernel
theorem dX11_readsPage_22 : decode cX11_readsPage 22 = .ok (.iload_n 1, 1) := by decide +kernel
theorem dX11_readsPage_23 : decode cX11_readsPage 23 = .ok (.iconst 4, 1) := by decide +kernel
theorem dX11_readsPage_24 : decode cX11_readsPage 24 = .ok (.bipush 16, 2) := by decide +kernel
theorem dX11_readsPage_26 : decode cX11_readsPage 26 = .ok (.invokevirtual 132, 3) := by decide +kernel
theorem dX11_readsPage_29 : decode cX11_readsPage 29 = .ok (.ifCond .ne 5, 3) := by decide +kernel
theorem dX11_readsPage_32 : decode cX11_readsPage 32 = .ok (.iconst 0, 1) := by decide +kernel
theorem dX11_readsPage_33 : decode cX11_readsPage 33 = .ok (.ireturn, 1) := by decide +kernel
theorem dX11_readsPage_34 : decode cX11_readsPage 34 = .ok (.aload_n 0, 1) := by decide +kernel
theorem dX11_readsPage_35 : decode cX11_readsPage 35 = .ok (.aload_n 0, 1) := by decide +kernel
theorem dX11_readsPage_36 : decode cX11_readsPage 36 = .ok (.getfield 119, 3) := by decide +kernel
theorem dX11_readsPage_39 : decode cX11_readsPage 39 = .ok (.putfield 138, 3) := by decide +kernel
theorem dX11_readsPage_42 : decode cX11_readsPage 42 = .ok (.aload_n 0, 1) := by decide +kernel
theorem dX11_readsPage_43 : decode cX11_readsPage 43 = .ok (.iload_n 1, 1) := by decide +kernel
theorem dX11_readsPage_44 : decode cX11_readsPage 44 = .ok (.invokevirtual 141, 3) := by decide +kernel
theorem dX11_readsPage_47 : decode cX11_readsPage 47 = .ok (.ireturn, 1) := by decide +kernel
theorem dX11_readsBleed_0 : decode cX11_readsBleed 0 = .ok (.aload_n 0, 1) := by decide +kernel
theorem dX11_readsBleed_1 : decode cX11_readsBleed 1 = .ok (.getfield 144, 3) := by decide +kernel
theorem dX11_readsBleed_4 : decode cX11_readsBleed 4 = .ok (.ifCond .lt 8, 3) := by decide +kernel
theorem dX11_readsBleed_7 : decode cX11_readsBleed 7 = .ok (.aload_n 0, 1) := by decide +kernel
theorem dX11_readsBleed_8 : decode cX11_readsBleed 8 = .ok (.invokevirtual 128, 3) := by decide +kernel
theorem dX11_readsBleed_11 : decode cX11_readsBleed 11 = .ok (.ireturn, 1) := by decide +kernel
theorem dX11_readsBleed_12 : decode cX11_readsBleed 12 = .ok (.aload_n 0, 1) := by decide +kernel
theorem dX11_readsBleed_13 : decode cX11_readsBleed 13 = .ok (.iload_n 1, 1) := by decide +kernel
theorem dX11_readsBleed_14 : decode cX11_readsBleed 14 = .ok (.iconst 0, 1) := by decide +kernel
theorem dX11_readsBleed_15 : decode cX11_readsBleed 15 = .ok (.iconst 2, 1) := by decide +kernel
theorem dX11_readsBleed_16 : decode cX11_readsBleed 16 = .ok (.invokevirtual 132, 3) := by decide +kernel
theorem dX11_readsBleed_19 : decode cX11_readsBleed 19 = .ok (.ifCond .ne 5, 3) := by decide +kernel
theorem dX11_readsBleed_22 : decode cX11_readsBleed 22 = .ok (.iconst 0, 1) := by decide +kernel
theorem dX11_readsBleed_23 : decode cX11_readsBleed 23 = .ok (.ireturn, 1) := by decide +kernel
theorem dX11_readsBleed_24 : decode cX11_readsBleed 24 = .ok (.aload_n 0, 1) := by decide +kernel
theorem dX11_readsBleed_25 : decode cX11_readsBleed 25 = .ok (.aload_n 0, 1) := by decide +kernel
theorem dX11_readsBleed_26 : decode cX11_readsBleed 26 = .ok (.getfield 119, 3) := by decide +kernel
theorem dX11_readsBleed_29 : decode cX11_readsBleed 29 = .ok (.putfield 144, 3) := by decide +kernel
theorem dX11_readsBleed_32 : decode cX11_readsBleed 32 = .ok (.aload_n 0, 1) := by decide +kernel
theorem dX11_readsBleed_33 : decode cX11_readsBleed 33 = .ok (.iload_n 1, 1) := by decide +kernel
theorem dX11_readsBleed_34 : decode cX11_readsBleed 34 = .ok (.invokevirtual 141, 3) := by decide +kernel
theorem dX11_readsBleed_37 : decode cX11_readsBleed 37 = .ok (.ireturn, 1) := by decide +kernel
theorem dX11_readsFrame_0 : decode cX11_readsFrame 0 = .ok (.aload_n 0, 1) := by decide +kernel
theorem dX11_readsFrame_1 : decode cX11_readsFrame 1 = .ok (.getfield 147, 3) := by decide +kernel
theorem dX11_readsFrame_4 : decode cX11_readsFrame 4 = .ok (.bipush 8, 2) := by decide +kernel
theorem dX11_readsFrame_6 : decode cX11_readsFrame 6 = .ok (.if_icmp .ne 8, 3) := by decide +kernel
theorem dX11_readsFrame_9 : decode cX11_readsFrame 9 = .ok (.aload_n 0, 1) := by decide +kernel
theorem dX11_readsFrame_10 : decode cX11_readsFrame 10 = .ok (.invokevirtual 128, 3) := by decide +kernel
theorem dX11_readsFrame_13 : decode cX11_readsFrame 13 = .ok (.ireturn, 1) := by decide +kernel
theorem dX11_readsFrame_14 : decode cX11_readsFrame 14 = .ok (.bipush 7, 2) := by decide +kernel
theorem dX11_readsFrame_16 : decode cX11_readsFrame 16 = .ok (.aload_n 0, 1) := by decide +kernel
theorem dX11_readsFrame_17 : decode cX11_readsFrame 17 = .ok (.getfield 147, 3) := by decide +kernel
theorem dX11_readsFrame_20 : decode cX11_readsFrame 20 = .ok (.imul, 1) := by decide +kernel
theorem dX11_readsFrame_21 : decode cX11_readsFrame 21 = .ok (.istore_n 3, 1) := by decide +kernel
theorem dX11_readsFrame_22 : decode cX11_readsFrame 22 = .ok (.aload_n 0, 1) := by decide +kernel
theorem dX11_readsFrame_23 : decode cX11_readsFrame 23 = .ok (.getfield 32, 3) := by decide +kernel
theorem dX11_readsFrame_26 : decode cX11_readsFrame 26 = .ok (.iload_n 3, 1) := by decide +kernel
theorem dX11_readsFrame_27 : decode cX11_readsFrame 27 = .ok (.iload_n 2, 1) := by decide +kernel
theorem dX11_readsFrame_28 : decode cX11_readsFrame 28 = .ok (.iastore, 1) := by decide +kernel
theorem dX11_readsFrame_29 : decode cX11_readsFrame 29 = .ok (.iconst 1, 1) := by decide +kernel
theorem dX11_readsFrame_30 : decode cX11_readsFrame 30 = .ok (.istore 4, 2) := by decide +kernel
theorem dX11_readsFrame_32 : decode cX11_readsFrame 32 = .ok (.iload 4, 2) := by decide +kernel
theorem dX11_readsFrame_34 : decode cX11_readsFrame 34 = .ok (.bipush 7, 2) := by decide +kernel
theorem dX11_readsFrame_36 : decode cX11_readsFrame 36 = .ok (.if_icmp .ge 97, 3) := by decide +kernel
theorem dX11_readsFrame_39 : decode cX11_readsFrame 39 = .ok (.aload_n 0, 1) := by decide +kernel
theorem dX11_readsFrame_40 : decode cX11_readsFrame 40 = .ok (.iload_n 1, 1) := by decide +kernel
theorem dX11_readsFrame_41 : decode cX11_readsFrame 41 = .ok (.iload 4, 2) := by decide +kernel
theorem dX11_readsFrame_43 : decode cX11_readsFrame 43 = .ok (.iconst 3, 1) := by decide +kernel
theorem dX11_readsFrame_44 : decode cX11_readsFrame 44 = .ok (.if_icmp .ge 7, 3) := by decide +kernel
theorem dX11_readsFrame_47 : decode cX11_readsFrame 47 = .ok (.iconst 1, 1) := by decide +kernel
theorem dX11_readsFrame_48 : decode cX11_readsFrame 48 = .ok (.goto 4, 3) := by decide +kernel
theorem dX11_readsFrame_51 : decode cX11_readsFrame 51 = .ok (.iconst 0, 1) := by decide +kernel
theorem dX11_readsFrame_52 : decode cX11_readsFrame 52 = .ok (.iload 4, 2) := by decide +kernel
theorem dX11_readsFrame_54 : decode cX11_readsFrame 54 = .ok (.iconst 3, 1) := by decide +kernel
theorem dX11_readsFrame_55 : decode cX11_readsFrame 55 = .ok (.if_icmp .ge 8, 3) := by decide +kernel
theorem dX11_readsFrame_58 : decode cX11_readsFrame 58 = .ok (.bipush 16, 2) := by decide +kernel
theorem dX11_readsFrame_60 : decode cX11_readsFrame 60 = .ok (.goto 5, 3) := by decide +kernel
theorem dX11_readsFrame_63 : decode cX11_readsFrame 63 = .ok (.bipush 9, 2) := by decide +kernel
theorem dX11_readsFrame_65 : decode cX11_readsFrame 65 = .ok (.invokevirtual 132, 3) := by decide +kernel
theorem dX11_readsFrame_68 : decode cX11_readsFrame 68 = .ok (.ifCond .ne 5, 3) := by decide +kernel
theorem dX11_readsFrame_71 : decode cX11_readsFrame 71 = .ok (.iconst 0, 1) := by decide +kernel
theorem dX11_readsFrame_72 : decode cX11_readsFrame 72 = .ok (.ireturn, 1) := by decide +kernel
theorem dX11_readsFrame_73 : decode cX11_readsFrame 73 = .ok (.aload_n 0, 1) := by decide +kernel
theorem dX11_readsFrame_74 : decode cX11_readsFrame 74 = .ok (.getfield 32, 3) := by decide +kernel
theorem dX11_readsFrame_77 : decode cX11_readsFrame 77 = .ok (.iload_n 3, 1) := by decide +kernel
theorem dX11_readsFrame_78 : decode cX11_readsFrame 78 = .ok (.iload 4, 2) := by decide +kernel
theorem dX11_readsFrame_80 : decode cX11_readsFrame 80 = .ok (.iadd, 1) := by decide +kernel
theorem dX11_readsFrame_81 : decode cX11_readsFrame 81 = .ok (.aload_n 0, 1) := by decide +kernel
theorem dX11_readsFrame_82 : decode cX11_readsFrame 82 = .ok (.getfield 119, 3) := by decide +kernel
theorem dX11_readsFrame_85 : decode cX11_readsFrame 85 = .ok (.iastore, 1) := by decide +kernel
theorem dX11_readsFrame_86 : decode cX11_readsFrame 86 = .ok (.iload 4, 2) := by decide +kernel
theorem dX11_readsFrame_88 : decode cX11_readsFrame 88 = .ok (.iconst 4, 1) := by decide +kernel
theorem dX11_readsFrame_89 : decode cX11_readsFrame 89 = .ok (.if_icmp .le 38, 3) := by decide +kernel
theorem dX11_readsFrame_92 : decode cX11_readsFrame 92 = .ok (.aload_n 0, 1) := by decide +kernel
theorem dX11_readsFrame_93 : decode cX11_readsFrame 93 = .ok (.getfield 32, 3) := by decide +kernel
theorem dX11_readsFrame_96 : decode cX11_readsFrame 96 = .ok (.iload_n 3, 1) := by decide +kernel
theorem dX11_readsFrame_97 : decode cX11_readsFrame 97 = .ok (.iload 4, 2) := by decide +kernel
theorem dX11_readsFrame_99 : decode cX11_readsFrame 99 = .ok (.iadd, 1) := by decide +kernel
theorem dX11_readsFrame_100 : decode cX11_readsFrame 100 = .ok (.iconst 2, 1) := by decide +kernel
theorem dX11_readsFrame_101 : decode cX11_readsFrame 101 = .ok (.isub, 1) := by decide +kernel
theorem dX11_readsFrame_102 : decode cX11_readsFrame 102 = .ok (.iaload, 1) := by decide +kernel
theorem dX11_readsFrame_103 : decode cX11_readsFrame 103 = .ok (.aload_n 0, 1) := by decide +kernel
theorem dX11_readsFrame_104 : decode cX11_readsFrame 104 = .ok (.getfield 119, 3) := by decide +kernel
theorem dX11_readsFrame_107 : decode cX11_readsFrame 107 = .ok (.iadd, 1) := by decide +kernel
theorem dX11_readsFrame_108 : decode cX11_readsFrame 108 = .ok (.aload_n 0, 1) := by decide +kernel
theorem dX11_readsFrame_109 : decode cX11_readsFrame 109 = .ok (.getfield 32, 3) := by decide +kernel
theorem dX11_readsFrame_112 : decode cX11_readsFrame 112 = .ok (.iload_n 3, 1) := by decide +kernel
theorem dX11_readsFrame_113 : decode cX11_readsFrame 113 = .ok (.iload 4, 2) := by decide +kernel
theorem dX11_readsFrame_115 : decode cX11_readsFrame 115 = .ok (.iadd, 1) := by decide +kernel
theorem dX11_readsFrame_116 : decode cX11_readsFrame 116 = .ok (.iconst 4, 1) := by decide +kernel
theorem dX11_readsFrame_117 : decode cX11_readsFrame 117 = .ok (.isub, 1) := by decide +kernel
theorem dX11_readsFrame_118 : decode cX11_readsFrame 118 = .ok (.iaload, 1) := by decide +kernel
theorem dX11_readsFrame_119 : decode cX11_readsFrame 119 = .ok (.if_icmp .lt 8, 3) := by decide +kernel
theorem dX11_readsFrame_122 : decode cX11_readsFrame 122 = .ok (.aload_n 0, 1) := by decide +kernel
theorem dX11_readsFrame_123 : decode cX11_readsFrame 123 = .ok (.invokevirtual 128, 3) := by decide +kernel
theorem dX11_readsFrame_126 : decode cX11_readsFrame 126 = .ok (.ireturn, 1) := by decide +kernel
theorem dX11_readsFrame_127 : decode cX11_readsFrame 127 = .ok (.iinc 4 1, 3) := by decide +kernel
theorem dX11_readsFrame_130 : decode cX11_readsFrame 130 = .ok (.goto (-98), 3) := by decide +kernel
theorem dX11_readsFrame_133 : decode cX11_readsFrame 133 = .ok (.aload_n 0, 1) := by decide +kernel
theorem dX11_readsFrame_134 : decode cX11_readsFrame 134 = .ok (.dup, 1) := by decide +kernel
theorem dX11_readsFrame_135 : decode cX11_readsFrame 135 = .ok (.getfield 147, 3) := by decide +kernel
theorem dX11_readsFrame_138 : decode cX11_readsFrame 138 = .ok (.iconst 1, 1) := by decide +kernel
theorem dX11_readsFrame_139 : decode cX11_readsFrame 139 = .ok (.iadd, 1) := by decide +kernel
theorem dX11_readsFrame_140 : decode cX11_readsFrame 140 = .ok (.putfield 147, 3) := by decide +kernel
theorem dX11_readsFrame_143 : decode cX11_readsFrame 143 = .ok (.aload_n 0, 1) := by decide +kernel
theorem dX11_readsFrame_144 : decode cX11_readsFrame 144 = .ok (.iload_n 1, 1) := by decide +kernel
theorem dX11_readsFrame_145 : decode cX11_readsFrame 145 = .ok (.invokevirtual 141, 3) := by decide +kernel
theorem dX11_readsFrame_148 : decode cX11_readsFrame 148 = .ok (.ireturn, 1) := by decide +kernel
theorem dX11_readsOne_0 : decode cX11_readsOne 0 = .ok (.aload_n 0, 1) := by decide +kernel
theorem dX11_readsOne_1 : decode cX11_readsOne 1 = .ok (.iload_n 1, 1) := by decide +kernel
theorem dX11_readsOne_2 : decode cX11_readsOne 2 = .ok (.invokevirtual 125, 3) := by decide +kernel
theorem dX11_readsOne_5 : decode cX11_readsOne 5 = .ok (.aload_n 0, 1) := by decide +kernel
theorem dX11_readsOne_6 : decode cX11_readsOne 6 = .ok (.getfield 110, 3) := by decide +kernel
theorem dX11_readsOne_9 : decode cX11_readsOne 9 = .ok (.iconst 1, 1) := by decide +kernel
theorem dX11_readsOne_10 : decode cX11_readsOne 10 = .ok (.if_icmp .ne 11, 3) := by decide +kernel
theorem dX11_readsOne_13 : decode cX11_readsOne 13 = .ok (.aload_n 0, 1) := by decide +kernel
theorem dX11_readsOne_14 : decode cX11_readsOne 14 = .ok (.iload_n 1, 1) := by decide +kernel
theorem dX11_readsOne_15 : decode cX11_readsOne 15 = .ok (.invokevirtual 150, 3) := by decide +kernel
theorem dX11_readsOne_18 : decode cX11_readsOne 18 = .ok (.goto 4, 3) := by decide +kernel
theorem dX11_readsOne_21 : decode cX11_readsOne 21 = .ok (.iconst 0, 1) := by decide +kernel
theorem dX11_readsOne_22 : decode cX11_readsOne 22 = .ok (.istore_n 2, 1) := by decide +kernel
theorem dX11_readsOne_23 : decode cX11_readsOne 23 = .ok (.iload_n 2, 1) := by decide +kernel
theorem dX11_readsOne_24 : decode cX11_readsOne 24 = .ok (.ldc 153, 2) := by decide +kernel
theorem dX11_readsOne_26 : decode cX11_readsOne 26 = .ok (.if_icmp .ne 7, 3) := by decide +kernel
theorem dX11_readsOne_29 : decode cX11_readsOne 29 = .ok (.iconst 1, 1) := by decide +kernel
theorem dX11_readsOne_30 : decode cX11_readsOne 30 = .ok (.goto 4, 3) := by decide +kernel
theorem dX11_readsOne_33 : decode cX11_readsOne 33 = .ok (.iconst 0, 1) := by decide +kernel
theorem dX11_readsOne_34 : decode cX11_readsOne 34 = .ok (.aload_n 0, 1) := by decide +kernel
theorem dX11_readsOne_35 : decode cX11_readsOne 35 = .ok (.getfield 135, 3) := by decide +kernel
theorem dX11_readsOne_38 : decode cX11_readsOne 38 = .ok (.ifCond .ne 7, 3) := by decide +kernel
theorem dX11_readsOne_41 : decode cX11_readsOne 41 = .ok (.iconst 1, 1) := by decide +kernel
theorem dX11_readsOne_42 : decode cX11_readsOne 42 = .ok (.goto 4, 3) := by decide +kernel
theorem dX11_readsOne_45 : decode cX11_readsOne 45 = .ok (.iconst 0, 1) := by decide +kernel
theorem dX11_readsOne_46 : decode cX11_readsOne 46 = .ok (.if_icmp .eq 8, 3) := by decide +kernel
theorem dX11_readsOne_49 : decode cX11_readsOne 49 = .ok (.aload_n 0, 1) := by decide +kernel
theorem dX11_readsOne_50 : decode cX11_readsOne 50 = .ok (.invokevirtual 128, 3) := by decide +kernel
theorem dX11_readsOne_53 : decode cX11_readsOne 53 = .ok (.ireturn, 1) := by decide +kernel
theorem dX11_readsOne_54 : decode cX11_readsOne 54 = .ok (.iload_n 2, 1) := by decide +kernel
theorem dX11_readsOne_55 : decode cX11_readsOne 55 = .ok (.lookupswitch 97 #[(179753, 76), (247335, 90), (315851, 57), (1302862, 63), (3544025, 69), (37026792, 83)], 57) := by decide +kernel
theorem dX11_readsOne_112 : decode cX11_readsOne 112 = .ok (.aload_n 0, 1) := by decide +kernel
theorem dX11_readsOne_113 : decode cX11_readsOne 113 = .ok (.iload_n 1, 1) := by decide +kernel
theorem dX11_readsOne_114 : decode cX11_readsOne 114 = .ok (.invokevirtual 154, 3) := by decide +kernel
theorem dX11_readsOne_117 : decode cX11_readsOne 117 = .ok (.ireturn, 1) := by decide +kernel
theorem dX11_readsOne_118 : decode cX11_readsOne 118 = .ok (.aload_n 0, 1) := by decide +kernel
theorem dX11_readsOne_119 : decode cX11_readsOne 119 = .ok (.iload_n 1, 1) := by decide +kernel
theorem dX11_readsOne_120 : decode cX11_readsOne 120 = .ok (.invokevirtual 157, 3) := by decide +kernel
theorem dX11_readsOne_123 : decode cX11_readsOne 123 = .ok (.ireturn, 1) := by decide +kernel
theorem dX11_readsOne_124 : decode cX11_readsOne 124 = .ok (.aload_n 0, 1) := by decide +kernel
theorem dX11_readsOne_125 : decode cX11_readsOne 125 = .ok (.iload_n 1, 1) := by decide +kernel
theorem dX11_readsOne_126 : decode cX11_readsOne 126 = .ok (.iconst 0, 1) := by decide +kernel
theorem dX11_readsOne_127 : decode cX11_readsOne 127 = .ok (.invokevirtual 160, 3) := by decide +kernel
theorem dX11_readsOne_130 : decode cX11_readsOne 130 = .ok (.ireturn, 1) := by decide +kernel
theorem dX11_readsOne_131 : decode cX11_readsOne 131 = .ok (.aload_n 0, 1) := by decide +kernel
theorem dX11_readsOne_132 : decode cX11_readsOne 132 = .ok (.iload_n 1, 1) := by decide +kernel
theorem dX11_readsOne_133 : decode cX11_readsOne 133 = .ok (.iconst 1, 1) := by decide +kernel
theorem dX11_readsOne_134 : decode cX11_readsOne 134 = .ok (.invokevirtual 160, 3) := by decide +kernel
theorem dX11_readsOne_137 : decode cX11_readsOne 137 = .ok (.ireturn, 1) := by decide +kernel
theorem dX11_readsOne_138 : decode cX11_readsOne 138 = .ok (.aload_n 0, 1) := by decide +kernel
theorem dX11_readsOne_139 : decode cX11_readsOne 139 = .ok (.iload_n 1, 1) := by decide +kernel
theorem dX11_readsOne_140 : decode cX11_readsOne 140 = .ok (.iconst 2, 1) := by decide +kernel
theorem dX11_readsOne_141 : decode cX11_readsOne 141 = .ok (.invokevirtual 160, 3) := by decide +kernel
theorem dX11_readsOne_144 : decode cX11_readsOne 144 = .ok (.ireturn, 1) := by decide +kernel
theorem dX11_readsOne_145 : decode cX11_readsOne 145 = .ok (.aload_n 0, 1) := by decide +kernel
theorem dX11_readsOne_146 : decode cX11_readsOne 146 = .ok (.iload_n 1, 1) := by decide +kernel
theorem dX11_readsOne_147 : decode cX11_readsOne 147 = .ok (.iconst 3, 1) := by decide +kernel
theorem dX11_readsOne_148 : decode cX11_readsOne 148 = .ok (.invokevirtual 160, 3) := by decide +kernel
theorem dX11_readsOne_151 : decode cX11_readsOne 151 = .ok (.ireturn, 1) := by decide +kernel
theorem dX11_readsOne_152 : decode cX11_readsOne 152 = .ok (.aload_n 0, 1) := by decide +kernel
theorem dX11_readsOne_153 : decode cX11_readsOne 153 = .ok (.invokevirtual 128, 3) := by decide +kernel
theorem dX11_readsOne_156 : decode cX11_readsOne 156 = .ok (.ireturn, 1) := by decide +kernel
theorem dX11_faultOf_0 : decode cX11_faultOf 0 = .ok (.aload_n 0, 1) := by decide +kernel
theorem dX11_faultOf_1 : decode cX11_faultOf 1 = .ok (.iconst 0, 1) := by decide +kernel
theorem dX11_faultOf_2 : decode cX11_faultOf 2 = .ok (.putfield 97, 3) := by decide +kernel
theorem dX11_faultOf_5 : decode cX11_faultOf 5 = .ok (.aload_n 0, 1) := by decide +kernel
theorem dX11_faultOf_6 : decode cX11_faultOf 6 = .ok (.iconst 0, 1) := by decide +kernel
theorem dX11_faultOf_7 : decode cX11_faultOf 7 = .ok (.putfield 135, 3) := by decide +kernel
theorem dX11_faultOf_10 : decode cX11_faultOf 10 = .ok (.aload_n 0, 1) := by decide +kernel
theorem dX11_faultOf_11 : decode cX11_faultOf 11 = .ok (.iconst 0, 1) := by decide +kernel
theorem dX11_faultOf_12 : decode cX11_faultOf 12 = .ok (.putfield 138, 3) := by decide +kernel
theorem dX11_faultOf_15 : decode cX11_faultOf 15 = .ok (.aload_n 0, 1) := by decide +kernel
theorem dX11_faultOf_16 : decode cX11_faultOf 16 = .ok (.iconst (-1), 1) := by decide +kernel
theorem dX11_faultOf_17 : decode cX11_faultOf 17 = .ok (.putfield 144, 3) := by decide +kernel
theorem dX11_faultOf_20 : decode cX11_faultOf 20 = .ok (.aload_n 0, 1) := by decide +kernel
theorem dX11_faultOf_21 : decode cX11_faultOf 21 = .ok (.iconst 0, 1) := by decide +kernel
theorem dX11_faultOf_22 : decode cX11_faultOf 22 = .ok (.putfield 147, 3) := by decide +kernel
theorem dX11_faultOf_25 : decode cX11_faultOf 25 = .ok (.aload_n 0, 1) := by decide +kernel
theorem dX11_faultOf_26 : decode cX11_faultOf 26 = .ok (.iload_n 1, 1) := by decide +kernel
theorem dX11_faultOf_27 : decode cX11_faultOf 27 = .ok (.invokevirtual 103, 3) := by decide +kernel
theorem dX11_faultOf_30 : decode cX11_faultOf 30 = .ok (.aload_n 0, 1) := by decide +kernel
theorem dX11_faultOf_31 : decode cX11_faultOf 31 = .ok (.getfield 97, 3) := by decide +kernel
theorem dX11_faultOf_34 : decode cX11_faultOf 34 = .ok (.aload_n 0, 1) := by decide +kernel
theorem dX11_faultOf_35 : decode cX11_faultOf 35 = .ok (.getfield 22, 3) := by decide +kernel
theorem dX11_faultOf_38 : decode cX11_faultOf 38 = .ok (.iload_n 1, 1) := by decide +kernel
theorem dX11_faultOf_39 : decode cX11_faultOf 39 = .ok (.iaload, 1) := by decide +kernel
theorem dX11_faultOf_40 : decode cX11_faultOf 40 = .ok (.if_icmp .ge 24, 3) := by decide +kernel
theorem dX11_faultOf_43 : decode cX11_faultOf 43 = .ok (.aload_n 0, 1) := by decide +kernel
theorem dX11_faultOf_44 : decode cX11_faultOf 44 = .ok (.iload_n 1, 1) := by decide +kernel
theorem dX11_faultOf_45 : decode cX11_faultOf 45 = .ok (.invokevirtual 164, 3) := by decide +kernel
theorem dX11_faultOf_48 : decode cX11_faultOf 48 = .ok (.ifCond .ne 8, 3) := by decide +kernel
theorem dX11_faultOf_51 : decode cX11_faultOf 51 = .ok (.aload_n 0, 1) := by decide +kernel
theorem dX11_faultOf_52 : decode cX11_faultOf 52 = .ok (.getfield 122, 3) := by decide +kernel
theorem dX11_faultOf_55 : decode cX11_faultOf 55 = .ok (.ireturn, 1) := by decide +kernel
theorem dX11_faultOf_56 : decode cX11_faultOf 56 = .ok (.aload_n 0, 1) := by decide +kernel
theorem dX11_faultOf_57 : decode cX11_faultOf 57 = .ok (.iload_n 1, 1) := by decide +kernel
theorem dX11_faultOf_58 : decode cX11_faultOf 58 = .ok (.invokevirtual 103, 3) := by decide +kernel
theorem dX11_faultOf_61 : decode cX11_faultOf 61 = .ok (.goto (-31), 3) := by decide +kernel
theorem dX11_faultOf_64 : decode cX11_faultOf 64 = .ok (.aload_n 0, 1) := by decide +kernel
theorem dX11_faultOf_65 : decode cX11_faultOf 65 = .ok (.getfield 147, 3) := by decide +kernel
theorem dX11_faultOf_68 : decode cX11_faultOf 68 = .ok (.ifCond .ne 12, 3) := by decide +kernel
theorem dX11_faultOf_71 : decode cX11_faultOf 71 = .ok (.aload_n 0, 1) := by decide +kernel
theorem dX11_faultOf_72 : decode cX11_faultOf 72 = .ok (.getfield 22, 3) := by decide +kernel
theorem dX11_faultOf_75 : decode cX11_faultOf 75 = .ok (.iload_n 1, 1) := by decide +kernel
theorem dX11_faultOf_76 : decode cX11_faultOf 76 = .ok (.iaload, 1) := by decide +kernel
theorem dX11_faultOf_77 : decode cX11_faultOf 77 = .ok (.goto 5, 3) := by decide +kernel
theorem dX11_faultOf_80 : decode cX11_faultOf 80 = .ok (.bipush (-9), 2) := by decide +kernel
theorem dX11_faultOf_82 : decode cX11_faultOf 82 = .ok (.ireturn, 1) := by decide +kernel
theorem dX11_fault_0 : decode cX11_fault 0 = .ok (.iload_n 1, 1) := by decide +kernel
theorem dX11_fault_1 : decode cX11_fault 1 = .ok (.invokestatic 94, 3) := by decide +kernel
theorem dX11_fault_4 : decode cX11_fault 4 = .ok (.ifCond .ne 7, 3) := by decide +kernel
theorem dX11_fault_7 : decode cX11_fault 7 = .ok (.iconst (-1), 1) := by decide +kernel
theorem dX11_fault_8 : decode cX11_fault 8 = .ok (.goto 25, 3) := by decide +kernel
theorem dX11_fault_11 : decode cX11_fault 11 = .ok (.aload_n 0, 1) := by decide +kernel
theorem dX11_fault_12 : decode cX11_fault 12 = .ok (.getfield 22, 3) := by decide +kernel
theorem dX11_fault_15 : decode cX11_fault 15 = .ok (.iload_n 1, 1) := by decide +kernel
theorem dX11_fault_16 : decode cX11_fault 16 = .ok (.iaload, 1) := by decide +kernel
theorem dX11_fault_17 : decode cX11_fault 17 = .ok (.ifCond .ge 11, 3) := by decide +kernel
theorem dX11_fault_20 : decode cX11_fault 20 = .ok (.aload_n 0, 1) := by decide +kernel
theorem dX11_fault_21 : decode cX11_fault 21 = .ok (.iconst 1, 1) := by decide +kernel
theorem dX11_fault_22 : decode cX11_fault 22 = .ok (.invokevirtual 83, 3) := by decide +kernel
theorem dX11_fault_25 : decode cX11_fault 25 = .ok (.goto 8, 3) := by decide +kernel
theorem dX11_fault_28 : decode cX11_fault 28 = .ok (.aload_n 0, 1) := by decide +kernel
theorem dX11_fault_29 : decode cX11_fault 29 = .ok (.iload_n 1, 1) := by decide +kernel
theorem dX11_fault_30 : decode cX11_fault 30 = .ok (.invokevirtual 167, 3) := by decide +kernel
theorem dX11_fault_33 : decode cX11_fault 33 = .ok (.ireturn, 1) := by decide +kernel
theorem dX11_sheet_0 : decode cX11_sheet 0 = .ok (.iload_n 1, 1) := by decide +kernel
theorem dX11_sheet_1 : decode cX11_sheet 1 = .ok (.invokestatic 94, 3) := by decide +kernel
theorem dX11_sheet_4 : decode cX11_sheet 4 = .ok (.ifCond .ne 5, 3) := by decide +kernel
theorem dX11_sheet_7 : decode cX11_sheet 7 = .ok (.iconst (-1), 1) := by decide +kernel
theorem dX11_sheet_8 : decode cX11_sheet 8 = .ok (.ireturn, 1) := by decide +kernel
theorem dX11_sheet_9 : decode cX11_sheet 9 = .ok (.aload_n 0, 1) := by decide +kernel
theorem dX11_sheet_10 : decode cX11_sheet 10 = .ok (.getfield 22, 3) := by decide +kernel
theorem dX11_sheet_13 : decode cX11_sheet 13 = .ok (.iload_n 1, 1) := by decide +kernel
theorem dX11_sheet_14 : decode cX11_sheet 14 = .ok (.iaload, 1) := by decide +kernel
theorem dX11_sheet_15 : decode cX11_sheet 15 = .ok (.ifCond .ge 9, 3) := by decide +kernel
theorem dX11_sheet_18 : decode cX11_sheet 18 = .ok (.aload_n 0, 1) := by decide +kernel
theorem dX11_sheet_19 : decode cX11_sheet 19 = .ok (.iconst 1, 1) := by decide +kernel
theorem dX11_sheet_20 : decode cX11_sheet 20 = .ok (.invokevirtual 83, 3) := by decide +kernel
theorem dX11_sheet_23 : decode cX11_sheet 23 = .ok (.ireturn, 1) := by decide +kernel
theorem dX11_sheet_24 : decode cX11_sheet 24 = .ok (.aload_n 0, 1) := by decide +kernel
theorem dX11_sheet_25 : decode cX11_sheet 25 = .ok (.iload_n 1, 1) := by decide +kernel
theorem dX11_sheet_26 : decode cX11_sheet 26 = .ok (.invokevirtual 167, 3) := by decide +kernel
theorem dX11_sheet_29 : decode cX11_sheet 29 = .ok (.bipush (-9), 2) := by decide +kernel
theorem dX11_sheet_31 : decode cX11_sheet 31 = .ok (.if_icmp .eq 6, 3) := by decide +kernel
theorem dX11_sheet_34 : decode cX11_sheet 34 = .ok (.bipush (-4), 2) := by decide +kernel
theorem dX11_sheet_36 : decode cX11_sheet 36 = .ok (.ireturn, 1) := by decide +kernel
theorem dX11_sheet_37 : decode cX11_sheet 37 = .ok (.aload_n 0, 1) := by decide +kernel
theorem dX11_sheet_38 : decode cX11_sheet 38 = .ok (.aload_n 0, 1) := by decide +kernel
theorem dX11_sheet_39 : decode cX11_sheet 39 = .ok (.getfield 135, 3) := by decide +kernel
theorem dX11_sheet_42 : decode cX11_sheet 42 = .ok (.putfield 170, 3) := by decide +kernel
theorem dX11_sheet_45 : decode cX11_sheet 45 = .ok (.aload_n 0, 1) := by decide +kernel
theorem dX11_sheet_46 : decode cX11_sheet 46 = .ok (.aload_n 0, 1) := by decide +kernel
theorem dX11_sheet_47 : decode cX11_sheet 47 = .ok (.getfield 138, 3) := by decide +kernel
theorem dX11_sheet_50 : decode cX11_sheet 50 = .ok (.putfield 173, 3) := by decide +kernel
theorem dX11_sheet_53 : decode cX11_sheet 53 = .ok (.aload_n 0, 1) := by decide +kernel
theorem dX11_sheet_54 : decode cX11_sheet 54 = .ok (.aload_n 0, 1) := by decide +kernel
theorem dX11_sheet_55 : decode cX11_sheet 55 = .ok (.getfield 144, 3) := by decide +kernel
theorem dX11_sheet_58 : decode cX11_sheet 58 = .ok (.ifCond .ge 7, 3) := by decide +kernel
theorem dX11_sheet_61 : decode cX11_sheet 61 = .ok (.iconst 0, 1) := by decide +kernel
theorem dX11_sheet_62 : decode cX11_sheet 62 = .ok (.goto 7, 3) := by decide +kernel
theorem dX11_sheet_65 : decode cX11_sheet 65 = .ok (.aload_n 0, 1) := by decide +kernel
theorem dX11_sheet_66 : decode cX11_sheet 66 = .ok (.getfield 144, 3) := by decide +kernel
theorem dX11_sheet_69 : decode cX11_sheet 69 = .ok (.putfield 176, 3) := by decide +kernel
theorem dX11_sheet_72 : decode cX11_sheet 72 = .ok (.aload_n 0, 1) := by decide +kernel
theorem dX11_sheet_73 : decode cX11_sheet 73 = .ok (.aload_n 0, 1) := by decide +kernel
theorem dX11_sheet_74 : decode cX11_sheet 74 = .ok (.getfield 147, 3) := by decide +kernel
theorem dX11_sheet_77 : decode cX11_sheet 77 = .ok (.putfield 179, 3) := by decide +kernel
theorem dX11_sheet_80 : decode cX11_sheet 80 = .ok (.iconst 0, 1) := by decide +kernel
theorem dX11_sheet_81 : decode cX11_sheet 81 = .ok (.istore_n 2, 1) := by decide +kernel
theorem dX11_sheet_82 : decode cX11_sheet 82 = .ok (.iload_n 2, 1) := by decide +kernel
theorem dX11_sheet_83 : decode cX11_sheet 83 = .ok (.bipush 56, 2) := by decide +kernel
theorem dX11_sheet_85 : decode cX11_sheet 85 = .ok (.if_icmp .ge 21, 3) := by decide +kernel
theorem dX11_sheet_88 : decode cX11_sheet 88 = .ok (.aload_n 0, 1) := by decide +kernel
theorem dX11_sheet_89 : decode cX11_sheet 89 = .ok (.getfield 29, 3) := by decide +kernel
theorem dX11_sheet_92 : decode cX11_sheet 92 = .ok (.iload_n 2, 1) := by decide +kernel
theorem dX11_sheet_93 : decode cX11_sheet 93 = .ok (.aload_n 0, 1) := by decide +kernel
theorem dX11_sheet_94 : decode cX11_sheet 94 = .ok (.getfield 32, 3) := by decide +kernel
theorem dX11_sheet_97 : decode cX11_sheet 97 = .ok (.iload_n 2, 1) := by decide +kernel
theorem dX11_sheet_98 : decode cX11_sheet 98 = .ok (.iaload, 1) := by decide +kernel
theorem dX11_sheet_99 : decode cX11_sheet 99 = .ok (.iastore, 1) := by decide +kernel
theorem dX11_sheet_100 : decode cX11_sheet 100 = .ok (.iinc 2 1, 3) := by decide +kernel
theorem dX11_sheet_103 : decode cX11_sheet 103 = .ok (.goto (-21), 3) := by decide +kernel
theorem dX11_sheet_106 : decode cX11_sheet 106 = .ok (.iconst 0, 1) := by decide +kernel
theorem dX11_sheet_107 : decode cX11_sheet 107 = .ok (.istore_n 2, 1) := by decide +kernel
theorem dX11_sheet_108 : decode cX11_sheet 108 = .ok (.iload_n 2, 1) := by decide +kernel
theorem dX11_sheet_109 : decode cX11_sheet 109 = .ok (.bipush 33, 2) := by decide +kernel
theorem dX11_sheet_111 : decode cX11_sheet 111 = .ok (.if_icmp .ge 16, 3) := by decide +kernel
theorem dX11_sheet_114 : decode cX11_sheet 114 = .ok (.aload_n 0, 1) := by decide +kernel
theorem dX11_sheet_115 : decode cX11_sheet 115 = .ok (.getfield 35, 3) := by decide +kernel
theorem dX11_sheet_118 : decode cX11_sheet 118 = .ok (.iload_n 2, 1) := by decide +kernel
theorem dX11_sheet_119 : decode cX11_sheet 119 = .ok (.iconst 0, 1) := by decide +kernel
theorem dX11_sheet_120 : decode cX11_sheet 120 = .ok (.iastore, 1) := by decide +kernel
theorem dX11_sheet_121 : decode cX11_sheet 121 = .ok (.iinc 2 1, 3) := by decide +kernel
theorem dX11_sheet_124 : decode cX11_sheet 124 = .ok (.goto (-16), 3) := by decide +kernel
theorem dX11_sheet_127 : decode cX11_sheet 127 = .ok (.aload_n 0, 1) := by decide +kernel
theorem dX11_sheet_128 : decode cX11_sheet 128 = .ok (.invokevirtual 182, 3) := by decide +kernel
theorem dX11_sheet_131 : decode cX11_sheet 131 = .ok (.aload_n 0, 1) := by decide +kernel
theorem dX11_sheet_132 : decode cX11_sheet 132 = .ok (.iconst 0, 1) := by decide +kernel
theorem dX11_sheet_133 : decode cX11_sheet 133 = .ok (.putfield 185, 3) := by decide +kernel
theorem dX11_sheet_136 : decode cX11_sheet 136 = .ok (.iconst 0, 1) := by decide +kernel
theorem dX11_sheet_137 : decode cX11_sheet 137 = .ok (.istore_n 2, 1) := by decide +kernel
theorem dX11_sheet_138 : decode cX11_sheet 138 = .ok (.iload_n 2, 1) := by decide +kernel
theorem dX11_sheet_139 : decode cX11_sheet 139 = .ok (.iconst 3, 1) := by decide +kernel
theorem dX11_sheet_140 : decode cX11_sheet 140 = .ok (.if_icmp .ge 16, 3) := by decide +kernel
theorem dX11_sheet_143 : decode cX11_sheet 143 = .ok (.aload_n 0, 1) := by decide +kernel
theorem dX11_sheet_144 : decode cX11_sheet 144 = .ok (.getfield 59, 3) := by decide +kernel
theorem dX11_sheet_147 : decode cX11_sheet 147 = .ok (.iload_n 2, 1) := by decide +kernel
theorem dX11_sheet_148 : decode cX11_sheet 148 = .ok (.iconst (-1), 1) := by decide +kernel
theorem dX11_sheet_149 : decode cX11_sheet 149 = .ok (.iastore, 1) := by decide +kernel
theorem dX11_sheet_150 : decode cX11_sheet 150 = .ok (.iinc 2 1, 3) := by decide +kernel
theorem dX11_sheet_153 : decode cX11_sheet 153 = .ok (.goto (-15), 3) := by decide +kernel
theorem dX11_sheet_156 : decode cX11_sheet 156 = .ok (.aload_n 0, 1) := by decide +kernel
theorem dX11_sheet_157 : decode cX11_sheet 157 = .ok (.getfield 179, 3) := by decide +kernel
theorem dX11_sheet_160 : decode cX11_sheet 160 = .ok (.ireturn, 1) := by decide +kernel
theorem dX11_writes_0 : decode cX11_writes 0 = .ok (.aload_n 0, 1) := by decide +kernel
theorem dX11_writes_1 : decode cX11_writes 1 = .ok (.getfield 188, 3) := by decide +kernel
theorem dX11_writes_4 : decode cX11_writes 4 = .ok (.bipush 120, 2) := by decide +kernel
theorem dX11_writes_6 : decode cX11_writes 6 = .ok (.if_icmp .ge 14, 3) := by decide +kernel
theorem dX11_writes_9 : decode cX11_writes 9 = .ok (.aload_n 0, 1) := by decide +kernel
theorem dX11_writes_10 : decode cX11_writes 10 = .ok (.getfield 38, 3) := by decide +kernel
theorem dX11_writes_13 : decode cX11_writes 13 = .ok (.aload_n 0, 1) := by decide +kernel
theorem dX11_writes_14 : decode cX11_writes 14 = .ok (.getfield 188, 3) := by decide +kernel
theorem dX11_writes_17 : decode cX11_writes 17 = .ok (.iload_n 1, 1) := by decide +kernel
theorem dX11_writes_18 : decode cX11_writes 18 = .ok (.i2b, 1) := by decide +kernel
theorem dX11_writes_19 : decode cX11_writes 19 = .ok (.bastore, 1) := by decide +kernel
theorem dX11_writes_20 : decode cX11_writes 20 = .ok (.aload_n 0, 1) := by decide +kernel
theorem dX11_writes_21 : decode cX11_writes 21 = .ok (.dup, 1) := by decide +kernel
theorem dX11_writes_22 : decode cX11_writes 22 = .ok (.getfield 188, 3) := by decide +kernel
theorem dX11_writes_25 : decode cX11_writes 25 = .ok (.iconst 1, 1) := by decide +kernel
theorem dX11_writes_26 : decode cX11_writes 26 = .ok (.iadd, 1) := by decide +kernel
theorem dX11_writes_27 : decode cX11_writes 27 = .ok (.putfield 188, 3) := by decide +kernel
theorem dX11_writes_30 : decode cX11_writes 30 = .ok (.return_, 1) := by decide +kernel
theorem dX11_writesWord_0 : decode cX11_writesWord 0 = .ok (.iconst 1, 1) := by decide +kernel
theorem dX11_writesWord_1 : decode cX11_writesWord 1 = .ok (.istore_n 2, 1) := by decide +kernel
theorem dX11_writesWord_2 : decode cX11_writesWord 2 = .ok (.iload_n 1, 1) := by decide +kernel
theorem dX11_writesWord_3 : decode cX11_writesWord 3 = .ok (.iload_n 2, 1) := by decide +kernel
theorem dX11_writesWord_4 : decode cX11_writesWord 4 = .ok (.idiv, 1) := by decide +kernel
theorem dX11_writesWord_5 : decode cX11_writesWord 5 = .ok (.bipush 27, 2) := by decide +kernel
theorem dX11_writesWord_7 : decode cX11_writesWord 7 = .ok (.if_icmp .lt 11, 3) := by decide +kernel
theorem dX11_writesWord_10 : decode cX11_writesWord 10 = .ok (.iload_n 2, 1) := by decide +kernel
theorem dX11_writesWord_11 : decode cX11_writesWord 11 = .ok (.bipush 27, 2) := by decide +kernel
theorem dX11_writesWord_13 : decode cX11_writesWord 13 = .ok (.imul, 1) := by decide +kernel
theorem dX11_writesWord_14 : decode cX11_writesWord 14 = .ok (.istore_n 2, 1) := by decide +kernel
theorem dX11_writesWord_15 : decode cX11_writesWord 15 = .ok (.goto (-13), 3) := by decide +kernel
theorem dX11_writesWord_18 : decode cX11_writesWord 18 = .ok (.iload_n 2, 1) := by decide +kernel
theorem dX11_writesWord_19 : decode cX11_writesWord 19 = .ok (.ifCond .le 24, 3) := by decide +kernel
theorem dX11_writesWord_22 : decode cX11_writesWord 22 = .ok (.aload_n 0, 1) := by decide +kernel
theorem dX11_writesWord_23 : decode cX11_writesWord 23 = .ok (.bipush 96, 2) := by decide +kernel
theorem dX11_writesWord_25 : decode cX11_writesWord 25 = .ok (.iload_n 1, 1) := by decide +kernel
theorem dX11_writesWord_26 : decode cX11_writesWord 26 = .ok (.iload_n 2, 1) := by decide +kernel
theorem dX11_writesWord_27 : decode cX11_writesWord 27 = .ok (.idiv, 1) := by decide +kernel
theorem dX11_writesWord_28 : decode cX11_writesWord 28 = .ok (.bipush 27, 2) := by decide +kernel
theorem dX11_writesWord_30 : decode cX11_writesWord 30 = .ok (.irem, 1) := by decide +kernel
theorem dX11_writesWord_31 : decode cX11_writesWord 31 = .ok (.iadd, 1) := by decide +kernel
theorem dX11_writesWord_32 : decode cX11_writesWord 32 = .ok (.invokevirtual 191, 3) := by decide +kernel
theorem dX11_writesWord_35 : decode cX11_writesWord 35 = .ok (.iload_n 2, 1) := by decide +kernel
theorem dX11_writesWord_36 : decode cX11_writesWord 36 = .ok (.bipush 27, 2) := by decide +kernel
theorem dX11_writesWord_38 : decode cX11_writesWord 38 = .ok (.idiv, 1) := by decide +kernel
theorem dX11_writesWord_39 : decode cX11_writesWord 39 = .ok (.istore_n 2, 1) := by decide +kernel
theorem dX11_writesWord_40 : decode cX11_writesWord 40 = .ok (.goto (-22), 3) := by decide +kernel
theorem dX11_writesWord_43 : decode cX11_writesWord 43 = .ok (.return_, 1) := by decide +kernel
theorem dX11_writesNumber_0 : decode cX11_writesNumber 0 = .ok (.aload_n 0, 1) := by decide +kernel
theorem dX11_writesNumber_1 : decode cX11_writesNumber 1 = .ok (.bipush 32, 2) := by decide +kernel
theorem dX11_writesNumber_3 : decode cX11_writesNumber 3 = .ok (.invokevirtual 191, 3) := by decide +kernel
theorem dX11_writesNumber_6 : decode cX11_writesNumber 6 = .ok (.iload_n 1, 1) := by decide +kernel
theorem dX11_writesNumber_7 : decode cX11_writesNumber 7 = .ok (.bipush 9, 2) := by decide +kernel
theorem dX11_writesNumber_9 : decode cX11_writesNumber 9 = .ok (.if_icmp .le 14, 3) := by decide +kernel
theorem dX11_writesNumber_12 : decode cX11_writesNumber 12 = .ok (.aload_n 0, 1) := by decide +kernel
theorem dX11_writesNumber_13 : decode cX11_writesNumber 13 = .ok (.bipush 48, 2) := by decide +kernel
theorem dX11_writesNumber_15 : decode cX11_writesNumber 15 = .ok (.iload_n 1, 1) := by decide +kernel
theorem dX11_writesNumber_16 : decode cX11_writesNumber 16 = .ok (.bipush 10, 2) := by decide +kernel
theorem dX11_writesNumber_18 : decode cX11_writesNumber 18 = .ok (.idiv, 1) := by decide +kernel
theorem dX11_writesNumber_19 : decode cX11_writesNumber 19 = .ok (.iadd, 1) := by decide +kernel
theorem dX11_writesNumber_20 : decode cX11_writesNumber 20 = .ok (.invokevirtual 191, 3) := by decide +kernel
theorem dX11_writesNumber_23 : decode cX11_writesNumber 23 = .ok (.aload_n 0, 1) := by decide +kernel
theorem dX11_writesNumber_24 : decode cX11_writesNumber 24 = .ok (.bipush 48, 2) := by decide +kernel
theorem dX11_writesNumber_26 : decode cX11_writesNumber 26 = .ok (.iload_n 1, 1) := by decide +kernel
theorem dX11_writesNumber_27 : decode cX11_writesNumber 27 = .ok (.bipush 10, 2) := by decide +kernel
theorem dX11_writesNumber_29 : decode cX11_writesNumber 29 = .ok (.irem, 1) := by decide +kernel
theorem dX11_writesNumber_30 : decode cX11_writesNumber 30 = .ok (.iadd, 1) := by decide +kernel
theorem dX11_writesNumber_31 : decode cX11_writesNumber 31 = .ok (.invokevirtual 191, 3) := by decide +kernel
theorem dX11_writesNumber_34 : decode cX11_writesNumber 34 = .ok (.return_, 1) := by decide +kernel
theorem dX11_write_0 : decode cX11_write 0 = .ok (.iload_n 1, 1) := by decide +kernel
theorem dX11_write_1 : decode cX11_write 1 = .ok (.invokestatic 94, 3) := by decide +kernel
theorem dX11_write_4 : decode cX11_write 4 = .ok (.ifCond .ne 5, 3) := by decide +kernel
theorem dX11_write_7 : decode cX11_write 7 = .ok (.iconst (-1), 1) := by decide +kernel
theorem dX11_write_8 : decode cX11_write 8 = .ok (.ireturn, 1) := by decide +kernel
theorem dX11_write_9 : decode cX11_write 9 = .ok (.aload_n 0, 1) := by decide +kernel
theorem dX11_write_10 : decode cX11_write 10 = .ok (.getfield 179, 3) := by decide +kernel
theorem dX11_write_13 : decode cX11_write 13 = .ok (.ifCond .ne 6, 3) := by decide +kernel
theorem dX11_write_16 : decode cX11_write 16 = .ok (.bipush (-4), 2) := by decide +kernel
theorem dX11_write_18 : decode cX11_write 18 = .ok (.ireturn, 1) := by decide +kernel
theorem dX11_write_19 : decode cX11_write 19 = .ok (.aload_n 0, 1) := by decide +kernel
theorem dX11_write_20 : decode cX11_write 20 = .ok (.iconst 0, 1) := by decide +kernel
theorem dX11_write_21 : decode cX11_write 21 = .ok (.putfield 188, 3) := by decide +kernel
theorem dX11_write_24 : decode cX11_write 24 = .ok (.aload_n 0, 1) := by decide +kernel
theorem dX11_write_25 : decode cX11_write 25 = .ok (.ldc 153, 2) := by decide +kernel
theorem dX11_write_27 : decode cX11_write 27 = .ok (.invokevirtual 194, 3) := by decide +kernel
theorem dX11_write_30 : decode cX11_write 30 = .ok (.aload_n 0, 1) := by decide +kernel
theorem dX11_write_31 : decode cX11_write 31 = .ok (.aload_n 0, 1) := by decide +kernel
theorem dX11_write_32 : decode cX11_write 32 = .ok (.getfield 170, 3) := by decide +kernel
theorem dX11_write_35 : decode cX11_write 35 = .ok (.invokevirtual 197, 3) := by decide +kernel
theorem dX11_write_38 : decode cX11_write 38 = .ok (.aload_n 0, 1) := by decide +kernel
theorem dX11_write_39 : decode cX11_write 39 = .ok (.aload_n 0, 1) := by decide +kernel
theorem dX11_write_40 : decode cX11_write 40 = .ok (.getfield 173, 3) := by decide +kernel
theorem dX11_write_43 : decode cX11_write 43 = .ok (.invokevirtual 197, 3) := by decide +kernel
theorem dX11_write_46 : decode cX11_write 46 = .ok (.aload_n 0, 1) := by decide +kernel
theorem dX11_write_47 : decode cX11_write 47 = .ok (.bipush 59, 2) := by decide +kernel
theorem dX11_write_49 : decode cX11_write 49 = .ok (.invokevirtual 191, 3) := by decide +kernel
theorem dX11_write_52 : decode cX11_write 52 = .ok (.aload_n 0, 1) := by decide +kernel
theorem dX11_write_53 : decode cX11_write 53 = .ok (.getfield 176, 3) := by decide +kernel
theorem dX11_write_56 : decode cX11_write 56 = .ok (.ifCond .le 23, 3) := by decide +kernel
theorem dX11_write_59 : decode cX11_write 59 = .ok (.aload_n 0, 1) := by decide +kernel
theorem dX11_write_60 : decode cX11_write 60 = .ok (.ldc 200, 2) := by decide +kernel
theorem dX11_write_62 : decode cX11_write 62 = .ok (.invokevirtual 194, 3) := by decide +kernel
theorem dX11_write_65 : decode cX11_write 65 = .ok (.aload_n 0, 1) := by decide +kernel
theorem dX11_write_66 : decode cX11_write 66 = .ok (.aload_n 0, 1) := by decide +kernel
theorem dX11_write_67 : decode cX11_write 67 = .ok (.getfield 176, 3) := by decide +kernel
theorem dX11_write_70 : decode cX11_write 70 = .ok (.invokevirtual 197, 3) := by decide +kernel
theorem dX11_write_73 : decode cX11_write 73 = .ok (.aload_n 0, 1) := by decide +kernel
theorem dX11_write_74 : decode cX11_write 74 = .ok (.bipush 59, 2) := by decide +kernel
theorem dX11_write_76 : decode cX11_write 76 = .ok (.invokevirtual 191, 3) := by decide +kernel
theorem dX11_write_79 : decode cX11_write 79 = .ok (.iconst 0, 1) := by decide +kernel
theorem dX11_write_80 : decode cX11_write 80 = .ok (.istore_n 2, 1) := by decide +kernel
theorem dX11_write_81 : decode cX11_write 81 = .ok (.iload_n 2, 1) := by decide +kernel
theorem dX11_write_82 : decode cX11_write 82 = .ok (.aload_n 0, 1) := by decide +kernel
theorem dX11_write_83 : decode cX11_write 83 = .ok (.getfield 179, 3) := by decide +kernel
theorem dX11_write_86 : decode cX11_write 86 = .ok (.if_icmp .ge 88, 3) := by decide +kernel
theorem dX11_write_89 : decode cX11_write 89 = .ok (.aload_n 0, 1) := by decide +kernel
theorem dX11_write_90 : decode cX11_write 90 = .ok (.iload_n 2, 1) := by decide +kernel
theorem dX11_write_91 : decode cX11_write 91 = .ok (.invokevirtual 201, 3) := by decide +kernel
theorem dX11_write_94 : decode cX11_write 94 = .ok (.istore_n 3, 1) := by decide +kernel
theorem dX11_write_95 : decode cX11_write 95 = .ok (.aload_n 0, 1) := by decide +kernel
theorem dX11_write_96 : decode cX11_write 96 = .ok (.iload_n 3, 1) := by decide +kernel
theorem dX11_write_97 : decode cX11_write 97 = .ok (.ifCond .ne 8, 3) := by decide +kernel
theorem dX11_write_100 : decode cX11_write 100 = .ok (.ldc 204, 2) := by decide +kernel
theorem dX11_write_102 : decode cX11_write 102 = .ok (.goto 25, 3) := by decide +kernel
theorem dX11_write_105 : decode cX11_write 105 = .ok (.iload_n 3, 1) := by decide +kernel
theorem dX11_write_106 : decode cX11_write 106 = .ok (.iconst 1, 1) := by decide +kernel
theorem dX11_write_107 : decode cX11_write 107 = .ok (.if_icmp .ne 8, 3) := by decide +kernel
theorem dX11_write_110 : decode cX11_write 110 = .ok (.ldc 205, 2) := by decide +kernel
theorem dX11_write_112 : decode cX11_write 112 = .ok (.goto 15, 3) := by decide +kernel
theorem dX11_write_115 : decode cX11_write 115 = .ok (.iload_n 3, 1) := by decide +kernel
theorem dX11_write_116 : decode cX11_write 116 = .ok (.iconst 2, 1) := by decide +kernel
theorem dX11_write_117 : decode cX11_write 117 = .ok (.if_icmp .ne 8, 3) := by decide +kernel
theorem dX11_write_120 : decode cX11_write 120 = .ok (.ldc 206, 2) := by decide +kernel
theorem dX11_write_122 : decode cX11_write 122 = .ok (.goto 5, 3) := by decide +kernel
theorem dX11_write_125 : decode cX11_write 125 = .ok (.ldc 207, 2) := by decide +kernel
theorem dX11_write_127 : decode cX11_write 127 = .ok (.invokevirtual 194, 3) := by decide +kernel
theorem dX11_write_130 : decode cX11_write 130 = .ok (.iconst 1, 1) := by decide +kernel
theorem dX11_write_131 : decode cX11_write 131 = .ok (.istore 4, 2) := by decide +kernel
theorem dX11_write_133 : decode cX11_write 133 = .ok (.iload 4, 2) := by decide +kernel
theorem dX11_write_135 : decode cX11_write 135 = .ok (.bipush 7, 2) := by decide +kernel
theorem dX11_write_137 : decode cX11_write 137 = .ok (.if_icmp .ge 25, 3) := by decide +kernel
theorem dX11_write_140 : decode cX11_write 140 = .ok (.aload_n 0, 1) := by decide +kernel
theorem dX11_write_141 : decode cX11_write 141 = .ok (.aload_n 0, 1) := by decide +kernel
theorem dX11_write_142 : decode cX11_write 142 = .ok (.getfield 29, 3) := by decide +kernel
theorem dX11_write_145 : decode cX11_write 145 = .ok (.bipush 7, 2) := by decide +kernel
theorem dX11_write_147 : decode cX11_write 147 = .ok (.iload_n 2, 1) := by decide +kernel
theorem dX11_write_148 : decode cX11_write 148 = .ok (.imul, 1) := by decide +kernel
theorem dX11_write_149 : decode cX11_write 149 = .ok (.iload 4, 2) := by decide +kernel
theorem dX11_write_151 : decode cX11_write 151 = .ok (.iadd, 1) := by decide +kernel
theorem dX11_write_152 : decode cX11_write 152 = .ok (.iaload, 1) := by decide +kernel
theorem dX11_write_153 : decode cX11_write 153 = .ok (.invokevirtual 197, 3) := by decide +kernel
theorem dX11_write_156 : decode cX11_write 156 = .ok (.iinc 4 1, 3) := by decide +kernel
theorem dX11_write_159 : decode cX11_write 159 = .ok (.goto (-26), 3) := by decide +kernel
theorem dX11_write_162 : decode cX11_write 162 = .ok (.aload_n 0, 1) := by decide +kernel
theorem dX11_write_163 : decode cX11_write 163 = .ok (.bipush 59, 2) := by decide +kernel
theorem dX11_write_165 : decode cX11_write 165 = .ok (.invokevirtual 191, 3) := by decide +kernel
theorem dX11_write_168 : decode cX11_write 168 = .ok (.iinc 2 1, 3) := by decide +kernel
theorem dX11_write_171 : decode cX11_write 171 = .ok (.goto (-90), 3) := by decide +kernel
theorem dX11_write_174 : decode cX11_write 174 = .ok (.aload_n 0, 1) := by decide +kernel
theorem dX11_write_175 : decode cX11_write 175 = .ok (.getfield 188, 3) := by decide +kernel
theorem dX11_write_178 : decode cX11_write 178 = .ok (.bipush 120, 2) := by decide +kernel
theorem dX11_write_180 : decode cX11_write 180 = .ok (.if_icmp .le 6, 3) := by decide +kernel
theorem dX11_write_183 : decode cX11_write 183 = .ok (.bipush (-6), 2) := by decide +kernel
theorem dX11_write_185 : decode cX11_write 185 = .ok (.ireturn, 1) := by decide +kernel
theorem dX11_write_186 : decode cX11_write 186 = .ok (.aload_n 0, 1) := by decide +kernel
theorem dX11_write_187 : decode cX11_write 187 = .ok (.getfield 22, 3) := by decide +kernel
theorem dX11_write_190 : decode cX11_write 190 = .ok (.iload_n 1, 1) := by decide +kernel
theorem dX11_write_191 : decode cX11_write 191 = .ok (.aload_n 0, 1) := by decide +kernel
theorem dX11_write_192 : decode cX11_write 192 = .ok (.getfield 188, 3) := by decide +kernel
theorem dX11_write_195 : decode cX11_write 195 = .ok (.iastore, 1) := by decide +kernel
theorem dX11_write_196 : decode cX11_write 196 = .ok (.iconst 0, 1) := by decide +kernel
theorem dX11_write_197 : decode cX11_write 197 = .ok (.istore_n 2, 1) := by decide +kernel
theorem dX11_write_198 : decode cX11_write 198 = .ok (.iload_n 2, 1) := by decide +kernel
theorem dX11_write_199 : decode cX11_write 199 = .ok (.bipush 120, 2) := by decide +kernel
theorem dX11_write_201 : decode cX11_write 201 = .ok (.if_icmp .ge 39, 3) := by decide +kernel
theorem dX11_write_204 : decode cX11_write 204 = .ok (.aload_n 0, 1) := by decide +kernel
theorem dX11_write_205 : decode cX11_write 205 = .ok (.getfield 25, 3) := by decide +kernel
theorem dX11_write_208 : decode cX11_write 208 = .ok (.bipush 120, 2) := by decide +kernel
theorem dX11_write_210 : decode cX11_write 210 = .ok (.iload_n 1, 1) := by decide +kernel
theorem dX11_write_211 : decode cX11_write 211 = .ok (.imul, 1) := by decide +kernel
theorem dX11_write_212 : decode cX11_write 212 = .ok (.iload_n 2, 1) := by decide +kernel
theorem dX11_write_213 : decode cX11_write 213 = .ok (.iadd, 1) := by decide +kernel
theorem dX11_write_214 : decode cX11_write 214 = .ok (.iload_n 2, 1) := by decide +kernel
theorem dX11_write_215 : decode cX11_write 215 = .ok (.aload_n 0, 1) := by decide +kernel
theorem dX11_write_216 : decode cX11_write 216 = .ok (.getfield 188, 3) := by decide +kernel
theorem dX11_write_219 : decode cX11_write 219 = .ok (.if_icmp .ge 12, 3) := by decide +kernel
theorem dX11_write_222 : decode cX11_write 222 = .ok (.aload_n 0, 1) := by decide +kernel
theorem dX11_write_223 : decode cX11_write 223 = .ok (.getfield 38, 3) := by decide +kernel
theorem dX11_write_226 : decode cX11_write 226 = .ok (.iload_n 2, 1) := by decide +kernel
theorem dX11_write_227 : decode cX11_write 227 = .ok (.baload, 1) := by decide +kernel
theorem dX11_write_228 : decode cX11_write 228 = .ok (.goto 5, 3) := by decide +kernel
theorem dX11_write_231 : decode cX11_write 231 = .ok (.bipush 32, 2) := by decide +kernel
theorem dX11_write_233 : decode cX11_write 233 = .ok (.bastore, 1) := by decide +kernel
theorem dX11_write_234 : decode cX11_write 234 = .ok (.iinc 2 1, 3) := by decide +kernel
theorem dX11_write_237 : decode cX11_write 237 = .ok (.goto (-39), 3) := by decide +kernel
theorem dX11_write_240 : decode cX11_write 240 = .ok (.aload_n 0, 1) := by decide +kernel
theorem dX11_write_241 : decode cX11_write 241 = .ok (.getfield 188, 3) := by decide +kernel
theorem dX11_write_244 : decode cX11_write 244 = .ok (.ireturn, 1) := by decide +kernel
theorem dX11_isFrame_0 : decode cX11_isFrame 0 = .ok (.iload_n 1, 1) := by decide +kernel
theorem dX11_isFrame_1 : decode cX11_isFrame 1 = .ok (.iconst 0, 1) := by decide +kernel
theorem dX11_isFrame_2 : decode cX11_isFrame 2 = .ok (.aload_n 0, 1) := by decide +kernel
theorem dX11_isFrame_3 : decode cX11_isFrame 3 = .ok (.getfield 179, 3) := by decide +kernel
theorem dX11_isFrame_6 : decode cX11_isFrame 6 = .ok (.iconst 1, 1) := by decide +kernel
theorem dX11_isFrame_7 : decode cX11_isFrame 7 = .ok (.isub, 1) := by decide +kernel
theorem dX11_isFrame_8 : decode cX11_isFrame 8 = .ok (.invokestatic 75, 3) := by decide +kernel
theorem dX11_isFrame_11 : decode cX11_isFrame 11 = .ok (.ireturn, 1) := by decide +kernel
theorem dX11_kindOf_0 : decode cX11_kindOf 0 = .ok (.aload_n 0, 1) := by decide +kernel
theorem dX11_kindOf_1 : decode cX11_kindOf 1 = .ok (.getfield 29, 3) := by decide +kernel
theorem dX11_kindOf_4 : decode cX11_kindOf 4 = .ok (.bipush 7, 2) := by decide +kernel
theorem dX11_kindOf_6 : decode cX11_kindOf 6 = .ok (.iload_n 1, 1) := by decide +kernel
theorem dX11_kindOf_7 : decode cX11_kindOf 7 = .ok (.imul, 1) := by decide +kernel
theorem dX11_kindOf_8 : decode cX11_kindOf 8 = .ok (.iaload, 1) := by decide +kernel
theorem dX11_kindOf_9 : decode cX11_kindOf 9 = .ok (.ireturn, 1) := by decide +kernel
theorem dX11_of_0 : decode cX11_of 0 = .ok (.aload_n 0, 1) := by decide +kernel
theorem dX11_of_1 : decode cX11_of 1 = .ok (.getfield 29, 3) := by decide +kernel
theorem dX11_of_4 : decode cX11_of 4 = .ok (.bipush 7, 2) := by decide +kernel
theorem dX11_of_6 : decode cX11_of 6 = .ok (.iload_n 1, 1) := by decide +kernel
theorem dX11_of_7 : decode cX11_of 7 = .ok (.imul, 1) := by decide +kernel
theorem dX11_of_8 : decode cX11_of 8 = .ok (.iload_n 2, 1) := by decide +kernel
theorem dX11_of_9 : decode cX11_of 9 = .ok (.iadd, 1) := by decide +kernel
theorem dX11_of_10 : decode cX11_of 10 = .ok (.iaload, 1) := by decide +kernel
theorem dX11_of_11 : decode cX11_of 11 = .ok (.ireturn, 1) := by decide +kernel
theorem dX11_leftOf_0 : decode cX11_leftOf 0 = .ok (.aload_n 0, 1) := by decide +kernel
theorem dX11_leftOf_1 : decode cX11_leftOf 1 = .ok (.iload_n 1, 1) := by decide +kernel
theorem dX11_leftOf_2 : decode cX11_leftOf 2 = .ok (.invokevirtual 201, 3) := by decide +kernel
theorem dX11_leftOf_5 : decode cX11_leftOf 5 = .ok (.iconst 3, 1) := by decide +kernel
theorem dX11_leftOf_6 : decode cX11_leftOf 6 = .ok (.if_icmp .ne 7, 3) := by decide +kernel
theorem dX11_leftOf_9 : decode cX11_leftOf 9 = .ok (.iconst 0, 1) := by decide +kernel
theorem dX11_leftOf_10 : decode cX11_leftOf 10 = .ok (.goto 9, 3) := by decide +kernel
theorem dX11_leftOf_13 : decode cX11_leftOf 13 = .ok (.aload_n 0, 1) := by decide +kernel
theorem dX11_leftOf_14 : decode cX11_leftOf 14 = .ok (.iload_n 1, 1) := by decide +kernel
theorem dX11_leftOf_15 : decode cX11_leftOf 15 = .ok (.iconst 3, 1) := by decide +kernel
theorem dX11_leftOf_16 : decode cX11_leftOf 16 = .ok (.invokevirtual 208, 3) := by decide +kernel
theorem dX11_leftOf_19 : decode cX11_leftOf 19 = .ok (.ireturn, 1) := by decide +kernel
theorem dX11_aboveOf_0 : decode cX11_aboveOf 0 = .ok (.aload_n 0, 1) := by decide +kernel
theorem dX11_aboveOf_1 : decode cX11_aboveOf 1 = .ok (.iload_n 1, 1) := by decide +kernel
theorem dX11_aboveOf_2 : decode cX11_aboveOf 2 = .ok (.invokevirtual 201, 3) := by decide +kernel
theorem dX11_aboveOf_5 : decode cX11_aboveOf 5 = .ok (.iconst 3, 1) := by decide +kernel
theorem dX11_aboveOf_6 : decode cX11_aboveOf 6 = .ok (.if_icmp .ne 7, 3) := by decide +kernel
theorem dX11_aboveOf_9 : decode cX11_aboveOf 9 = .ok (.iconst 0, 1) := by decide +kernel
theorem dX11_aboveOf_10 : decode cX11_aboveOf 10 = .ok (.goto 9, 3) := by decide +kernel
theorem dX11_aboveOf_13 : decode cX11_aboveOf 13 = .ok (.aload_n 0, 1) := by decide +kernel
theorem dX11_aboveOf_14 : decode cX11_aboveOf 14 = .ok (.iload_n 1, 1) := by decide +kernel
theorem dX11_aboveOf_15 : decode cX11_aboveOf 15 = .ok (.iconst 4, 1) := by decide +kernel
theorem dX11_aboveOf_16 : decode cX11_aboveOf 16 = .ok (.invokevirtual 208, 3) := by decide +kernel
theorem dX11_aboveOf_19 : decode cX11_aboveOf 19 = .ok (.ireturn, 1) := by decide +kernel
theorem dX11_across_0 : decode cX11_across 0 = .ok (.aload_n 0, 1) := by decide +kernel
theorem dX11_across_1 : decode cX11_across 1 = .ok (.iload_n 1, 1) := by decide +kernel
theorem dX11_across_2 : decode cX11_across 2 = .ok (.invokevirtual 201, 3) := by decide +kernel
theorem dX11_across_5 : decode cX11_across 5 = .ok (.iconst 3, 1) := by decide +kernel
theorem dX11_across_6 : decode cX11_across 6 = .ok (.if_icmp .ne 12, 3) := by decide +kernel
theorem dX11_across_9 : decode cX11_across 9 = .ok (.aload_n 0, 1) := by decide +kernel
theorem dX11_across_10 : decode cX11_across 10 = .ok (.iload_n 1, 1) := by decide +kernel
theorem dX11_across_11 : decode cX11_across 11 = .ok (.iconst 1, 1) := by decide +kernel
theorem dX11_across_12 : decode cX11_across 12 = .ok (.invokevirtual 208, 3) := by decide +kernel
theorem dX11_across_15 : decode cX11_across 15 = .ok (.goto 23, 3) := by decide +kernel
theorem dX11_across_18 : decode cX11_across 18 = .ok (.aload_n 0, 1) := by decide +kernel
theorem dX11_across_19 : decode cX11_across 19 = .ok (.iload_n 1, 1) := by decide +kernel
theorem dX11_across_20 : decode cX11_across 20 = .ok (.iconst 1, 1) := by decide +kernel
theorem dX11_across_21 : decode cX11_across 21 = .ok (.invokevirtual 208, 3) := by decide +kernel
theorem dX11_across_24 : decode cX11_across 24 = .ok (.aload_n 0, 1) := by decide +kernel
theorem dX11_across_25 : decode cX11_across 25 = .ok (.iload_n 1, 1) := by decide +kernel
theorem dX11_across_26 : decode cX11_across 26 = .ok (.iconst 3, 1) := by decide +kernel
theorem dX11_across_27 : decode cX11_across 27 = .ok (.invokevirtual 208, 3) := by decide +kernel
theorem dX11_across_30 : decode cX11_across 30 = .ok (.isub, 1) := by decide +kernel
theorem dX11_across_31 : decode cX11_across 31 = .ok (.aload_n 0, 1) := by decide +kernel
theorem dX11_across_32 : decode cX11_across 32 = .ok (.iload_n 1, 1) := by decide +kernel
theorem dX11_across_33 : decode cX11_across 33 = .ok (.iconst 5, 1) := by decide +kernel
theorem dX11_across_34 : decode cX11_across 34 = .ok (.invokevirtual 208, 3) := by decide +kernel
theorem dX11_across_37 : decode cX11_across 37 = .ok (.isub, 1) := by decide +kernel
theorem dX11_across_38 : decode cX11_across 38 = .ok (.ireturn, 1) := by decide +kernel
theorem dX11_down_0 : decode cX11_down 0 = .ok (.aload_n 0, 1) := by decide +kernel
theorem dX11_down_1 : decode cX11_down 1 = .ok (.iload_n 1, 1) := by decide +kernel
theorem dX11_down_2 : decode cX11_down 2 = .ok (.invokevirtual 201, 3) := by decide +kernel
theorem dX11_down_5 : decode cX11_down 5 = .ok (.iconst 3, 1) := by decide +kernel
theorem dX11_down_6 : decode cX11_down 6 = .ok (.if_icmp .ne 12, 3) := by decide +kernel
theorem dX11_down_9 : decode cX11_down 9 = .ok (.aload_n 0, 1) := by decide +kernel
theorem dX11_down_10 : decode cX11_down 10 = .ok (.iload_n 1, 1) := by decide +kernel
theorem dX11_down_11 : decode cX11_down 11 = .ok (.iconst 2, 1) := by decide +kernel
theorem dX11_down_12 : decode cX11_down 12 = .ok (.invokevirtual 208, 3) := by decide +kernel
theorem dX11_down_15 : decode cX11_down 15 = .ok (.goto 24, 3) := by decide +kernel
theorem dX11_down_18 : decode cX11_down 18 = .ok (.aload_n 0, 1) := by decide +kernel
theorem dX11_down_19 : decode cX11_down 19 = .ok (.iload_n 1, 1) := by decide +kernel
theorem dX11_down_20 : decode cX11_down 20 = .ok (.iconst 2, 1) := by decide +kernel
theorem dX11_down_21 : decode cX11_down 21 = .ok (.invokevirtual 208, 3) := by decide +kernel
theorem dX11_down_24 : decode cX11_down 24 = .ok (.aload_n 0, 1) := by decide +kernel
theorem dX11_down_25 : decode cX11_down 25 = .ok (.iload_n 1, 1) := by decide +kernel
theorem dX11_down_26 : decode cX11_down 26 = .ok (.iconst 4, 1) := by decide +kernel
theorem dX11_down_27 : decode cX11_down 27 = .ok (.invokevirtual 208, 3) := by decide +kernel
theorem dX11_down_30 : decode cX11_down 30 = .ok (.isub, 1) := by decide +kernel
theorem dX11_down_31 : decode cX11_down 31 = .ok (.aload_n 0, 1) := by decide +kernel
theorem dX11_down_32 : decode cX11_down 32 = .ok (.iload_n 1, 1) := by decide +kernel
theorem dX11_down_33 : decode cX11_down 33 = .ok (.bipush 6, 2) := by decide +kernel
theorem dX11_down_35 : decode cX11_down 35 = .ok (.invokevirtual 208, 3) := by decide +kernel
theorem dX11_down_38 : decode cX11_down 38 = .ok (.isub, 1) := by decide +kernel
theorem dX11_down_39 : decode cX11_down 39 = .ok (.ireturn, 1) := by decide +kernel
theorem dX11_edge_0 : decode cX11_edge 0 = .ok (.aload_n 0, 1) := by decide +kernel
theorem dX11_edge_1 : decode cX11_edge 1 = .ok (.getfield 176, 3) := by decide +kernel
theorem dX11_edge_4 : decode cX11_edge 4 = .ok (.aload_n 0, 1) := by decide +kernel
theorem dX11_edge_5 : decode cX11_edge 5 = .ok (.iload_n 1, 1) := by decide +kernel
theorem dX11_edge_6 : decode cX11_edge 6 = .ok (.invokevirtual 201, 3) := by decide +kernel
theorem dX11_edge_9 : decode cX11_edge 9 = .ok (.iconst 2, 1) := by decide +kernel
theorem dX11_edge_10 : decode cX11_edge 10 = .ok (.if_icmp .ne 7, 3) := by decide +kernel
theorem dX11_edge_13 : decode cX11_edge 13 = .ok (.iconst 1, 1) := by decide +kernel
theorem dX11_edge_14 : decode cX11_edge 14 = .ok (.goto 4, 3) := by decide +kernel
theorem dX11_edge_17 : decode cX11_edge 17 = .ok (.iconst 0, 1) := by decide +kernel
theorem dX11_edge_18 : decode cX11_edge 18 = .ok (.iadd, 1) := by decide +kernel
theorem dX11_edge_19 : decode cX11_edge 19 = .ok (.ireturn, 1) := by decide +kernel
theorem dX11_needX_0 : decode cX11_needX 0 = .ok (.iconst 2, 1) := by decide +kernel
theorem dX11_needX_1 : decode cX11_needX 1 = .ok (.aload_n 0, 1) := by decide +kernel
theorem dX11_needX_2 : decode cX11_needX 2 = .ok (.iload_n 1, 1) := by decide +kernel
theorem dX11_needX_3 : decode cX11_needX 3 = .ok (.invokevirtual 211, 3) := by decide +kernel
theorem dX11_needX_6 : decode cX11_needX 6 = .ok (.imul, 1) := by decide +kernel
theorem dX11_needX_7 : decode cX11_needX 7 = .ok (.iload_n 2, 1) := by decide +kernel
theorem dX11_needX_8 : decode cX11_needX 8 = .ok (.ifCond .ne 11, 3) := by decide +kernel
theorem dX11_needX_11 : decode cX11_needX 11 = .ok (.aload_n 0, 1) := by decide +kernel
theorem dX11_needX_12 : decode cX11_needX 12 = .ok (.iload_n 1, 1) := by decide +kernel
theorem dX11_needX_13 : decode cX11_needX 13 = .ok (.invokevirtual 214, 3) := by decide +kernel
theorem dX11_needX_16 : decode cX11_needX 16 = .ok (.goto 8, 3) := by decide +kernel
theorem dX11_needX_19 : decode cX11_needX 19 = .ok (.aload_n 0, 1) := by decide +kernel
theorem dX11_needX_20 : decode cX11_needX 20 = .ok (.iload_n 1, 1) := by decide +kernel
theorem dX11_needX_21 : decode cX11_needX 21 = .ok (.invokevirtual 217, 3) := by decide +kernel
theorem dX11_needX_24 : decode cX11_needX 24 = .ok (.iadd, 1) := by decide +kernel
theorem dX11_needX_25 : decode cX11_needX 25 = .ok (.ireturn, 1) := by decide +kernel
theorem dX11_needY_0 : decode cX11_needY 0 = .ok (.aload_n 0, 1) := by decide +kernel
theorem dX11_needY_1 : decode cX11_needY 1 = .ok (.iload_n 1, 1) := by decide +kernel
theorem dX11_needY_2 : decode cX11_needY 2 = .ok (.iconst 1, 1) := by decide +kernel
theorem dX11_needY_3 : decode cX11_needY 3 = .ok (.iload_n 2, 1) := by decide +kernel
theorem dX11_needY_4 : decode cX11_needY 4 = .ok (.isub, 1) := by decide +kernel
theorem dX11_needY_5 : decode cX11_needY 5 = .ok (.invokevirtual 220, 3) := by decide +kernel
theorem dX11_needY_8 : decode cX11_needY 8 = .ok (.ireturn, 1) := by decide +kernel
theorem dX11_isSet_0 : decode cX11_isSet 0 = .ok (.aload_n 0, 1) := by decide +kernel
theorem dX11_isSet_1 : decode cX11_isSet 1 = .ok (.getfield 35, 3) := by decide +kernel
theorem dX11_isSet_4 : decode cX11_isSet 4 = .ok (.iconst 4, 1) := by decide +kernel
theorem dX11_isSet_5 : decode cX11_isSet 5 = .ok (.iload_n 1, 1) := by decide +kernel
theorem dX11_isSet_6 : decode cX11_isSet 6 = .ok (.imul, 1) := by decide +kernel
theorem dX11_isSet_7 : decode cX11_isSet 7 = .ok (.iconst 0, 1) := by decide +kernel
theorem dX11_isSet_8 : decode cX11_isSet 8 = .ok (.iadd, 1) := by decide +kernel
theorem dX11_isSet_9 : decode cX11_isSet 9 = .ok (.iaload, 1) := by decide +kernel
theorem dX11_isSet_10 : decode cX11_isSet 10 = .ok (.ifCond .lt 7, 3) := by decide +kernel
theorem dX11_isSet_13 : decode cX11_isSet 13 = .ok (.iconst 1, 1) := by decide +kernel
theorem dX11_isSet_14 : decode cX11_isSet 14 = .ok (.goto 4, 3) := by decide +kernel
theorem dX11_isSet_17 : decode cX11_isSet 17 = .ok (.iconst 0, 1) := by decide +kernel
theorem dX11_isSet_18 : decode cX11_isSet 18 = .ok (.ireturn, 1) := by decide +kernel
theorem dX11_liftsAll_0 : decode cX11_liftsAll 0 = .ok (.iconst 0, 1) := by decide +kernel
theorem dX11_liftsAll_1 : decode cX11_liftsAll 1 = .ok (.istore_n 1, 1) := by decide +kernel
theorem dX11_liftsAll_2 : decode cX11_liftsAll 2 = .ok (.iload_n 1, 1) := by decide +kernel
theorem dX11_liftsAll_3 : decode cX11_liftsAll 3 = .ok (.bipush 8, 2) := by decide +kernel
theorem dX11_liftsAll_5 : decode cX11_liftsAll 5 = .ok (.if_icmp .ge 53, 3) := by decide +kernel
theorem dX11_liftsAll_8 : decode cX11_liftsAll 8 = .ok (.aload_n 0, 1) := by decide +kernel
theorem dX11_liftsAll_9 : decode cX11_liftsAll 9 = .ok (.getfield 35, 3) := by decide +kernel
theorem dX11_liftsAll_12 : decode cX11_liftsAll 12 = .ok (.iconst 4, 1) := by decide +kernel
theorem dX11_liftsAll_13 : decode cX11_liftsAll 13 = .ok (.iload_n 1, 1) := by decide +kernel
theorem dX11_liftsAll_14 : decode cX11_liftsAll 14 = .ok (.imul, 1) := by decide +kernel
theorem dX11_liftsAll_15 : decode cX11_liftsAll 15 = .ok (.iconst 0, 1) := by decide +kernel
theorem dX11_liftsAll_16 : decode cX11_liftsAll 16 = .ok (.iadd, 1) := by decide +kernel
theorem dX11_liftsAll_17 : decode cX11_liftsAll 17 = .ok (.iconst (-1), 1) := by decide +kernel
theorem dX11_liftsAll_18 : decode cX11_liftsAll 18 = .ok (.iastore, 1) := by decide +kernel
theorem dX11_liftsAll_19 : decode cX11_liftsAll 19 = .ok (.aload_n 0, 1) := by decide +kernel
theorem dX11_liftsAll_20 : decode cX11_liftsAll 20 = .ok (.getfield 35, 3) := by decide +kernel
theorem dX11_liftsAll_23 : decode cX11_liftsAll 23 = .ok (.iconst 4, 1) := by decide +kernel
theorem dX11_liftsAll_24 : decode cX11_liftsAll 24 = .ok (.iload_n 1, 1) := by decide +kernel
theorem dX11_liftsAll_25 : decode cX11_liftsAll 25 = .ok (.imul, 1) := by decide +kernel
theorem dX11_liftsAll_26 : decode cX11_liftsAll 26 = .ok (.iconst 1, 1) := by decide +kernel
theorem dX11_liftsAll_27 : decode cX11_liftsAll 27 = .ok (.iadd, 1) := by decide +kernel
theorem dX11_liftsAll_28 : decode cX11_liftsAll 28 = .ok (.iconst 0, 1) := by decide +kernel
theorem dX11_liftsAll_29 : decode cX11_liftsAll 29 = .ok (.iastore, 1) := by decide +kernel
theorem dX11_liftsAll_30 : decode cX11_liftsAll 30 = .ok (.aload_n 0, 1) := by decide +kernel
theorem dX11_liftsAll_31 : decode cX11_liftsAll 31 = .ok (.getfield 35, 3) := by decide +kernel
theorem dX11_liftsAll_34 : decode cX11_liftsAll 34 = .ok (.iconst 4, 1) := by decide +kernel
theorem dX11_liftsAll_35 : decode cX11_liftsAll 35 = .ok (.iload_n 1, 1) := by decide +kernel
theorem dX11_liftsAll_36 : decode cX11_liftsAll 36 = .ok (.imul, 1) := by decide +kernel
theorem dX11_liftsAll_37 : decode cX11_liftsAll 37 = .ok (.iconst 2, 1) := by decide +kernel
theorem dX11_liftsAll_38 : decode cX11_liftsAll 38 = .ok (.iadd, 1) := by decide +kernel
theorem dX11_liftsAll_39 : decode cX11_liftsAll 39 = .ok (.iconst 0, 1) := by decide +kernel
theorem dX11_liftsAll_40 : decode cX11_liftsAll 40 = .ok (.iastore, 1) := by decide +kernel
theorem dX11_liftsAll_41 : decode cX11_liftsAll 41 = .ok (.aload_n 0, 1) := by decide +kernel
theorem dX11_liftsAll_42 : decode cX11_liftsAll 42 = .ok (.getfield 35, 3) := by decide +kernel
theorem dX11_liftsAll_45 : decode cX11_liftsAll 45 = .ok (.iconst 4, 1) := by decide +kernel
theorem dX11_liftsAll_46 : decode cX11_liftsAll 46 = .ok (.iload_n 1, 1) := by decide +kernel
theorem dX11_liftsAll_47 : decode cX11_liftsAll 47 = .ok (.imul, 1) := by decide +kernel
theorem dX11_liftsAll_48 : decode cX11_liftsAll 48 = .ok (.iconst 3, 1) := by decide +kernel
theorem dX11_liftsAll_49 : decode cX11_liftsAll 49 = .ok (.iadd, 1) := by decide +kernel
theorem dX11_liftsAll_50 : decode cX11_liftsAll 50 = .ok (.iconst 0, 1) := by decide +kernel
theorem dX11_liftsAll_51 : decode cX11_liftsAll 51 = .ok (.iastore, 1) := by decide +kernel
theorem dX11_liftsAll_52 : decode cX11_liftsAll 52 = .ok (.iinc 1 1, 3) := by decide +kernel
theorem dX11_liftsAll_55 : decode cX11_liftsAll 55 = .ok (.goto (-53), 3) := by decide +kernel
theorem dX11_liftsAll_58 : decode cX11_liftsAll 58 = .ok (.return_, 1) := by decide +kernel
theorem dX11_frame_0 : decode cX11_frame 0 = .ok (.aload_n 0, 1) := by decide +kernel
theorem dX11_frame_1 : decode cX11_frame 1 = .ok (.iload_n 1, 1) := by decide +kernel
theorem dX11_frame_2 : decode cX11_frame 2 = .ok (.invokevirtual 223, 3) := by decide +kernel
theorem dX11_frame_5 : decode cX11_frame 5 = .ok (.ifCond .eq 12, 3) := by decide +kernel
theorem dX11_frame_8 : decode cX11_frame 8 = .ok (.iload_n 2, 1) := by decide +kernel
theorem dX11_frame_9 : decode cX11_frame 9 = .ok (.iconst 0, 1) := by decide +kernel
theorem dX11_frame_10 : decode cX11_frame 10 = .ok (.iconst 4, 1) := by decide +kernel
theorem dX11_frame_11 : decode cX11_frame 11 = .ok (.invokestatic 75, 3) := by decide +kernel
theorem dX11_frame_14 : decode cX11_frame 14 = .ok (.ifCond .ne 5, 3) := by decide +kernel
theorem dX11_frame_17 : decode cX11_frame 17 = .ok (.iconst (-1), 1) := by decide +kernel
theorem dX11_frame_18 : decode cX11_frame 18 = .ok (.ireturn, 1) := by decide +kernel
theorem dX11_frame_19 : decode cX11_frame 19 = .ok (.aload_n 0, 1) := by decide +kernel
theorem dX11_frame_20 : decode cX11_frame 20 = .ok (.aload_n 0, 1) := by decide +kernel
theorem dX11_frame_21 : decode cX11_frame 21 = .ok (.iload_n 1, 1) := by decide +kernel
theorem dX11_frame_22 : decode cX11_frame 22 = .ok (.iload_n 2, 1) := by decide +kernel
theorem dX11_frame_23 : decode cX11_frame 23 = .ok (.invokevirtual 226, 3) := by decide +kernel
theorem dX11_frame_26 : decode cX11_frame 26 = .ok (.iconst 1, 1) := by decide +kernel
theorem dX11_frame_27 : decode cX11_frame 27 = .ok (.invokevirtual 91, 3) := by decide +kernel
theorem dX11_frame_30 : decode cX11_frame 30 = .ok (.ireturn, 1) := by decide +kernel
theorem dX11_frameTells_0 : decode cX11_frameTells 0 = .ok (.iload_n 2, 1) := by decide +kernel
theorem dX11_frameTells_1 : decode cX11_frameTells 1 = .ok (.tableswitch 56 0 3 #[31, 37, 43, 49], 31) := by decide +kernel
theorem dX11_frameTells_32 : decode cX11_frameTells 32 = .ok (.aload_n 0, 1) := by decide +kernel
theorem dX11_frameTells_33 : decode cX11_frameTells 33 = .ok (.iload_n 1, 1) := by decide +kernel
theorem dX11_frameTells_34 : decode cX11_frameTells 34 = .ok (.invokevirtual 201, 3) := by decide +kernel
theorem dX11_frameTells_37 : decode cX11_frameTells 37 = .ok (.ireturn, 1) := by decide +kernel
theorem dX11_frameTells_38 : decode cX11_frameTells 38 = .ok (.aload_n 0, 1) := by decide +kernel
theorem dX11_frameTells_39 : decode cX11_frameTells 39 = .ok (.iload_n 1, 1) := by decide +kernel
theorem dX11_frameTells_40 : decode cX11_frameTells 40 = .ok (.invokevirtual 214, 3) := by decide +kernel
theorem dX11_frameTells_43 : decode cX11_frameTells 43 = .ok (.ireturn, 1) := by decide +kernel
theorem dX11_frameTells_44 : decode cX11_frameTells 44 = .ok (.aload_n 0, 1) := by decide +kernel
theorem dX11_frameTells_45 : decode cX11_frameTells 45 = .ok (.iload_n 1, 1) := by decide +kernel
theorem dX11_frameTells_46 : decode cX11_frameTells 46 = .ok (.invokevirtual 217, 3) := by decide +kernel
theorem dX11_frameTells_49 : decode cX11_frameTells 49 = .ok (.ireturn, 1) := by decide +kernel
theorem dX11_frameTells_50 : decode cX11_frameTells 50 = .ok (.aload_n 0, 1) := by decide +kernel
theorem dX11_frameTells_51 : decode cX11_frameTells 51 = .ok (.iload_n 1, 1) := by decide +kernel
theorem dX11_frameTells_52 : decode cX11_frameTells 52 = .ok (.iconst 0, 1) := by decide +kernel
theorem dX11_frameTells_53 : decode cX11_frameTells 53 = .ok (.invokevirtual 220, 3) := by decide +kernel
theorem dX11_frameTells_56 : decode cX11_frameTells 56 = .ok (.ireturn, 1) := by decide +kernel
theorem dX11_frameTells_57 : decode cX11_frameTells 57 = .ok (.aload_n 0, 1) := by decide +kernel
theorem dX11_frameTells_58 : decode cX11_frameTells 58 = .ok (.iload_n 1, 1) := by decide +kernel
theorem dX11_frameTells_59 : decode cX11_frameTells 59 = .ok (.iconst 0, 1) := by decide +kernel
theorem dX11_frameTells_60 : decode cX11_frameTells 60 = .ok (.invokevirtual 229, 3) := by decide +kernel
theorem dX11_frameTells_63 : decode cX11_frameTells 63 = .ok (.ireturn, 1) := by decide +kernel
theorem dX11_place_0 : decode cX11_place 0 = .ok (.aload_n 0, 1) := by decide +kernel
theorem dX11_place_1 : decode cX11_place 1 = .ok (.iload_n 1, 1) := by decide +kernel
theorem dX11_place_2 : decode cX11_place 2 = .ok (.invokevirtual 223, 3) := by decide +kernel
theorem dX11_place_5 : decode cX11_place 5 = .ok (.ifCond .eq 12, 3) := by decide +kernel
theorem dX11_place_8 : decode cX11_place 8 = .ok (.iload_n 2, 1) := by decide +kernel
theorem dX11_place_9 : decode cX11_place 9 = .ok (.iconst 0, 1) := by decide +kernel
theorem dX11_place_10 : decode cX11_place 10 = .ok (.iconst 3, 1) := by decide +kernel
theorem dX11_place_11 : decode cX11_place 11 = .ok (.invokestatic 75, 3) := by decide +kernel
theorem dX11_place_14 : decode cX11_place 14 = .ok (.ifCond .ne 5, 3) := by decide +kernel
theorem dX11_place_17 : decode cX11_place 17 = .ok (.iconst (-1), 1) := by decide +kernel
theorem dX11_place_18 : decode cX11_place 18 = .ok (.ireturn, 1) := by decide +kernel
theorem dX11_place_19 : decode cX11_place 19 = .ok (.aload_n 0, 1) := by decide +kernel
theorem dX11_place_20 : decode cX11_place 20 = .ok (.iload_n 1, 1) := by decide +kernel
theorem dX11_place_21 : decode cX11_place 21 = .ok (.invokevirtual 232, 3) := by decide +kernel
theorem dX11_place_24 : decode cX11_place 24 = .ok (.ifCond .eq 21, 3) := by decide +kernel
theorem dX11_place_27 : decode cX11_place 27 = .ok (.aload_n 0, 1) := by decide +kernel
theorem dX11_place_28 : decode cX11_place 28 = .ok (.aload_n 0, 1) := by decide +kernel
theorem dX11_place_29 : decode cX11_place 29 = .ok (.getfield 35, 3) := by decide +kernel
theorem dX11_place_32 : decode cX11_place 32 = .ok (.iconst 4, 1) := by decide +kernel
theorem dX11_place_33 : decode cX11_place 33 = .ok (.iload_n 1, 1) := by decide +kernel
theorem dX11_place_34 : decode cX11_place 34 = .ok (.imul, 1) := by decide +kernel
theorem dX11_place_35 : decode cX11_place 35 = .ok (.iload_n 2, 1) := by decide +kernel
theorem dX11_place_36 : decode cX11_place 36 = .ok (.iadd, 1) := by decide +kernel
theorem dX11_place_37 : decode cX11_place 37 = .ok (.iaload, 1) := by decide +kernel
theorem dX11_place_38 : decode cX11_place 38 = .ok (.iconst 1, 1) := by decide +kernel
theorem dX11_place_39 : decode cX11_place 39 = .ok (.invokevirtual 91, 3) := by decide +kernel
theorem dX11_place_42 : decode cX11_place 42 = .ok (.goto 5, 3) := by decide +kernel
theorem dX11_place_45 : decode cX11_place 45 = .ok (.bipush (-9), 2) := by decide +kernel
theorem dX11_place_47 : decode cX11_place 47 = .ok (.ireturn, 1) := by decide +kernel
theorem dX11_mark_0 : decode cX11_mark 0 = .ok (.aload_n 0, 1) := by decide +kernel
theorem dX11_mark_1 : decode cX11_mark 1 = .ok (.iload_n 1, 1) := by decide +kernel
theorem dX11_mark_2 : decode cX11_mark 2 = .ok (.invokevirtual 223, 3) := by decide +kernel
theorem dX11_mark_5 : decode cX11_mark 5 = .ok (.ifCond .eq 12, 3) := by decide +kernel
theorem dX11_mark_8 : decode cX11_mark 8 = .ok (.iload_n 2, 1) := by decide +kernel
theorem dX11_mark_9 : decode cX11_mark 9 = .ok (.iconst 1, 1) := by decide +kernel
theorem dX11_mark_10 : decode cX11_mark 10 = .ok (.iconst 3, 1) := by decide +kernel
theorem dX11_mark_11 : decode cX11_mark 11 = .ok (.invokestatic 75, 3) := by decide +kernel
theorem dX11_mark_14 : decode cX11_mark 14 = .ok (.ifCond .ne 5, 3) := by decide +kernel
theorem dX11_mark_17 : decode cX11_mark 17 = .ok (.iconst (-1), 1) := by decide +kernel
theorem dX11_mark_18 : decode cX11_mark 18 = .ok (.ireturn, 1) := by decide +kernel
theorem dX11_mark_19 : decode cX11_mark 19 = .ok (.aload_n 0, 1) := by decide +kernel
theorem dX11_mark_20 : decode cX11_mark 20 = .ok (.iload_n 1, 1) := by decide +kernel
theorem dX11_mark_21 : decode cX11_mark 21 = .ok (.invokevirtual 201, 3) := by decide +kernel
theorem dX11_mark_24 : decode cX11_mark 24 = .ok (.istore_n 3, 1) := by decide +kernel
theorem dX11_mark_25 : decode cX11_mark 25 = .ok (.iload_n 3, 1) := by decide +kernel
theorem dX11_mark_26 : decode cX11_mark 26 = .ok (.iload_n 2, 1) := by decide +kernel
theorem dX11_mark_27 : decode cX11_mark 27 = .ok (.if_icmp .eq 19, 3) := by decide +kernel
theorem dX11_mark_30 : decode cX11_mark 30 = .ok (.iload_n 3, 1) := by decide +kernel
theorem dX11_mark_31 : decode cX11_mark 31 = .ok (.iconst 3, 1) := by decide +kernel
theorem dX11_mark_32 : decode cX11_mark 32 = .ok (.if_icmp .ne 8, 3) := by decide +kernel
theorem dX11_mark_35 : decode cX11_mark 35 = .ok (.iload_n 2, 1) := by decide +kernel
theorem dX11_mark_36 : decode cX11_mark 36 = .ok (.iconst 1, 1) := by decide +kernel
theorem dX11_mark_37 : decode cX11_mark 37 = .ok (.if_icmp .eq 9, 3) := by decide +kernel
theorem dX11_mark_40 : decode cX11_mark 40 = .ok (.aload_n 0, 1) := by decide +kernel
theorem dX11_mark_41 : decode cX11_mark 41 = .ok (.iconst 3, 1) := by decide +kernel
theorem dX11_mark_42 : decode cX11_mark 42 = .ok (.invokevirtual 83, 3) := by decide +kernel
theorem dX11_mark_45 : decode cX11_mark 45 = .ok (.ireturn, 1) := by decide +kernel
theorem dX11_mark_46 : decode cX11_mark 46 = .ok (.iload_n 2, 1) := by decide +kernel
theorem dX11_mark_47 : decode cX11_mark 47 = .ok (.iconst 1, 1) := by decide +kernel
theorem dX11_mark_48 : decode cX11_mark 48 = .ok (.if_icmp .ne 30, 3) := by decide +kernel
theorem dX11_mark_51 : decode cX11_mark 51 = .ok (.aload_n 0, 1) := by decide +kernel
theorem dX11_mark_52 : decode cX11_mark 52 = .ok (.iload_n 1, 1) := by decide +kernel
theorem dX11_mark_53 : decode cX11_mark 53 = .ok (.invokevirtual 214, 3) := by decide +kernel
theorem dX11_mark_56 : decode cX11_mark 56 = .ok (.aload_n 0, 1) := by decide +kernel
theorem dX11_mark_57 : decode cX11_mark 57 = .ok (.iload_n 1, 1) := by decide +kernel
theorem dX11_mark_58 : decode cX11_mark 58 = .ok (.invokevirtual 217, 3) := by decide +kernel
theorem dX11_mark_61 : decode cX11_mark 61 = .ok (.isub, 1) := by decide +kernel
theorem dX11_mark_62 : decode cX11_mark 62 = .ok (.istore 4, 2) := by decide +kernel
theorem dX11_mark_64 : decode cX11_mark 64 = .ok (.iload 4, 2) := by decide +kernel
theorem dX11_mark_66 : decode cX11_mark 66 = .ok (.ifCond .ge 9, 3) := by decide +kernel
theorem dX11_mark_69 : decode cX11_mark 69 = .ok (.iload 4, 2) := by decide +kernel
theorem dX11_mark_71 : decode cX11_mark 71 = .ok (.ineg, 1) := by decide +kernel
theorem dX11_mark_72 : decode cX11_mark 72 = .ok (.goto 5, 3) := by decide +kernel
theorem dX11_mark_75 : decode cX11_mark 75 = .ok (.iload 4, 2) := by decide +kernel
theorem dX11_mark_77 : decode cX11_mark 77 = .ok (.ireturn, 1) := by decide +kernel
theorem dX11_mark_78 : decode cX11_mark 78 = .ok (.iload_n 2, 1) := by decide +kernel
theorem dX11_mark_79 : decode cX11_mark 79 = .ok (.iconst 2, 1) := by decide +kernel
theorem dX11_mark_80 : decode cX11_mark 80 = .ok (.if_icmp .ne 31, 3) := by decide +kernel
theorem dX11_mark_83 : decode cX11_mark 83 = .ok (.aload_n 0, 1) := by decide +kernel
theorem dX11_mark_84 : decode cX11_mark 84 = .ok (.iload_n 1, 1) := by decide +kernel
theorem dX11_mark_85 : decode cX11_mark 85 = .ok (.iconst 0, 1) := by decide +kernel
theorem dX11_mark_86 : decode cX11_mark 86 = .ok (.invokevirtual 220, 3) := by decide +kernel
theorem dX11_mark_89 : decode cX11_mark 89 = .ok (.aload_n 0, 1) := by decide +kernel
theorem dX11_mark_90 : decode cX11_mark 90 = .ok (.iload_n 1, 1) := by decide +kernel
theorem dX11_mark_91 : decode cX11_mark 91 = .ok (.iconst 0, 1) := by decide +kernel
theorem dX11_mark_92 : decode cX11_mark 92 = .ok (.invokevirtual 229, 3) := by decide +kernel
theorem dX11_mark_95 : decode cX11_mark 95 = .ok (.imul, 1) := by decide +kernel
theorem dX11_mark_96 : decode cX11_mark 96 = .ok (.aload_n 0, 1) := by decide +kernel
theorem dX11_mark_97 : decode cX11_mark 97 = .ok (.iload_n 1, 1) := by decide +kernel
theorem dX11_mark_98 : decode cX11_mark 98 = .ok (.invokevirtual 214, 3) := by decide +kernel
theorem dX11_mark_101 : decode cX11_mark 101 = .ok (.aload_n 0, 1) := by decide +kernel
theorem dX11_mark_102 : decode cX11_mark 102 = .ok (.iload_n 1, 1) := by decide +kernel
theorem dX11_mark_103 : decode cX11_mark 103 = .ok (.invokevirtual 217, 3) := by decide +kernel
theorem dX11_mark_106 : decode cX11_mark 106 = .ok (.imul, 1) := by decide +kernel
theorem dX11_mark_107 : decode cX11_mark 107 = .ok (.isub, 1) := by decide +kernel
theorem dX11_mark_108 : decode cX11_mark 108 = .ok (.goto 59, 3) := by decide +kernel
theorem dX11_mark_111 : decode cX11_mark 111 = .ok (.aload_n 0, 1) := by decide +kernel
theorem dX11_mark_112 : decode cX11_mark 112 = .ok (.iload_n 1, 1) := by decide +kernel
theorem dX11_mark_113 : decode cX11_mark 113 = .ok (.iconst 1, 1) := by decide +kernel
theorem dX11_mark_114 : decode cX11_mark 114 = .ok (.invokevirtual 208, 3) := by decide +kernel
theorem dX11_mark_117 : decode cX11_mark 117 = .ok (.aload_n 0, 1) := by decide +kernel
theorem dX11_mark_118 : decode cX11_mark 118 = .ok (.iload_n 1, 1) := by decide +kernel
theorem dX11_mark_119 : decode cX11_mark 119 = .ok (.iconst 2, 1) := by decide +kernel
theorem dX11_mark_120 : decode cX11_mark 120 = .ok (.invokevirtual 208, 3) := by decide +kernel
theorem dX11_mark_123 : decode cX11_mark 123 = .ok (.imul, 1) := by decide +kernel
theorem dX11_mark_124 : decode cX11_mark 124 = .ok (.aload_n 0, 1) := by decide +kernel
theorem dX11_mark_125 : decode cX11_mark 125 = .ok (.iload_n 1, 1) := by decide +kernel
theorem dX11_mark_126 : decode cX11_mark 126 = .ok (.iconst 1, 1) := by decide +kernel
theorem dX11_mark_127 : decode cX11_mark 127 = .ok (.invokevirtual 208, 3) := by decide +kernel
theorem dX11_mark_130 : decode cX11_mark 130 = .ok (.aload_n 0, 1) := by decide +kernel
theorem dX11_mark_131 : decode cX11_mark 131 = .ok (.iload_n 1, 1) := by decide +kernel
theorem dX11_mark_132 : decode cX11_mark 132 = .ok (.iconst 3, 1) := by decide +kernel
theorem dX11_mark_133 : decode cX11_mark 133 = .ok (.invokevirtual 208, 3) := by decide +kernel
theorem dX11_mark_136 : decode cX11_mark 136 = .ok (.isub, 1) := by decide +kernel
theorem dX11_mark_137 : decode cX11_mark 137 = .ok (.aload_n 0, 1) := by decide +kernel
theorem dX11_mark_138 : decode cX11_mark 138 = .ok (.iload_n 1, 1) := by decide +kernel
theorem dX11_mark_139 : decode cX11_mark 139 = .ok (.iconst 5, 1) := by decide +kernel
theorem dX11_mark_140 : decode cX11_mark 140 = .ok (.invokevirtual 208, 3) := by decide +kernel
theorem dX11_mark_143 : decode cX11_mark 143 = .ok (.isub, 1) := by decide +kernel
theorem dX11_mark_144 : decode cX11_mark 144 = .ok (.aload_n 0, 1) := by decide +kernel
theorem dX11_mark_145 : decode cX11_mark 145 = .ok (.iload_n 1, 1) := by decide +kernel
theorem dX11_mark_146 : decode cX11_mark 146 = .ok (.iconst 2, 1) := by decide +kernel
theorem dX11_mark_147 : decode cX11_mark 147 = .ok (.invokevirtual 208, 3) := by decide +kernel
theorem dX11_mark_150 : decode cX11_mark 150 = .ok (.aload_n 0, 1) := by decide +kernel
theorem dX11_mark_151 : decode cX11_mark 151 = .ok (.iload_n 1, 1) := by decide +kernel
theorem dX11_mark_152 : decode cX11_mark 152 = .ok (.iconst 4, 1) := by decide +kernel
theorem dX11_mark_153 : decode cX11_mark 153 = .ok (.invokevirtual 208, 3) := by decide +kernel
theorem dX11_mark_156 : decode cX11_mark 156 = .ok (.isub, 1) := by decide +kernel
theorem dX11_mark_157 : decode cX11_mark 157 = .ok (.aload_n 0, 1) := by decide +kernel
theorem dX11_mark_158 : decode cX11_mark 158 = .ok (.iload_n 1, 1) := by decide +kernel
theorem dX11_mark_159 : decode cX11_mark 159 = .ok (.bipush 6, 2) := by decide +kernel
theorem dX11_mark_161 : decode cX11_mark 161 = .ok (.invokevirtual 208, 3) := by decide +kernel
theorem dX11_mark_164 : decode cX11_mark 164 = .ok (.isub, 1) := by decide +kernel
theorem dX11_mark_165 : decode cX11_mark 165 = .ok (.imul, 1) := by decide +kernel
theorem dX11_mark_166 : decode cX11_mark 166 = .ok (.isub, 1) := by decide +kernel
theorem dX11_mark_167 : decode cX11_mark 167 = .ok (.ireturn, 1) := by decide +kernel
theorem dX11_pageMany_0 : decode cX11_pageMany 0 = .ok (.iconst 0, 1) := by decide +kernel
theorem dX11_pageMany_1 : decode cX11_pageMany 1 = .ok (.istore_n 1, 1) := by decide +kernel
theorem dX11_pageMany_2 : decode cX11_pageMany 2 = .ok (.iconst 0, 1) := by decide +kernel
theorem dX11_pageMany_3 : decode cX11_pageMany 3 = .ok (.istore_n 2, 1) := by decide +kernel
theorem dX11_pageMany_4 : decode cX11_pageMany 4 = .ok (.iload_n 2, 1) := by decide +kernel
theorem dX11_pageMany_5 : decode cX11_pageMany 5 = .ok (.aload_n 0, 1) := by decide +kernel
theorem dX11_pageMany_6 : decode cX11_pageMany 6 = .ok (.getfield 179, 3) := by decide +kernel
theorem dX11_pageMany_9 : decode cX11_pageMany 9 = .ok (.if_icmp .ge 40, 3) := by decide +kernel
theorem dX11_pageMany_12 : decode cX11_pageMany 12 = .ok (.aload_n 0, 1) := by decide +kernel
theorem dX11_pageMany_13 : decode cX11_pageMany 13 = .ok (.getfield 35, 3) := by decide +kernel
theorem dX11_pageMany_16 : decode cX11_pageMany 16 = .ok (.iconst 4, 1) := by decide +kernel
theorem dX11_pageMany_17 : decode cX11_pageMany 17 = .ok (.iload_n 2, 1) := by decide +kernel
theorem dX11_pageMany_18 : decode cX11_pageMany 18 = .ok (.imul, 1) := by decide +kernel
theorem dX11_pageMany_19 : decode cX11_pageMany 19 = .ok (.iconst 0, 1) := by decide +kernel
theorem dX11_pageMany_20 : decode cX11_pageMany 20 = .ok (.iadd, 1) := by decide +kernel
theorem dX11_pageMany_21 : decode cX11_pageMany 21 = .ok (.iaload, 1) := by decide +kernel
theorem dX11_pageMany_22 : decode cX11_pageMany 22 = .ok (.iload_n 1, 1) := by decide +kernel
theorem dX11_pageMany_23 : decode cX11_pageMany 23 = .ok (.if_icmp .lt 18, 3) := by decide +kernel
theorem dX11_pageMany_26 : decode cX11_pageMany 26 = .ok (.aload_n 0, 1) := by decide +kernel
theorem dX11_pageMany_27 : decode cX11_pageMany 27 = .ok (.getfield 35, 3) := by decide +kernel
theorem dX11_pageMany_30 : decode cX11_pageMany 30 = .ok (.iconst 4, 1) := by decide +kernel
theorem dX11_pageMany_31 : decode cX11_pageMany 31 = .ok (.iload_n 2, 1) := by decide +kernel
theorem dX11_pageMany_32 : decode cX11_pageMany 32 = .ok (.imul, 1) := by decide +kernel
theorem dX11_pageMany_33 : decode cX11_pageMany 33 = .ok (.iconst 0, 1) := by decide +kernel
theorem dX11_pageMany_34 : decode cX11_pageMany 34 = .ok (.iadd, 1) := by decide +kernel
theorem dX11_pageMany_35 : decode cX11_pageMany 35 = .ok (.iaload, 1) := by decide +kernel
theorem dX11_pageMany_36 : decode cX11_pageMany 36 = .ok (.iconst 1, 1) := by decide +kernel
theorem dX11_pageMany_37 : decode cX11_pageMany 37 = .ok (.iadd, 1) := by decide +kernel
theorem dX11_pageMany_38 : decode cX11_pageMany 38 = .ok (.goto 4, 3) := by decide +kernel
theorem dX11_pageMany_41 : decode cX11_pageMany 41 = .ok (.iload_n 1, 1) := by decide +kernel
theorem dX11_pageMany_42 : decode cX11_pageMany 42 = .ok (.istore_n 1, 1) := by decide +kernel
theorem dX11_pageMany_43 : decode cX11_pageMany 43 = .ok (.iinc 2 1, 3) := by decide +kernel
theorem dX11_pageMany_46 : decode cX11_pageMany 46 = .ok (.goto (-42), 3) := by decide +kernel
theorem dX11_pageMany_49 : decode cX11_pageMany 49 = .ok (.iload_n 1, 1) := by decide +kernel
theorem dX11_pageMany_50 : decode cX11_pageMany 50 = .ok (.ireturn, 1) := by decide +kernel
theorem dX11_layGrid_0 : decode cX11_layGrid 0 = .ok (.iconst 0, 1) := by decide +kernel
theorem dX11_layGrid_1 : decode cX11_layGrid 1 = .ok (.istore_n 2, 1) := by decide +kernel
theorem dX11_layGrid_2 : decode cX11_layGrid 2 = .ok (.iload_n 2, 1) := by decide +kernel
theorem dX11_layGrid_3 : decode cX11_layGrid 3 = .ok (.sipush 256, 3) := by decide +kernel
theorem dX11_layGrid_6 : decode cX11_layGrid 6 = .ok (.if_icmp .ge 17, 3) := by decide +kernel
theorem dX11_layGrid_9 : decode cX11_layGrid 9 = .ok (.aload_n 0, 1) := by decide +kernel
theorem dX11_layGrid_10 : decode cX11_layGrid 10 = .ok (.getfield 41, 3) := by decide +kernel
theorem dX11_layGrid_13 : decode cX11_layGrid 13 = .ok (.iload_n 2, 1) := by decide +kernel
theorem dX11_layGrid_14 : decode cX11_layGrid 14 = .ok (.bipush (-9), 2) := by decide +kernel
theorem dX11_layGrid_16 : decode cX11_layGrid 16 = .ok (.iastore, 1) := by decide +kernel
theorem dX11_layGrid_17 : decode cX11_layGrid 17 = .ok (.iinc 2 1, 3) := by decide +kernel
theorem dX11_layGrid_20 : decode cX11_layGrid 20 = .ok (.goto (-18), 3) := by decide +kernel
theorem dX11_layGrid_23 : decode cX11_layGrid 23 = .ok (.iconst 0, 1) := by decide +kernel
theorem dX11_layGrid_24 : decode cX11_layGrid 24 = .ok (.istore_n 2, 1) := by decide +kernel
theorem dX11_layGrid_25 : decode cX11_layGrid 25 = .ok (.iload_n 2, 1) := by decide +kernel
theorem dX11_layGrid_26 : decode cX11_layGrid 26 = .ok (.aload_n 0, 1) := by decide +kernel
theorem dX11_layGrid_27 : decode cX11_layGrid 27 = .ok (.getfield 179, 3) := by decide +kernel
theorem dX11_layGrid_30 : decode cX11_layGrid 30 = .ok (.if_icmp .ge 110, 3) := by decide +kernel
theorem dX11_layGrid_33 : decode cX11_layGrid 33 = .ok (.aload_n 0, 1) := by decide +kernel
theorem dX11_layGrid_34 : decode cX11_layGrid 34 = .ok (.getfield 35, 3) := by decide +kernel
theorem dX11_layGrid_37 : decode cX11_layGrid 37 = .ok (.iconst 4, 1) := by decide +kernel
theorem dX11_layGrid_38 : decode cX11_layGrid 38 = .ok (.iload_n 2, 1) := by decide +kernel
theorem dX11_layGrid_39 : decode cX11_layGrid 39 = .ok (.imul, 1) := by decide +kernel
theorem dX11_layGrid_40 : decode cX11_layGrid 40 = .ok (.iconst 0, 1) := by decide +kernel
theorem dX11_layGrid_41 : decode cX11_layGrid 41 = .ok (.iadd, 1) := by decide +kernel
theorem dX11_layGrid_42 : decode cX11_layGrid 42 = .ok (.iaload, 1) := by decide +kernel
theorem dX11_layGrid_43 : decode cX11_layGrid 43 = .ok (.iload_n 1, 1) := by decide +kernel
theorem dX11_layGrid_44 : decode cX11_layGrid 44 = .ok (.if_icmp .ne 90, 3) := by decide +kernel
theorem dX11_layGrid_47 : decode cX11_layGrid 47 = .ok (.aload_n 0, 1) := by decide +kernel
theorem dX11_layGrid_48 : decode cX11_layGrid 48 = .ok (.getfield 35, 3) := by decide +kernel
theorem dX11_layGrid_51 : decode cX11_layGrid 51 = .ok (.iconst 4, 1) := by decide +kernel
theorem dX11_layGrid_52 : decode cX11_layGrid 52 = .ok (.iload_n 2, 1) := by decide +kernel
theorem dX11_layGrid_53 : decode cX11_layGrid 53 = .ok (.imul, 1) := by decide +kernel
theorem dX11_layGrid_54 : decode cX11_layGrid 54 = .ok (.iconst 3, 1) := by decide +kernel
theorem dX11_layGrid_55 : decode cX11_layGrid 55 = .ok (.iadd, 1) := by decide +kernel
theorem dX11_layGrid_56 : decode cX11_layGrid 56 = .ok (.iaload, 1) := by decide +kernel
theorem dX11_layGrid_57 : decode cX11_layGrid 57 = .ok (.istore_n 3, 1) := by decide +kernel
theorem dX11_layGrid_58 : decode cX11_layGrid 58 = .ok (.iconst 0, 1) := by decide +kernel
theorem dX11_layGrid_59 : decode cX11_layGrid 59 = .ok (.istore 4, 2) := by decide +kernel
theorem dX11_layGrid_61 : decode cX11_layGrid 61 = .ok (.iload 4, 2) := by decide +kernel
theorem dX11_layGrid_63 : decode cX11_layGrid 63 = .ok (.aload_n 0, 1) := by decide +kernel
theorem dX11_layGrid_64 : decode cX11_layGrid 64 = .ok (.iload_n 2, 1) := by decide +kernel
theorem dX11_layGrid_65 : decode cX11_layGrid 65 = .ok (.iload_n 3, 1) := by decide +kernel
theorem dX11_layGrid_66 : decode cX11_layGrid 66 = .ok (.invokevirtual 229, 3) := by decide +kernel
theorem dX11_layGrid_69 : decode cX11_layGrid 69 = .ok (.if_icmp .ge 65, 3) := by decide +kernel
theorem dX11_layGrid_72 : decode cX11_layGrid 72 = .ok (.iconst 0, 1) := by decide +kernel
theorem dX11_layGrid_73 : decode cX11_layGrid 73 = .ok (.istore 5, 2) := by decide +kernel
theorem dX11_layGrid_75 : decode cX11_layGrid 75 = .ok (.iload 5, 2) := by decide +kernel
theorem dX11_layGrid_77 : decode cX11_layGrid 77 = .ok (.aload_n 0, 1) := by decide +kernel
theorem dX11_layGrid_78 : decode cX11_layGrid 78 = .ok (.iload_n 2, 1) := by decide +kernel
theorem dX11_layGrid_79 : decode cX11_layGrid 79 = .ok (.iload_n 3, 1) := by decide +kernel
theorem dX11_layGrid_80 : decode cX11_layGrid 80 = .ok (.invokevirtual 220, 3) := by decide +kernel
theorem dX11_layGrid_83 : decode cX11_layGrid 83 = .ok (.if_icmp .ge 45, 3) := by decide +kernel
theorem dX11_layGrid_86 : decode cX11_layGrid 86 = .ok (.aload_n 0, 1) := by decide +kernel
theorem dX11_layGrid_87 : decode cX11_layGrid 87 = .ok (.getfield 41, 3) := by decide +kernel
theorem dX11_layGrid_90 : decode cX11_layGrid 90 = .ok (.bipush 16, 2) := by decide +kernel
theorem dX11_layGrid_92 : decode cX11_layGrid 92 = .ok (.aload_n 0, 1) := by decide +kernel
theorem dX11_layGrid_93 : decode cX11_layGrid 93 = .ok (.getfield 35, 3) := by decide +kernel
theorem dX11_layGrid_96 : decode cX11_layGrid 96 = .ok (.iconst 4, 1) := by decide +kernel
theorem dX11_layGrid_97 : decode cX11_layGrid 97 = .ok (.iload_n 2, 1) := by decide +kernel
theorem dX11_layGrid_98 : decode cX11_layGrid 98 = .ok (.imul, 1) := by decide +kernel
theorem dX11_layGrid_99 : decode cX11_layGrid 99 = .ok (.iconst 2, 1) := by decide +kernel
theorem dX11_layGrid_100 : decode cX11_layGrid 100 = .ok (.iadd, 1) := by decide +kernel
theorem dX11_layGrid_101 : decode cX11_layGrid 101 = .ok (.iaload, 1) := by decide +kernel
theorem dX11_layGrid_102 : decode cX11_layGrid 102 = .ok (.iload 4, 2) := by decide +kernel
theorem dX11_layGrid_104 : decode cX11_layGrid 104 = .ok (.iadd, 1) := by decide +kernel
theorem dX11_layGrid_105 : decode cX11_layGrid 105 = .ok (.imul, 1) := by decide +kernel
theorem dX11_layGrid_106 : decode cX11_layGrid 106 = .ok (.aload_n 0, 1) := by decide +kernel
theorem dX11_layGrid_107 : decode cX11_layGrid 107 = .ok (.getfield 35, 3) := by decide +kernel
theorem dX11_layGrid_110 : decode cX11_layGrid 110 = .ok (.iconst 4, 1) := by decide +kernel
theorem dX11_layGrid_111 : decode cX11_layGrid 111 = .ok (.iload_n 2, 1) := by decide +kernel
theorem dX11_layGrid_112 : decode cX11_layGrid 112 = .ok (.imul, 1) := by decide +kernel
theorem dX11_layGrid_113 : decode cX11_layGrid 113 = .ok (.iconst 1, 1) := by decide +kernel
theorem dX11_layGrid_114 : decode cX11_layGrid 114 = .ok (.iadd, 1) := by decide +kernel
theorem dX11_layGrid_115 : decode cX11_layGrid 115 = .ok (.iaload, 1) := by decide +kernel
theorem dX11_layGrid_116 : decode cX11_layGrid 116 = .ok (.iadd, 1) := by decide +kernel
theorem dX11_layGrid_117 : decode cX11_layGrid 117 = .ok (.iload 5, 2) := by decide +kernel
theorem dX11_layGrid_119 : decode cX11_layGrid 119 = .ok (.iadd, 1) := by decide +kernel
theorem dX11_layGrid_120 : decode cX11_layGrid 120 = .ok (.iload_n 2, 1) := by decide +kernel
theorem dX11_layGrid_121 : decode cX11_layGrid 121 = .ok (.iastore, 1) := by decide +kernel
theorem dX11_layGrid_122 : decode cX11_layGrid 122 = .ok (.iinc 5 1, 3) := by decide +kernel
theorem dX11_layGrid_125 : decode cX11_layGrid 125 = .ok (.goto (-50), 3) := by decide +kernel
theorem dX11_layGrid_128 : decode cX11_layGrid 128 = .ok (.iinc 4 1, 3) := by decide +kernel
theorem dX11_layGrid_131 : decode cX11_layGrid 131 = .ok (.goto (-70), 3) := by decide +kernel
theorem dX11_layGrid_134 : decode cX11_layGrid 134 = .ok (.iinc 2 1, 3) := by decide +kernel
theorem dX11_layGrid_137 : decode cX11_layGrid 137 = .ok (.goto (-112), 3) := by decide +kernel
theorem dX11_layGrid_140 : decode cX11_layGrid 140 = .ok (.return_, 1) := by decide +kernel
theorem dX11_isFree_0 : decode cX11_isFree 0 = .ok (.iload_n 1, 1) := by decide +kernel
theorem dX11_isFree_1 : decode cX11_isFree 1 = .ok (.ifCond .lt 28, 3) := by decide +kernel
theorem dX11_isFree_4 : decode cX11_isFree 4 = .ok (.iload_n 2, 1) := by decide +kernel
theorem dX11_isFree_5 : decode cX11_isFree 5 = .ok (.ifCond .lt 24, 3) := by decide +kernel
theorem dX11_isFree_8 : decode cX11_isFree 8 = .ok (.iload_n 1, 1) := by decide +kernel
theorem dX11_isFree_9 : decode cX11_isFree 9 = .ok (.iload_n 3, 1) := by decide +kernel
theorem dX11_isFree_10 : decode cX11_isFree 10 = .ok (.iadd, 1) := by decide +kernel
theorem dX11_isFree_11 : decode cX11_isFree 11 = .ok (.aload_n 0, 1) := by decide +kernel
theorem dX11_isFree_12 : decode cX11_isFree 12 = .ok (.getfield 170, 3) := by decide +kernel
theorem dX11_isFree_15 : decode cX11_isFree 15 = .ok (.if_icmp .gt 14, 3) := by decide +kernel
theorem dX11_isFree_18 : decode cX11_isFree 18 = .ok (.iload_n 2, 1) := by decide +kernel
theorem dX11_isFree_19 : decode cX11_isFree 19 = .ok (.iload 4, 2) := by decide +kernel
theorem dX11_isFree_21 : decode cX11_isFree 21 = .ok (.iadd, 1) := by decide +kernel
theorem dX11_isFree_22 : decode cX11_isFree 22 = .ok (.aload_n 0, 1) := by decide +kernel
theorem dX11_isFree_23 : decode cX11_isFree 23 = .ok (.getfield 173, 3) := by decide +kernel
theorem dX11_isFree_26 : decode cX11_isFree 26 = .ok (.if_icmp .le 5, 3) := by decide +kernel
theorem dX11_isFree_29 : decode cX11_isFree 29 = .ok (.iconst 0, 1) := by decide +kernel
theorem dX11_isFree_30 : decode cX11_isFree 30 = .ok (.ireturn, 1) := by decide +kernel
theorem dX11_isFree_31 : decode cX11_isFree 31 = .ok (.iload_n 2, 1) := by decide +kernel
theorem dX11_isFree_32 : decode cX11_isFree 32 = .ok (.istore 5, 2) := by decide +kernel
theorem dX11_isFree_34 : decode cX11_isFree 34 = .ok (.iload 5, 2) := by decide +kernel
theorem dX11_isFree_36 : decode cX11_isFree 36 = .ok (.iload_n 2, 1) := by decide +kernel
theorem dX11_isFree_37 : decode cX11_isFree 37 = .ok (.iload 4, 2) := by decide +kernel
theorem dX11_isFree_39 : decode cX11_isFree 39 = .ok (.iadd, 1) := by decide +kernel
theorem dX11_isFree_40 : decode cX11_isFree 40 = .ok (.if_icmp .ge 46, 3) := by decide +kernel
theorem dX11_isFree_43 : decode cX11_isFree 43 = .ok (.iload_n 1, 1) := by decide +kernel
theorem dX11_isFree_44 : decode cX11_isFree 44 = .ok (.istore 6, 2) := by decide +kernel
theorem dX11_isFree_46 : decode cX11_isFree 46 = .ok (.iload 6, 2) := by decide +kernel
theorem dX11_isFree_48 : decode cX11_isFree 48 = .ok (.iload_n 1, 1) := by decide +kernel
theorem dX11_isFree_49 : decode cX11_isFree 49 = .ok (.iload_n 3, 1) := by decide +kernel
theorem dX11_isFree_50 : decode cX11_isFree 50 = .ok (.iadd, 1) := by decide +kernel
theorem dX11_isFree_51 : decode cX11_isFree 51 = .ok (.if_icmp .ge 29, 3) := by decide +kernel
theorem dX11_isFree_54 : decode cX11_isFree 54 = .ok (.aload_n 0, 1) := by decide +kernel
theorem dX11_isFree_55 : decode cX11_isFree 55 = .ok (.getfield 41, 3) := by decide +kernel
theorem dX11_isFree_58 : decode cX11_isFree 58 = .ok (.bipush 16, 2) := by decide +kernel
theorem dX11_isFree_60 : decode cX11_isFree 60 = .ok (.iload 5, 2) := by decide +kernel
theorem dX11_isFree_62 : decode cX11_isFree 62 = .ok (.imul, 1) := by decide +kernel
theorem dX11_isFree_63 : decode cX11_isFree 63 = .ok (.iload 6, 2) := by decide +kernel
theorem dX11_isFree_65 : decode cX11_isFree 65 = .ok (.iadd, 1) := by decide +kernel
theorem dX11_isFree_66 : decode cX11_isFree 66 = .ok (.iaload, 1) := by decide +kernel
theorem dX11_isFree_67 : decode cX11_isFree 67 = .ok (.bipush (-9), 2) := by decide +kernel
theorem dX11_isFree_69 : decode cX11_isFree 69 = .ok (.if_icmp .eq 5, 3) := by decide +kernel
theorem dX11_isFree_72 : decode cX11_isFree 72 = .ok (.iconst 0, 1) := by decide +kernel
theorem dX11_isFree_73 : decode cX11_isFree 73 = .ok (.ireturn, 1) := by decide +kernel
theorem dX11_isFree_74 : decode cX11_isFree 74 = .ok (.iinc 6 1, 3) := by decide +kernel
theorem dX11_isFree_77 : decode cX11_isFree 77 = .ok (.goto (-31), 3) := by decide +kernel
theorem dX11_isFree_80 : decode cX11_isFree 80 = .ok (.iinc 5 1, 3) := by decide +kernel
theorem dX11_isFree_83 : decode cX11_isFree 83 = .ok (.goto (-49), 3) := by decide +kernel
theorem dX11_isFree_86 : decode cX11_isFree 86 = .ok (.iconst 1, 1) := by decide +kernel
theorem dX11_isFree_87 : decode cX11_isFree 87 = .ok (.ireturn, 1) := by decide +kernel
theorem dX11_isGreatest_0 : decode cX11_isGreatest 0 = .ok (.aload_n 0, 1) := by decide +kernel
theorem dX11_isGreatest_1 : decode cX11_isGreatest 1 = .ok (.iload_n 1, 1) := by decide +kernel
theorem dX11_isGreatest_2 : decode cX11_isGreatest 2 = .ok (.iconst 1, 1) := by decide +kernel
theorem dX11_isGreatest_3 : decode cX11_isGreatest 3 = .ok (.isub, 1) := by decide +kernel
theorem dX11_isGreatest_4 : decode cX11_isGreatest 4 = .ok (.iload_n 2, 1) := by decide +kernel
theorem dX11_isGreatest_5 : decode cX11_isGreatest 5 = .ok (.iconst 1, 1) := by decide +kernel
theorem dX11_isGreatest_6 : decode cX11_isGreatest 6 = .ok (.iload 4, 2) := by decide +kernel
theorem dX11_isGreatest_8 : decode cX11_isGreatest 8 = .ok (.invokevirtual 235, 3) := by decide +kernel
theorem dX11_isGreatest_11 : decode cX11_isGreatest 11 = .ok (.ifCond .ne 48, 3) := by decide +kernel
theorem dX11_isGreatest_14 : decode cX11_isGreatest 14 = .ok (.aload_n 0, 1) := by decide +kernel
theorem dX11_isGreatest_15 : decode cX11_isGreatest 15 = .ok (.iload_n 1, 1) := by decide +kernel
theorem dX11_isGreatest_16 : decode cX11_isGreatest 16 = .ok (.iload_n 2, 1) := by decide +kernel
theorem dX11_isGreatest_17 : decode cX11_isGreatest 17 = .ok (.iconst 1, 1) := by decide +kernel
theorem dX11_isGreatest_18 : decode cX11_isGreatest 18 = .ok (.isub, 1) := by decide +kernel
theorem dX11_isGreatest_19 : decode cX11_isGreatest 19 = .ok (.iload_n 3, 1) := by decide +kernel
theorem dX11_isGreatest_20 : decode cX11_isGreatest 20 = .ok (.iconst 1, 1) := by decide +kernel
theorem dX11_isGreatest_21 : decode cX11_isGreatest 21 = .ok (.invokevirtual 235, 3) := by decide +kernel
theorem dX11_isGreatest_24 : decode cX11_isGreatest 24 = .ok (.ifCond .ne 35, 3) := by decide +kernel
theorem dX11_isGreatest_27 : decode cX11_isGreatest 27 = .ok (.aload_n 0, 1) := by decide +kernel
theorem dX11_isGreatest_28 : decode cX11_isGreatest 28 = .ok (.iload_n 1, 1) := by decide +kernel
theorem dX11_isGreatest_29 : decode cX11_isGreatest 29 = .ok (.iload_n 3, 1) := by decide +kernel
theorem dX11_isGreatest_30 : decode cX11_isGreatest 30 = .ok (.iadd, 1) := by decide +kernel
theorem dX11_isGreatest_31 : decode cX11_isGreatest 31 = .ok (.iload_n 2, 1) := by decide +kernel
theorem dX11_isGreatest_32 : decode cX11_isGreatest 32 = .ok (.iconst 1, 1) := by decide +kernel
theorem dX11_isGreatest_33 : decode cX11_isGreatest 33 = .ok (.iload 4, 2) := by decide +kernel
theorem dX11_isGreatest_35 : decode cX11_isGreatest 35 = .ok (.invokevirtual 235, 3) := by decide +kernel
theorem dX11_isGreatest_38 : decode cX11_isGreatest 38 = .ok (.ifCond .ne 21, 3) := by decide +kernel
theorem dX11_isGreatest_41 : decode cX11_isGreatest 41 = .ok (.aload_n 0, 1) := by decide +kernel
theorem dX11_isGreatest_42 : decode cX11_isGreatest 42 = .ok (.iload_n 1, 1) := by decide +kernel
theorem dX11_isGreatest_43 : decode cX11_isGreatest 43 = .ok (.iload_n 2, 1) := by decide +kernel
theorem dX11_isGreatest_44 : decode cX11_isGreatest 44 = .ok (.iload 4, 2) := by decide +kernel
theorem dX11_isGreatest_46 : decode cX11_isGreatest 46 = .ok (.iadd, 1) := by decide +kernel
theorem dX11_isGreatest_47 : decode cX11_isGreatest 47 = .ok (.iload_n 3, 1) := by decide +kernel
theorem dX11_isGreatest_48 : decode cX11_isGreatest 48 = .ok (.iconst 1, 1) := by decide +kernel
theorem dX11_isGreatest_49 : decode cX11_isGreatest 49 = .ok (.invokevirtual 235, 3) := by decide +kernel
theorem dX11_isGreatest_52 : decode cX11_isGreatest 52 = .ok (.ifCond .ne 7, 3) := by decide +kernel
theorem dX11_isGreatest_55 : decode cX11_isGreatest 55 = .ok (.iconst 1, 1) := by decide +kernel
theorem dX11_isGreatest_56 : decode cX11_isGreatest 56 = .ok (.goto 4, 3) := by decide +kernel
theorem dX11_isGreatest_59 : decode cX11_isGreatest 59 = .ok (.iconst 0, 1) := by decide +kernel
theorem dX11_isGreatest_60 : decode cX11_isGreatest 60 = .ok (.ireturn, 1) := by decide +kernel
theorem dX11_layFree_0 : decode cX11_layFree 0 = .ok (.aload_n 0, 1) := by decide +kernel
theorem dX11_layFree_1 : decode cX11_layFree 1 = .ok (.iload_n 1, 1) := by decide +kernel
theorem dX11_layFree_2 : decode cX11_layFree 2 = .ok (.invokevirtual 239, 3) := by decide +kernel
theorem dX11_layFree_5 : decode cX11_layFree 5 = .ok (.aload_n 0, 1) := by decide +kernel
theorem dX11_layFree_6 : decode cX11_layFree 6 = .ok (.iconst 0, 1) := by decide +kernel
theorem dX11_layFree_7 : decode cX11_layFree 7 = .ok (.putfield 242, 3) := by decide +kernel
theorem dX11_layFree_10 : decode cX11_layFree 10 = .ok (.iconst 0, 1) := by decide +kernel
theorem dX11_layFree_11 : decode cX11_layFree 11 = .ok (.istore_n 2, 1) := by decide +kernel
theorem dX11_layFree_12 : decode cX11_layFree 12 = .ok (.iload_n 2, 1) := by decide +kernel
theorem dX11_layFree_13 : decode cX11_layFree 13 = .ok (.aload_n 0, 1) := by decide +kernel
theorem dX11_layFree_14 : decode cX11_layFree 14 = .ok (.getfield 173, 3) := by decide +kernel
theorem dX11_layFree_17 : decode cX11_layFree 17 = .ok (.if_icmp .ge 154, 3) := by decide +kernel
theorem dX11_layFree_20 : decode cX11_layFree 20 = .ok (.iconst 0, 1) := by decide +kernel
theorem dX11_layFree_21 : decode cX11_layFree 21 = .ok (.istore_n 3, 1) := by decide +kernel
theorem dX11_layFree_22 : decode cX11_layFree 22 = .ok (.iload_n 3, 1) := by decide +kernel
theorem dX11_layFree_23 : decode cX11_layFree 23 = .ok (.aload_n 0, 1) := by decide +kernel
theorem dX11_layFree_24 : decode cX11_layFree 24 = .ok (.getfield 170, 3) := by decide +kernel
theorem dX11_layFree_27 : decode cX11_layFree 27 = .ok (.if_icmp .ge 138, 3) := by decide +kernel
theorem dX11_layFree_30 : decode cX11_layFree 30 = .ok (.aload_n 0, 1) := by decide +kernel
theorem dX11_layFree_31 : decode cX11_layFree 31 = .ok (.getfield 173, 3) := by decide +kernel
theorem dX11_layFree_34 : decode cX11_layFree 34 = .ok (.iload_n 2, 1) := by decide +kernel
theorem dX11_layFree_35 : decode cX11_layFree 35 = .ok (.isub, 1) := by decide +kernel
theorem dX11_layFree_36 : decode cX11_layFree 36 = .ok (.istore 4, 2) := by decide +kernel
theorem dX11_layFree_38 : decode cX11_layFree 38 = .ok (.iconst 1, 1) := by decide +kernel
theorem dX11_layFree_39 : decode cX11_layFree 39 = .ok (.istore 5, 2) := by decide +kernel
theorem dX11_layFree_41 : decode cX11_layFree 41 = .ok (.aload_n 0, 1) := by decide +kernel
theorem dX11_layFree_42 : decode cX11_layFree 42 = .ok (.iload_n 3, 1) := by decide +kernel
theorem dX11_layFree_43 : decode cX11_layFree 43 = .ok (.iload_n 2, 1) := by decide +kernel
theorem dX11_layFree_44 : decode cX11_layFree 44 = .ok (.iload 5, 2) := by decide +kernel
theorem dX11_layFree_46 : decode cX11_layFree 46 = .ok (.iconst 1, 1) := by decide +kernel
theorem dX11_layFree_47 : decode cX11_layFree 47 = .ok (.invokevirtual 235, 3) := by decide +kernel
theorem dX11_layFree_50 : decode cX11_layFree 50 = .ok (.ifCond .eq 109, 3) := by decide +kernel
theorem dX11_layFree_53 : decode cX11_layFree 53 = .ok (.iconst 1, 1) := by decide +kernel
theorem dX11_layFree_54 : decode cX11_layFree 54 = .ok (.istore 6, 2) := by decide +kernel
theorem dX11_layFree_56 : decode cX11_layFree 56 = .ok (.iload 6, 2) := by decide +kernel
theorem dX11_layFree_58 : decode cX11_layFree 58 = .ok (.iload 4, 2) := by decide +kernel
theorem dX11_layFree_60 : decode cX11_layFree 60 = .ok (.if_icmp .ge 24, 3) := by decide +kernel
theorem dX11_layFree_63 : decode cX11_layFree 63 = .ok (.aload_n 0, 1) := by decide +kernel
theorem dX11_layFree_64 : decode cX11_layFree 64 = .ok (.iload_n 3, 1) := by decide +kernel
theorem dX11_layFree_65 : decode cX11_layFree 65 = .ok (.iload_n 2, 1) := by decide +kernel
theorem dX11_layFree_66 : decode cX11_layFree 66 = .ok (.iload 6, 2) := by decide +kernel
theorem dX11_layFree_68 : decode cX11_layFree 68 = .ok (.iadd, 1) := by decide +kernel
theorem dX11_layFree_69 : decode cX11_layFree 69 = .ok (.iload 5, 2) := by decide +kernel
theorem dX11_layFree_71 : decode cX11_layFree 71 = .ok (.iconst 1, 1) := by decide +kernel
theorem dX11_layFree_72 : decode cX11_layFree 72 = .ok (.invokevirtual 235, 3) := by decide +kernel
theorem dX11_layFree_75 : decode cX11_layFree 75 = .ok (.ifCond .eq 9, 3) := by decide +kernel
theorem dX11_layFree_78 : decode cX11_layFree 78 = .ok (.iinc 6 1, 3) := by decide +kernel
theorem dX11_layFree_81 : decode cX11_layFree 81 = .ok (.goto (-25), 3) := by decide +kernel
theorem dX11_layFree_84 : decode cX11_layFree 84 = .ok (.iload 6, 2) := by decide +kernel
theorem dX11_layFree_86 : decode cX11_layFree 86 = .ok (.istore 4, 2) := by decide +kernel
theorem dX11_layFree_88 : decode cX11_layFree 88 = .ok (.aload_n 0, 1) := by decide +kernel
theorem dX11_layFree_89 : decode cX11_layFree 89 = .ok (.iload_n 3, 1) := by decide +kernel
theorem dX11_layFree_90 : decode cX11_layFree 90 = .ok (.iload_n 2, 1) := by decide +kernel
theorem dX11_layFree_91 : decode cX11_layFree 91 = .ok (.iload 5, 2) := by decide +kernel
theorem dX11_layFree_93 : decode cX11_layFree 93 = .ok (.iload 6, 2) := by decide +kernel
theorem dX11_layFree_95 : decode cX11_layFree 95 = .ok (.invokevirtual 245, 3) := by decide +kernel
theorem dX11_layFree_98 : decode cX11_layFree 98 = .ok (.ifCond .eq 55, 3) := by decide +kernel
theorem dX11_layFree_101 : decode cX11_layFree 101 = .ok (.aload_n 0, 1) := by decide +kernel
theorem dX11_layFree_102 : decode cX11_layFree 102 = .ok (.getfield 44, 3) := by decide +kernel
theorem dX11_layFree_105 : decode cX11_layFree 105 = .ok (.aload_n 0, 1) := by decide +kernel
theorem dX11_layFree_106 : decode cX11_layFree 106 = .ok (.getfield 242, 3) := by decide +kernel
theorem dX11_layFree_109 : decode cX11_layFree 109 = .ok (.iload_n 3, 1) := by decide +kernel
theorem dX11_layFree_110 : decode cX11_layFree 110 = .ok (.iastore, 1) := by decide +kernel
theorem dX11_layFree_111 : decode cX11_layFree 111 = .ok (.aload_n 0, 1) := by decide +kernel
theorem dX11_layFree_112 : decode cX11_layFree 112 = .ok (.getfield 47, 3) := by decide +kernel
theorem dX11_layFree_115 : decode cX11_layFree 115 = .ok (.aload_n 0, 1) := by decide +kernel
theorem dX11_layFree_116 : decode cX11_layFree 116 = .ok (.getfield 242, 3) := by decide +kernel
theorem dX11_layFree_119 : decode cX11_layFree 119 = .ok (.iload_n 2, 1) := by decide +kernel
theorem dX11_layFree_120 : decode cX11_layFree 120 = .ok (.iastore, 1) := by decide +kernel
theorem dX11_layFree_121 : decode cX11_layFree 121 = .ok (.aload_n 0, 1) := by decide +kernel
theorem dX11_layFree_122 : decode cX11_layFree 122 = .ok (.getfield 50, 3) := by decide +kernel
theorem dX11_layFree_125 : decode cX11_layFree 125 = .ok (.aload_n 0, 1) := by decide +kernel
theorem dX11_layFree_126 : decode cX11_layFree 126 = .ok (.getfield 242, 3) := by decide +kernel
theorem dX11_layFree_129 : decode cX11_layFree 129 = .ok (.iload 5, 2) := by decide +kernel
theorem dX11_layFree_131 : decode cX11_layFree 131 = .ok (.iastore, 1) := by decide +kernel
theorem dX11_layFree_132 : decode cX11_layFree 132 = .ok (.aload_n 0, 1) := by decide +kernel
theorem dX11_layFree_133 : decode cX11_layFree 133 = .ok (.getfield 53, 3) := by decide +kernel
theorem dX11_layFree_136 : decode cX11_layFree 136 = .ok (.aload_n 0, 1) := by decide +kernel
theorem dX11_layFree_137 : decode cX11_layFree 137 = .ok (.getfield 242, 3) := by decide +kernel
theorem dX11_layFree_140 : decode cX11_layFree 140 = .ok (.iload 6, 2) := by decide +kernel
theorem dX11_layFree_142 : decode cX11_layFree 142 = .ok (.iastore, 1) := by decide +kernel
theorem dX11_layFree_143 : decode cX11_layFree 143 = .ok (.aload_n 0, 1) := by decide +kernel
theorem dX11_layFree_144 : decode cX11_layFree 144 = .ok (.dup, 1) := by decide +kernel
theorem dX11_layFree_145 : decode cX11_layFree 145 = .ok (.getfield 242, 3) := by decide +kernel
theorem dX11_layFree_148 : decode cX11_layFree 148 = .ok (.iconst 1, 1) := by decide +kernel
theorem dX11_layFree_149 : decode cX11_layFree 149 = .ok (.iadd, 1) := by decide +kernel
theorem dX11_layFree_150 : decode cX11_layFree 150 = .ok (.putfield 242, 3) := by decide +kernel
theorem dX11_layFree_153 : decode cX11_layFree 153 = .ok (.iinc 5 1, 3) := by decide +kernel
