theorem dX10_point_89 : decode cX10_point 89 = .ok (.isub, 1) := by decide +kernel
theorem dX10_point_90 : decode cX10_point 90 = .ok (.istore 7, 2) := by decide +kernel
theorem dX10_point_92 : decode cX10_point 92 = .ok (.iload 6, 2) := by decide +kernel
theorem dX10_point_94 : decode cX10_point 94 = .ok (.aload 4, 2) := by decide +kernel
theorem dX10_point_96 : decode cX10_point 96 = .ok (.getfield 176, 3) := by decide +kernel
theorem dX10_point_99 : decode cX10_point 99 = .ok (.invokestatic 84, 3) := by decide +kernel
theorem dX10_point_102 : decode cX10_point 102 = .ok (.ifCond .eq 16, 3) := by decide +kernel
theorem dX10_point_105 : decode cX10_point 105 = .ok (.iload 7, 2) := by decide +kernel
theorem dX10_point_107 : decode cX10_point 107 = .ok (.aload 4, 2) := by decide +kernel
theorem dX10_point_109 : decode cX10_point 109 = .ok (.getfield 179, 3) := by decide +kernel
theorem dX10_point_112 : decode cX10_point 112 = .ok (.invokestatic 84, 3) := by decide +kernel
theorem dX10_point_115 : decode cX10_point 115 = .ok (.ifCond .ne 6, 3) := by decide +kernel
theorem dX10_point_118 : decode cX10_point 118 = .ok (.bipush (-9), 2) := by decide +kernel
theorem dX10_point_120 : decode cX10_point 120 = .ok (.ireturn, 1) := by decide +kernel
theorem dX10_point_121 : decode cX10_point 121 = .ok (.aload 5, 2) := by decide +kernel
theorem dX10_point_123 : decode cX10_point 123 = .ok (.iload_n 1, 1) := by decide +kernel
theorem dX10_point_124 : decode cX10_point 124 = .ok (.invokevirtual 269, 3) := by decide +kernel
theorem dX10_point_127 : decode cX10_point 127 = .ok (.istore 8, 2) := by decide +kernel
theorem dX10_point_129 : decode cX10_point 129 = .ok (.aload 5, 2) := by decide +kernel
theorem dX10_point_131 : decode cX10_point 131 = .ok (.iload_n 1, 1) := by decide +kernel
theorem dX10_point_132 : decode cX10_point 132 = .ok (.invokevirtual 272, 3) := by decide +kernel
theorem dX10_point_135 : decode cX10_point 135 = .ok (.aload 4, 2) := by decide +kernel
theorem dX10_point_137 : decode cX10_point 137 = .ok (.getfield 275, 3) := by decide +kernel
theorem dX10_point_140 : decode cX10_point 140 = .ok (.iadd, 1) := by decide +kernel
theorem dX10_point_141 : decode cX10_point 141 = .ok (.iload 8, 2) := by decide +kernel
theorem dX10_point_143 : decode cX10_point 143 = .ok (.ifCond .eq 8, 3) := by decide +kernel
theorem dX10_point_146 : decode cX10_point 146 = .ok (.iload 7, 2) := by decide +kernel
theorem dX10_point_148 : decode cX10_point 148 = .ok (.goto 5, 3) := by decide +kernel
theorem dX10_point_151 : decode cX10_point 151 = .ok (.iload 6, 2) := by decide +kernel
theorem dX10_point_153 : decode cX10_point 153 = .ok (.iadd, 1) := by decide +kernel
theorem dX10_point_154 : decode cX10_point 154 = .ok (.istore 9, 2) := by decide +kernel
theorem dX10_point_156 : decode cX10_point 156 = .ok (.aload 5, 2) := by decide +kernel
theorem dX10_point_158 : decode cX10_point 158 = .ok (.iload_n 1, 1) := by decide +kernel
theorem dX10_point_159 : decode cX10_point 159 = .ok (.invokevirtual 278, 3) := by decide +kernel
theorem dX10_point_162 : decode cX10_point 162 = .ok (.aload 4, 2) := by decide +kernel
theorem dX10_point_164 : decode cX10_point 164 = .ok (.getfield 275, 3) := by decide +kernel
theorem dX10_point_167 : decode cX10_point 167 = .ok (.iadd, 1) := by decide +kernel
theorem dX10_point_168 : decode cX10_point 168 = .ok (.iload 8, 2) := by decide +kernel
theorem dX10_point_170 : decode cX10_point 170 = .ok (.ifCond .eq 8, 3) := by decide +kernel
theorem dX10_point_173 : decode cX10_point 173 = .ok (.iload 6, 2) := by decide +kernel
theorem dX10_point_175 : decode cX10_point 175 = .ok (.goto 5, 3) := by decide +kernel
theorem dX10_point_178 : decode cX10_point 178 = .ok (.iload 7, 2) := by decide +kernel
theorem dX10_point_180 : decode cX10_point 180 = .ok (.iadd, 1) := by decide +kernel
theorem dX10_point_181 : decode cX10_point 181 = .ok (.istore 10, 2) := by decide +kernel
theorem dX10_point_183 : decode cX10_point 183 = .ok (.sipush 10000, 3) := by decide +kernel
theorem dX10_point_186 : decode cX10_point 186 = .ok (.aload 5, 2) := by decide +kernel
theorem dX10_point_188 : decode cX10_point 188 = .ok (.iload_n 1, 1) := by decide +kernel
theorem dX10_point_189 : decode cX10_point 189 = .ok (.invokevirtual 207, 3) := by decide +kernel
theorem dX10_point_192 : decode cX10_point 192 = .ok (.imul, 1) := by decide +kernel
theorem dX10_point_193 : decode cX10_point 193 = .ok (.bipush 100, 2) := by decide +kernel
theorem dX10_point_195 : decode cX10_point 195 = .ok (.iload 9, 2) := by decide +kernel
theorem dX10_point_197 : decode cX10_point 197 = .ok (.imul, 1) := by decide +kernel
theorem dX10_point_198 : decode cX10_point 198 = .ok (.iadd, 1) := by decide +kernel
theorem dX10_point_199 : decode cX10_point 199 = .ok (.iload 10, 2) := by decide +kernel
theorem dX10_point_201 : decode cX10_point 201 = .ok (.iadd, 1) := by decide +kernel
theorem dX10_point_202 : decode cX10_point 202 = .ok (.ireturn, 1) := by decide +kernel
theorem dX10_used_0 : decode cX10_used 0 = .ok (.aload_n 0, 1) := by decide +kernel
theorem dX10_used_1 : decode cX10_used 1 = .ok (.iload_n 1, 1) := by decide +kernel
theorem dX10_used_2 : decode cX10_used 2 = .ok (.invokevirtual 229, 3) := by decide +kernel
theorem dX10_used_5 : decode cX10_used 5 = .ok (.ifCond .ne 5, 3) := by decide +kernel
theorem dX10_used_8 : decode cX10_used 8 = .ok (.iconst (-1), 1) := by decide +kernel
theorem dX10_used_9 : decode cX10_used 9 = .ok (.ireturn, 1) := by decide +kernel
theorem dX10_used_10 : decode cX10_used 10 = .ok (.aload_n 0, 1) := by decide +kernel
theorem dX10_used_11 : decode cX10_used 11 = .ok (.getfield 71, 3) := by decide +kernel
theorem dX10_used_14 : decode cX10_used 14 = .ok (.aload_n 0, 1) := by decide +kernel
theorem dX10_used_15 : decode cX10_used 15 = .ok (.getfield 32, 3) := by decide +kernel
theorem dX10_used_18 : decode cX10_used 18 = .ok (.getfield 163, 3) := by decide +kernel
theorem dX10_used_21 : decode cX10_used 21 = .ok (.iload_n 1, 1) := by decide +kernel
theorem dX10_used_22 : decode cX10_used 22 = .ok (.invokevirtual 281, 3) := by decide +kernel
theorem dX10_used_25 : decode cX10_used 25 = .ok (.istore_n 2, 1) := by decide +kernel
theorem dX10_used_26 : decode cX10_used 26 = .ok (.aload_n 0, 1) := by decide +kernel
theorem dX10_used_27 : decode cX10_used 27 = .ok (.getfield 71, 3) := by decide +kernel
theorem dX10_used_30 : decode cX10_used 30 = .ok (.getfield 243, 3) := by decide +kernel
theorem dX10_used_33 : decode cX10_used 33 = .ok (.aload_n 0, 1) := by decide +kernel
theorem dX10_used_34 : decode cX10_used 34 = .ok (.getfield 71, 3) := by decide +kernel
theorem dX10_used_37 : decode cX10_used 37 = .ok (.getfield 246, 3) := by decide +kernel
theorem dX10_used_40 : decode cX10_used 40 = .ok (.imul, 1) := by decide +kernel
theorem dX10_used_41 : decode cX10_used 41 = .ok (.istore_n 3, 1) := by decide +kernel
theorem dX10_used_42 : decode cX10_used 42 = .ok (.aload_n 0, 1) := by decide +kernel
theorem dX10_used_43 : decode cX10_used 43 = .ok (.iload_n 3, 1) := by decide +kernel
theorem dX10_used_44 : decode cX10_used 44 = .ok (.ifCond .ne 7, 3) := by decide +kernel
theorem dX10_used_47 : decode cX10_used 47 = .ok (.iconst 0, 1) := by decide +kernel
theorem dX10_used_48 : decode cX10_used 48 = .ok (.goto 9, 3) := by decide +kernel
theorem dX10_used_51 : decode cX10_used 51 = .ok (.bipush 100, 2) := by decide +kernel
theorem dX10_used_53 : decode cX10_used 53 = .ok (.iload_n 2, 1) := by decide +kernel
theorem dX10_used_54 : decode cX10_used 54 = .ok (.imul, 1) := by decide +kernel
theorem dX10_used_55 : decode cX10_used 55 = .ok (.iload_n 3, 1) := by decide +kernel
theorem dX10_used_56 : decode cX10_used 56 = .ok (.idiv, 1) := by decide +kernel
theorem dX10_used_57 : decode cX10_used 57 = .ok (.putfield 75, 3) := by decide +kernel
theorem dX10_used_60 : decode cX10_used 60 = .ok (.iload_n 2, 1) := by decide +kernel
theorem dX10_used_61 : decode cX10_used 61 = .ok (.ireturn, 1) := by decide +kernel
theorem dX10_takes_0 : decode cX10_takes 0 = .ok (.aload_n 0, 1) := by decide +kernel
theorem dX10_takes_1 : decode cX10_takes 1 = .ok (.iload_n 1, 1) := by decide +kernel
theorem dX10_takes_2 : decode cX10_takes 2 = .ok (.invokevirtual 229, 3) := by decide +kernel
theorem dX10_takes_5 : decode cX10_takes 5 = .ok (.ifCond .ne 5, 3) := by decide +kernel
theorem dX10_takes_8 : decode cX10_takes 8 = .ok (.iconst (-1), 1) := by decide +kernel
theorem dX10_takes_9 : decode cX10_takes 9 = .ok (.ireturn, 1) := by decide +kernel
theorem dX10_takes_10 : decode cX10_takes 10 = .ok (.aload_n 0, 1) := by decide +kernel
theorem dX10_takes_11 : decode cX10_takes 11 = .ok (.getfield 53, 3) := by decide +kernel
theorem dX10_takes_14 : decode cX10_takes 14 = .ok (.getfield 232, 3) := by decide +kernel
theorem dX10_takes_17 : decode cX10_takes 17 = .ok (.astore_n 2, 1) := by decide +kernel
theorem dX10_takes_18 : decode cX10_takes 18 = .ok (.aload_n 2, 1) := by decide +kernel
theorem dX10_takes_19 : decode cX10_takes 19 = .ok (.aload_n 0, 1) := by decide +kernel
theorem dX10_takes_20 : decode cX10_takes 20 = .ok (.getfield 71, 3) := by decide +kernel
theorem dX10_takes_23 : decode cX10_takes 23 = .ok (.aload_n 0, 1) := by decide +kernel
theorem dX10_takes_24 : decode cX10_takes 24 = .ok (.getfield 32, 3) := by decide +kernel
theorem dX10_takes_27 : decode cX10_takes 27 = .ok (.getfield 163, 3) := by decide +kernel
theorem dX10_takes_30 : decode cX10_takes 30 = .ok (.iload_n 1, 1) := by decide +kernel
theorem dX10_takes_31 : decode cX10_takes 31 = .ok (.invokevirtual 236, 3) := by decide +kernel
theorem dX10_takes_34 : decode cX10_takes 34 = .ok (.iconst 0, 1) := by decide +kernel
theorem dX10_takes_35 : decode cX10_takes 35 = .ok (.istore_n 3, 1) := by decide +kernel
theorem dX10_takes_36 : decode cX10_takes 36 = .ok (.iconst 0, 1) := by decide +kernel
theorem dX10_takes_37 : decode cX10_takes 37 = .ok (.istore 4, 2) := by decide +kernel
theorem dX10_takes_39 : decode cX10_takes 39 = .ok (.iload 4, 2) := by decide +kernel
theorem dX10_takes_41 : decode cX10_takes 41 = .ok (.aload_n 0, 1) := by decide +kernel
theorem dX10_takes_42 : decode cX10_takes 42 = .ok (.getfield 71, 3) := by decide +kernel
theorem dX10_takes_45 : decode cX10_takes 45 = .ok (.getfield 140, 3) := by decide +kernel
theorem dX10_takes_48 : decode cX10_takes 48 = .ok (.if_icmp .ge 51, 3) := by decide +kernel
theorem dX10_takes_51 : decode cX10_takes 51 = .ok (.aload_n 0, 1) := by decide +kernel
theorem dX10_takes_52 : decode cX10_takes 52 = .ok (.getfield 32, 3) := by decide +kernel
theorem dX10_takes_55 : decode cX10_takes 55 = .ok (.getfield 163, 3) := by decide +kernel
theorem dX10_takes_58 : decode cX10_takes 58 = .ok (.iload 4, 2) := by decide +kernel
theorem dX10_takes_60 : decode cX10_takes 60 = .ok (.invokevirtual 166, 3) := by decide +kernel
theorem dX10_takes_63 : decode cX10_takes 63 = .ok (.ifCond .ne 30, 3) := by decide +kernel
theorem dX10_takes_66 : decode cX10_takes 66 = .ok (.aload_n 2, 1) := by decide +kernel
theorem dX10_takes_67 : decode cX10_takes 67 = .ok (.aload_n 0, 1) := by decide +kernel
theorem dX10_takes_68 : decode cX10_takes 68 = .ok (.getfield 71, 3) := by decide +kernel
theorem dX10_takes_71 : decode cX10_takes 71 = .ok (.getfield 154, 3) := by decide +kernel
theorem dX10_takes_74 : decode cX10_takes 74 = .ok (.iload 4, 2) := by decide +kernel
theorem dX10_takes_76 : decode cX10_takes 76 = .ok (.aaload, 1) := by decide +kernel
theorem dX10_takes_77 : decode cX10_takes 77 = .ok (.iconst 0, 1) := by decide +kernel
theorem dX10_takes_78 : decode cX10_takes 78 = .ok (.invokevirtual 285, 3) := by decide +kernel
theorem dX10_takes_81 : decode cX10_takes 81 = .ok (.bipush (-9), 2) := by decide +kernel
theorem dX10_takes_83 : decode cX10_takes 83 = .ok (.if_icmp .eq 10, 3) := by decide +kernel
theorem dX10_takes_86 : decode cX10_takes 86 = .ok (.iload_n 3, 1) := by decide +kernel
theorem dX10_takes_87 : decode cX10_takes 87 = .ok (.iconst 1, 1) := by decide +kernel
theorem dX10_takes_88 : decode cX10_takes 88 = .ok (.iload 4, 2) := by decide +kernel
theorem dX10_takes_90 : decode cX10_takes 90 = .ok (.ishl, 1) := by decide +kernel
theorem dX10_takes_91 : decode cX10_takes 91 = .ok (.ior, 1) := by decide +kernel
theorem dX10_takes_92 : decode cX10_takes 92 = .ok (.istore_n 3, 1) := by decide +kernel
theorem dX10_takes_93 : decode cX10_takes 93 = .ok (.iinc 4 1, 3) := by decide +kernel
theorem dX10_takes_96 : decode cX10_takes 96 = .ok (.goto (-57), 3) := by decide +kernel
theorem dX10_takes_99 : decode cX10_takes 99 = .ok (.aload_n 0, 1) := by decide +kernel
theorem dX10_takes_100 : decode cX10_takes 100 = .ok (.aload_n 2, 1) := by decide +kernel
theorem dX10_takes_101 : decode cX10_takes 101 = .ok (.invokevirtual 289, 3) := by decide +kernel
theorem dX10_takes_104 : decode cX10_takes 104 = .ok (.putfield 75, 3) := by decide +kernel
theorem dX10_takes_107 : decode cX10_takes 107 = .ok (.iload_n 3, 1) := by decide +kernel
theorem dX10_takes_108 : decode cX10_takes 108 = .ok (.ireturn, 1) := by decide +kernel
theorem dX10_would_0 : decode cX10_would 0 = .ok (.iload_n 1, 1) := by decide +kernel
theorem dX10_would_1 : decode cX10_would 1 = .ok (.iconst 4, 1) := by decide +kernel
theorem dX10_would_2 : decode cX10_would 2 = .ok (.invokestatic 84, 3) := by decide +kernel
theorem dX10_would_5 : decode cX10_would 5 = .ok (.ifCond .eq 18, 3) := by decide +kernel
theorem dX10_would_8 : decode cX10_would 8 = .ok (.iload_n 2, 1) := by decide +kernel
theorem dX10_would_9 : decode cX10_would 9 = .ok (.iconst 3, 1) := by decide +kernel
theorem dX10_would_10 : decode cX10_would 10 = .ok (.invokestatic 84, 3) := by decide +kernel
theorem dX10_would_13 : decode cX10_would 13 = .ok (.ifCond .eq 10, 3) := by decide +kernel
theorem dX10_would_16 : decode cX10_would 16 = .ok (.aload_n 0, 1) := by decide +kernel
theorem dX10_would_17 : decode cX10_would 17 = .ok (.invokevirtual 141, 3) := by decide +kernel
theorem dX10_would_20 : decode cX10_would 20 = .ok (.ifCond .eq 5, 3) := by decide +kernel
theorem dX10_would_23 : decode cX10_would 23 = .ok (.iconst (-1), 1) := by decide +kernel
theorem dX10_would_24 : decode cX10_would 24 = .ok (.ireturn, 1) := by decide +kernel
theorem dX10_would_25 : decode cX10_would 25 = .ok (.aload_n 0, 1) := by decide +kernel
theorem dX10_would_26 : decode cX10_would 26 = .ok (.getfield 60, 3) := by decide +kernel
theorem dX10_would_29 : decode cX10_would 29 = .ok (.iload_n 1, 1) := by decide +kernel
theorem dX10_would_30 : decode cX10_would 30 = .ok (.putfield 217, 3) := by decide +kernel
theorem dX10_would_33 : decode cX10_would 33 = .ok (.aload_n 0, 1) := by decide +kernel
theorem dX10_would_34 : decode cX10_would 34 = .ok (.getfield 53, 3) := by decide +kernel
theorem dX10_would_37 : decode cX10_would 37 = .ok (.aload_n 0, 1) := by decide +kernel
theorem dX10_would_38 : decode cX10_would 38 = .ok (.getfield 71, 3) := by decide +kernel
theorem dX10_would_41 : decode cX10_would 41 = .ok (.aload_n 0, 1) := by decide +kernel
theorem dX10_would_42 : decode cX10_would 42 = .ok (.getfield 60, 3) := by decide +kernel
theorem dX10_would_45 : decode cX10_would 45 = .ok (.iload_n 2, 1) := by decide +kernel
theorem dX10_would_46 : decode cX10_would 46 = .ok (.invokevirtual 213, 3) := by decide +kernel
theorem dX10_would_49 : decode cX10_would 49 = .ok (.iconst 0, 1) := by decide +kernel
theorem dX10_would_50 : decode cX10_would 50 = .ok (.istore_n 3, 1) := by decide +kernel
theorem dX10_would_51 : decode cX10_would 51 = .ok (.iconst 0, 1) := by decide +kernel
theorem dX10_would_52 : decode cX10_would 52 = .ok (.istore 4, 2) := by decide +kernel
theorem dX10_would_54 : decode cX10_would 54 = .ok (.iload 4, 2) := by decide +kernel
theorem dX10_would_56 : decode cX10_would 56 = .ok (.aload_n 0, 1) := by decide +kernel
theorem dX10_would_57 : decode cX10_would 57 = .ok (.getfield 71, 3) := by decide +kernel
theorem dX10_would_60 : decode cX10_would 60 = .ok (.getfield 140, 3) := by decide +kernel
theorem dX10_would_63 : decode cX10_would 63 = .ok (.if_icmp .ge 28, 3) := by decide +kernel
theorem dX10_would_66 : decode cX10_would 66 = .ok (.aload_n 0, 1) := by decide +kernel
theorem dX10_would_67 : decode cX10_would 67 = .ok (.getfield 60, 3) := by decide +kernel
theorem dX10_would_70 : decode cX10_would 70 = .ok (.iload 4, 2) := by decide +kernel
theorem dX10_would_72 : decode cX10_would 72 = .ok (.invokevirtual 166, 3) := by decide +kernel
theorem dX10_would_75 : decode cX10_would 75 = .ok (.ifCond .ne 10, 3) := by decide +kernel
theorem dX10_would_78 : decode cX10_would 78 = .ok (.iload_n 3, 1) := by decide +kernel
theorem dX10_would_79 : decode cX10_would 79 = .ok (.iconst 1, 1) := by decide +kernel
theorem dX10_would_80 : decode cX10_would 80 = .ok (.iload 4, 2) := by decide +kernel
theorem dX10_would_82 : decode cX10_would 82 = .ok (.ishl, 1) := by decide +kernel
theorem dX10_would_83 : decode cX10_would 83 = .ok (.ior, 1) := by decide +kernel
theorem dX10_would_84 : decode cX10_would 84 = .ok (.istore_n 3, 1) := by decide +kernel
theorem dX10_would_85 : decode cX10_would 85 = .ok (.iinc 4 1, 3) := by decide +kernel
theorem dX10_would_88 : decode cX10_would 88 = .ok (.goto (-34), 3) := by decide +kernel
theorem dX10_would_91 : decode cX10_would 91 = .ok (.aload_n 0, 1) := by decide +kernel
theorem dX10_would_92 : decode cX10_would 92 = .ok (.iload_n 3, 1) := by decide +kernel
theorem dX10_would_93 : decode cX10_would 93 = .ok (.putfield 75, 3) := by decide +kernel
theorem dX10_would_96 : decode cX10_would 96 = .ok (.aload_n 0, 1) := by decide +kernel
theorem dX10_would_97 : decode cX10_would 97 = .ok (.getfield 60, 3) := by decide +kernel
theorem dX10_would_100 : decode cX10_would 100 = .ok (.invokevirtual 210, 3) := by decide +kernel
theorem dX10_would_103 : decode cX10_would 103 = .ok (.ireturn, 1) := by decide +kernel
theorem dX10_best_0 : decode cX10_best 0 = .ok (.aload_n 0, 1) := by decide +kernel
theorem dX10_best_1 : decode cX10_best 1 = .ok (.invokevirtual 141, 3) := by decide +kernel
theorem dX10_best_4 : decode cX10_best 4 = .ok (.ifCond .eq 6, 3) := by decide +kernel
theorem dX10_best_7 : decode cX10_best 7 = .ok (.bipush (-4), 2) := by decide +kernel
theorem dX10_best_9 : decode cX10_best 9 = .ok (.ireturn, 1) := by decide +kernel
theorem dX10_best_10 : decode cX10_best 10 = .ok (.iconst 0, 1) := by decide +kernel
theorem dX10_best_11 : decode cX10_best 11 = .ok (.istore_n 1, 1) := by decide +kernel
theorem dX10_best_12 : decode cX10_best 12 = .ok (.iconst 0, 1) := by decide +kernel
theorem dX10_best_13 : decode cX10_best 13 = .ok (.istore_n 2, 1) := by decide +kernel
theorem dX10_best_14 : decode cX10_best 14 = .ok (.bipush (-9), 2) := by decide +kernel
theorem dX10_best_16 : decode cX10_best 16 = .ok (.istore_n 3, 1) := by decide +kernel
theorem dX10_best_17 : decode cX10_best 17 = .ok (.iconst 0, 1) := by decide +kernel
theorem dX10_best_18 : decode cX10_best 18 = .ok (.istore 4, 2) := by decide +kernel
theorem dX10_best_20 : decode cX10_best 20 = .ok (.iload 4, 2) := by decide +kernel
theorem dX10_best_22 : decode cX10_best 22 = .ok (.iconst 4, 1) := by decide +kernel
theorem dX10_best_23 : decode cX10_best 23 = .ok (.if_icmp .ge 92, 3) := by decide +kernel
theorem dX10_best_26 : decode cX10_best 26 = .ok (.iconst 0, 1) := by decide +kernel
theorem dX10_best_27 : decode cX10_best 27 = .ok (.istore 5, 2) := by decide +kernel
theorem dX10_best_29 : decode cX10_best 29 = .ok (.iload 5, 2) := by decide +kernel
theorem dX10_best_31 : decode cX10_best 31 = .ok (.iconst 3, 1) := by decide +kernel
theorem dX10_best_32 : decode cX10_best 32 = .ok (.if_icmp .ge 77, 3) := by decide +kernel
theorem dX10_best_35 : decode cX10_best 35 = .ok (.aload_n 0, 1) := by decide +kernel
theorem dX10_best_36 : decode cX10_best 36 = .ok (.getfield 60, 3) := by decide +kernel
theorem dX10_best_39 : decode cX10_best 39 = .ok (.iload 4, 2) := by decide +kernel
theorem dX10_best_41 : decode cX10_best 41 = .ok (.putfield 217, 3) := by decide +kernel
theorem dX10_best_44 : decode cX10_best 44 = .ok (.aload_n 0, 1) := by decide +kernel
theorem dX10_best_45 : decode cX10_best 45 = .ok (.getfield 53, 3) := by decide +kernel
theorem dX10_best_48 : decode cX10_best 48 = .ok (.aload_n 0, 1) := by decide +kernel
theorem dX10_best_49 : decode cX10_best 49 = .ok (.getfield 71, 3) := by decide +kernel
theorem dX10_best_52 : decode cX10_best 52 = .ok (.aload_n 0, 1) := by decide +kernel
theorem dX10_best_53 : decode cX10_best 53 = .ok (.getfield 60, 3) := by decide +kernel
theorem dX10_best_56 : decode cX10_best 56 = .ok (.iload 5, 2) := by decide +kernel
theorem dX10_best_58 : decode cX10_best 58 = .ok (.invokevirtual 213, 3) := by decide +kernel
theorem dX10_best_61 : decode cX10_best 61 = .ok (.aload_n 0, 1) := by decide +kernel
theorem dX10_best_62 : decode cX10_best 62 = .ok (.aload_n 0, 1) := by decide +kernel
theorem dX10_best_63 : decode cX10_best 63 = .ok (.getfield 60, 3) := by decide +kernel
theorem dX10_best_66 : decode cX10_best 66 = .ok (.invokevirtual 292, 3) := by decide +kernel
theorem dX10_best_69 : decode cX10_best 69 = .ok (.istore 6, 2) := by decide +kernel
theorem dX10_best_71 : decode cX10_best 71 = .ok (.iload_n 3, 1) := by decide +kernel
theorem dX10_best_72 : decode cX10_best 72 = .ok (.bipush (-9), 2) := by decide +kernel
theorem dX10_best_74 : decode cX10_best 74 = .ok (.if_icmp .eq 9, 3) := by decide +kernel
theorem dX10_best_77 : decode cX10_best 77 = .ok (.iload 6, 2) := by decide +kernel
theorem dX10_best_79 : decode cX10_best 79 = .ok (.iload_n 1, 1) := by decide +kernel
theorem dX10_best_80 : decode cX10_best 80 = .ok (.if_icmp .ge 23, 3) := by decide +kernel
theorem dX10_best_83 : decode cX10_best 83 = .ok (.iload 6, 2) := by decide +kernel
theorem dX10_best_85 : decode cX10_best 85 = .ok (.istore_n 1, 1) := by decide +kernel
theorem dX10_best_86 : decode cX10_best 86 = .ok (.aload_n 0, 1) := by decide +kernel
theorem dX10_best_87 : decode cX10_best 87 = .ok (.getfield 60, 3) := by decide +kernel
theorem dX10_best_90 : decode cX10_best 90 = .ok (.invokevirtual 210, 3) := by decide +kernel
theorem dX10_best_93 : decode cX10_best 93 = .ok (.istore_n 2, 1) := by decide +kernel
theorem dX10_best_94 : decode cX10_best 94 = .ok (.bipush 10, 2) := by decide +kernel
theorem dX10_best_96 : decode cX10_best 96 = .ok (.iload 4, 2) := by decide +kernel
theorem dX10_best_98 : decode cX10_best 98 = .ok (.imul, 1) := by decide +kernel
theorem dX10_best_99 : decode cX10_best 99 = .ok (.iload 5, 2) := by decide +kernel
theorem dX10_best_101 : decode cX10_best 101 = .ok (.iadd, 1) := by decide +kernel
theorem dX10_best_102 : decode cX10_best 102 = .ok (.istore_n 3, 1) := by decide +kernel
theorem dX10_best_103 : decode cX10_best 103 = .ok (.iinc 5 1, 3) := by decide +kernel
theorem dX10_best_106 : decode cX10_best 106 = .ok (.goto (-77), 3) := by decide +kernel
theorem dX10_best_109 : decode cX10_best 109 = .ok (.iinc 4 1, 3) := by decide +kernel
theorem dX10_best_112 : decode cX10_best 112 = .ok (.goto (-92), 3) := by decide +kernel
theorem dX10_best_115 : decode cX10_best 115 = .ok (.aload_n 0, 1) := by decide +kernel
theorem dX10_best_116 : decode cX10_best 116 = .ok (.iload_n 2, 1) := by decide +kernel
theorem dX10_best_117 : decode cX10_best 117 = .ok (.putfield 75, 3) := by decide +kernel
theorem dX10_best_120 : decode cX10_best 120 = .ok (.iload_n 3, 1) := by decide +kernel
theorem dX10_best_121 : decode cX10_best 121 = .ok (.ireturn, 1) := by decide +kernel
theorem dX10_lots_0 : decode cX10_lots 0 = .ok (.iload_n 1, 1) := by decide +kernel
theorem dX10_lots_1 : decode cX10_lots 1 = .ok (.iconst 1, 1) := by decide +kernel
theorem dX10_lots_2 : decode cX10_lots 2 = .ok (.if_icmp .lt 21, 3) := by decide +kernel
theorem dX10_lots_5 : decode cX10_lots 5 = .ok (.iload_n 1, 1) := by decide +kernel
theorem dX10_lots_6 : decode cX10_lots 6 = .ok (.bipush 20, 2) := by decide +kernel
theorem dX10_lots_8 : decode cX10_lots 8 = .ok (.if_icmp .gt 15, 3) := by decide +kernel
theorem dX10_lots_11 : decode cX10_lots 11 = .ok (.iload_n 2, 1) := by decide +kernel
theorem dX10_lots_12 : decode cX10_lots 12 = .ok (.iconst 1, 1) := by decide +kernel
theorem dX10_lots_13 : decode cX10_lots 13 = .ok (.if_icmp .lt 10, 3) := by decide +kernel
theorem dX10_lots_16 : decode cX10_lots 16 = .ok (.iload_n 2, 1) := by decide +kernel
theorem dX10_lots_17 : decode cX10_lots 17 = .ok (.ldc_w 296, 3) := by decide +kernel
theorem dX10_lots_20 : decode cX10_lots 20 = .ok (.if_icmp .ne 5, 3) := by decide +kernel
theorem dX10_lots_23 : decode cX10_lots 23 = .ok (.iconst (-1), 1) := by decide +kernel
theorem dX10_lots_24 : decode cX10_lots 24 = .ok (.ireturn, 1) := by decide +kernel
theorem dX10_lots_25 : decode cX10_lots 25 = .ok (.aload_n 0, 1) := by decide +kernel
theorem dX10_lots_26 : decode cX10_lots 26 = .ok (.invokevirtual 141, 3) := by decide +kernel
theorem dX10_lots_29 : decode cX10_lots 29 = .ok (.ifCond .eq 6, 3) := by decide +kernel
theorem dX10_lots_32 : decode cX10_lots 32 = .ok (.bipush (-4), 2) := by decide +kernel
theorem dX10_lots_34 : decode cX10_lots 34 = .ok (.ireturn, 1) := by decide +kernel
theorem dX10_lots_35 : decode cX10_lots 35 = .ok (.aload_n 0, 1) := by decide +kernel
theorem dX10_lots_36 : decode cX10_lots 36 = .ok (.getfield 32, 3) := by decide +kernel
theorem dX10_lots_39 : decode cX10_lots 39 = .ok (.getfield 220, 3) := by decide +kernel
theorem dX10_lots_42 : decode cX10_lots 42 = .ok (.iload_n 1, 1) := by decide +kernel
theorem dX10_lots_43 : decode cX10_lots 43 = .ok (.iadd, 1) := by decide +kernel
theorem dX10_lots_44 : decode cX10_lots 44 = .ok (.bipush 40, 2) := by decide +kernel
theorem dX10_lots_46 : decode cX10_lots 46 = .ok (.if_icmp .le 6, 3) := by decide +kernel
theorem dX10_lots_49 : decode cX10_lots 49 = .ok (.bipush (-2), 2) := by decide +kernel
theorem dX10_lots_51 : decode cX10_lots 51 = .ok (.ireturn, 1) := by decide +kernel
theorem dX10_lots_52 : decode cX10_lots 52 = .ok (.iload_n 2, 1) := by decide +kernel
theorem dX10_lots_53 : decode cX10_lots 53 = .ok (.i2l, 1) := by decide +kernel
theorem dX10_lots_54 : decode cX10_lots 54 = .ok (.lstore_n 3, 1) := by decide +kernel
theorem dX10_lots_55 : decode cX10_lots 55 = .ok (.iconst 0, 1) := by decide +kernel
theorem dX10_lots_56 : decode cX10_lots 56 = .ok (.istore 5, 2) := by decide +kernel
theorem dX10_lots_58 : decode cX10_lots 58 = .ok (.iload 5, 2) := by decide +kernel
theorem dX10_lots_60 : decode cX10_lots 60 = .ok (.iload_n 1, 1) := by decide +kernel
theorem dX10_lots_61 : decode cX10_lots 61 = .ok (.if_icmp .ge 32, 3) := by decide +kernel
theorem dX10_lots_64 : decode cX10_lots 64 = .ok (.lload_n 3, 1) := by decide +kernel
theorem dX10_lots_65 : decode cX10_lots 65 = .ok (.ldc2_w 297, 3) := by decide +kernel
theorem dX10_lots_68 : decode cX10_lots 68 = .ok (.lmul, 1) := by decide +kernel
theorem dX10_lots_69 : decode cX10_lots 69 = .ok (.ldc2_w 299, 3) := by decide +kernel
theorem dX10_lots_72 : decode cX10_lots 72 = .ok (.lrem, 1) := by decide +kernel
theorem dX10_lots_73 : decode cX10_lots 73 = .ok (.lstore_n 3, 1) := by decide +kernel
theorem dX10_lots_74 : decode cX10_lots 74 = .ok (.aload_n 0, 1) := by decide +kernel
theorem dX10_lots_75 : decode cX10_lots 75 = .ok (.getfield 32, 3) := by decide +kernel
theorem dX10_lots_78 : decode cX10_lots 78 = .ok (.invokevirtual 201, 3) := by decide +kernel
theorem dX10_lots_81 : decode cX10_lots 81 = .ok (.aload_n 0, 1) := by decide +kernel
theorem dX10_lots_82 : decode cX10_lots 82 = .ok (.lload_n 3, 1) := by decide +kernel
theorem dX10_lots_83 : decode cX10_lots 83 = .ok (.l2i, 1) := by decide +kernel
theorem dX10_lots_84 : decode cX10_lots 84 = .ok (.invokevirtual 301, 3) := by decide +kernel
theorem dX10_lots_87 : decode cX10_lots 87 = .ok (.iinc 5 1, 3) := by decide +kernel
theorem dX10_lots_90 : decode cX10_lots 90 = .ok (.goto (-32), 3) := by decide +kernel
theorem dX10_lots_93 : decode cX10_lots 93 = .ok (.aload_n 0, 1) := by decide +kernel
theorem dX10_lots_94 : decode cX10_lots 94 = .ok (.getfield 32, 3) := by decide +kernel
theorem dX10_lots_97 : decode cX10_lots 97 = .ok (.getfield 163, 3) := by decide +kernel
theorem dX10_lots_100 : decode cX10_lots 100 = .ok (.invokevirtual 304, 3) := by decide +kernel
theorem dX10_lots_103 : decode cX10_lots 103 = .ok (.ireturn, 1) := by decide +kernel
theorem dX10_asked_0 : decode cX10_asked 0 = .ok (.aload_n 0, 1) := by decide +kernel
theorem dX10_asked_1 : decode cX10_asked 1 = .ok (.getfield 75, 3) := by decide +kernel
theorem dX10_asked_4 : decode cX10_asked 4 = .ok (.ireturn, 1) := by decide +kernel
theorem dX10_count_0 : decode cX10_count 0 = .ok (.aload_n 0, 1) := by decide +kernel
theorem dX10_count_1 : decode cX10_count 1 = .ok (.getfield 32, 3) := by decide +kernel
theorem dX10_count_4 : decode cX10_count 4 = .ok (.getfield 163, 3) := by decide +kernel
theorem dX10_count_7 : decode cX10_count 7 = .ok (.astore_n 2, 1) := by decide +kernel
theorem dX10_count_8 : decode cX10_count 8 = .ok (.iload_n 1, 1) := by decide +kernel
theorem dX10_count_9 : decode cX10_count 9 = .ok (.tableswitch 156 0 13 #[71, 79, 84, 89, 97, 105, 113, 118, 123, 128, 133, 141, 146, 151], 71) := by decide +kernel
theorem dX10_count_80 : decode cX10_count 80 = .ok (.aload_n 0, 1) := by decide +kernel
theorem dX10_count_81 : decode cX10_count 81 = .ok (.getfield 71, 3) := by decide +kernel
theorem dX10_count_84 : decode cX10_count 84 = .ok (.getfield 140, 3) := by decide +kernel
theorem dX10_count_87 : decode cX10_count 87 = .ok (.ireturn, 1) := by decide +kernel
theorem dX10_count_88 : decode cX10_count 88 = .ok (.aload_n 2, 1) := by decide +kernel
theorem dX10_count_89 : decode cX10_count 89 = .ok (.invokevirtual 304, 3) := by decide +kernel
theorem dX10_count_92 : decode cX10_count 92 = .ok (.ireturn, 1) := by decide +kernel
theorem dX10_count_93 : decode cX10_count 93 = .ok (.aload_n 2, 1) := by decide +kernel
theorem dX10_count_94 : decode cX10_count 94 = .ok (.invokevirtual 210, 3) := by decide +kernel
theorem dX10_count_97 : decode cX10_count 97 = .ok (.ireturn, 1) := by decide +kernel
theorem dX10_count_98 : decode cX10_count 98 = .ok (.aload_n 0, 1) := by decide +kernel
theorem dX10_count_99 : decode cX10_count 99 = .ok (.getfield 71, 3) := by decide +kernel
theorem dX10_count_102 : decode cX10_count 102 = .ok (.getfield 243, 3) := by decide +kernel
theorem dX10_count_105 : decode cX10_count 105 = .ok (.ireturn, 1) := by decide +kernel
theorem dX10_count_106 : decode cX10_count 106 = .ok (.aload_n 0, 1) := by decide +kernel
theorem dX10_count_107 : decode cX10_count 107 = .ok (.getfield 71, 3) := by decide +kernel
theorem dX10_count_110 : decode cX10_count 110 = .ok (.getfield 246, 3) := by decide +kernel
theorem dX10_count_113 : decode cX10_count 113 = .ok (.ireturn, 1) := by decide +kernel
theorem dX10_count_114 : decode cX10_count 114 = .ok (.aload_n 0, 1) := by decide +kernel
theorem dX10_count_115 : decode cX10_count 115 = .ok (.getfield 71, 3) := by decide +kernel
theorem dX10_count_118 : decode cX10_count 118 = .ok (.getfield 307, 3) := by decide +kernel
theorem dX10_count_121 : decode cX10_count 121 = .ok (.ireturn, 1) := by decide +kernel
theorem dX10_count_122 : decode cX10_count 122 = .ok (.aload_n 2, 1) := by decide +kernel
theorem dX10_count_123 : decode cX10_count 123 = .ok (.getfield 217, 3) := by decide +kernel
theorem dX10_count_126 : decode cX10_count 126 = .ok (.ireturn, 1) := by decide +kernel
theorem dX10_count_127 : decode cX10_count 127 = .ok (.aload_n 0, 1) := by decide +kernel
theorem dX10_count_128 : decode cX10_count 128 = .ok (.invokevirtual 310, 3) := by decide +kernel
theorem dX10_count_131 : decode cX10_count 131 = .ok (.ireturn, 1) := by decide +kernel
theorem dX10_count_132 : decode cX10_count 132 = .ok (.aload_n 0, 1) := by decide +kernel
theorem dX10_count_133 : decode cX10_count 133 = .ok (.invokevirtual 313, 3) := by decide +kernel
theorem dX10_count_136 : decode cX10_count 136 = .ok (.ireturn, 1) := by decide +kernel
theorem dX10_count_137 : decode cX10_count 137 = .ok (.aload_n 2, 1) := by decide +kernel
theorem dX10_count_138 : decode cX10_count 138 = .ok (.invokevirtual 316, 3) := by decide +kernel
theorem dX10_count_141 : decode cX10_count 141 = .ok (.ireturn, 1) := by decide +kernel
theorem dX10_count_142 : decode cX10_count 142 = .ok (.aload_n 0, 1) := by decide +kernel
theorem dX10_count_143 : decode cX10_count 143 = .ok (.getfield 32, 3) := by decide +kernel
theorem dX10_count_146 : decode cX10_count 146 = .ok (.getfield 220, 3) := by decide +kernel
theorem dX10_count_149 : decode cX10_count 149 = .ok (.ireturn, 1) := by decide +kernel
theorem dX10_count_150 : decode cX10_count 150 = .ok (.aload_n 0, 1) := by decide +kernel
theorem dX10_count_151 : decode cX10_count 151 = .ok (.invokevirtual 319, 3) := by decide +kernel
theorem dX10_count_154 : decode cX10_count 154 = .ok (.ireturn, 1) := by decide +kernel
theorem dX10_count_155 : decode cX10_count 155 = .ok (.aload_n 0, 1) := by decide +kernel
theorem dX10_count_156 : decode cX10_count 156 = .ok (.invokevirtual 322, 3) := by decide +kernel
theorem dX10_count_159 : decode cX10_count 159 = .ok (.ireturn, 1) := by decide +kernel
theorem dX10_count_160 : decode cX10_count 160 = .ok (.aload_n 0, 1) := by decide +kernel
theorem dX10_count_161 : decode cX10_count 161 = .ok (.invokevirtual 325, 3) := by decide +kernel
theorem dX10_count_164 : decode cX10_count 164 = .ok (.ireturn, 1) := by decide +kernel
theorem dX10_count_165 : decode cX10_count 165 = .ok (.iconst (-1), 1) := by decide +kernel
theorem dX10_count_166 : decode cX10_count 166 = .ok (.ireturn, 1) := by decide +kernel
theorem dX10_finding_0 : decode cX10_finding 0 = .ok (.aload_n 0, 1) := by decide +kernel
theorem dX10_finding_1 : decode cX10_finding 1 = .ok (.getfield 79, 3) := by decide +kernel
theorem dX10_finding_4 : decode cX10_finding 4 = .ok (.ireturn, 1) := by decide +kernel
theorem dX10_findings_0 : decode cX10_findings 0 = .ok (.iload_n 1, 1) := by decide +kernel
theorem dX10_findings_1 : decode cX10_findings 1 = .ok (.iconst 1, 1) := by decide +kernel
theorem dX10_findings_2 : decode cX10_findings 2 = .ok (.if_icmp .lt 8, 3) := by decide +kernel
theorem dX10_findings_5 : decode cX10_findings 5 = .ok (.iload_n 1, 1) := by decide +kernel
theorem dX10_findings_6 : decode cX10_findings 6 = .ok (.iconst 5, 1) := by decide +kernel
theorem dX10_findings_7 : decode cX10_findings 7 = .ok (.if_icmp .le 5, 3) := by decide +kernel
theorem dX10_findings_10 : decode cX10_findings 10 = .ok (.iconst (-1), 1) := by decide +kernel
theorem dX10_findings_11 : decode cX10_findings 11 = .ok (.ireturn, 1) := by decide +kernel
theorem dX10_findings_12 : decode cX10_findings 12 = .ok (.aload_n 0, 1) := by decide +kernel
theorem dX10_findings_13 : decode cX10_findings 13 = .ok (.getfield 64, 3) := by decide +kernel
theorem dX10_findings_16 : decode cX10_findings 16 = .ok (.iload_n 1, 1) := by decide +kernel
theorem dX10_findings_17 : decode cX10_findings 17 = .ok (.iaload, 1) := by decide +kernel
theorem dX10_findings_18 : decode cX10_findings 18 = .ok (.ireturn, 1) := by decide +kernel
theorem dX10_digest_0 : decode cX10_digest 0 = .ok (.ldc2_w 328, 3) := by decide +kernel
theorem dX10_digest_3 : decode cX10_digest 3 = .ok (.lstore_n 1, 1) := by decide +kernel
theorem dX10_digest_4 : decode cX10_digest 4 = .ok (.iconst 0, 1) := by decide +kernel
theorem dX10_digest_5 : decode cX10_digest 5 = .ok (.istore_n 3, 1) := by decide +kernel
theorem dX10_digest_6 : decode cX10_digest 6 = .ok (.iload_n 3, 1) := by decide +kernel
theorem dX10_digest_7 : decode cX10_digest 7 = .ok (.bipush 14, 2) := by decide +kernel
theorem dX10_digest_9 : decode cX10_digest 9 = .ok (.if_icmp .ge 22, 3) := by decide +kernel
theorem dX10_digest_12 : decode cX10_digest 12 = .ok (.ldc2_w 330, 3) := by decide +kernel
theorem dX10_digest_15 : decode cX10_digest 15 = .ok (.lload_n 1, 1) := by decide +kernel
theorem dX10_digest_16 : decode cX10_digest 16 = .ok (.lmul, 1) := by decide +kernel
theorem dX10_digest_17 : decode cX10_digest 17 = .ok (.aload_n 0, 1) := by decide +kernel
theorem dX10_digest_18 : decode cX10_digest 18 = .ok (.iload_n 3, 1) := by decide +kernel
theorem dX10_digest_19 : decode cX10_digest 19 = .ok (.invokevirtual 332, 3) := by decide +kernel
theorem dX10_digest_22 : decode cX10_digest 22 = .ok (.i2l, 1) := by decide +kernel
theorem dX10_digest_23 : decode cX10_digest 23 = .ok (.ladd, 1) := by decide +kernel
theorem dX10_digest_24 : decode cX10_digest 24 = .ok (.lstore_n 1, 1) := by decide +kernel
theorem dX10_digest_25 : decode cX10_digest 25 = .ok (.iinc 3 1, 3) := by decide +kernel
theorem dX10_digest_28 : decode cX10_digest 28 = .ok (.goto (-22), 3) := by decide +kernel
theorem dX10_digest_31 : decode cX10_digest 31 = .ok (.iconst 0, 1) := by decide +kernel
theorem dX10_digest_32 : decode cX10_digest 32 = .ok (.istore_n 3, 1) := by decide +kernel
theorem dX10_digest_33 : decode cX10_digest 33 = .ok (.iload_n 3, 1) := by decide +kernel
theorem dX10_digest_34 : decode cX10_digest 34 = .ok (.aload_n 0, 1) := by decide +kernel
theorem dX10_digest_35 : decode cX10_digest 35 = .ok (.getfield 71, 3) := by decide +kernel
theorem dX10_digest_38 : decode cX10_digest 38 = .ok (.getfield 140, 3) := by decide +kernel
theorem dX10_digest_41 : decode cX10_digest 41 = .ok (.if_icmp .ge 16, 3) := by decide +kernel
theorem dX10_digest_44 : decode cX10_digest 44 = .ok (.aload_n 0, 1) := by decide +kernel
theorem dX10_digest_45 : decode cX10_digest 45 = .ok (.lload_n 1, 1) := by decide +kernel
theorem dX10_digest_46 : decode cX10_digest 46 = .ok (.iload_n 3, 1) := by decide +kernel
theorem dX10_digest_47 : decode cX10_digest 47 = .ok (.invokevirtual 335, 3) := by decide +kernel
theorem dX10_digest_50 : decode cX10_digest 50 = .ok (.lstore_n 1, 1) := by decide +kernel
theorem dX10_digest_51 : decode cX10_digest 51 = .ok (.iinc 3 1, 3) := by decide +kernel
theorem dX10_digest_54 : decode cX10_digest 54 = .ok (.goto (-21), 3) := by decide +kernel
theorem dX10_digest_57 : decode cX10_digest 57 = .ok (.iconst 0, 1) := by decide +kernel
theorem dX10_digest_58 : decode cX10_digest 58 = .ok (.istore_n 3, 1) := by decide +kernel
theorem dX10_digest_59 : decode cX10_digest 59 = .ok (.iload_n 3, 1) := by decide +kernel
theorem dX10_digest_60 : decode cX10_digest 60 = .ok (.iconst 3, 1) := by decide +kernel
theorem dX10_digest_61 : decode cX10_digest 61 = .ok (.if_icmp .ge 39, 3) := by decide +kernel
theorem dX10_digest_64 : decode cX10_digest 64 = .ok (.ldc2_w 330, 3) := by decide +kernel
theorem dX10_digest_67 : decode cX10_digest 67 = .ok (.lload_n 1, 1) := by decide +kernel
theorem dX10_digest_68 : decode cX10_digest 68 = .ok (.lmul, 1) := by decide +kernel
theorem dX10_digest_69 : decode cX10_digest 69 = .ok (.aload_n 0, 1) := by decide +kernel
theorem dX10_digest_70 : decode cX10_digest 70 = .ok (.getfield 27, 3) := by decide +kernel
theorem dX10_digest_73 : decode cX10_digest 73 = .ok (.iload_n 3, 1) := by decide +kernel
theorem dX10_digest_74 : decode cX10_digest 74 = .ok (.baload, 1) := by decide +kernel
theorem dX10_digest_75 : decode cX10_digest 75 = .ok (.ifCond .eq 15, 3) := by decide +kernel
theorem dX10_digest_78 : decode cX10_digest 78 = .ok (.aload_n 0, 1) := by decide +kernel
theorem dX10_digest_79 : decode cX10_digest 79 = .ok (.getfield 23, 3) := by decide +kernel
theorem dX10_digest_82 : decode cX10_digest 82 = .ok (.iload_n 3, 1) := by decide +kernel
theorem dX10_digest_83 : decode cX10_digest 83 = .ok (.aaload, 1) := by decide +kernel
theorem dX10_digest_84 : decode cX10_digest 84 = .ok (.getfield 220, 3) := by decide +kernel
theorem dX10_digest_87 : decode cX10_digest 87 = .ok (.goto 4, 3) := by decide +kernel
theorem dX10_digest_90 : decode cX10_digest 90 = .ok (.iconst (-1), 1) := by decide +kernel
theorem dX10_digest_91 : decode cX10_digest 91 = .ok (.i2l, 1) := by decide +kernel
theorem dX10_digest_92 : decode cX10_digest 92 = .ok (.ladd, 1) := by decide +kernel
theorem dX10_digest_93 : decode cX10_digest 93 = .ok (.lstore_n 1, 1) := by decide +kernel
theorem dX10_digest_94 : decode cX10_digest 94 = .ok (.iinc 3 1, 3) := by decide +kernel
theorem dX10_digest_97 : decode cX10_digest 97 = .ok (.goto (-38), 3) := by decide +kernel
theorem dX10_digest_100 : decode cX10_digest 100 = .ok (.iconst 0, 1) := by decide +kernel
theorem dX10_digest_101 : decode cX10_digest 101 = .ok (.istore_n 3, 1) := by decide +kernel
theorem dX10_digest_102 : decode cX10_digest 102 = .ok (.iload_n 3, 1) := by decide +kernel
theorem dX10_digest_103 : decode cX10_digest 103 = .ok (.bipush 6, 2) := by decide +kernel
theorem dX10_digest_105 : decode cX10_digest 105 = .ok (.if_icmp .ge 69, 3) := by decide +kernel
theorem dX10_digest_108 : decode cX10_digest 108 = .ok (.ldc2_w 330, 3) := by decide +kernel
theorem dX10_digest_111 : decode cX10_digest 111 = .ok (.lload_n 1, 1) := by decide +kernel
theorem dX10_digest_112 : decode cX10_digest 112 = .ok (.lmul, 1) := by decide +kernel
theorem dX10_digest_113 : decode cX10_digest 113 = .ok (.aload_n 0, 1) := by decide +kernel
theorem dX10_digest_114 : decode cX10_digest 114 = .ok (.getfield 11, 3) := by decide +kernel
theorem dX10_digest_117 : decode cX10_digest 117 = .ok (.iload_n 3, 1) := by decide +kernel
theorem dX10_digest_118 : decode cX10_digest 118 = .ok (.aaload, 1) := by decide +kernel
theorem dX10_digest_119 : decode cX10_digest 119 = .ok (.getfield 100, 3) := by decide +kernel
theorem dX10_digest_122 : decode cX10_digest 122 = .ok (.i2l, 1) := by decide +kernel
theorem dX10_digest_123 : decode cX10_digest 123 = .ok (.ladd, 1) := by decide +kernel
theorem dX10_digest_124 : decode cX10_digest 124 = .ok (.lstore_n 1, 1) := by decide +kernel
theorem dX10_digest_125 : decode cX10_digest 125 = .ok (.iconst 0, 1) := by decide +kernel
theorem dX10_digest_126 : decode cX10_digest 126 = .ok (.istore 4, 2) := by decide +kernel
theorem dX10_digest_128 : decode cX10_digest 128 = .ok (.iload 4, 2) := by decide +kernel
theorem dX10_digest_130 : decode cX10_digest 130 = .ok (.aload_n 0, 1) := by decide +kernel
theorem dX10_digest_131 : decode cX10_digest 131 = .ok (.getfield 11, 3) := by decide +kernel
theorem dX10_digest_134 : decode cX10_digest 134 = .ok (.iload_n 3, 1) := by decide +kernel
theorem dX10_digest_135 : decode cX10_digest 135 = .ok (.aaload, 1) := by decide +kernel
theorem dX10_digest_136 : decode cX10_digest 136 = .ok (.getfield 100, 3) := by decide +kernel
theorem dX10_digest_139 : decode cX10_digest 139 = .ok (.if_icmp .ge 29, 3) := by decide +kernel
theorem dX10_digest_142 : decode cX10_digest 142 = .ok (.ldc2_w 330, 3) := by decide +kernel
theorem dX10_digest_145 : decode cX10_digest 145 = .ok (.lload_n 1, 1) := by decide +kernel
theorem dX10_digest_146 : decode cX10_digest 146 = .ok (.lmul, 1) := by decide +kernel
theorem dX10_digest_147 : decode cX10_digest 147 = .ok (.aload_n 0, 1) := by decide +kernel
theorem dX10_digest_148 : decode cX10_digest 148 = .ok (.getfield 11, 3) := by decide +kernel
theorem dX10_digest_151 : decode cX10_digest 151 = .ok (.iload_n 3, 1) := by decide +kernel
theorem dX10_digest_152 : decode cX10_digest 152 = .ok (.aaload, 1) := by decide +kernel
theorem dX10_digest_153 : decode cX10_digest 153 = .ok (.getfield 103, 3) := by decide +kernel
theorem dX10_digest_156 : decode cX10_digest 156 = .ok (.iload 4, 2) := by decide +kernel
theorem dX10_digest_158 : decode cX10_digest 158 = .ok (.iaload, 1) := by decide +kernel
theorem dX10_digest_159 : decode cX10_digest 159 = .ok (.i2l, 1) := by decide +kernel
theorem dX10_digest_160 : decode cX10_digest 160 = .ok (.ladd, 1) := by decide +kernel
theorem dX10_digest_161 : decode cX10_digest 161 = .ok (.lstore_n 1, 1) := by decide +kernel
theorem dX10_digest_162 : decode cX10_digest 162 = .ok (.iinc 4 1, 3) := by decide +kernel
theorem dX10_digest_165 : decode cX10_digest 165 = .ok (.goto (-37), 3) := by decide +kernel
theorem dX10_digest_168 : decode cX10_digest 168 = .ok (.iinc 3 1, 3) := by decide +kernel
theorem dX10_digest_171 : decode cX10_digest 171 = .ok (.goto (-69), 3) := by decide +kernel
theorem dX10_digest_174 : decode cX10_digest 174 = .ok (.iconst 0, 1) := by decide +kernel
theorem dX10_digest_175 : decode cX10_digest 175 = .ok (.istore_n 3, 1) := by decide +kernel
theorem dX10_digest_176 : decode cX10_digest 176 = .ok (.iload_n 3, 1) := by decide +kernel
theorem dX10_digest_177 : decode cX10_digest 177 = .ok (.iconst 4, 1) := by decide +kernel
theorem dX10_digest_178 : decode cX10_digest 178 = .ok (.if_icmp .ge 69, 3) := by decide +kernel
theorem dX10_digest_181 : decode cX10_digest 181 = .ok (.ldc2_w 330, 3) := by decide +kernel
theorem dX10_digest_184 : decode cX10_digest 184 = .ok (.lload_n 1, 1) := by decide +kernel
theorem dX10_digest_185 : decode cX10_digest 185 = .ok (.lmul, 1) := by decide +kernel
theorem dX10_digest_186 : decode cX10_digest 186 = .ok (.aload_n 0, 1) := by decide +kernel
theorem dX10_digest_187 : decode cX10_digest 187 = .ok (.getfield 17, 3) := by decide +kernel
theorem dX10_digest_190 : decode cX10_digest 190 = .ok (.iload_n 3, 1) := by decide +kernel
theorem dX10_digest_191 : decode cX10_digest 191 = .ok (.aaload, 1) := by decide +kernel
theorem dX10_digest_192 : decode cX10_digest 192 = .ok (.getfield 124, 3) := by decide +kernel
theorem dX10_digest_195 : decode cX10_digest 195 = .ok (.i2l, 1) := by decide +kernel
theorem dX10_digest_196 : decode cX10_digest 196 = .ok (.ladd, 1) := by decide +kernel
theorem dX10_digest_197 : decode cX10_digest 197 = .ok (.lstore_n 1, 1) := by decide +kernel
theorem dX10_digest_198 : decode cX10_digest 198 = .ok (.iconst 0, 1) := by decide +kernel
theorem dX10_digest_199 : decode cX10_digest 199 = .ok (.istore 4, 2) := by decide +kernel
theorem dX10_digest_201 : decode cX10_digest 201 = .ok (.iload 4, 2) := by decide +kernel
theorem dX10_digest_203 : decode cX10_digest 203 = .ok (.aload_n 0, 1) := by decide +kernel
theorem dX10_digest_204 : decode cX10_digest 204 = .ok (.getfield 17, 3) := by decide +kernel
theorem dX10_digest_207 : decode cX10_digest 207 = .ok (.iload_n 3, 1) := by decide +kernel
theorem dX10_digest_208 : decode cX10_digest 208 = .ok (.aaload, 1) := by decide +kernel
theorem dX10_digest_209 : decode cX10_digest 209 = .ok (.getfield 124, 3) := by decide +kernel
theorem dX10_digest_212 : decode cX10_digest 212 = .ok (.if_icmp .ge 29, 3) := by decide +kernel
theorem dX10_digest_215 : decode cX10_digest 215 = .ok (.ldc2_w 330, 3) := by decide +kernel
theorem dX10_digest_218 : decode cX10_digest 218 = .ok (.lload_n 1, 1) := by decide +kernel
theorem dX10_digest_219 : decode cX10_digest 219 = .ok (.lmul, 1) := by decide +kernel
theorem dX10_digest_220 : decode cX10_digest 220 = .ok (.aload_n 0, 1) := by decide +kernel
theorem dX10_digest_221 : decode cX10_digest 221 = .ok (.getfield 17, 3) := by decide +kernel
theorem dX10_digest_224 : decode cX10_digest 224 = .ok (.iload_n 3, 1) := by decide +kernel
theorem dX10_digest_225 : decode cX10_digest 225 = .ok (.aaload, 1) := by decide +kernel
theorem dX10_digest_226 : decode cX10_digest 226 = .ok (.getfield 125, 3) := by decide +kernel
theorem dX10_digest_229 : decode cX10_digest 229 = .ok (.iload 4, 2) := by decide +kernel
theorem dX10_digest_231 : decode cX10_digest 231 = .ok (.baload, 1) := by decide +kernel
theorem dX10_digest_232 : decode cX10_digest 232 = .ok (.i2l, 1) := by decide +kernel
theorem dX10_digest_233 : decode cX10_digest 233 = .ok (.ladd, 1) := by decide +kernel
theorem dX10_digest_234 : decode cX10_digest 234 = .ok (.lstore_n 1, 1) := by decide +kernel
theorem dX10_digest_235 : decode cX10_digest 235 = .ok (.iinc 4 1, 3) := by decide +kernel
theorem dX10_digest_238 : decode cX10_digest 238 = .ok (.goto (-37), 3) := by decide +kernel
theorem dX10_digest_241 : decode cX10_digest 241 = .ok (.iinc 3 1, 3) := by decide +kernel
theorem dX10_digest_244 : decode cX10_digest 244 = .ok (.goto (-68), 3) := by decide +kernel
theorem dX10_digest_247 : decode cX10_digest 247 = .ok (.lload_n 1, 1) := by decide +kernel
theorem dX10_digest_248 : decode cX10_digest 248 = .ok (.lreturn, 1) := by decide +kernel
theorem dX10_isBelow_0 : decode cX10_isBelow 0 = .ok (.iload_n 0, 1) := by decide +kernel
theorem dX10_isBelow_1 : decode cX10_isBelow 1 = .ok (.ifCond .lt 12, 3) := by decide +kernel
theorem dX10_isBelow_4 : decode cX10_isBelow 4 = .ok (.iload_n 0, 1) := by decide +kernel
theorem dX10_isBelow_5 : decode cX10_isBelow 5 = .ok (.iload_n 1, 1) := by decide +kernel
theorem dX10_isBelow_6 : decode cX10_isBelow 6 = .ok (.if_icmp .ge 7, 3) := by decide +kernel
theorem dX10_isBelow_9 : decode cX10_isBelow 9 = .ok (.iconst 1, 1) := by decide +kernel
theorem dX10_isBelow_10 : decode cX10_isBelow 10 = .ok (.goto 4, 3) := by decide +kernel
theorem dX10_isBelow_13 : decode cX10_isBelow 13 = .ok (.iconst 0, 1) := by decide +kernel
theorem dX10_isBelow_14 : decode cX10_isBelow 14 = .ok (.ireturn, 1) := by decide +kernel
theorem dX10_hasNoSheet_0 : decode cX10_hasNoSheet 0 = .ok (.aload_n 0, 1) := by decide +kernel
theorem dX10_hasNoSheet_1 : decode cX10_hasNoSheet 1 = .ok (.getfield 71, 3) := by decide +kernel
theorem dX10_hasNoSheet_4 : decode cX10_hasNoSheet 4 = .ok (.getfield 140, 3) := by decide +kernel
theorem dX10_hasNoSheet_7 : decode cX10_hasNoSheet 7 = .ok (.ifCond .ne 7, 3) := by decide +kernel
theorem dX10_hasNoSheet_10 : decode cX10_hasNoSheet 10 = .ok (.iconst 1, 1) := by decide +kernel
theorem dX10_hasNoSheet_11 : decode cX10_hasNoSheet 11 = .ok (.goto 4, 3) := by decide +kernel
theorem dX10_hasNoSheet_14 : decode cX10_hasNoSheet 14 = .ok (.iconst 0, 1) := by decide +kernel
theorem dX10_hasNoSheet_15 : decode cX10_hasNoSheet 15 = .ok (.ireturn, 1) := by decide +kernel
theorem dX10_isPage_0 : decode cX10_isPage 0 = .ok (.iload_n 1, 1) := by decide +kernel
theorem dX10_isPage_1 : decode cX10_isPage 1 = .ok (.aload_n 0, 1) := by decide +kernel
theorem dX10_isPage_2 : decode cX10_isPage 2 = .ok (.getfield 32, 3) := by decide +kernel
theorem dX10_isPage_5 : decode cX10_isPage 5 = .ok (.getfield 163, 3) := by decide +kernel
theorem dX10_isPage_8 : decode cX10_isPage 8 = .ok (.invokevirtual 210, 3) := by decide +kernel
theorem dX10_isPage_11 : decode cX10_isPage 11 = .ok (.invokestatic 84, 3) := by decide +kernel
theorem dX10_isPage_14 : decode cX10_isPage 14 = .ok (.ireturn, 1) := by decide +kernel
theorem dX10_refuse_0 : decode cX10_refuse 0 = .ok (.aload_n 0, 1) := by decide +kernel
theorem dX10_refuse_1 : decode cX10_refuse 1 = .ok (.iload_n 1, 1) := by decide +kernel
theorem dX10_refuse_2 : decode cX10_refuse 2 = .ok (.putfield 79, 3) := by decide +kernel
theorem dX10_refuse_5 : decode cX10_refuse 5 = .ok (.aload_n 0, 1) := by decide +kernel
theorem dX10_refuse_6 : decode cX10_refuse 6 = .ok (.getfield 64, 3) := by decide +kernel
theorem dX10_refuse_9 : decode cX10_refuse 9 = .ok (.iload_n 1, 1) := by decide +kernel
theorem dX10_refuse_10 : decode cX10_refuse 10 = .ok (.dup2, 1) := by decide +kernel
theorem dX10_refuse_11 : decode cX10_refuse 11 = .ok (.iaload, 1) := by decide +kernel
theorem dX10_refuse_12 : decode cX10_refuse 12 = .ok (.iconst 1, 1) := by decide +kernel
theorem dX10_refuse_13 : decode cX10_refuse 13 = .ok (.iadd, 1) := by decide +kernel
theorem dX10_refuse_14 : decode cX10_refuse 14 = .ok (.iastore, 1) := by decide +kernel
theorem dX10_refuse_15 : decode cX10_refuse 15 = .ok (.bipush (-3), 2) := by decide +kernel
theorem dX10_refuse_17 : decode cX10_refuse 17 = .ok (.ireturn, 1) := by decide +kernel
theorem dX10_tell_0 : decode cX10_tell 0 = .ok (.aload_n 0, 1) := by decide +kernel
theorem dX10_tell_1 : decode cX10_tell 1 = .ok (.iload_n 1, 1) := by decide +kernel
theorem dX10_tell_2 : decode cX10_tell 2 = .ok (.putfield 75, 3) := by decide +kernel
theorem dX10_tell_5 : decode cX10_tell 5 = .ok (.iconst 1, 1) := by decide +kernel
theorem dX10_tell_6 : decode cX10_tell 6 = .ok (.ireturn, 1) := by decide +kernel
theorem dX10_takesPlace_0 : decode cX10_takesPlace 0 = .ok (.aload_n 0, 1) := by decide +kernel
theorem dX10_takesPlace_1 : decode cX10_takesPlace 1 = .ok (.getfield 32, 3) := by decide +kernel
theorem dX10_takesPlace_4 : decode cX10_takesPlace 4 = .ok (.getfield 163, 3) := by decide +kernel
theorem dX10_takesPlace_7 : decode cX10_takesPlace 7 = .ok (.astore 5, 2) := by decide +kernel
theorem dX10_takesPlace_9 : decode cX10_takesPlace 9 = .ok (.aload 5, 2) := by decide +kernel
theorem dX10_takesPlace_11 : decode cX10_takesPlace 11 = .ok (.iload_n 1, 1) := by decide +kernel
theorem dX10_takesPlace_12 : decode cX10_takesPlace 12 = .ok (.invokevirtual 166, 3) := by decide +kernel
theorem dX10_takesPlace_15 : decode cX10_takesPlace 15 = .ok (.ifCond .eq 13, 3) := by decide +kernel
theorem dX10_takesPlace_18 : decode cX10_takesPlace 18 = .ok (.aload 5, 2) := by decide +kernel
theorem dX10_takesPlace_20 : decode cX10_takesPlace 20 = .ok (.iload_n 1, 1) := by decide +kernel
theorem dX10_takesPlace_21 : decode cX10_takesPlace 21 = .ok (.invokevirtual 207, 3) := by decide +kernel
theorem dX10_takesPlace_24 : decode cX10_takesPlace 24 = .ok (.iload_n 2, 1) := by decide +kernel
theorem dX10_takesPlace_25 : decode cX10_takesPlace 25 = .ok (.if_icmp .eq 5, 3) := by decide +kernel
theorem dX10_takesPlace_28 : decode cX10_takesPlace 28 = .ok (.iconst 0, 1) := by decide +kernel
theorem dX10_takesPlace_29 : decode cX10_takesPlace 29 = .ok (.ireturn, 1) := by decide +kernel
theorem dX10_takesPlace_30 : decode cX10_takesPlace 30 = .ok (.aload_n 0, 1) := by decide +kernel
theorem dX10_takesPlace_31 : decode cX10_takesPlace 31 = .ok (.getfield 71, 3) := by decide +kernel
theorem dX10_takesPlace_34 : decode cX10_takesPlace 34 = .ok (.getfield 154, 3) := by decide +kernel
theorem dX10_takesPlace_37 : decode cX10_takesPlace 37 = .ok (.iload_n 1, 1) := by decide +kernel
theorem dX10_takesPlace_38 : decode cX10_takesPlace 38 = .ok (.aaload, 1) := by decide +kernel
theorem dX10_takesPlace_39 : decode cX10_takesPlace 39 = .ok (.astore 6, 2) := by decide +kernel
theorem dX10_takesPlace_41 : decode cX10_takesPlace 41 = .ok (.aload 5, 2) := by decide +kernel
theorem dX10_takesPlace_43 : decode cX10_takesPlace 43 = .ok (.iload_n 1, 1) := by decide +kernel
theorem dX10_takesPlace_44 : decode cX10_takesPlace 44 = .ok (.invokevirtual 269, 3) := by decide +kernel
theorem dX10_takesPlace_47 : decode cX10_takesPlace 47 = .ok (.istore 7, 2) := by decide +kernel
theorem dX10_takesPlace_49 : decode cX10_takesPlace 49 = .ok (.iload_n 3, 1) := by decide +kernel
theorem dX10_takesPlace_50 : decode cX10_takesPlace 50 = .ok (.aload 5, 2) := by decide +kernel
theorem dX10_takesPlace_52 : decode cX10_takesPlace 52 = .ok (.iload_n 1, 1) := by decide +kernel
theorem dX10_takesPlace_53 : decode cX10_takesPlace 53 = .ok (.invokevirtual 272, 3) := by decide +kernel
theorem dX10_takesPlace_56 : decode cX10_takesPlace 56 = .ok (.isub, 1) := by decide +kernel
theorem dX10_takesPlace_57 : decode cX10_takesPlace 57 = .ok (.aload 6, 2) := by decide +kernel
theorem dX10_takesPlace_59 : decode cX10_takesPlace 59 = .ok (.iload 7, 2) := by decide +kernel
theorem dX10_takesPlace_61 : decode cX10_takesPlace 61 = .ok (.invokevirtual 339, 3) := by decide +kernel
theorem dX10_takesPlace_64 : decode cX10_takesPlace 64 = .ok (.invokestatic 84, 3) := by decide +kernel
theorem dX10_takesPlace_67 : decode cX10_takesPlace 67 = .ok (.ifCond .eq 29, 3) := by decide +kernel
theorem dX10_takesPlace_70 : decode cX10_takesPlace 70 = .ok (.iload 4, 2) := by decide +kernel
theorem dX10_takesPlace_72 : decode cX10_takesPlace 72 = .ok (.aload 5, 2) := by decide +kernel
theorem dX10_takesPlace_74 : decode cX10_takesPlace 74 = .ok (.iload_n 1, 1) := by decide +kernel
theorem dX10_takesPlace_75 : decode cX10_takesPlace 75 = .ok (.invokevirtual 278, 3) := by decide +kernel
theorem dX10_takesPlace_78 : decode cX10_takesPlace 78 = .ok (.isub, 1) := by decide +kernel
theorem dX10_takesPlace_79 : decode cX10_takesPlace 79 = .ok (.aload 6, 2) := by decide +kernel
theorem dX10_takesPlace_81 : decode cX10_takesPlace 81 = .ok (.iload 7, 2) := by decide +kernel
theorem dX10_takesPlace_83 : decode cX10_takesPlace 83 = .ok (.invokevirtual 343, 3) := by decide +kernel
theorem dX10_takesPlace_86 : decode cX10_takesPlace 86 = .ok (.invokestatic 84, 3) := by decide +kernel
theorem dX10_takesPlace_89 : decode cX10_takesPlace 89 = .ok (.ifCond .eq 7, 3) := by decide +kernel
theorem dX10_takesPlace_92 : decode cX10_takesPlace 92 = .ok (.iconst 1, 1) := by decide +kernel
theorem dX10_takesPlace_93 : decode cX10_takesPlace 93 = .ok (.goto 4, 3) := by decide +kernel
theorem dX10_takesPlace_96 : decode cX10_takesPlace 96 = .ok (.iconst 0, 1) := by decide +kernel
theorem dX10_takesPlace_97 : decode cX10_takesPlace 97 = .ok (.ireturn, 1) := by decide +kernel
theorem dX10_pointSeen_0 : decode cX10_pointSeen 0 = .ok (.aload_n 0, 1) := by decide +kernel
theorem dX10_pointSeen_1 : decode cX10_pointSeen 1 = .ok (.getfield 32, 3) := by decide +kernel
theorem dX10_pointSeen_4 : decode cX10_pointSeen 4 = .ok (.getfield 163, 3) := by decide +kernel
theorem dX10_pointSeen_7 : decode cX10_pointSeen 7 = .ok (.astore 4, 2) := by decide +kernel
theorem dX10_pointSeen_9 : decode cX10_pointSeen 9 = .ok (.aload_n 0, 1) := by decide +kernel
theorem dX10_pointSeen_10 : decode cX10_pointSeen 10 = .ok (.getfield 71, 3) := by decide +kernel
theorem dX10_pointSeen_13 : decode cX10_pointSeen 13 = .ok (.getfield 154, 3) := by decide +kernel
theorem dX10_pointSeen_16 : decode cX10_pointSeen 16 = .ok (.iload_n 1, 1) := by decide +kernel
theorem dX10_pointSeen_17 : decode cX10_pointSeen 17 = .ok (.aaload, 1) := by decide +kernel
theorem dX10_pointSeen_18 : decode cX10_pointSeen 18 = .ok (.astore 5, 2) := by decide +kernel
theorem dX10_pointSeen_20 : decode cX10_pointSeen 20 = .ok (.iload_n 2, 1) := by decide +kernel
theorem dX10_pointSeen_21 : decode cX10_pointSeen 21 = .ok (.aload 4, 2) := by decide +kernel
theorem dX10_pointSeen_23 : decode cX10_pointSeen 23 = .ok (.iload_n 1, 1) := by decide +kernel
theorem dX10_pointSeen_24 : decode cX10_pointSeen 24 = .ok (.invokevirtual 272, 3) := by decide +kernel
theorem dX10_pointSeen_27 : decode cX10_pointSeen 27 = .ok (.isub, 1) := by decide +kernel
theorem dX10_pointSeen_28 : decode cX10_pointSeen 28 = .ok (.aload 5, 2) := by decide +kernel
theorem dX10_pointSeen_30 : decode cX10_pointSeen 30 = .ok (.getfield 275, 3) := by decide +kernel
theorem dX10_pointSeen_33 : decode cX10_pointSeen 33 = .ok (.isub, 1) := by decide +kernel
theorem dX10_pointSeen_34 : decode cX10_pointSeen 34 = .ok (.istore 6, 2) := by decide +kernel
theorem dX10_pointSeen_36 : decode cX10_pointSeen 36 = .ok (.iload_n 3, 1) := by decide +kernel
theorem dX10_pointSeen_37 : decode cX10_pointSeen 37 = .ok (.aload 4, 2) := by decide +kernel
theorem dX10_pointSeen_39 : decode cX10_pointSeen 39 = .ok (.iload_n 1, 1) := by decide +kernel
theorem dX10_pointSeen_40 : decode cX10_pointSeen 40 = .ok (.invokevirtual 278, 3) := by decide +kernel
theorem dX10_pointSeen_43 : decode cX10_pointSeen 43 = .ok (.isub, 1) := by decide +kernel
theorem dX10_pointSeen_44 : decode cX10_pointSeen 44 = .ok (.aload 5, 2) := by decide +kernel
theorem dX10_pointSeen_46 : decode cX10_pointSeen 46 = .ok (.getfield 275, 3) := by decide +kernel
theorem dX10_pointSeen_49 : decode cX10_pointSeen 49 = .ok (.isub, 1) := by decide +kernel
theorem dX10_pointSeen_50 : decode cX10_pointSeen 50 = .ok (.istore 7, 2) := by decide +kernel
theorem dX10_pointSeen_52 : decode cX10_pointSeen 52 = .ok (.aload 4, 2) := by decide +kernel
theorem dX10_pointSeen_54 : decode cX10_pointSeen 54 = .ok (.iload_n 1, 1) := by decide +kernel
theorem dX10_pointSeen_55 : decode cX10_pointSeen 55 = .ok (.invokevirtual 269, 3) := by decide +kernel
theorem dX10_pointSeen_58 : decode cX10_pointSeen 58 = .ok (.istore 8, 2) := by decide +kernel
theorem dX10_pointSeen_60 : decode cX10_pointSeen 60 = .ok (.iload 8, 2) := by decide +kernel
theorem dX10_pointSeen_62 : decode cX10_pointSeen 62 = .ok (.ifCond .eq 8, 3) := by decide +kernel
theorem dX10_pointSeen_65 : decode cX10_pointSeen 65 = .ok (.iload 7, 2) := by decide +kernel
theorem dX10_pointSeen_67 : decode cX10_pointSeen 67 = .ok (.goto 5, 3) := by decide +kernel
theorem dX10_pointSeen_70 : decode cX10_pointSeen 70 = .ok (.iload 6, 2) := by decide +kernel
theorem dX10_pointSeen_72 : decode cX10_pointSeen 72 = .ok (.aload 5, 2) := by decide +kernel
theorem dX10_pointSeen_74 : decode cX10_pointSeen 74 = .ok (.getfield 176, 3) := by decide +kernel
theorem dX10_pointSeen_77 : decode cX10_pointSeen 77 = .ok (.invokestatic 346, 3) := by decide +kernel
theorem dX10_pointSeen_80 : decode cX10_pointSeen 80 = .ok (.istore 9, 2) := by decide +kernel
theorem dX10_pointSeen_82 : decode cX10_pointSeen 82 = .ok (.iload 8, 2) := by decide +kernel
theorem dX10_pointSeen_84 : decode cX10_pointSeen 84 = .ok (.ifCond .eq 8, 3) := by decide +kernel
theorem dX10_pointSeen_87 : decode cX10_pointSeen 87 = .ok (.iload 6, 2) := by decide +kernel
theorem dX10_pointSeen_89 : decode cX10_pointSeen 89 = .ok (.goto 5, 3) := by decide +kernel
theorem dX10_pointSeen_92 : decode cX10_pointSeen 92 = .ok (.iload 7, 2) := by decide +kernel
theorem dX10_pointSeen_94 : decode cX10_pointSeen 94 = .ok (.aload 5, 2) := by decide +kernel
theorem dX10_pointSeen_96 : decode cX10_pointSeen 96 = .ok (.getfield 179, 3) := by decide +kernel
theorem dX10_pointSeen_99 : decode cX10_pointSeen 99 = .ok (.invokestatic 346, 3) := by decide +kernel
theorem dX10_pointSeen_102 : decode cX10_pointSeen 102 = .ok (.istore 10, 2) := by decide +kernel
theorem dX10_pointSeen_104 : decode cX10_pointSeen 104 = .ok (.bipush 100, 2) := by decide +kernel
theorem dX10_pointSeen_106 : decode cX10_pointSeen 106 = .ok (.iload 9, 2) := by decide +kernel
theorem dX10_pointSeen_108 : decode cX10_pointSeen 108 = .ok (.aload 5, 2) := by decide +kernel
theorem dX10_pointSeen_110 : decode cX10_pointSeen 110 = .ok (.getfield 263, 3) := by decide +kernel
theorem dX10_pointSeen_113 : decode cX10_pointSeen 113 = .ok (.iadd, 1) := by decide +kernel
theorem dX10_pointSeen_114 : decode cX10_pointSeen 114 = .ok (.imul, 1) := by decide +kernel
theorem dX10_pointSeen_115 : decode cX10_pointSeen 115 = .ok (.iload 10, 2) := by decide +kernel
theorem dX10_pointSeen_117 : decode cX10_pointSeen 117 = .ok (.iadd, 1) := by decide +kernel
theorem dX10_pointSeen_118 : decode cX10_pointSeen 118 = .ok (.aload 5, 2) := by decide +kernel
theorem dX10_pointSeen_120 : decode cX10_pointSeen 120 = .ok (.getfield 266, 3) := by decide +kernel
theorem dX10_pointSeen_123 : decode cX10_pointSeen 123 = .ok (.iadd, 1) := by decide +kernel
theorem dX10_pointSeen_124 : decode cX10_pointSeen 124 = .ok (.ireturn, 1) := by decide +kernel
theorem dX10_nearest_0 : decode cX10_nearest 0 = .ok (.iconst 0, 1) := by decide +kernel
theorem dX10_nearest_1 : decode cX10_nearest 1 = .ok (.iload_n 0, 1) := by decide +kernel
theorem dX10_nearest_2 : decode cX10_nearest 2 = .ok (.iload_n 1, 1) := by decide +kernel
theorem dX10_nearest_3 : decode cX10_nearest 3 = .ok (.iconst 1, 1) := by decide +kernel
theorem dX10_nearest_4 : decode cX10_nearest 4 = .ok (.isub, 1) := by decide +kernel
theorem dX10_nearest_5 : decode cX10_nearest 5 = .ok (.invokestatic 349, 3) := by decide +kernel
theorem dX10_nearest_8 : decode cX10_nearest 8 = .ok (.invokestatic 352, 3) := by decide +kernel
theorem dX10_nearest_11 : decode cX10_nearest 11 = .ok (.ireturn, 1) := by decide +kernel
theorem dX10_shortcoming_0 : decode cX10_shortcoming 0 = .ok (.aload_n 1, 1) := by decide +kernel
theorem dX10_shortcoming_1 : decode cX10_shortcoming 1 = .ok (.invokevirtual 210, 3) := by decide +kernel
theorem dX10_shortcoming_4 : decode cX10_shortcoming 4 = .ok (.istore_n 2, 1) := by decide +kernel
theorem dX10_shortcoming_5 : decode cX10_shortcoming 5 = .ok (.aload_n 0, 1) := by decide +kernel
theorem dX10_shortcoming_6 : decode cX10_shortcoming 6 = .ok (.getfield 71, 3) := by decide +kernel
theorem dX10_shortcoming_9 : decode cX10_shortcoming 9 = .ok (.aload_n 1, 1) := by decide +kernel
theorem dX10_shortcoming_10 : decode cX10_shortcoming 10 = .ok (.iload_n 2, 1) := by decide +kernel
theorem dX10_shortcoming_11 : decode cX10_shortcoming 11 = .ok (.iconst 1, 1) := by decide +kernel
theorem dX10_shortcoming_12 : decode cX10_shortcoming 12 = .ok (.isub, 1) := by decide +kernel
theorem dX10_shortcoming_13 : decode cX10_shortcoming 13 = .ok (.invokevirtual 281, 3) := by decide +kernel
theorem dX10_shortcoming_16 : decode cX10_shortcoming 16 = .ok (.istore_n 3, 1) := by decide +kernel
theorem dX10_shortcoming_17 : decode cX10_shortcoming 17 = .ok (.aload_n 0, 1) := by decide +kernel
theorem dX10_shortcoming_18 : decode cX10_shortcoming 18 = .ok (.getfield 71, 3) := by decide +kernel
theorem dX10_shortcoming_21 : decode cX10_shortcoming 21 = .ok (.getfield 140, 3) := by decide +kernel
theorem dX10_shortcoming_24 : decode cX10_shortcoming 24 = .ok (.aload_n 1, 1) := by decide +kernel
theorem dX10_shortcoming_25 : decode cX10_shortcoming 25 = .ok (.invokevirtual 304, 3) := by decide +kernel
theorem dX10_shortcoming_28 : decode cX10_shortcoming 28 = .ok (.isub, 1) := by decide +kernel
theorem dX10_shortcoming_29 : decode cX10_shortcoming 29 = .ok (.istore 4, 2) := by decide +kernel
theorem dX10_shortcoming_31 : decode cX10_shortcoming 31 = .ok (.iload 4, 2) := by decide +kernel
theorem dX10_shortcoming_33 : decode cX10_shortcoming 33 = .ok (.bipush 9, 2) := by decide +kernel
theorem dX10_shortcoming_35 : decode cX10_shortcoming 35 = .ok (.imul, 1) := by decide +kernel
theorem dX10_shortcoming_36 : decode cX10_shortcoming 36 = .ok (.iload_n 2, 1) := by decide +kernel
theorem dX10_shortcoming_37 : decode cX10_shortcoming 37 = .ok (.iadd, 1) := by decide +kernel
theorem dX10_shortcoming_38 : decode cX10_shortcoming 38 = .ok (.sipush 257, 3) := by decide +kernel
theorem dX10_shortcoming_41 : decode cX10_shortcoming 41 = .ok (.imul, 1) := by decide +kernel
theorem dX10_shortcoming_42 : decode cX10_shortcoming 42 = .ok (.iload_n 3, 1) := by decide +kernel
theorem dX10_shortcoming_43 : decode cX10_shortcoming 43 = .ok (.iadd, 1) := by decide +kernel
theorem dX10_shortcoming_44 : decode cX10_shortcoming 44 = .ok (.ireturn, 1) := by decide +kernel
theorem dX10_doLot_0 : decode cX10_doLot 0 = .ok (.aload_n 0, 1) := by decide +kernel
theorem dX10_doLot_1 : decode cX10_doLot 1 = .ok (.invokevirtual 141, 3) := by decide +kernel
theorem dX10_doLot_4 : decode cX10_doLot 4 = .ok (.ifCond .eq 4, 3) := by decide +kernel
theorem dX10_doLot_7 : decode cX10_doLot 7 = .ok (.return_, 1) := by decide +kernel
theorem dX10_doLot_8 : decode cX10_doLot 8 = .ok (.iload_n 1, 1) := by decide +kernel
theorem dX10_doLot_9 : decode cX10_doLot 9 = .ok (.bipush 8, 2) := by decide +kernel
theorem dX10_doLot_11 : decode cX10_doLot 11 = .ok (.idiv, 1) := by decide +kernel
theorem dX10_doLot_12 : decode cX10_doLot 12 = .ok (.aload_n 0, 1) := by decide +kernel
theorem dX10_doLot_13 : decode cX10_doLot 13 = .ok (.getfield 71, 3) := by decide +kernel
theorem dX10_doLot_16 : decode cX10_doLot 16 = .ok (.getfield 140, 3) := by decide +kernel
theorem dX10_doLot_19 : decode cX10_doLot 19 = .ok (.irem, 1) := by decide +kernel
theorem dX10_doLot_20 : decode cX10_doLot 20 = .ok (.istore_n 2, 1) := by decide +kernel
theorem dX10_doLot_21 : decode cX10_doLot 21 = .ok (.iload_n 1, 1) := by decide +kernel
theorem dX10_doLot_22 : decode cX10_doLot 22 = .ok (.bipush 8, 2) := by decide +kernel
theorem dX10_doLot_24 : decode cX10_doLot 24 = .ok (.irem, 1) := by decide +kernel
theorem dX10_doLot_25 : decode cX10_doLot 25 = .ok (.istore_n 3, 1) := by decide +kernel
theorem dX10_doLot_26 : decode cX10_doLot 26 = .ok (.aload_n 0, 1) := by decide +kernel
theorem dX10_doLot_27 : decode cX10_doLot 27 = .ok (.getfield 32, 3) := by decide +kernel
theorem dX10_doLot_30 : decode cX10_doLot 30 = .ok (.getfield 163, 3) := by decide +kernel
theorem dX10_doLot_33 : decode cX10_doLot 33 = .ok (.astore 4, 2) := by decide +kernel
theorem dX10_doLot_35 : decode cX10_doLot 35 = .ok (.iload_n 3, 1) := by decide +kernel
theorem dX10_doLot_36 : decode cX10_doLot 36 = .ok (.ifCond .ne 17, 3) := by decide +kernel
theorem dX10_doLot_39 : decode cX10_doLot 39 = .ok (.aload 4, 2) := by decide +kernel
theorem dX10_doLot_41 : decode cX10_doLot 41 = .ok (.iload_n 1, 1) := by decide +kernel
theorem dX10_doLot_42 : decode cX10_doLot 42 = .ok (.bipush 64, 2) := by decide +kernel
theorem dX10_doLot_44 : decode cX10_doLot 44 = .ok (.idiv, 1) := by decide +kernel
theorem dX10_doLot_45 : decode cX10_doLot 45 = .ok (.iconst 4, 1) := by decide +kernel
theorem dX10_doLot_46 : decode cX10_doLot 46 = .ok (.irem, 1) := by decide +kernel
theorem dX10_doLot_47 : decode cX10_doLot 47 = .ok (.putfield 217, 3) := by decide +kernel
theorem dX10_doLot_50 : decode cX10_doLot 50 = .ok (.goto 50, 3) := by decide +kernel
theorem dX10_doLot_53 : decode cX10_doLot 53 = .ok (.iload_n 3, 1) := by decide +kernel
theorem dX10_doLot_54 : decode cX10_doLot 54 = .ok (.iconst 4, 1) := by decide +kernel
theorem dX10_doLot_55 : decode cX10_doLot 55 = .ok (.if_icmp .le 15, 3) := by decide +kernel
theorem dX10_doLot_58 : decode cX10_doLot 58 = .ok (.aload 4, 2) := by decide +kernel
theorem dX10_doLot_60 : decode cX10_doLot 60 = .ok (.getfield 204, 3) := by decide +kernel
theorem dX10_doLot_63 : decode cX10_doLot 63 = .ok (.iload_n 2, 1) := by decide +kernel
theorem dX10_doLot_64 : decode cX10_doLot 64 = .ok (.bipush (-9), 2) := by decide +kernel
theorem dX10_doLot_66 : decode cX10_doLot 66 = .ok (.iastore, 1) := by decide +kernel
theorem dX10_doLot_67 : decode cX10_doLot 67 = .ok (.goto 33, 3) := by decide +kernel
theorem dX10_doLot_70 : decode cX10_doLot 70 = .ok (.aload 4, 2) := by decide +kernel
theorem dX10_doLot_72 : decode cX10_doLot 72 = .ok (.iload_n 2, 1) := by decide +kernel
theorem dX10_doLot_73 : decode cX10_doLot 73 = .ok (.invokevirtual 166, 3) := by decide +kernel
theorem dX10_doLot_76 : decode cX10_doLot 76 = .ok (.ifCond .ne 24, 3) := by decide +kernel
theorem dX10_doLot_79 : decode cX10_doLot 79 = .ok (.aload 4, 2) := by decide +kernel
theorem dX10_doLot_81 : decode cX10_doLot 81 = .ok (.getfield 204, 3) := by decide +kernel
theorem dX10_doLot_84 : decode cX10_doLot 84 = .ok (.iload_n 2, 1) := by decide +kernel
theorem dX10_doLot_85 : decode cX10_doLot 85 = .ok (.aload_n 0, 1) := by decide +kernel
theorem dX10_doLot_86 : decode cX10_doLot 86 = .ok (.getfield 53, 3) := by decide +kernel
theorem dX10_doLot_89 : decode cX10_doLot 89 = .ok (.aload_n 0, 1) := by decide +kernel
theorem dX10_doLot_90 : decode cX10_doLot 90 = .ok (.getfield 71, 3) := by decide +kernel
theorem dX10_doLot_93 : decode cX10_doLot 93 = .ok (.aload 4, 2) := by decide +kernel
theorem dX10_doLot_95 : decode cX10_doLot 95 = .ok (.iload_n 2, 1) := by decide +kernel
theorem dX10_doLot_96 : decode cX10_doLot 96 = .ok (.invokevirtual 194, 3) := by decide +kernel
theorem dX10_doLot_99 : decode cX10_doLot 99 = .ok (.iastore, 1) := by decide +kernel
theorem dX10_doLot_100 : decode cX10_doLot 100 = .ok (.return_, 1) := by decide +kernel
theorem dX10_placesTakenOnAllPages_0 : decode cX10_placesTakenOnAllPages 0 = .ok (.iconst 0, 1) := by decide +kernel
theorem dX10_placesTakenOnAllPages_1 : decode cX10_placesTakenOnAllPages 1 = .ok (.istore_n 1, 1) := by decide +kernel
theorem dX10_placesTakenOnAllPages_2 : decode cX10_placesTakenOnAllPages 2 = .ok (.aload_n 0, 1) := by decide +kernel
theorem dX10_placesTakenOnAllPages_3 : decode cX10_placesTakenOnAllPages 3 = .ok (.getfield 32, 3) := by decide +kernel
theorem dX10_placesTakenOnAllPages_6 : decode cX10_placesTakenOnAllPages 6 = .ok (.getfield 163, 3) := by decide +kernel
theorem dX10_placesTakenOnAllPages_9 : decode cX10_placesTakenOnAllPages 9 = .ok (.invokevirtual 210, 3) := by decide +kernel
theorem dX10_placesTakenOnAllPages_12 : decode cX10_placesTakenOnAllPages 12 = .ok (.istore_n 2, 1) := by decide +kernel
theorem dX10_placesTakenOnAllPages_13 : decode cX10_placesTakenOnAllPages 13 = .ok (.iconst 0, 1) := by decide +kernel
theorem dX10_placesTakenOnAllPages_14 : decode cX10_placesTakenOnAllPages 14 = .ok (.istore_n 3, 1) := by decide +kernel
theorem dX10_placesTakenOnAllPages_15 : decode cX10_placesTakenOnAllPages 15 = .ok (.iload_n 3, 1) := by decide +kernel
theorem dX10_placesTakenOnAllPages_16 : decode cX10_placesTakenOnAllPages 16 = .ok (.iload_n 2, 1) := by decide +kernel
theorem dX10_placesTakenOnAllPages_17 : decode cX10_placesTakenOnAllPages 17 = .ok (.if_icmp .ge 27, 3) := by decide +kernel
theorem dX10_placesTakenOnAllPages_20 : decode cX10_placesTakenOnAllPages 20 = .ok (.iload_n 1, 1) := by decide +kernel
theorem dX10_placesTakenOnAllPages_21 : decode cX10_placesTakenOnAllPages 21 = .ok (.aload_n 0, 1) := by decide +kernel
theorem dX10_placesTakenOnAllPages_22 : decode cX10_placesTakenOnAllPages 22 = .ok (.getfield 71, 3) := by decide +kernel
theorem dX10_placesTakenOnAllPages_25 : decode cX10_placesTakenOnAllPages 25 = .ok (.aload_n 0, 1) := by decide +kernel
theorem dX10_placesTakenOnAllPages_26 : decode cX10_placesTakenOnAllPages 26 = .ok (.getfield 32, 3) := by decide +kernel
theorem dX10_placesTakenOnAllPages_29 : decode cX10_placesTakenOnAllPages 29 = .ok (.getfield 163, 3) := by decide +kernel
theorem dX10_placesTakenOnAllPages_32 : decode cX10_placesTakenOnAllPages 32 = .ok (.iload_n 3, 1) := by decide +kernel
theorem dX10_placesTakenOnAllPages_33 : decode cX10_placesTakenOnAllPages 33 = .ok (.invokevirtual 281, 3) := by decide +kernel
theorem dX10_placesTakenOnAllPages_36 : decode cX10_placesTakenOnAllPages 36 = .ok (.iadd, 1) := by decide +kernel
theorem dX10_placesTakenOnAllPages_37 : decode cX10_placesTakenOnAllPages 37 = .ok (.istore_n 1, 1) := by decide +kernel
theorem dX10_placesTakenOnAllPages_38 : decode cX10_placesTakenOnAllPages 38 = .ok (.iinc 3 1, 3) := by decide +kernel
theorem dX10_placesTakenOnAllPages_41 : decode cX10_placesTakenOnAllPages 41 = .ok (.goto (-26), 3) := by decide +kernel
theorem dX10_placesTakenOnAllPages_44 : decode cX10_placesTakenOnAllPages 44 = .ok (.iload_n 1, 1) := by decide +kernel
theorem dX10_placesTakenOnAllPages_45 : decode cX10_placesTakenOnAllPages 45 = .ok (.ireturn, 1) := by decide +kernel
theorem dX10_freeOnAllPages_0 : decode cX10_freeOnAllPages 0 = .ok (.iconst 0, 1) := by decide +kernel
theorem dX10_freeOnAllPages_1 : decode cX10_freeOnAllPages 1 = .ok (.istore_n 1, 1) := by decide +kernel
theorem dX10_freeOnAllPages_2 : decode cX10_freeOnAllPages 2 = .ok (.aload_n 0, 1) := by decide +kernel
theorem dX10_freeOnAllPages_3 : decode cX10_freeOnAllPages 3 = .ok (.getfield 32, 3) := by decide +kernel
theorem dX10_freeOnAllPages_6 : decode cX10_freeOnAllPages 6 = .ok (.getfield 163, 3) := by decide +kernel
theorem dX10_freeOnAllPages_9 : decode cX10_freeOnAllPages 9 = .ok (.invokevirtual 210, 3) := by decide +kernel
theorem dX10_freeOnAllPages_12 : decode cX10_freeOnAllPages 12 = .ok (.istore_n 2, 1) := by decide +kernel
theorem dX10_freeOnAllPages_13 : decode cX10_freeOnAllPages 13 = .ok (.iconst 0, 1) := by decide +kernel
theorem dX10_freeOnAllPages_14 : decode cX10_freeOnAllPages 14 = .ok (.istore_n 3, 1) := by decide +kernel
theorem dX10_freeOnAllPages_15 : decode cX10_freeOnAllPages 15 = .ok (.iload_n 3, 1) := by decide +kernel
theorem dX10_freeOnAllPages_16 : decode cX10_freeOnAllPages 16 = .ok (.iload_n 2, 1) := by decide +kernel
theorem dX10_freeOnAllPages_17 : decode cX10_freeOnAllPages 17 = .ok (.if_icmp .ge 44, 3) := by decide +kernel
theorem dX10_freeOnAllPages_20 : decode cX10_freeOnAllPages 20 = .ok (.aload_n 0, 1) := by decide +kernel
theorem dX10_freeOnAllPages_21 : decode cX10_freeOnAllPages 21 = .ok (.getfield 53, 3) := by decide +kernel
theorem dX10_freeOnAllPages_24 : decode cX10_freeOnAllPages 24 = .ok (.getfield 232, 3) := by decide +kernel
theorem dX10_freeOnAllPages_27 : decode cX10_freeOnAllPages 27 = .ok (.aload_n 0, 1) := by decide +kernel
theorem dX10_freeOnAllPages_28 : decode cX10_freeOnAllPages 28 = .ok (.getfield 71, 3) := by decide +kernel
theorem dX10_freeOnAllPages_31 : decode cX10_freeOnAllPages 31 = .ok (.aload_n 0, 1) := by decide +kernel
theorem dX10_freeOnAllPages_32 : decode cX10_freeOnAllPages 32 = .ok (.getfield 32, 3) := by decide +kernel
theorem dX10_freeOnAllPages_35 : decode cX10_freeOnAllPages 35 = .ok (.getfield 163, 3) := by decide +kernel
theorem dX10_freeOnAllPages_38 : decode cX10_freeOnAllPages 38 = .ok (.iload_n 3, 1) := by decide +kernel
theorem dX10_freeOnAllPages_39 : decode cX10_freeOnAllPages 39 = .ok (.invokevirtual 236, 3) := by decide +kernel
theorem dX10_freeOnAllPages_42 : decode cX10_freeOnAllPages 42 = .ok (.iload_n 1, 1) := by decide +kernel
theorem dX10_freeOnAllPages_43 : decode cX10_freeOnAllPages 43 = .ok (.aload_n 0, 1) := by decide +kernel
theorem dX10_freeOnAllPages_44 : decode cX10_freeOnAllPages 44 = .ok (.getfield 53, 3) := by decide +kernel
theorem dX10_freeOnAllPages_47 : decode cX10_freeOnAllPages 47 = .ok (.getfield 232, 3) := by decide +kernel
theorem dX10_freeOnAllPages_50 : decode cX10_freeOnAllPages 50 = .ok (.getfield 241, 3) := by decide +kernel
theorem dX10_freeOnAllPages_53 : decode cX10_freeOnAllPages 53 = .ok (.iadd, 1) := by decide +kernel
theorem dX10_freeOnAllPages_54 : decode cX10_freeOnAllPages 54 = .ok (.istore_n 1, 1) := by decide +kernel
theorem dX10_freeOnAllPages_55 : decode cX10_freeOnAllPages 55 = .ok (.iinc 3 1, 3) := by decide +kernel
theorem dX10_freeOnAllPages_58 : decode cX10_freeOnAllPages 58 = .ok (.goto (-43), 3) := by decide +kernel
theorem dX10_freeOnAllPages_61 : decode cX10_freeOnAllPages 61 = .ok (.iload_n 1, 1) := by decide +kernel
theorem dX10_freeOnAllPages_62 : decode cX10_freeOnAllPages 62 = .ok (.ireturn, 1) := by decide +kernel
theorem dX10_rowsThere_0 : decode cX10_rowsThere 0 = .ok (.iconst 0, 1) := by decide +kernel
theorem dX10_rowsThere_1 : decode cX10_rowsThere 1 = .ok (.istore_n 1, 1) := by decide +kernel
theorem dX10_rowsThere_2 : decode cX10_rowsThere 2 = .ok (.iconst 0, 1) := by decide +kernel
theorem dX10_rowsThere_3 : decode cX10_rowsThere 3 = .ok (.istore_n 2, 1) := by decide +kernel
theorem dX10_rowsThere_4 : decode cX10_rowsThere 4 = .ok (.iload_n 2, 1) := by decide +kernel
theorem dX10_rowsThere_5 : decode cX10_rowsThere 5 = .ok (.bipush 6, 2) := by decide +kernel
theorem dX10_rowsThere_7 : decode cX10_rowsThere 7 = .ok (.if_icmp .ge 24, 3) := by decide +kernel
theorem dX10_rowsThere_10 : decode cX10_rowsThere 10 = .ok (.aload_n 0, 1) := by decide +kernel
theorem dX10_rowsThere_11 : decode cX10_rowsThere 11 = .ok (.getfield 11, 3) := by decide +kernel
theorem dX10_rowsThere_14 : decode cX10_rowsThere 14 = .ok (.iload_n 2, 1) := by decide +kernel
theorem dX10_rowsThere_15 : decode cX10_rowsThere 15 = .ok (.aaload, 1) := by decide +kernel
theorem dX10_rowsThere_16 : decode cX10_rowsThere 16 = .ok (.invokevirtual 96, 3) := by decide +kernel
theorem dX10_rowsThere_19 : decode cX10_rowsThere 19 = .ok (.ifCond .ne 6, 3) := by decide +kernel
theorem dX10_rowsThere_22 : decode cX10_rowsThere 22 = .ok (.iinc 1 1, 3) := by decide +kernel
theorem dX10_rowsThere_25 : decode cX10_rowsThere 25 = .ok (.iinc 2 1, 3) := by decide +kernel
theorem dX10_rowsThere_28 : decode cX10_rowsThere 28 = .ok (.goto (-24), 3) := by decide +kernel
theorem dX10_rowsThere_31 : decode cX10_rowsThere 31 = .ok (.iload_n 1, 1) := by decide +kernel
theorem dX10_rowsThere_32 : decode cX10_rowsThere 32 = .ok (.ireturn, 1) := by decide +kernel
theorem dX10_textsThere_0 : decode cX10_textsThere 0 = .ok (.iconst 0, 1) := by decide +kernel
theorem dX10_textsThere_1 : decode cX10_textsThere 1 = .ok (.istore_n 1, 1) := by decide +kernel
theorem dX10_textsThere_2 : decode cX10_textsThere 2 = .ok (.iconst 0, 1) := by decide +kernel
theorem dX10_textsThere_3 : decode cX10_textsThere 3 = .ok (.istore_n 2, 1) := by decide +kernel
theorem dX10_textsThere_4 : decode cX10_textsThere 4 = .ok (.iload_n 2, 1) := by decide +kernel
theorem dX10_textsThere_5 : decode cX10_textsThere 5 = .ok (.iconst 4, 1) := by decide +kernel
theorem dX10_textsThere_6 : decode cX10_textsThere 6 = .ok (.if_icmp .ge 24, 3) := by decide +kernel
theorem dX10_textsThere_9 : decode cX10_textsThere 9 = .ok (.aload_n 0, 1) := by decide +kernel
theorem dX10_textsThere_10 : decode cX10_textsThere 10 = .ok (.getfield 17, 3) := by decide +kernel
theorem dX10_textsThere_13 : decode cX10_textsThere 13 = .ok (.iload_n 2, 1) := by decide +kernel
theorem dX10_textsThere_14 : decode cX10_textsThere 14 = .ok (.aaload, 1) := by decide +kernel
theorem dX10_textsThere_15 : decode cX10_textsThere 15 = .ok (.invokevirtual 123, 3) := by decide +kernel
theorem dX10_textsThere_18 : decode cX10_textsThere 18 = .ok (.ifCond .ne 6, 3) := by decide +kernel
theorem dX10_textsThere_21 : decode cX10_textsThere 21 = .ok (.iinc 1 1, 3) := by decide +kernel
theorem dX10_textsThere_24 : decode cX10_textsThere 24 = .ok (.iinc 2 1, 3) := by decide +kernel
theorem dX10_textsThere_27 : decode cX10_textsThere 27 = .ok (.goto (-23), 3) := by decide +kernel
theorem dX10_textsThere_30 : decode cX10_textsThere 30 = .ok (.iload_n 1, 1) := by decide +kernel
theorem dX10_textsThere_31 : decode cX10_textsThere 31 = .ok (.ireturn, 1) := by decide +kernel
theorem dX10_sheetsKept_0 : decode cX10_sheetsKept 0 = .ok (.iconst 0, 1) := by decide +kernel
theorem dX10_sheetsKept_1 : decode cX10_sheetsKept 1 = .ok (.istore_n 1, 1) := by decide +kernel
theorem dX10_sheetsKept_2 : decode cX10_sheetsKept 2 = .ok (.iconst 0, 1) := by decide +kernel
theorem dX10_sheetsKept_3 : decode cX10_sheetsKept 3 = .ok (.istore_n 2, 1) := by decide +kernel
theorem dX10_sheetsKept_4 : decode cX10_sheetsKept 4 = .ok (.iload_n 2, 1) := by decide +kernel
theorem dX10_sheetsKept_5 : decode cX10_sheetsKept 5 = .ok (.iconst 3, 1) := by decide +kernel
theorem dX10_sheetsKept_6 : decode cX10_sheetsKept 6 = .ok (.if_icmp .ge 21, 3) := by decide +kernel
theorem dX10_sheetsKept_9 : decode cX10_sheetsKept 9 = .ok (.aload_n 0, 1) := by decide +kernel
theorem dX10_sheetsKept_10 : decode cX10_sheetsKept 10 = .ok (.getfield 27, 3) := by decide +kernel
theorem dX10_sheetsKept_13 : decode cX10_sheetsKept 13 = .ok (.iload_n 2, 1) := by decide +kernel
theorem dX10_sheetsKept_14 : decode cX10_sheetsKept 14 = .ok (.baload, 1) := by decide +kernel
theorem dX10_sheetsKept_15 : decode cX10_sheetsKept 15 = .ok (.ifCond .eq 6, 3) := by decide +kernel
theorem dX10_sheetsKept_18 : decode cX10_sheetsKept 18 = .ok (.iinc 1 1, 3) := by decide +kernel
theorem dX10_sheetsKept_21 : decode cX10_sheetsKept 21 = .ok (.iinc 2 1, 3) := by decide +kernel
theorem dX10_sheetsKept_24 : decode cX10_sheetsKept 24 = .ok (.goto (-20), 3) := by decide +kernel
theorem dX10_sheetsKept_27 : decode cX10_sheetsKept 27 = .ok (.iload_n 1, 1) := by decide +kernel
theorem dX10_sheetsKept_28 : decode cX10_sheetsKept 28 = .ok (.ireturn, 1) := by decide +kernel
theorem dX10_withFrame_0 : decode cX10_withFrame 0 = .ok (.lload_n 1, 1) := by decide +kernel
theorem dX10_withFrame_1 : decode cX10_withFrame 1 = .ok (.lstore 4, 2) := by decide +kernel
theorem dX10_withFrame_3 : decode cX10_withFrame 3 = .ok (.iconst 0, 1) := by decide +kernel
theorem dX10_withFrame_4 : decode cX10_withFrame 4 = .ok (.istore 6, 2) := by decide +kernel
theorem dX10_withFrame_6 : decode cX10_withFrame 6 = .ok (.iload 6, 2) := by decide +kernel
theorem dX10_withFrame_8 : decode cX10_withFrame 8 = .ok (.iconst 5, 1) := by decide +kernel
theorem dX10_withFrame_9 : decode cX10_withFrame 9 = .ok (.if_icmp .ge 33, 3) := by decide +kernel
theorem dX10_withFrame_12 : decode cX10_withFrame 12 = .ok (.ldc2_w 330, 3) := by decide +kernel
theorem dX10_withFrame_15 : decode cX10_withFrame 15 = .ok (.lload 4, 2) := by decide +kernel
theorem dX10_withFrame_17 : decode cX10_withFrame 17 = .ok (.lmul, 1) := by decide +kernel
theorem dX10_withFrame_18 : decode cX10_withFrame 18 = .ok (.aload_n 0, 1) := by decide +kernel
theorem dX10_withFrame_19 : decode cX10_withFrame 19 = .ok (.getfield 71, 3) := by decide +kernel
theorem dX10_withFrame_22 : decode cX10_withFrame 22 = .ok (.getfield 154, 3) := by decide +kernel
theorem dX10_withFrame_25 : decode cX10_withFrame 25 = .ok (.iload_n 3, 1) := by decide +kernel
theorem dX10_withFrame_26 : decode cX10_withFrame 26 = .ok (.aaload, 1) := by decide +kernel
theorem dX10_withFrame_27 : decode cX10_withFrame 27 = .ok (.iload 6, 2) := by decide +kernel
theorem dX10_withFrame_29 : decode cX10_withFrame 29 = .ok (.invokevirtual 158, 3) := by decide +kernel
theorem dX10_withFrame_32 : decode cX10_withFrame 32 = .ok (.i2l, 1) := by decide +kernel
theorem dX10_withFrame_33 : decode cX10_withFrame 33 = .ok (.ladd, 1) := by decide +kernel
theorem dX10_withFrame_34 : decode cX10_withFrame 34 = .ok (.lstore 4, 2) := by decide +kernel
theorem dX10_withFrame_36 : decode cX10_withFrame 36 = .ok (.iinc 6 1, 3) := by decide +kernel
theorem dX10_withFrame_39 : decode cX10_withFrame 39 = .ok (.goto (-33), 3) := by decide +kernel
theorem dX10_withFrame_42 : decode cX10_withFrame 42 = .ok (.aload_n 0, 1) := by decide +kernel
theorem dX10_withFrame_43 : decode cX10_withFrame 43 = .ok (.getfield 32, 3) := by decide +kernel
theorem dX10_withFrame_46 : decode cX10_withFrame 46 = .ok (.getfield 163, 3) := by decide +kernel
theorem dX10_withFrame_49 : decode cX10_withFrame 49 = .ok (.iload_n 3, 1) := by decide +kernel
theorem dX10_withFrame_50 : decode cX10_withFrame 50 = .ok (.invokevirtual 166, 3) := by decide +kernel
theorem dX10_withFrame_53 : decode cX10_withFrame 53 = .ok (.ifCond .ne 12, 3) := by decide +kernel
theorem dX10_withFrame_56 : decode cX10_withFrame 56 = .ok (.ldc2_w 330, 3) := by decide +kernel
theorem dX10_withFrame_59 : decode cX10_withFrame 59 = .ok (.lload 4, 2) := by decide +kernel
theorem dX10_withFrame_61 : decode cX10_withFrame 61 = .ok (.lmul, 1) := by decide +kernel
theorem dX10_withFrame_62 : decode cX10_withFrame 62 = .ok (.lconst 1, 1) := by decide +kernel
theorem dX10_withFrame_63 : decode cX10_withFrame 63 = .ok (.lsub, 1) := by decide +kernel
theorem dX10_withFrame_64 : decode cX10_withFrame 64 = .ok (.lreturn, 1) := by decide +kernel
theorem dX10_withFrame_65 : decode cX10_withFrame 65 = .ok (.iconst 0, 1) := by decide +kernel
theorem dX10_withFrame_66 : decode cX10_withFrame 66 = .ok (.istore 6, 2) := by decide +kernel
theorem dX10_withFrame_68 : decode cX10_withFrame 68 = .ok (.iload 6, 2) := by decide +kernel
theorem dX10_withFrame_70 : decode cX10_withFrame 70 = .ok (.iconst 4, 1) := by decide +kernel
theorem dX10_withFrame_71 : decode cX10_withFrame 71 = .ok (.if_icmp .ge 32, 3) := by decide +kernel
theorem dX10_withFrame_74 : decode cX10_withFrame 74 = .ok (.ldc2_w 330, 3) := by decide +kernel
theorem dX10_withFrame_77 : decode cX10_withFrame 77 = .ok (.lload 4, 2) := by decide +kernel
theorem dX10_withFrame_79 : decode cX10_withFrame 79 = .ok (.lmul, 1) := by decide +kernel
theorem dX10_withFrame_80 : decode cX10_withFrame 80 = .ok (.aload_n 0, 1) := by decide +kernel
theorem dX10_withFrame_81 : decode cX10_withFrame 81 = .ok (.getfield 32, 3) := by decide +kernel
theorem dX10_withFrame_84 : decode cX10_withFrame 84 = .ok (.getfield 163, 3) := by decide +kernel
theorem dX10_withFrame_87 : decode cX10_withFrame 87 = .ok (.iload_n 3, 1) := by decide +kernel
theorem dX10_withFrame_88 : decode cX10_withFrame 88 = .ok (.iload 6, 2) := by decide +kernel
theorem dX10_withFrame_90 : decode cX10_withFrame 90 = .ok (.invokevirtual 170, 3) := by decide +kernel
theorem dX10_withFrame_93 : decode cX10_withFrame 93 = .ok (.i2l, 1) := by decide +kernel
theorem dX10_withFrame_94 : decode cX10_withFrame 94 = .ok (.ladd, 1) := by decide +kernel
theorem dX10_withFrame_95 : decode cX10_withFrame 95 = .ok (.lstore 4, 2) := by decide +kernel
theorem dX10_withFrame_97 : decode cX10_withFrame 97 = .ok (.iinc 6 1, 3) := by decide +kernel
theorem dX10_withFrame_100 : decode cX10_withFrame 100 = .ok (.goto (-32), 3) := by decide +kernel
theorem dX10_withFrame_103 : decode cX10_withFrame 103 = .ok (.lload 4, 2) := by decide +kernel
theorem dX10_withFrame_105 : decode cX10_withFrame 105 = .ok (.lreturn, 1) := by decide +kernel
theorem dX10_wordOf_0 : decode cX10_wordOf 0 = .ok (.iload_n 0, 1) := by decide +kernel
theorem dX10_wordOf_1 : decode cX10_wordOf 1 = .ok (.tableswitch 39 1 3 #[27, 31, 35], 27) := by decide +kernel
theorem dX10_wordOf_28 : decode cX10_wordOf 28 = .ok (.ldc_w 355, 3) := by decide +kernel
theorem dX10_wordOf_31 : decode cX10_wordOf 31 = .ok (.areturn, 1) := by decide +kernel
theorem dX10_wordOf_32 : decode cX10_wordOf 32 = .ok (.ldc_w 357, 3) := by decide +kernel
theorem dX10_wordOf_35 : decode cX10_wordOf 35 = .ok (.areturn, 1) := by decide +kernel
theorem dX10_wordOf_36 : decode cX10_wordOf 36 = .ok (.ldc_w 359, 3) := by decide +kernel
theorem dX10_wordOf_39 : decode cX10_wordOf 39 = .ok (.areturn, 1) := by decide +kernel
theorem dX10_wordOf_40 : decode cX10_wordOf 40 = .ok (.ldc_w 361, 3) := by decide +kernel
theorem dX10_wordOf_43 : decode cX10_wordOf 43 = .ok (.areturn, 1) := by decide +kernel
theorem dX11_init_0 : decode cX11_init 0 = .ok (.aload_n 0, 1) := by decide +kernel
theorem dX11_init_1 : decode cX11_init 1 = .ok (.invokespecial 1, 3) := by decide +kernel
theorem dX11_init_4 : decode cX11_init 4 = .ok (.aload_n 0, 1) := by decide +kernel
theorem dX11_init_5 : decode cX11_init 5 = .ok (.bipush 6, 2) := by decide +kernel
theorem dX11_init_7 : decode cX11_init 7 = .ok (.newarray .int, 2) := by decide +kernel
theorem dX11_init_9 : decode cX11_init 9 = .ok (.putfield 7, 3) := by decide +kernel
theorem dX11_init_12 : decode cX11_init 12 = .ok (.aload_n 0, 1) := by decide +kernel
theorem dX11_init_13 : decode cX11_init 13 = .ok (.bipush 6, 2) := by decide +kernel
theorem dX11_init_15 : decode cX11_init 15 = .ok (.newarray .int, 2) := by decide +kernel
theorem dX11_init_17 : decode cX11_init 17 = .ok (.putfield 13, 3) := by decide +kernel
theorem dX11_init_20 : decode cX11_init 20 = .ok (.aload_n 0, 1) := by decide +kernel
theorem dX11_init_21 : decode cX11_init 21 = .ok (.sipush 240, 3) := by decide +kernel
theorem dX11_init_24 : decode cX11_init 24 = .ok (.newarray .int, 2) := by decide +kernel
theorem dX11_init_26 : decode cX11_init 26 = .ok (.putfield 16, 3) := by decide +kernel
theorem dX11_init_29 : decode cX11_init 29 = .ok (.aload_n 0, 1) := by decide +kernel
theorem dX11_init_30 : decode cX11_init 30 = .ok (.bipush 40, 2) := by decide +kernel
theorem dX11_init_32 : decode cX11_init 32 = .ok (.newarray .int, 2) := by decide +kernel
theorem dX11_init_34 : decode cX11_init 34 = .ok (.putfield 19, 3) := by decide +kernel
theorem dX11_init_37 : decode cX11_init 37 = .ok (.aload_n 0, 1) := by decide +kernel
theorem dX11_init_38 : decode cX11_init 38 = .ok (.iconst 4, 1) := by decide +kernel
theorem dX11_init_39 : decode cX11_init 39 = .ok (.newarray .int, 2) := by decide +kernel
theorem dX11_init_41 : decode cX11_init 41 = .ok (.putfield 22, 3) := by decide +kernel
theorem dX11_init_44 : decode cX11_init 44 = .ok (.aload_n 0, 1) := by decide +kernel
theorem dX11_init_45 : decode cX11_init 45 = .ok (.sipush 480, 3) := by decide +kernel
theorem dX11_init_48 : decode cX11_init 48 = .ok (.newarray .byte, 2) := by decide +kernel
theorem dX11_init_50 : decode cX11_init 50 = .ok (.putfield 25, 3) := by decide +kernel
theorem dX11_init_53 : decode cX11_init 53 = .ok (.aload_n 0, 1) := by decide +kernel
theorem dX11_init_54 : decode cX11_init 54 = .ok (.bipush 56, 2) := by decide +kernel
theorem dX11_init_56 : decode cX11_init 56 = .ok (.newarray .int, 2) := by decide +kernel
theorem dX11_init_58 : decode cX11_init 58 = .ok (.putfield 29, 3) := by decide +kernel
theorem dX11_init_61 : decode cX11_init 61 = .ok (.aload_n 0, 1) := by decide +kernel
theorem dX11_init_62 : decode cX11_init 62 = .ok (.bipush 56, 2) := by decide +kernel
theorem dX11_init_64 : decode cX11_init 64 = .ok (.newarray .int, 2) := by decide +kernel
theorem dX11_init_66 : decode cX11_init 66 = .ok (.putfield 32, 3) := by decide +kernel
theorem dX11_init_69 : decode cX11_init 69 = .ok (.aload_n 0, 1) := by decide +kernel
theorem dX11_init_70 : decode cX11_init 70 = .ok (.bipush 33, 2) := by decide +kernel
theorem dX11_init_72 : decode cX11_init 72 = .ok (.newarray .int, 2) := by decide +kernel
theorem dX11_init_74 : decode cX11_init 74 = .ok (.putfield 35, 3) := by decide +kernel
theorem dX11_init_77 : decode cX11_init 77 = .ok (.aload_n 0, 1) := by decide +kernel
theorem dX11_init_78 : decode cX11_init 78 = .ok (.bipush 120, 2) := by decide +kernel
theorem dX11_init_80 : decode cX11_init 80 = .ok (.newarray .byte, 2) := by decide +kernel
theorem dX11_init_82 : decode cX11_init 82 = .ok (.putfield 38, 3) := by decide +kernel
theorem dX11_init_85 : decode cX11_init 85 = .ok (.aload_n 0, 1) := by decide +kernel
theorem dX11_init_86 : decode cX11_init 86 = .ok (.sipush 256, 3) := by decide +kernel
theorem dX11_init_89 : decode cX11_init 89 = .ok (.newarray .int, 2) := by decide +kernel
theorem dX11_init_91 : decode cX11_init 91 = .ok (.putfield 41, 3) := by decide +kernel
theorem dX11_init_94 : decode cX11_init 94 = .ok (.aload_n 0, 1) := by decide +kernel
theorem dX11_init_95 : decode cX11_init 95 = .ok (.sipush 4096, 3) := by decide +kernel
theorem dX11_init_98 : decode cX11_init 98 = .ok (.newarray .int, 2) := by decide +kernel
theorem dX11_init_100 : decode cX11_init 100 = .ok (.putfield 44, 3) := by decide +kernel
theorem dX11_init_103 : decode cX11_init 103 = .ok (.aload_n 0, 1) := by decide +kernel
theorem dX11_init_104 : decode cX11_init 104 = .ok (.sipush 4096, 3) := by decide +kernel
theorem dX11_init_107 : decode cX11_init 107 = .ok (.newarray .int, 2) := by decide +kernel
theorem dX11_init_109 : decode cX11_init 109 = .ok (.putfield 47, 3) := by decide +kernel
theorem dX11_init_112 : decode cX11_init 112 = .ok (.aload_n 0, 1) := by decide +kernel
theorem dX11_init_113 : decode cX11_init 113 = .ok (.sipush 4096, 3) := by decide +kernel
theorem dX11_init_116 : decode cX11_init 116 = .ok (.newarray .int, 2) := by decide +kernel
theorem dX11_init_118 : decode cX11_init 118 = .ok (.putfield 50, 3) := by decide +kernel
theorem dX11_init_121 : decode cX11_init 121 = .ok (.aload_n 0, 1) := by decide +kernel
theorem dX11_init_122 : decode cX11_init 122 = .ok (.sipush 4096, 3) := by decide +kernel
theorem dX11_init_125 : decode cX11_init 125 = .ok (.newarray .int, 2) := by decide +kernel
theorem dX11_init_127 : decode cX11_init 127 = .ok (.putfield 53, 3) := by decide +kernel
theorem dX11_init_130 : decode cX11_init 130 = .ok (.aload_n 0, 1) := by decide +kernel
theorem dX11_init_131 : decode cX11_init 131 = .ok (.sipush 1320, 3) := by decide +kernel
theorem dX11_init_134 : decode cX11_init 134 = .ok (.newarray .int, 2) := by decide +kernel
theorem dX11_init_136 : decode cX11_init 136 = .ok (.putfield 56, 3) := by decide +kernel
theorem dX11_init_139 : decode cX11_init 139 = .ok (.aload_n 0, 1) := by decide +kernel
theorem dX11_init_140 : decode cX11_init 140 = .ok (.iconst 3, 1) := by decide +kernel
theorem dX11_init_141 : decode cX11_init 141 = .ok (.newarray .int, 2) := by decide +kernel
theorem dX11_init_143 : decode cX11_init 143 = .ok (.putfield 59, 3) := by decide +kernel
theorem dX11_init_146 : decode cX11_init 146 = .ok (.aload_n 0, 1) := by decide +kernel
theorem dX11_init_147 : decode cX11_init 147 = .ok (.sipush 4059, 3) := by decide +kernel
theorem dX11_init_150 : decode cX11_init 150 = .ok (.newarray .int, 2) := by decide +kernel
theorem dX11_init_152 : decode cX11_init 152 = .ok (.putfield 62, 3) := by decide +kernel
theorem dX11_init_155 : decode cX11_init 155 = .ok (.aload_n 0, 1) := by decide +kernel
theorem dX11_init_156 : decode cX11_init 156 = .ok (.bipush 33, 2) := by decide +kernel
theorem dX11_init_158 : decode cX11_init 158 = .ok (.newarray .int, 2) := by decide +kernel
theorem dX11_init_160 : decode cX11_init 160 = .ok (.putfield 65, 3) := by decide +kernel
theorem dX11_init_163 : decode cX11_init 163 = .ok (.iconst 0, 1) := by decide +kernel
theorem dX11_init_164 : decode cX11_init 164 = .ok (.istore_n 1, 1) := by decide +kernel
theorem dX11_init_165 : decode cX11_init 165 = .ok (.iload_n 1, 1) := by decide +kernel
theorem dX11_init_166 : decode cX11_init 166 = .ok (.bipush 6, 2) := by decide +kernel
theorem dX11_init_168 : decode cX11_init 168 = .ok (.if_icmp .ge 16, 3) := by decide +kernel
theorem dX11_init_171 : decode cX11_init 171 = .ok (.aload_n 0, 1) := by decide +kernel
theorem dX11_init_172 : decode cX11_init 172 = .ok (.getfield 13, 3) := by decide +kernel
theorem dX11_init_175 : decode cX11_init 175 = .ok (.iload_n 1, 1) := by decide +kernel
theorem dX11_init_176 : decode cX11_init 176 = .ok (.iconst (-1), 1) := by decide +kernel
theorem dX11_init_177 : decode cX11_init 177 = .ok (.iastore, 1) := by decide +kernel
theorem dX11_init_178 : decode cX11_init 178 = .ok (.iinc 1 1, 3) := by decide +kernel
theorem dX11_init_181 : decode cX11_init 181 = .ok (.goto (-16), 3) := by decide +kernel
theorem dX11_init_184 : decode cX11_init 184 = .ok (.iconst 0, 1) := by decide +kernel
theorem dX11_init_185 : decode cX11_init 185 = .ok (.istore_n 1, 1) := by decide +kernel
theorem dX11_init_186 : decode cX11_init 186 = .ok (.iload_n 1, 1) := by decide +kernel
theorem dX11_init_187 : decode cX11_init 187 = .ok (.iconst 4, 1) := by decide +kernel
theorem dX11_init_188 : decode cX11_init 188 = .ok (.if_icmp .ge 16, 3) := by decide +kernel
theorem dX11_init_191 : decode cX11_init 191 = .ok (.aload_n 0, 1) := by decide +kernel
theorem dX11_init_192 : decode cX11_init 192 = .ok (.getfield 22, 3) := by decide +kernel
theorem dX11_init_195 : decode cX11_init 195 = .ok (.iload_n 1, 1) := by decide +kernel
theorem dX11_init_196 : decode cX11_init 196 = .ok (.iconst (-1), 1) := by decide +kernel
theorem dX11_init_197 : decode cX11_init 197 = .ok (.iastore, 1) := by decide +kernel
theorem dX11_init_198 : decode cX11_init 198 = .ok (.iinc 1 1, 3) := by decide +kernel
theorem dX11_init_201 : decode cX11_init 201 = .ok (.goto (-15), 3) := by decide +kernel
theorem dX11_init_204 : decode cX11_init 204 = .ok (.iconst 0, 1) := by decide +kernel
theorem dX11_init_205 : decode cX11_init 205 = .ok (.istore_n 1, 1) := by decide +kernel
theorem dX11_init_206 : decode cX11_init 206 = .ok (.iload_n 1, 1) := by decide +kernel
theorem dX11_init_207 : decode cX11_init 207 = .ok (.iconst 3, 1) := by decide +kernel
theorem dX11_init_208 : decode cX11_init 208 = .ok (.if_icmp .ge 16, 3) := by decide +kernel
theorem dX11_init_211 : decode cX11_init 211 = .ok (.aload_n 0, 1) := by decide +kernel
theorem dX11_init_212 : decode cX11_init 212 = .ok (.getfield 59, 3) := by decide +kernel
theorem dX11_init_215 : decode cX11_init 215 = .ok (.iload_n 1, 1) := by decide +kernel
theorem dX11_init_216 : decode cX11_init 216 = .ok (.iconst (-1), 1) := by decide +kernel
theorem dX11_init_217 : decode cX11_init 217 = .ok (.iastore, 1) := by decide +kernel
theorem dX11_init_218 : decode cX11_init 218 = .ok (.iinc 1 1, 3) := by decide +kernel
theorem dX11_init_221 : decode cX11_init 221 = .ok (.goto (-15), 3) := by decide +kernel
theorem dX11_init_224 : decode cX11_init 224 = .ok (.return_, 1) := by decide +kernel
theorem dX11_in_0 : decode cX11_in 0 = .ok (.iload_n 0, 1) := by decide +kernel
theorem dX11_in_1 : decode cX11_in 1 = .ok (.iload_n 1, 1) := by decide +kernel
theorem dX11_in_2 : decode cX11_in 2 = .ok (.if_icmp .lt 12, 3) := by decide +kernel
theorem dX11_in_5 : decode cX11_in 5 = .ok (.iload_n 0, 1) := by decide +kernel
theorem dX11_in_6 : decode cX11_in 6 = .ok (.iload_n 2, 1) := by decide +kernel
theorem dX11_in_7 : decode cX11_in 7 = .ok (.if_icmp .gt 7, 3) := by decide +kernel
theorem dX11_in_10 : decode cX11_in 10 = .ok (.iconst 1, 1) := by decide +kernel
theorem dX11_in_11 : decode cX11_in 11 = .ok (.goto 4, 3) := by decide +kernel
theorem dX11_in_14 : decode cX11_in 14 = .ok (.iconst 0, 1) := by decide +kernel
theorem dX11_in_15 : decode cX11_in 15 = .ok (.ireturn, 1) := by decide +kernel
theorem dX11_has_0 : decode cX11_has 0 = .ok (.iload_n 0, 1) := by decide +kernel
theorem dX11_has_1 : decode cX11_has 1 = .ok (.iload_n 1, 1) := by decide +kernel
theorem dX11_has_2 : decode cX11_has 2 = .ok (.ishr, 1) := by decide +kernel
theorem dX11_has_3 : decode cX11_has 3 = .ok (.iconst 1, 1) := by decide +kernel
theorem dX11_has_4 : decode cX11_has 4 = .ok (.iand, 1) := by decide +kernel
theorem dX11_has_5 : decode cX11_has 5 = .ok (.iconst 1, 1) := by decide +kernel
theorem dX11_has_6 : decode cX11_has 6 = .ok (.if_icmp .ne 7, 3) := by decide +kernel
theorem dX11_has_9 : decode cX11_has 9 = .ok (.iconst 1, 1) := by decide +kernel
theorem dX11_has_10 : decode cX11_has 10 = .ok (.goto 4, 3) := by decide +kernel
theorem dX11_has_13 : decode cX11_has 13 = .ok (.iconst 0, 1) := by decide +kernel
theorem dX11_has_14 : decode cX11_has 14 = .ok (.ireturn, 1) := by decide +kernel
theorem dX11_found_0 : decode cX11_found 0 = .ok (.aload_n 0, 1) := by decide +kernel
theorem dX11_found_1 : decode cX11_found 1 = .ok (.iload_n 1, 1) := by decide +kernel
theorem dX11_found_2 : decode cX11_found 2 = .ok (.putfield 68, 3) := by decide +kernel
theorem dX11_found_5 : decode cX11_found 5 = .ok (.aload_n 0, 1) := by decide +kernel
theorem dX11_found_6 : decode cX11_found 6 = .ok (.getfield 7, 3) := by decide +kernel
theorem dX11_found_9 : decode cX11_found 9 = .ok (.iload_n 1, 1) := by decide +kernel
theorem dX11_found_10 : decode cX11_found 10 = .ok (.dup2, 1) := by decide +kernel
theorem dX11_found_11 : decode cX11_found 11 = .ok (.iaload, 1) := by decide +kernel
theorem dX11_found_12 : decode cX11_found 12 = .ok (.iconst 1, 1) := by decide +kernel
theorem dX11_found_13 : decode cX11_found 13 = .ok (.iadd, 1) := by decide +kernel
theorem dX11_found_14 : decode cX11_found 14 = .ok (.iastore, 1) := by decide +kernel
theorem dX11_found_15 : decode cX11_found 15 = .ok (.bipush (-3), 2) := by decide +kernel
theorem dX11_found_17 : decode cX11_found 17 = .ok (.ireturn, 1) := by decide +kernel
theorem dX11_tells_0 : decode cX11_tells 0 = .ok (.aload_n 0, 1) := by decide +kernel
theorem dX11_tells_1 : decode cX11_tells 1 = .ok (.iload_n 1, 1) := by decide +kernel
theorem dX11_tells_2 : decode cX11_tells 2 = .ok (.putfield 72, 3) := by decide +kernel
theorem dX11_tells_5 : decode cX11_tells 5 = .ok (.iload_n 2, 1) := by decide +kernel
theorem dX11_tells_6 : decode cX11_tells 6 = .ok (.ireturn, 1) := by decide +kernel
theorem dX11_asked_0 : decode cX11_asked 0 = .ok (.aload_n 0, 1) := by decide +kernel
theorem dX11_asked_1 : decode cX11_asked 1 = .ok (.getfield 72, 3) := by decide +kernel
theorem dX11_asked_4 : decode cX11_asked 4 = .ok (.ireturn, 1) := by decide +kernel
theorem dX11_finding_0 : decode cX11_finding 0 = .ok (.aload_n 0, 1) := by decide +kernel
theorem dX11_finding_1 : decode cX11_finding 1 = .ok (.getfield 68, 3) := by decide +kernel
theorem dX11_finding_4 : decode cX11_finding 4 = .ok (.ireturn, 1) := by decide +kernel
theorem dX11_findings_0 : decode cX11_findings 0 = .ok (.iload_n 1, 1) := by decide +kernel
theorem dX11_findings_1 : decode cX11_findings 1 = .ok (.iconst 1, 1) := by decide +kernel
theorem dX11_findings_2 : decode cX11_findings 2 = .ok (.iconst 5, 1) := by decide +kernel
theorem dX11_findings_3 : decode cX11_findings 3 = .ok (.invokestatic 75, 3) := by decide +kernel
theorem dX11_findings_6 : decode cX11_findings 6 = .ok (.ifCond .eq 12, 3) := by decide +kernel
theorem dX11_findings_9 : decode cX11_findings 9 = .ok (.aload_n 0, 1) := by decide +kernel
theorem dX11_findings_10 : decode cX11_findings 10 = .ok (.getfield 7, 3) := by decide +kernel
theorem dX11_findings_13 : decode cX11_findings 13 = .ok (.iload_n 1, 1) := by decide +kernel
theorem dX11_findings_14 : decode cX11_findings 14 = .ok (.iaload, 1) := by decide +kernel
theorem dX11_findings_15 : decode cX11_findings 15 = .ok (.goto 4, 3) := by decide +kernel
theorem dX11_findings_18 : decode cX11_findings 18 = .ok (.iconst (-1), 1) := by decide +kernel
theorem dX11_findings_19 : decode cX11_findings 19 = .ok (.ireturn, 1) := by decide +kernel
theorem dX11_isRow_0 : decode cX11_isRow 0 = .ok (.iload_n 0, 1) := by decide +kernel
theorem dX11_isRow_1 : decode cX11_isRow 1 = .ok (.iconst 0, 1) := by decide +kernel
theorem dX11_isRow_2 : decode cX11_isRow 2 = .ok (.iconst 5, 1) := by decide +kernel
theorem dX11_isRow_3 : decode cX11_isRow 3 = .ok (.invokestatic 75, 3) := by decide +kernel
theorem dX11_isRow_6 : decode cX11_isRow 6 = .ok (.ireturn, 1) := by decide +kernel
theorem dX11_rowAt_0 : decode cX11_rowAt 0 = .ok (.aload_n 0, 1) := by decide +kernel
theorem dX11_rowAt_1 : decode cX11_rowAt 1 = .ok (.getfield 16, 3) := by decide +kernel
theorem dX11_rowAt_4 : decode cX11_rowAt 4 = .ok (.bipush 40, 2) := by decide +kernel
theorem dX11_rowAt_6 : decode cX11_rowAt 6 = .ok (.iload_n 1, 1) := by decide +kernel
theorem dX11_rowAt_7 : decode cX11_rowAt 7 = .ok (.imul, 1) := by decide +kernel
theorem dX11_rowAt_8 : decode cX11_rowAt 8 = .ok (.iload_n 2, 1) := by decide +kernel
theorem dX11_rowAt_9 : decode cX11_rowAt 9 = .ok (.iadd, 1) := by decide +kernel
theorem dX11_rowAt_10 : decode cX11_rowAt 10 = .ok (.iaload, 1) := by decide +kernel
theorem dX11_rowAt_11 : decode cX11_rowAt 11 = .ok (.ireturn, 1) := by decide +kernel
theorem dX11_row_0 : decode cX11_row 0 = .ok (.iload_n 1, 1) := by decide +kernel
theorem dX11_row_1 : decode cX11_row 1 = .ok (.invokestatic 79, 3) := by decide +kernel
theorem dX11_row_4 : decode cX11_row 4 = .ok (.ifCond .eq 9, 3) := by decide +kernel
theorem dX11_row_7 : decode cX11_row 7 = .ok (.iload_n 2, 1) := by decide +kernel
theorem dX11_row_8 : decode cX11_row 8 = .ok (.bipush 40, 2) := by decide +kernel
theorem dX11_row_10 : decode cX11_row 10 = .ok (.if_icmp .le 5, 3) := by decide +kernel
theorem dX11_row_13 : decode cX11_row 13 = .ok (.iconst (-1), 1) := by decide +kernel
theorem dX11_row_14 : decode cX11_row 14 = .ok (.ireturn, 1) := by decide +kernel
theorem dX11_row_15 : decode cX11_row 15 = .ok (.iload_n 2, 1) := by decide +kernel
theorem dX11_row_16 : decode cX11_row 16 = .ok (.ifCond .ge 9, 3) := by decide +kernel
theorem dX11_row_19 : decode cX11_row 19 = .ok (.aload_n 0, 1) := by decide +kernel
theorem dX11_row_20 : decode cX11_row 20 = .ok (.iconst 5, 1) := by decide +kernel
theorem dX11_row_21 : decode cX11_row 21 = .ok (.invokevirtual 83, 3) := by decide +kernel
theorem dX11_row_24 : decode cX11_row 24 = .ok (.ireturn, 1) := by decide +kernel
theorem dX11_row_25 : decode cX11_row 25 = .ok (.aload_n 0, 1) := by decide +kernel
theorem dX11_row_26 : decode cX11_row 26 = .ok (.getfield 13, 3) := by decide +kernel
theorem dX11_row_29 : decode cX11_row 29 = .ok (.iload_n 1, 1) := by decide +kernel
theorem dX11_row_30 : decode cX11_row 30 = .ok (.iload_n 2, 1) := by decide +kernel
theorem dX11_row_31 : decode cX11_row 31 = .ok (.iastore, 1) := by decide +kernel
theorem dX11_row_32 : decode cX11_row 32 = .ok (.iconst 0, 1) := by decide +kernel
theorem dX11_row_33 : decode cX11_row 33 = .ok (.istore_n 3, 1) := by decide +kernel
theorem dX11_row_34 : decode cX11_row 34 = .ok (.iload_n 3, 1) := by decide +kernel
theorem dX11_row_35 : decode cX11_row 35 = .ok (.bipush 40, 2) := by decide +kernel
theorem dX11_row_37 : decode cX11_row 37 = .ok (.if_icmp .ge 21, 3) := by decide +kernel
theorem dX11_row_40 : decode cX11_row 40 = .ok (.aload_n 0, 1) := by decide +kernel
theorem dX11_row_41 : decode cX11_row 41 = .ok (.getfield 16, 3) := by decide +kernel
theorem dX11_row_44 : decode cX11_row 44 = .ok (.bipush 40, 2) := by decide +kernel
theorem dX11_row_46 : decode cX11_row 46 = .ok (.iload_n 1, 1) := by decide +kernel
theorem dX11_row_47 : decode cX11_row 47 = .ok (.imul, 1) := by decide +kernel
theorem dX11_row_48 : decode cX11_row 48 = .ok (.iload_n 3, 1) := by decide +kernel
theorem dX11_row_49 : decode cX11_row 49 = .ok (.iadd, 1) := by decide +kernel
theorem dX11_row_50 : decode cX11_row 50 = .ok (.iconst 0, 1) := by decide +kernel
theorem dX11_row_51 : decode cX11_row 51 = .ok (.iastore, 1) := by decide +kernel
theorem dX11_row_52 : decode cX11_row 52 = .ok (.iinc 3 1, 3) := by decide +kernel
theorem dX11_row_55 : decode cX11_row 55 = .ok (.goto (-21), 3) := by decide +kernel
theorem dX11_row_58 : decode cX11_row 58 = .ok (.iload_n 2, 1) := by decide +kernel
theorem dX11_row_59 : decode cX11_row 59 = .ok (.ireturn, 1) := by decide +kernel
theorem dX11_lay_0 : decode cX11_lay 0 = .ok (.iload_n 1, 1) := by decide +kernel
theorem dX11_lay_1 : decode cX11_lay 1 = .ok (.invokestatic 79, 3) := by decide +kernel
theorem dX11_lay_4 : decode cX11_lay 4 = .ok (.ifCond .ne 5, 3) := by decide +kernel
theorem dX11_lay_7 : decode cX11_lay 7 = .ok (.iconst (-1), 1) := by decide +kernel
theorem dX11_lay_8 : decode cX11_lay 8 = .ok (.ireturn, 1) := by decide +kernel
theorem dX11_lay_9 : decode cX11_lay 9 = .ok (.aload_n 0, 1) := by decide +kernel
theorem dX11_lay_10 : decode cX11_lay 10 = .ok (.getfield 13, 3) := by decide +kernel
theorem dX11_lay_13 : decode cX11_lay 13 = .ok (.iload_n 1, 1) := by decide +kernel
theorem dX11_lay_14 : decode cX11_lay 14 = .ok (.iaload, 1) := by decide +kernel
theorem dX11_lay_15 : decode cX11_lay 15 = .ok (.ifCond .ge 9, 3) := by decide +kernel
theorem dX11_lay_18 : decode cX11_lay 18 = .ok (.aload_n 0, 1) := by decide +kernel
theorem dX11_lay_19 : decode cX11_lay 19 = .ok (.iconst 1, 1) := by decide +kernel
theorem dX11_lay_20 : decode cX11_lay 20 = .ok (.invokevirtual 83, 3) := by decide +kernel
theorem dX11_lay_23 : decode cX11_lay 23 = .ok (.ireturn, 1) := by decide +kernel
theorem dX11_lay_24 : decode cX11_lay 24 = .ok (.iload_n 2, 1) := by decide +kernel
theorem dX11_lay_25 : decode cX11_lay 25 = .ok (.iconst 0, 1) := by decide +kernel
theorem dX11_lay_26 : decode cX11_lay 26 = .ok (.aload_n 0, 1) := by decide +kernel
theorem dX11_lay_27 : decode cX11_lay 27 = .ok (.getfield 13, 3) := by decide +kernel
theorem dX11_lay_30 : decode cX11_lay 30 = .ok (.iload_n 1, 1) := by decide +kernel
theorem dX11_lay_31 : decode cX11_lay 31 = .ok (.iaload, 1) := by decide +kernel
theorem dX11_lay_32 : decode cX11_lay 32 = .ok (.iconst 1, 1) := by decide +kernel
theorem dX11_lay_33 : decode cX11_lay 33 = .ok (.isub, 1) := by decide +kernel
theorem dX11_lay_34 : decode cX11_lay 34 = .ok (.invokestatic 75, 3) := by decide +kernel
theorem dX11_lay_37 : decode cX11_lay 37 = .ok (.ifCond .ne 9, 3) := by decide +kernel
theorem dX11_lay_40 : decode cX11_lay 40 = .ok (.aload_n 0, 1) := by decide +kernel
theorem dX11_lay_41 : decode cX11_lay 41 = .ok (.iconst 2, 1) := by decide +kernel
theorem dX11_lay_42 : decode cX11_lay 42 = .ok (.invokevirtual 83, 3) := by decide +kernel
theorem dX11_lay_45 : decode cX11_lay 45 = .ok (.ireturn, 1) := by decide +kernel
theorem dX11_lay_46 : decode cX11_lay 46 = .ok (.aload_n 0, 1) := by decide +kernel
theorem dX11_lay_47 : decode cX11_lay 47 = .ok (.iload_n 1, 1) := by decide +kernel
theorem dX11_lay_48 : decode cX11_lay 48 = .ok (.iload_n 2, 1) := by decide +kernel
theorem dX11_lay_49 : decode cX11_lay 49 = .ok (.invokevirtual 87, 3) := by decide +kernel
theorem dX11_lay_52 : decode cX11_lay 52 = .ok (.istore 4, 2) := by decide +kernel
theorem dX11_lay_54 : decode cX11_lay 54 = .ok (.aload_n 0, 1) := by decide +kernel
theorem dX11_lay_55 : decode cX11_lay 55 = .ok (.getfield 16, 3) := by decide +kernel
theorem dX11_lay_58 : decode cX11_lay 58 = .ok (.bipush 40, 2) := by decide +kernel
theorem dX11_lay_60 : decode cX11_lay 60 = .ok (.iload_n 1, 1) := by decide +kernel
theorem dX11_lay_61 : decode cX11_lay 61 = .ok (.imul, 1) := by decide +kernel
theorem dX11_lay_62 : decode cX11_lay 62 = .ok (.iload_n 2, 1) := by decide +kernel
theorem dX11_lay_63 : decode cX11_lay 63 = .ok (.iadd, 1) := by decide +kernel
theorem dX11_lay_64 : decode cX11_lay 64 = .ok (.iload_n 3, 1) := by decide +kernel
theorem dX11_lay_65 : decode cX11_lay 65 = .ok (.iastore, 1) := by decide +kernel
theorem dX11_lay_66 : decode cX11_lay 66 = .ok (.aload_n 0, 1) := by decide +kernel
theorem dX11_lay_67 : decode cX11_lay 67 = .ok (.iload 4, 2) := by decide +kernel
theorem dX11_lay_69 : decode cX11_lay 69 = .ok (.iconst 1, 1) := by decide +kernel
theorem dX11_lay_70 : decode cX11_lay 70 = .ok (.invokevirtual 91, 3) := by decide +kernel
theorem dX11_lay_73 : decode cX11_lay 73 = .ok (.ireturn, 1) := by decide +kernel
theorem dX11_at_0 : decode cX11_at 0 = .ok (.iload_n 1, 1) := by decide +kernel
theorem dX11_at_1 : decode cX11_at 1 = .ok (.invokestatic 79, 3) := by decide +kernel
theorem dX11_at_4 : decode cX11_at 4 = .ok (.ifCond .ne 5, 3) := by decide +kernel
theorem dX11_at_7 : decode cX11_at 7 = .ok (.iconst (-1), 1) := by decide +kernel
theorem dX11_at_8 : decode cX11_at 8 = .ok (.ireturn, 1) := by decide +kernel
theorem dX11_at_9 : decode cX11_at 9 = .ok (.aload_n 0, 1) := by decide +kernel
theorem dX11_at_10 : decode cX11_at 10 = .ok (.getfield 13, 3) := by decide +kernel
theorem dX11_at_13 : decode cX11_at 13 = .ok (.iload_n 1, 1) := by decide +kernel
theorem dX11_at_14 : decode cX11_at 14 = .ok (.iaload, 1) := by decide +kernel
theorem dX11_at_15 : decode cX11_at 15 = .ok (.ifCond .ge 9, 3) := by decide +kernel
theorem dX11_at_18 : decode cX11_at 18 = .ok (.aload_n 0, 1) := by decide +kernel
theorem dX11_at_19 : decode cX11_at 19 = .ok (.iconst 1, 1) := by decide +kernel
theorem dX11_at_20 : decode cX11_at 20 = .ok (.invokevirtual 83, 3) := by decide +kernel
theorem dX11_at_23 : decode cX11_at 23 = .ok (.ireturn, 1) := by decide +kernel
theorem dX11_at_24 : decode cX11_at 24 = .ok (.iload_n 2, 1) := by decide +kernel
theorem dX11_at_25 : decode cX11_at 25 = .ok (.iconst 0, 1) := by decide +kernel
theorem dX11_at_26 : decode cX11_at 26 = .ok (.aload_n 0, 1) := by decide +kernel
theorem dX11_at_27 : decode cX11_at 27 = .ok (.getfield 13, 3) := by decide +kernel
theorem dX11_at_30 : decode cX11_at 30 = .ok (.iload_n 1, 1) := by decide +kernel
theorem dX11_at_31 : decode cX11_at 31 = .ok (.iaload, 1) := by decide +kernel
theorem dX11_at_32 : decode cX11_at 32 = .ok (.iconst 1, 1) := by decide +kernel
theorem dX11_at_33 : decode cX11_at 33 = .ok (.isub, 1) := by decide +kernel
theorem dX11_at_34 : decode cX11_at 34 = .ok (.invokestatic 75, 3) := by decide +kernel
theorem dX11_at_37 : decode cX11_at 37 = .ok (.ifCond .eq 17, 3) := by decide +kernel
theorem dX11_at_40 : decode cX11_at 40 = .ok (.aload_n 0, 1) := by decide +kernel
theorem dX11_at_41 : decode cX11_at 41 = .ok (.aload_n 0, 1) := by decide +kernel
theorem dX11_at_42 : decode cX11_at 42 = .ok (.iload_n 1, 1) := by decide +kernel
theorem dX11_at_43 : decode cX11_at 43 = .ok (.iload_n 2, 1) := by decide +kernel
theorem dX11_at_44 : decode cX11_at 44 = .ok (.invokevirtual 87, 3) := by decide +kernel
theorem dX11_at_47 : decode cX11_at 47 = .ok (.iconst 1, 1) := by decide +kernel
theorem dX11_at_48 : decode cX11_at 48 = .ok (.invokevirtual 91, 3) := by decide +kernel
theorem dX11_at_51 : decode cX11_at 51 = .ok (.goto 8, 3) := by decide +kernel
theorem dX11_at_54 : decode cX11_at 54 = .ok (.aload_n 0, 1) := by decide +kernel
theorem dX11_at_55 : decode cX11_at 55 = .ok (.iconst 2, 1) := by decide +kernel
theorem dX11_at_56 : decode cX11_at 56 = .ok (.invokevirtual 83, 3) := by decide +kernel
theorem dX11_at_59 : decode cX11_at 59 = .ok (.ireturn, 1) := by decide +kernel
theorem dX11_tear_0 : decode cX11_tear 0 = .ok (.iload_n 1, 1) := by decide +kernel
theorem dX11_tear_1 : decode cX11_tear 1 = .ok (.invokestatic 79, 3) := by decide +kernel
theorem dX11_tear_4 : decode cX11_tear 4 = .ok (.ifCond .ne 5, 3) := by decide +kernel
theorem dX11_tear_7 : decode cX11_tear 7 = .ok (.iconst (-1), 1) := by decide +kernel
theorem dX11_tear_8 : decode cX11_tear 8 = .ok (.ireturn, 1) := by decide +kernel
theorem dX11_tear_9 : decode cX11_tear 9 = .ok (.aload_n 0, 1) := by decide +kernel
theorem dX11_tear_10 : decode cX11_tear 10 = .ok (.getfield 13, 3) := by decide +kernel
theorem dX11_tear_13 : decode cX11_tear 13 = .ok (.iload_n 1, 1) := by decide +kernel
theorem dX11_tear_14 : decode cX11_tear 14 = .ok (.iaload, 1) := by decide +kernel
theorem dX11_tear_15 : decode cX11_tear 15 = .ok (.ifCond .ge 9, 3) := by decide +kernel
theorem dX11_tear_18 : decode cX11_tear 18 = .ok (.aload_n 0, 1) := by decide +kernel
theorem dX11_tear_19 : decode cX11_tear 19 = .ok (.iconst 1, 1) := by decide +kernel
theorem dX11_tear_20 : decode cX11_tear 20 = .ok (.invokevirtual 83, 3) := by decide +kernel
theorem dX11_tear_23 : decode cX11_tear 23 = .ok (.ireturn, 1) := by decide +kernel
theorem dX11_tear_24 : decode cX11_tear 24 = .ok (.aload_n 0, 1) := by decide +kernel
theorem dX11_tear_25 : decode cX11_tear 25 = .ok (.getfield 13, 3) := by decide +kernel
theorem dX11_tear_28 : decode cX11_tear 28 = .ok (.iload_n 1, 1) := by decide +kernel
theorem dX11_tear_29 : decode cX11_tear 29 = .ok (.iconst (-1), 1) := by decide +kernel
theorem dX11_tear_30 : decode cX11_tear 30 = .ok (.iastore, 1) := by decide +kernel
theorem dX11_tear_31 : decode cX11_tear 31 = .ok (.iconst 1, 1) := by decide +kernel
theorem dX11_tear_32 : decode cX11_tear 32 = .ok (.ireturn, 1) := by decide +kernel
theorem dX11_copy_0 : decode cX11_copy 0 = .ok (.iload_n 1, 1) := by decide +kernel
theorem dX11_copy_1 : decode cX11_copy 1 = .ok (.invokestatic 79, 3) := by decide +kernel
theorem dX11_copy_4 : decode cX11_copy 4 = .ok (.ifCond .eq 10, 3) := by decide +kernel
theorem dX11_copy_7 : decode cX11_copy 7 = .ok (.iload_n 3, 1) := by decide +kernel
theorem dX11_copy_8 : decode cX11_copy 8 = .ok (.invokestatic 79, 3) := by decide +kernel
theorem dX11_copy_11 : decode cX11_copy 11 = .ok (.ifCond .ne 5, 3) := by decide +kernel
theorem dX11_copy_14 : decode cX11_copy 14 = .ok (.iconst (-1), 1) := by decide +kernel
theorem dX11_copy_15 : decode cX11_copy 15 = .ok (.ireturn, 1) := by decide +kernel
theorem dX11_copy_16 : decode cX11_copy 16 = .ok (.iload 5, 2) := by decide +kernel
theorem dX11_copy_18 : decode cX11_copy 18 = .ok (.ifCond .ge 9, 3) := by decide +kernel
theorem dX11_copy_21 : decode cX11_copy 21 = .ok (.aload_n 0, 1) := by decide +kernel
theorem dX11_copy_22 : decode cX11_copy 22 = .ok (.iconst 5, 1) := by decide +kernel
theorem dX11_copy_23 : decode cX11_copy 23 = .ok (.invokevirtual 83, 3) := by decide +kernel
theorem dX11_copy_26 : decode cX11_copy 26 = .ok (.ireturn, 1) := by decide +kernel
theorem dX11_copy_27 : decode cX11_copy 27 = .ok (.aload_n 0, 1) := by decide +kernel
theorem dX11_copy_28 : decode cX11_copy 28 = .ok (.getfield 13, 3) := by decide +kernel
theorem dX11_copy_31 : decode cX11_copy 31 = .ok (.iload_n 1, 1) := by decide +kernel
theorem dX11_copy_32 : decode cX11_copy 32 = .ok (.iaload, 1) := by decide +kernel
theorem dX11_copy_33 : decode cX11_copy 33 = .ok (.ifCond .lt 12, 3) := by decide +kernel
theorem dX11_copy_36 : decode cX11_copy 36 = .ok (.aload_n 0, 1) := by decide +kernel
theorem dX11_copy_37 : decode cX11_copy 37 = .ok (.getfield 13, 3) := by decide +kernel
theorem dX11_copy_40 : decode cX11_copy 40 = .ok (.iload_n 3, 1) := by decide +kernel
theorem dX11_copy_41 : decode cX11_copy 41 = .ok (.iaload, 1) := by decide +kernel
theorem dX11_copy_42 : decode cX11_copy 42 = .ok (.ifCond .ge 9, 3) := by decide +kernel
theorem dX11_copy_45 : decode cX11_copy 45 = .ok (.aload_n 0, 1) := by decide +kernel
theorem dX11_copy_46 : decode cX11_copy 46 = .ok (.iconst 1, 1) := by decide +kernel
theorem dX11_copy_47 : decode cX11_copy 47 = .ok (.invokevirtual 83, 3) := by decide +kernel
theorem dX11_copy_50 : decode cX11_copy 50 = .ok (.ireturn, 1) := by decide +kernel
theorem dX11_copy_51 : decode cX11_copy 51 = .ok (.iload_n 2, 1) := by decide +kernel
theorem dX11_copy_52 : decode cX11_copy 52 = .ok (.ifCond .lt 43, 3) := by decide +kernel
theorem dX11_copy_55 : decode cX11_copy 55 = .ok (.iload 4, 2) := by decide +kernel
theorem dX11_copy_57 : decode cX11_copy 57 = .ok (.ifCond .lt 38, 3) := by decide +kernel
theorem dX11_copy_60 : decode cX11_copy 60 = .ok (.iload_n 2, 1) := by decide +kernel
theorem dX11_copy_61 : decode cX11_copy 61 = .ok (.i2l, 1) := by decide +kernel
theorem dX11_copy_62 : decode cX11_copy 62 = .ok (.iload 5, 2) := by decide +kernel
theorem dX11_copy_64 : decode cX11_copy 64 = .ok (.i2l, 1) := by decide +kernel
theorem dX11_copy_65 : decode cX11_copy 65 = .ok (.ladd, 1) := by decide +kernel
theorem dX11_copy_66 : decode cX11_copy 66 = .ok (.aload_n 0, 1) := by decide +kernel
theorem dX11_copy_67 : decode cX11_copy 67 = .ok (.getfield 13, 3) := by decide +kernel
theorem dX11_copy_70 : decode cX11_copy 70 = .ok (.iload_n 1, 1) := by decide +kernel
theorem dX11_copy_71 : decode cX11_copy 71 = .ok (.iaload, 1) := by decide +kernel
theorem dX11_copy_72 : decode cX11_copy 72 = .ok (.i2l, 1) := by decide +kernel
theorem dX11_copy_73 : decode cX11_copy 73 = .ok (.lcmp, 1) := by decide +kernel
theorem dX11_copy_74 : decode cX11_copy 74 = .ok (.ifCond .gt 21, 3) := by decide +kernel
theorem dX11_copy_77 : decode cX11_copy 77 = .ok (.iload 4, 2) := by decide +kernel
theorem dX11_copy_79 : decode cX11_copy 79 = .ok (.i2l, 1) := by decide +kernel
theorem dX11_copy_80 : decode cX11_copy 80 = .ok (.iload 5, 2) := by decide +kernel
theorem dX11_copy_82 : decode cX11_copy 82 = .ok (.i2l, 1) := by decide +kernel
theorem dX11_copy_83 : decode cX11_copy 83 = .ok (.ladd, 1) := by decide +kernel
theorem dX11_copy_84 : decode cX11_copy 84 = .ok (.aload_n 0, 1) := by decide +kernel
theorem dX11_copy_85 : decode cX11_copy 85 = .ok (.getfield 13, 3) := by decide +kernel
theorem dX11_copy_88 : decode cX11_copy 88 = .ok (.iload_n 3, 1) := by decide +kernel
theorem dX11_copy_89 : decode cX11_copy 89 = .ok (.iaload, 1) := by decide +kernel
theorem dX11_copy_90 : decode cX11_copy 90 = .ok (.i2l, 1) := by decide +kernel
theorem dX11_copy_91 : decode cX11_copy 91 = .ok (.lcmp, 1) := by decide +kernel
theorem dX11_copy_92 : decode cX11_copy 92 = .ok (.ifCond .le 9, 3) := by decide +kernel
theorem dX11_copy_95 : decode cX11_copy 95 = .ok (.aload_n 0, 1) := by decide +kernel
theorem dX11_copy_96 : decode cX11_copy 96 = .ok (.iconst 2, 1) := by decide +kernel
theorem dX11_copy_97 : decode cX11_copy 97 = .ok (.invokevirtual 83, 3) := by decide +kernel
theorem dX11_copy_100 : decode cX11_copy 100 = .ok (.ireturn, 1) := by decide +kernel
theorem dX11_copy_101 : decode cX11_copy 101 = .ok (.iconst 0, 1) := by decide +kernel
theorem dX11_copy_102 : decode cX11_copy 102 = .ok (.istore 6, 2) := by decide +kernel
theorem dX11_copy_104 : decode cX11_copy 104 = .ok (.iload 6, 2) := by decide +kernel
theorem dX11_copy_106 : decode cX11_copy 106 = .ok (.iload 5, 2) := by decide +kernel
theorem dX11_copy_108 : decode cX11_copy 108 = .ok (.if_icmp .ge 25, 3) := by decide +kernel
theorem dX11_copy_111 : decode cX11_copy 111 = .ok (.aload_n 0, 1) := by decide +kernel
theorem dX11_copy_112 : decode cX11_copy 112 = .ok (.getfield 19, 3) := by decide +kernel
theorem dX11_copy_115 : decode cX11_copy 115 = .ok (.iload 6, 2) := by decide +kernel
theorem dX11_copy_117 : decode cX11_copy 117 = .ok (.aload_n 0, 1) := by decide +kernel
theorem dX11_copy_118 : decode cX11_copy 118 = .ok (.iload_n 1, 1) := by decide +kernel
theorem dX11_copy_119 : decode cX11_copy 119 = .ok (.iload_n 2, 1) := by decide +kernel
theorem dX11_copy_120 : decode cX11_copy 120 = .ok (.iload 6, 2) := by decide +kernel
theorem dX11_copy_122 : decode cX11_copy 122 = .ok (.iadd, 1) := by decide +kernel
theorem dX11_copy_123 : decode cX11_copy 123 = .ok (.invokevirtual 87, 3) := by decide +kernel
theorem dX11_copy_126 : decode cX11_copy 126 = .ok (.iastore, 1) := by decide +kernel
theorem dX11_copy_127 : decode cX11_copy 127 = .ok (.iinc 6 1, 3) := by decide +kernel
theorem dX11_copy_130 : decode cX11_copy 130 = .ok (.goto (-26), 3) := by decide +kernel
theorem dX11_copy_133 : decode cX11_copy 133 = .ok (.iconst 0, 1) := by decide +kernel
theorem dX11_copy_134 : decode cX11_copy 134 = .ok (.istore 6, 2) := by decide +kernel
theorem dX11_copy_136 : decode cX11_copy 136 = .ok (.iload 6, 2) := by decide +kernel
theorem dX11_copy_138 : decode cX11_copy 138 = .ok (.iload 5, 2) := by decide +kernel
theorem dX11_copy_140 : decode cX11_copy 140 = .ok (.if_icmp .ge 31, 3) := by decide +kernel
theorem dX11_copy_143 : decode cX11_copy 143 = .ok (.aload_n 0, 1) := by decide +kernel
theorem dX11_copy_144 : decode cX11_copy 144 = .ok (.getfield 16, 3) := by decide +kernel
theorem dX11_copy_147 : decode cX11_copy 147 = .ok (.bipush 40, 2) := by decide +kernel
theorem dX11_copy_149 : decode cX11_copy 149 = .ok (.iload_n 3, 1) := by decide +kernel
theorem dX11_copy_150 : decode cX11_copy 150 = .ok (.imul, 1) := by decide +kernel
theorem dX11_copy_151 : decode cX11_copy 151 = .ok (.iload 4, 2) := by decide +kernel
theorem dX11_copy_153 : decode cX11_copy 153 = .ok (.iadd, 1) := by decide +kernel
theorem dX11_copy_154 : decode cX11_copy 154 = .ok (.iload 6, 2) := by decide +kernel
theorem dX11_copy_156 : decode cX11_copy 156 = .ok (.iadd, 1) := by decide +kernel
theorem dX11_copy_157 : decode cX11_copy 157 = .ok (.aload_n 0, 1) := by decide +kernel
theorem dX11_copy_158 : decode cX11_copy 158 = .ok (.getfield 19, 3) := by decide +kernel
theorem dX11_copy_161 : decode cX11_copy 161 = .ok (.iload 6, 2) := by decide +kernel
theorem dX11_copy_163 : decode cX11_copy 163 = .ok (.iaload, 1) := by decide +kernel
theorem dX11_copy_164 : decode cX11_copy 164 = .ok (.iastore, 1) := by decide +kernel
theorem dX11_copy_165 : decode cX11_copy 165 = .ok (.iinc 6 1, 3) := by decide +kernel
theorem dX11_copy_168 : decode cX11_copy 168 = .ok (.goto (-32), 3) := by decide +kernel
theorem dX11_copy_171 : decode cX11_copy 171 = .ok (.iconst 1, 1) := by decide +kernel
theorem dX11_copy_172 : decode cX11_copy 172 = .ok (.ireturn, 1) := by decide +kernel
theorem dX11_mean_0 : decode cX11_mean 0 = .ok (.iload_n 1, 1) := by decide +kernel
theorem dX11_mean_1 : decode cX11_mean 1 = .ok (.invokestatic 79, 3) := by decide +kernel
theorem dX11_mean_4 : decode cX11_mean 4 = .ok (.ifCond .ne 5, 3) := by decide +kernel
theorem dX11_mean_7 : decode cX11_mean 7 = .ok (.iconst (-1), 1) := by decide +kernel
theorem dX11_mean_8 : decode cX11_mean 8 = .ok (.ireturn, 1) := by decide +kernel
theorem dX11_mean_9 : decode cX11_mean 9 = .ok (.aload_n 0, 1) := by decide +kernel
theorem dX11_mean_10 : decode cX11_mean 10 = .ok (.getfield 13, 3) := by decide +kernel
theorem dX11_mean_13 : decode cX11_mean 13 = .ok (.iload_n 1, 1) := by decide +kernel
theorem dX11_mean_14 : decode cX11_mean 14 = .ok (.iaload, 1) := by decide +kernel
theorem dX11_mean_15 : decode cX11_mean 15 = .ok (.ifCond .ge 9, 3) := by decide +kernel
theorem dX11_mean_18 : decode cX11_mean 18 = .ok (.aload_n 0, 1) := by decide +kernel
theorem dX11_mean_19 : decode cX11_mean 19 = .ok (.iconst 1, 1) := by decide +kernel
theorem dX11_mean_20 : decode cX11_mean 20 = .ok (.invokevirtual 83, 3) := by decide +kernel
theorem dX11_mean_23 : decode cX11_mean 23 = .ok (.ireturn, 1) := by decide +kernel
theorem dX11_mean_24 : decode cX11_mean 24 = .ok (.aload_n 0, 1) := by decide +kernel
theorem dX11_mean_25 : decode cX11_mean 25 = .ok (.getfield 13, 3) := by decide +kernel
theorem dX11_mean_28 : decode cX11_mean 28 = .ok (.iload_n 1, 1) := by decide +kernel
theorem dX11_mean_29 : decode cX11_mean 29 = .ok (.iaload, 1) := by decide +kernel
theorem dX11_mean_30 : decode cX11_mean 30 = .ok (.ifCond .ne 9, 3) := by decide +kernel
theorem dX11_mean_33 : decode cX11_mean 33 = .ok (.aload_n 0, 1) := by decide +kernel
theorem dX11_mean_34 : decode cX11_mean 34 = .ok (.iconst 4, 1) := by decide +kernel
theorem dX11_mean_35 : decode cX11_mean 35 = .ok (.invokevirtual 83, 3) := by decide +kernel
theorem dX11_mean_38 : decode cX11_mean 38 = .ok (.ireturn, 1) := by decide +kernel
theorem dX11_mean_39 : decode cX11_mean 39 = .ok (.lconst 0, 1) := by decide +kernel
theorem dX11_mean_40 : decode cX11_mean 40 = .ok (.lstore_n 2, 1) := by decide +kernel
theorem dX11_mean_41 : decode cX11_mean 41 = .ok (.iconst 0, 1) := by decide +kernel
theorem dX11_mean_42 : decode cX11_mean 42 = .ok (.istore 4, 2) := by decide +kernel
theorem dX11_mean_44 : decode cX11_mean 44 = .ok (.iload 4, 2) := by decide +kernel
theorem dX11_mean_46 : decode cX11_mean 46 = .ok (.aload_n 0, 1) := by decide +kernel
theorem dX11_mean_47 : decode cX11_mean 47 = .ok (.getfield 13, 3) := by decide +kernel
theorem dX11_mean_50 : decode cX11_mean 50 = .ok (.iload_n 1, 1) := by decide +kernel
theorem dX11_mean_51 : decode cX11_mean 51 = .ok (.iaload, 1) := by decide +kernel
theorem dX11_mean_52 : decode cX11_mean 52 = .ok (.if_icmp .ge 20, 3) := by decide +kernel
theorem dX11_mean_55 : decode cX11_mean 55 = .ok (.lload_n 2, 1) := by decide +kernel
theorem dX11_mean_56 : decode cX11_mean 56 = .ok (.aload_n 0, 1) := by decide +kernel
theorem dX11_mean_57 : decode cX11_mean 57 = .ok (.iload_n 1, 1) := by decide +kernel
theorem dX11_mean_58 : decode cX11_mean 58 = .ok (.iload 4, 2) := by decide +kernel
theorem dX11_mean_60 : decode cX11_mean 60 = .ok (.invokevirtual 87, 3) := by decide +kernel
theorem dX11_mean_63 : decode cX11_mean 63 = .ok (.i2l, 1) := by decide +kernel
theorem dX11_mean_64 : decode cX11_mean 64 = .ok (.ladd, 1) := by decide +kernel
theorem dX11_mean_65 : decode cX11_mean 65 = .ok (.lstore_n 2, 1) := by decide +kernel
theorem dX11_mean_66 : decode cX11_mean 66 = .ok (.iinc 4 1, 3) := by decide +kernel
theorem dX11_mean_69 : decode cX11_mean 69 = .ok (.goto (-25), 3) := by decide +kernel
theorem dX11_mean_72 : decode cX11_mean 72 = .ok (.aload_n 0, 1) := by decide +kernel
theorem dX11_mean_73 : decode cX11_mean 73 = .ok (.lload_n 2, 1) := by decide +kernel
theorem dX11_mean_74 : decode cX11_mean 74 = .ok (.aload_n 0, 1) := by decide +kernel
theorem dX11_mean_75 : decode cX11_mean 75 = .ok (.getfield 13, 3) := by decide +kernel
theorem dX11_mean_78 : decode cX11_mean 78 = .ok (.iload_n 1, 1) := by decide +kernel
theorem dX11_mean_79 : decode cX11_mean 79 = .ok (.iaload, 1) := by decide +kernel
theorem dX11_mean_80 : decode cX11_mean 80 = .ok (.i2l, 1) := by decide +kernel
theorem dX11_mean_81 : decode cX11_mean 81 = .ok (.ldiv, 1) := by decide +kernel
theorem dX11_mean_82 : decode cX11_mean 82 = .ok (.l2i, 1) := by decide +kernel
theorem dX11_mean_83 : decode cX11_mean 83 = .ok (.iconst 1, 1) := by decide +kernel
theorem dX11_mean_84 : decode cX11_mean 84 = .ok (.invokevirtual 91, 3) := by decide +kernel
theorem dX11_mean_87 : decode cX11_mean 87 = .ok (.ireturn, 1) := by decide +kernel
theorem dX11_isText_0 : decode cX11_isText 0 = .ok (.iload_n 0, 1) := by decide +kernel
theorem dX11_isText_1 : decode cX11_isText 1 = .ok (.iconst 0, 1) := by decide +kernel
theorem dX11_isText_2 : decode cX11_isText 2 = .ok (.iconst 3, 1) := by decide +kernel
theorem dX11_isText_3 : decode cX11_isText 3 = .ok (.invokestatic 75, 3) := by decide +kernel
theorem dX11_isText_6 : decode cX11_isText 6 = .ok (.ireturn, 1) := by decide +kernel
theorem dX11_text_0 : decode cX11_text 0 = .ok (.iload_n 1, 1) := by decide +kernel
theorem dX11_text_1 : decode cX11_text 1 = .ok (.invokestatic 94, 3) := by decide +kernel
theorem dX11_text_4 : decode cX11_text 4 = .ok (.ifCond .eq 9, 3) := by decide +kernel
theorem dX11_text_7 : decode cX11_text 7 = .ok (.iload_n 2, 1) := by decide +kernel
theorem dX11_text_8 : decode cX11_text 8 = .ok (.bipush 120, 2) := by decide +kernel
theorem dX11_text_10 : decode cX11_text 10 = .ok (.if_icmp .le 5, 3) := by decide +kernel
theorem dX11_text_13 : decode cX11_text 13 = .ok (.iconst (-1), 1) := by decide +kernel
theorem dX11_text_14 : decode cX11_text 14 = .ok (.ireturn, 1) := by decide +kernel
theorem dX11_text_15 : decode cX11_text 15 = .ok (.iload_n 2, 1) := by decide +kernel
theorem dX11_text_16 : decode cX11_text 16 = .ok (.ifCond .ge 9, 3) := by decide +kernel
theorem dX11_text_19 : decode cX11_text 19 = .ok (.aload_n 0, 1) := by decide +kernel
theorem dX11_text_20 : decode cX11_text 20 = .ok (.iconst 5, 1) := by decide +kernel
theorem dX11_text_21 : decode cX11_text 21 = .ok (.invokevirtual 83, 3) := by decide +kernel
theorem dX11_text_24 : decode cX11_text 24 = .ok (.ireturn, 1) := by decide +kernel
theorem dX11_text_25 : decode cX11_text 25 = .ok (.aload_n 0, 1) := by decide +kernel
theorem dX11_text_26 : decode cX11_text 26 = .ok (.getfield 22, 3) := by decide +kernel
theorem dX11_text_29 : decode cX11_text 29 = .ok (.iload_n 1, 1) := by decide +kernel
theorem dX11_text_30 : decode cX11_text 30 = .ok (.iload_n 2, 1) := by decide +kernel
theorem dX11_text_31 : decode cX11_text 31 = .ok (.iastore, 1) := by decide +kernel
theorem dX11_text_32 : decode cX11_text 32 = .ok (.iconst 0, 1) := by decide +kernel
theorem dX11_text_33 : decode cX11_text 33 = .ok (.istore_n 3, 1) := by decide +kernel
theorem dX11_text_34 : decode cX11_text 34 = .ok (.iload_n 3, 1) := by decide +kernel
theorem dX11_text_35 : decode cX11_text 35 = .ok (.bipush 120, 2) := by decide +kernel
theorem dX11_text_37 : decode cX11_text 37 = .ok (.if_icmp .ge 22, 3) := by decide +kernel
theorem dX11_text_40 : decode cX11_text 40 = .ok (.aload_n 0, 1) := by decide +kernel
theorem dX11_text_41 : decode cX11_text 41 = .ok (.getfield 25, 3) := by decide +kernel
theorem dX11_text_44 : decode cX11_text 44 = .ok (.bipush 120, 2) := by decide +kernel
theorem dX11_text_46 : decode cX11_text 46 = .ok (.iload_n 1, 1) := by decide +kernel
theorem dX11_text_47 : decode cX11_text 47 = .ok (.imul, 1) := by decide +kernel
theorem dX11_text_48 : decode cX11_text 48 = .ok (.iload_n 3, 1) := by decide +kernel
theorem dX11_text_49 : decode cX11_text 49 = .ok (.iadd, 1) := by decide +kernel
theorem dX11_text_50 : decode cX11_text 50 = .ok (.bipush 32, 2) := by decide +kernel
theorem dX11_text_52 : decode cX11_text 52 = .ok (.bastore, 1) := by decide +kernel
theorem dX11_text_53 : decode cX11_text 53 = .ok (.iinc 3 1, 3) := by decide +kernel
theorem dX11_text_56 : decode cX11_text 56 = .ok (.goto (-22), 3) := by decide +kernel
theorem dX11_text_59 : decode cX11_text 59 = .ok (.iload_n 2, 1) := by decide +kernel
theorem dX11_text_60 : decode cX11_text 60 = .ok (.ireturn, 1) := by decide +kernel
theorem dX11_put_0 : decode cX11_put 0 = .ok (.iload_n 1, 1) := by decide +kernel
theorem dX11_put_1 : decode cX11_put 1 = .ok (.invokestatic 94, 3) := by decide +kernel
theorem dX11_put_4 : decode cX11_put 4 = .ok (.ifCond .ne 5, 3) := by decide +kernel
theorem dX11_put_7 : decode cX11_put 7 = .ok (.iconst (-1), 1) := by decide +kernel
theorem dX11_put_8 : decode cX11_put 8 = .ok (.ireturn, 1) := by decide +kernel
theorem dX11_put_9 : decode cX11_put 9 = .ok (.aload_n 0, 1) := by decide +kernel
theorem dX11_put_10 : decode cX11_put 10 = .ok (.getfield 22, 3) := by decide +kernel
theorem dX11_put_13 : decode cX11_put 13 = .ok (.iload_n 1, 1) := by decide +kernel
theorem dX11_put_14 : decode cX11_put 14 = .ok (.iaload, 1) := by decide +kernel
theorem dX11_put_15 : decode cX11_put 15 = .ok (.ifCond .ge 9, 3) := by decide +kernel
theorem dX11_put_18 : decode cX11_put 18 = .ok (.aload_n 0, 1) := by decide +kernel
theorem dX11_put_19 : decode cX11_put 19 = .ok (.iconst 1, 1) := by decide +kernel
theorem dX11_put_20 : decode cX11_put 20 = .ok (.invokevirtual 83, 3) := by decide +kernel
theorem dX11_put_23 : decode cX11_put 23 = .ok (.ireturn, 1) := by decide +kernel
theorem dX11_put_24 : decode cX11_put 24 = .ok (.iload_n 2, 1) := by decide +kernel
