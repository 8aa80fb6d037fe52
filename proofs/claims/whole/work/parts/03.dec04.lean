theorem dX11_layFree_156 : decode cX11_layFree 156 = .ok (.goto (-115), 3) := by decide +kernel
theorem dX11_layFree_159 : decode cX11_layFree 159 = .ok (.iinc 3 1, 3) := by decide +kernel
theorem dX11_layFree_162 : decode cX11_layFree 162 = .ok (.goto (-140), 3) := by decide +kernel
theorem dX11_layFree_165 : decode cX11_layFree 165 = .ok (.iinc 2 1, 3) := by decide +kernel
theorem dX11_layFree_168 : decode cX11_layFree 168 = .ok (.goto (-156), 3) := by decide +kernel
theorem dX11_layFree_171 : decode cX11_layFree 171 = .ok (.return_, 1) := by decide +kernel
theorem dX11_first_0 : decode cX11_first 0 = .ok (.aload_n 0, 1) := by decide +kernel
theorem dX11_first_1 : decode cX11_first 1 = .ok (.getfield 50, 3) := by decide +kernel
theorem dX11_first_4 : decode cX11_first 4 = .ok (.iload_n 2, 1) := by decide +kernel
theorem dX11_first_5 : decode cX11_first 5 = .ok (.iaload, 1) := by decide +kernel
theorem dX11_first_6 : decode cX11_first 6 = .ok (.aload_n 0, 1) := by decide +kernel
theorem dX11_first_7 : decode cX11_first 7 = .ok (.iload_n 3, 1) := by decide +kernel
theorem dX11_first_8 : decode cX11_first 8 = .ok (.iload 4, 2) := by decide +kernel
theorem dX11_first_10 : decode cX11_first 10 = .ok (.invokevirtual 220, 3) := by decide +kernel
theorem dX11_first_13 : decode cX11_first 13 = .ok (.isub, 1) := by decide +kernel
theorem dX11_first_14 : decode cX11_first 14 = .ok (.istore 5, 2) := by decide +kernel
theorem dX11_first_16 : decode cX11_first 16 = .ok (.aload_n 0, 1) := by decide +kernel
theorem dX11_first_17 : decode cX11_first 17 = .ok (.getfield 53, 3) := by decide +kernel
theorem dX11_first_20 : decode cX11_first 20 = .ok (.iload_n 2, 1) := by decide +kernel
theorem dX11_first_21 : decode cX11_first 21 = .ok (.iaload, 1) := by decide +kernel
theorem dX11_first_22 : decode cX11_first 22 = .ok (.aload_n 0, 1) := by decide +kernel
theorem dX11_first_23 : decode cX11_first 23 = .ok (.iload_n 3, 1) := by decide +kernel
theorem dX11_first_24 : decode cX11_first 24 = .ok (.iload 4, 2) := by decide +kernel
theorem dX11_first_26 : decode cX11_first 26 = .ok (.invokevirtual 229, 3) := by decide +kernel
theorem dX11_first_29 : decode cX11_first 29 = .ok (.isub, 1) := by decide +kernel
theorem dX11_first_30 : decode cX11_first 30 = .ok (.istore 6, 2) := by decide +kernel
theorem dX11_first_32 : decode cX11_first 32 = .ok (.iload_n 1, 1) := by decide +kernel
theorem dX11_first_33 : decode cX11_first 33 = .ok (.tableswitch 87 0 2 #[27, 42, 72], 27) := by decide +kernel
theorem dX11_first_60 : decode cX11_first 60 = .ok (.iload 5, 2) := by decide +kernel
theorem dX11_first_62 : decode cX11_first 62 = .ok (.iload 6, 2) := by decide +kernel
theorem dX11_first_64 : decode cX11_first 64 = .ok (.if_icmp .ge 8, 3) := by decide +kernel
theorem dX11_first_67 : decode cX11_first 67 = .ok (.iload 5, 2) := by decide +kernel
theorem dX11_first_69 : decode cX11_first 69 = .ok (.goto 5, 3) := by decide +kernel
theorem dX11_first_72 : decode cX11_first 72 = .ok (.iload 6, 2) := by decide +kernel
theorem dX11_first_74 : decode cX11_first 74 = .ok (.ireturn, 1) := by decide +kernel
theorem dX11_first_75 : decode cX11_first 75 = .ok (.aload_n 0, 1) := by decide +kernel
theorem dX11_first_76 : decode cX11_first 76 = .ok (.getfield 50, 3) := by decide +kernel
theorem dX11_first_79 : decode cX11_first 79 = .ok (.iload_n 2, 1) := by decide +kernel
theorem dX11_first_80 : decode cX11_first 80 = .ok (.iaload, 1) := by decide +kernel
theorem dX11_first_81 : decode cX11_first 81 = .ok (.aload_n 0, 1) := by decide +kernel
theorem dX11_first_82 : decode cX11_first 82 = .ok (.getfield 53, 3) := by decide +kernel
theorem dX11_first_85 : decode cX11_first 85 = .ok (.iload_n 2, 1) := by decide +kernel
theorem dX11_first_86 : decode cX11_first 86 = .ok (.iaload, 1) := by decide +kernel
theorem dX11_first_87 : decode cX11_first 87 = .ok (.imul, 1) := by decide +kernel
theorem dX11_first_88 : decode cX11_first 88 = .ok (.aload_n 0, 1) := by decide +kernel
theorem dX11_first_89 : decode cX11_first 89 = .ok (.iload_n 3, 1) := by decide +kernel
theorem dX11_first_90 : decode cX11_first 90 = .ok (.iload 4, 2) := by decide +kernel
theorem dX11_first_92 : decode cX11_first 92 = .ok (.invokevirtual 220, 3) := by decide +kernel
theorem dX11_first_95 : decode cX11_first 95 = .ok (.aload_n 0, 1) := by decide +kernel
theorem dX11_first_96 : decode cX11_first 96 = .ok (.iload_n 3, 1) := by decide +kernel
theorem dX11_first_97 : decode cX11_first 97 = .ok (.iload 4, 2) := by decide +kernel
theorem dX11_first_99 : decode cX11_first 99 = .ok (.invokevirtual 229, 3) := by decide +kernel
theorem dX11_first_102 : decode cX11_first 102 = .ok (.imul, 1) := by decide +kernel
theorem dX11_first_103 : decode cX11_first 103 = .ok (.isub, 1) := by decide +kernel
theorem dX11_first_104 : decode cX11_first 104 = .ok (.ireturn, 1) := by decide +kernel
theorem dX11_first_105 : decode cX11_first 105 = .ok (.aload_n 0, 1) := by decide +kernel
theorem dX11_first_106 : decode cX11_first 106 = .ok (.getfield 47, 3) := by decide +kernel
theorem dX11_first_109 : decode cX11_first 109 = .ok (.iload_n 2, 1) := by decide +kernel
theorem dX11_first_110 : decode cX11_first 110 = .ok (.iaload, 1) := by decide +kernel
theorem dX11_first_111 : decode cX11_first 111 = .ok (.aload_n 0, 1) := by decide +kernel
theorem dX11_first_112 : decode cX11_first 112 = .ok (.iload_n 3, 1) := by decide +kernel
theorem dX11_first_113 : decode cX11_first 113 = .ok (.iload 4, 2) := by decide +kernel
theorem dX11_first_115 : decode cX11_first 115 = .ok (.invokevirtual 229, 3) := by decide +kernel
theorem dX11_first_118 : decode cX11_first 118 = .ok (.iadd, 1) := by decide +kernel
theorem dX11_first_119 : decode cX11_first 119 = .ok (.ireturn, 1) := by decide +kernel
theorem dX11_first_120 : decode cX11_first 120 = .ok (.iload 5, 2) := by decide +kernel
theorem dX11_first_122 : decode cX11_first 122 = .ok (.iload 6, 2) := by decide +kernel
theorem dX11_first_124 : decode cX11_first 124 = .ok (.if_icmp .le 8, 3) := by decide +kernel
theorem dX11_first_127 : decode cX11_first 127 = .ok (.iload 5, 2) := by decide +kernel
theorem dX11_first_129 : decode cX11_first 129 = .ok (.goto 5, 3) := by decide +kernel
theorem dX11_first_132 : decode cX11_first 132 = .ok (.iload 6, 2) := by decide +kernel
theorem dX11_first_134 : decode cX11_first 134 = .ok (.ireturn, 1) := by decide +kernel
theorem dX11_second_0 : decode cX11_second 0 = .ok (.aload_n 0, 1) := by decide +kernel
theorem dX11_second_1 : decode cX11_second 1 = .ok (.getfield 50, 3) := by decide +kernel
theorem dX11_second_4 : decode cX11_second 4 = .ok (.iload_n 2, 1) := by decide +kernel
theorem dX11_second_5 : decode cX11_second 5 = .ok (.iaload, 1) := by decide +kernel
theorem dX11_second_6 : decode cX11_second 6 = .ok (.aload_n 0, 1) := by decide +kernel
theorem dX11_second_7 : decode cX11_second 7 = .ok (.iload_n 3, 1) := by decide +kernel
theorem dX11_second_8 : decode cX11_second 8 = .ok (.iload 4, 2) := by decide +kernel
theorem dX11_second_10 : decode cX11_second 10 = .ok (.invokevirtual 220, 3) := by decide +kernel
theorem dX11_second_13 : decode cX11_second 13 = .ok (.isub, 1) := by decide +kernel
theorem dX11_second_14 : decode cX11_second 14 = .ok (.istore 5, 2) := by decide +kernel
theorem dX11_second_16 : decode cX11_second 16 = .ok (.aload_n 0, 1) := by decide +kernel
theorem dX11_second_17 : decode cX11_second 17 = .ok (.getfield 53, 3) := by decide +kernel
theorem dX11_second_20 : decode cX11_second 20 = .ok (.iload_n 2, 1) := by decide +kernel
theorem dX11_second_21 : decode cX11_second 21 = .ok (.iaload, 1) := by decide +kernel
theorem dX11_second_22 : decode cX11_second 22 = .ok (.aload_n 0, 1) := by decide +kernel
theorem dX11_second_23 : decode cX11_second 23 = .ok (.iload_n 3, 1) := by decide +kernel
theorem dX11_second_24 : decode cX11_second 24 = .ok (.iload 4, 2) := by decide +kernel
theorem dX11_second_26 : decode cX11_second 26 = .ok (.invokevirtual 229, 3) := by decide +kernel
theorem dX11_second_29 : decode cX11_second 29 = .ok (.isub, 1) := by decide +kernel
theorem dX11_second_30 : decode cX11_second 30 = .ok (.istore 6, 2) := by decide +kernel
theorem dX11_second_32 : decode cX11_second 32 = .ok (.iload_n 1, 1) := by decide +kernel
theorem dX11_second_33 : decode cX11_second 33 = .ok (.ifCond .ne 20, 3) := by decide +kernel
theorem dX11_second_36 : decode cX11_second 36 = .ok (.iload 5, 2) := by decide +kernel
theorem dX11_second_38 : decode cX11_second 38 = .ok (.iload 6, 2) := by decide +kernel
theorem dX11_second_40 : decode cX11_second 40 = .ok (.if_icmp .le 8, 3) := by decide +kernel
theorem dX11_second_43 : decode cX11_second 43 = .ok (.iload 5, 2) := by decide +kernel
theorem dX11_second_45 : decode cX11_second 45 = .ok (.goto 36, 3) := by decide +kernel
theorem dX11_second_48 : decode cX11_second 48 = .ok (.iload 6, 2) := by decide +kernel
theorem dX11_second_50 : decode cX11_second 50 = .ok (.goto 31, 3) := by decide +kernel
theorem dX11_second_53 : decode cX11_second 53 = .ok (.iload_n 1, 1) := by decide +kernel
theorem dX11_second_54 : decode cX11_second 54 = .ok (.iconst 2, 1) := by decide +kernel
theorem dX11_second_55 : decode cX11_second 55 = .ok (.if_icmp .ne 12, 3) := by decide +kernel
theorem dX11_second_58 : decode cX11_second 58 = .ok (.aload_n 0, 1) := by decide +kernel
theorem dX11_second_59 : decode cX11_second 59 = .ok (.getfield 44, 3) := by decide +kernel
theorem dX11_second_62 : decode cX11_second 62 = .ok (.iload_n 2, 1) := by decide +kernel
theorem dX11_second_63 : decode cX11_second 63 = .ok (.iaload, 1) := by decide +kernel
theorem dX11_second_64 : decode cX11_second 64 = .ok (.goto 17, 3) := by decide +kernel
theorem dX11_second_67 : decode cX11_second 67 = .ok (.iload 5, 2) := by decide +kernel
theorem dX11_second_69 : decode cX11_second 69 = .ok (.iload 6, 2) := by decide +kernel
theorem dX11_second_71 : decode cX11_second 71 = .ok (.if_icmp .ge 8, 3) := by decide +kernel
theorem dX11_second_74 : decode cX11_second 74 = .ok (.iload 5, 2) := by decide +kernel
theorem dX11_second_76 : decode cX11_second 76 = .ok (.goto 5, 3) := by decide +kernel
theorem dX11_second_79 : decode cX11_second 79 = .ok (.iload 6, 2) := by decide +kernel
theorem dX11_second_81 : decode cX11_second 81 = .ok (.ireturn, 1) := by decide +kernel
theorem dX11_turns_0 : decode cX11_turns 0 = .ok (.aload_n 0, 1) := by decide +kernel
theorem dX11_turns_1 : decode cX11_turns 1 = .ok (.iload_n 1, 1) := by decide +kernel
theorem dX11_turns_2 : decode cX11_turns 2 = .ok (.invokevirtual 201, 3) := by decide +kernel
theorem dX11_turns_5 : decode cX11_turns 5 = .ok (.iconst 1, 1) := by decide +kernel
theorem dX11_turns_6 : decode cX11_turns 6 = .ok (.if_icmp .eq 12, 3) := by decide +kernel
theorem dX11_turns_9 : decode cX11_turns 9 = .ok (.aload_n 0, 1) := by decide +kernel
theorem dX11_turns_10 : decode cX11_turns 10 = .ok (.iload_n 1, 1) := by decide +kernel
theorem dX11_turns_11 : decode cX11_turns 11 = .ok (.invokevirtual 201, 3) := by decide +kernel
theorem dX11_turns_14 : decode cX11_turns 14 = .ok (.iconst 3, 1) := by decide +kernel
theorem dX11_turns_15 : decode cX11_turns 15 = .ok (.if_icmp .ne 7, 3) := by decide +kernel
theorem dX11_turns_18 : decode cX11_turns 18 = .ok (.iconst 1, 1) := by decide +kernel
theorem dX11_turns_19 : decode cX11_turns 19 = .ok (.goto 4, 3) := by decide +kernel
theorem dX11_turns_22 : decode cX11_turns 22 = .ok (.iconst 2, 1) := by decide +kernel
theorem dX11_turns_23 : decode cX11_turns 23 = .ok (.ireturn, 1) := by decide +kernel
theorem dX11_findsRoom_0 : decode cX11_findsRoom 0 = .ok (.aload_n 0, 1) := by decide +kernel
theorem dX11_findsRoom_1 : decode cX11_findsRoom 1 = .ok (.bipush (-9), 2) := by decide +kernel
theorem dX11_findsRoom_3 : decode cX11_findsRoom 3 = .ok (.putfield 248, 3) := by decide +kernel
theorem dX11_findsRoom_6 : decode cX11_findsRoom 6 = .ok (.iconst 0, 1) := by decide +kernel
theorem dX11_findsRoom_7 : decode cX11_findsRoom 7 = .ok (.istore_n 3, 1) := by decide +kernel
theorem dX11_findsRoom_8 : decode cX11_findsRoom 8 = .ok (.iload_n 3, 1) := by decide +kernel
theorem dX11_findsRoom_9 : decode cX11_findsRoom 9 = .ok (.aload_n 0, 1) := by decide +kernel
theorem dX11_findsRoom_10 : decode cX11_findsRoom 10 = .ok (.getfield 242, 3) := by decide +kernel
theorem dX11_findsRoom_13 : decode cX11_findsRoom 13 = .ok (.if_icmp .ge 141, 3) := by decide +kernel
theorem dX11_findsRoom_16 : decode cX11_findsRoom 16 = .ok (.iconst 0, 1) := by decide +kernel
theorem dX11_findsRoom_17 : decode cX11_findsRoom 17 = .ok (.istore 4, 2) := by decide +kernel
theorem dX11_findsRoom_19 : decode cX11_findsRoom 19 = .ok (.iload 4, 2) := by decide +kernel
theorem dX11_findsRoom_21 : decode cX11_findsRoom 21 = .ok (.aload_n 0, 1) := by decide +kernel
theorem dX11_findsRoom_22 : decode cX11_findsRoom 22 = .ok (.iload_n 1, 1) := by decide +kernel
theorem dX11_findsRoom_23 : decode cX11_findsRoom 23 = .ok (.invokevirtual 251, 3) := by decide +kernel
theorem dX11_findsRoom_26 : decode cX11_findsRoom 26 = .ok (.if_icmp .ge 122, 3) := by decide +kernel
theorem dX11_findsRoom_29 : decode cX11_findsRoom 29 = .ok (.aload_n 0, 1) := by decide +kernel
theorem dX11_findsRoom_30 : decode cX11_findsRoom 30 = .ok (.iload_n 1, 1) := by decide +kernel
theorem dX11_findsRoom_31 : decode cX11_findsRoom 31 = .ok (.iload 4, 2) := by decide +kernel
theorem dX11_findsRoom_33 : decode cX11_findsRoom 33 = .ok (.invokevirtual 220, 3) := by decide +kernel
theorem dX11_findsRoom_36 : decode cX11_findsRoom 36 = .ok (.aload_n 0, 1) := by decide +kernel
theorem dX11_findsRoom_37 : decode cX11_findsRoom 37 = .ok (.getfield 50, 3) := by decide +kernel
theorem dX11_findsRoom_40 : decode cX11_findsRoom 40 = .ok (.iload_n 3, 1) := by decide +kernel
theorem dX11_findsRoom_41 : decode cX11_findsRoom 41 = .ok (.iaload, 1) := by decide +kernel
theorem dX11_findsRoom_42 : decode cX11_findsRoom 42 = .ok (.if_icmp .gt 100, 3) := by decide +kernel
theorem dX11_findsRoom_45 : decode cX11_findsRoom 45 = .ok (.aload_n 0, 1) := by decide +kernel
theorem dX11_findsRoom_46 : decode cX11_findsRoom 46 = .ok (.iload_n 1, 1) := by decide +kernel
theorem dX11_findsRoom_47 : decode cX11_findsRoom 47 = .ok (.iload 4, 2) := by decide +kernel
theorem dX11_findsRoom_49 : decode cX11_findsRoom 49 = .ok (.invokevirtual 229, 3) := by decide +kernel
theorem dX11_findsRoom_52 : decode cX11_findsRoom 52 = .ok (.aload_n 0, 1) := by decide +kernel
theorem dX11_findsRoom_53 : decode cX11_findsRoom 53 = .ok (.getfield 53, 3) := by decide +kernel
theorem dX11_findsRoom_56 : decode cX11_findsRoom 56 = .ok (.iload_n 3, 1) := by decide +kernel
theorem dX11_findsRoom_57 : decode cX11_findsRoom 57 = .ok (.iaload, 1) := by decide +kernel
theorem dX11_findsRoom_58 : decode cX11_findsRoom 58 = .ok (.if_icmp .gt 84, 3) := by decide +kernel
theorem dX11_findsRoom_61 : decode cX11_findsRoom 61 = .ok (.aload_n 0, 1) := by decide +kernel
theorem dX11_findsRoom_62 : decode cX11_findsRoom 62 = .ok (.iload_n 2, 1) := by decide +kernel
theorem dX11_findsRoom_63 : decode cX11_findsRoom 63 = .ok (.iload_n 3, 1) := by decide +kernel
theorem dX11_findsRoom_64 : decode cX11_findsRoom 64 = .ok (.iload_n 1, 1) := by decide +kernel
theorem dX11_findsRoom_65 : decode cX11_findsRoom 65 = .ok (.iload 4, 2) := by decide +kernel
theorem dX11_findsRoom_67 : decode cX11_findsRoom 67 = .ok (.invokevirtual 254, 3) := by decide +kernel
theorem dX11_findsRoom_70 : decode cX11_findsRoom 70 = .ok (.istore 5, 2) := by decide +kernel
theorem dX11_findsRoom_72 : decode cX11_findsRoom 72 = .ok (.aload_n 0, 1) := by decide +kernel
theorem dX11_findsRoom_73 : decode cX11_findsRoom 73 = .ok (.iload_n 2, 1) := by decide +kernel
theorem dX11_findsRoom_74 : decode cX11_findsRoom 74 = .ok (.iload_n 3, 1) := by decide +kernel
theorem dX11_findsRoom_75 : decode cX11_findsRoom 75 = .ok (.iload_n 1, 1) := by decide +kernel
theorem dX11_findsRoom_76 : decode cX11_findsRoom 76 = .ok (.iload 4, 2) := by decide +kernel
theorem dX11_findsRoom_78 : decode cX11_findsRoom 78 = .ok (.invokevirtual 258, 3) := by decide +kernel
theorem dX11_findsRoom_81 : decode cX11_findsRoom 81 = .ok (.istore 6, 2) := by decide +kernel
theorem dX11_findsRoom_83 : decode cX11_findsRoom 83 = .ok (.aload_n 0, 1) := by decide +kernel
theorem dX11_findsRoom_84 : decode cX11_findsRoom 84 = .ok (.getfield 248, 3) := by decide +kernel
theorem dX11_findsRoom_87 : decode cX11_findsRoom 87 = .ok (.bipush (-9), 2) := by decide +kernel
theorem dX11_findsRoom_89 : decode cX11_findsRoom 89 = .ok (.if_icmp .eq 30, 3) := by decide +kernel
theorem dX11_findsRoom_92 : decode cX11_findsRoom 92 = .ok (.iload 5, 2) := by decide +kernel
theorem dX11_findsRoom_94 : decode cX11_findsRoom 94 = .ok (.aload_n 0, 1) := by decide +kernel
theorem dX11_findsRoom_95 : decode cX11_findsRoom 95 = .ok (.getfield 261, 3) := by decide +kernel
theorem dX11_findsRoom_98 : decode cX11_findsRoom 98 = .ok (.if_icmp .lt 21, 3) := by decide +kernel
theorem dX11_findsRoom_101 : decode cX11_findsRoom 101 = .ok (.iload 5, 2) := by decide +kernel
theorem dX11_findsRoom_103 : decode cX11_findsRoom 103 = .ok (.aload_n 0, 1) := by decide +kernel
theorem dX11_findsRoom_104 : decode cX11_findsRoom 104 = .ok (.getfield 261, 3) := by decide +kernel
theorem dX11_findsRoom_107 : decode cX11_findsRoom 107 = .ok (.if_icmp .ne 35, 3) := by decide +kernel
theorem dX11_findsRoom_110 : decode cX11_findsRoom 110 = .ok (.iload 6, 2) := by decide +kernel
theorem dX11_findsRoom_112 : decode cX11_findsRoom 112 = .ok (.aload_n 0, 1) := by decide +kernel
theorem dX11_findsRoom_113 : decode cX11_findsRoom 113 = .ok (.getfield 264, 3) := by decide +kernel
theorem dX11_findsRoom_116 : decode cX11_findsRoom 116 = .ok (.if_icmp .ge 26, 3) := by decide +kernel
theorem dX11_findsRoom_119 : decode cX11_findsRoom 119 = .ok (.aload_n 0, 1) := by decide +kernel
theorem dX11_findsRoom_120 : decode cX11_findsRoom 120 = .ok (.iload_n 3, 1) := by decide +kernel
theorem dX11_findsRoom_121 : decode cX11_findsRoom 121 = .ok (.putfield 248, 3) := by decide +kernel
theorem dX11_findsRoom_124 : decode cX11_findsRoom 124 = .ok (.aload_n 0, 1) := by decide +kernel
theorem dX11_findsRoom_125 : decode cX11_findsRoom 125 = .ok (.iload 4, 2) := by decide +kernel
theorem dX11_findsRoom_127 : decode cX11_findsRoom 127 = .ok (.putfield 267, 3) := by decide +kernel
theorem dX11_findsRoom_130 : decode cX11_findsRoom 130 = .ok (.aload_n 0, 1) := by decide +kernel
theorem dX11_findsRoom_131 : decode cX11_findsRoom 131 = .ok (.iload 5, 2) := by decide +kernel
theorem dX11_findsRoom_133 : decode cX11_findsRoom 133 = .ok (.putfield 261, 3) := by decide +kernel
theorem dX11_findsRoom_136 : decode cX11_findsRoom 136 = .ok (.aload_n 0, 1) := by decide +kernel
theorem dX11_findsRoom_137 : decode cX11_findsRoom 137 = .ok (.iload 6, 2) := by decide +kernel
theorem dX11_findsRoom_139 : decode cX11_findsRoom 139 = .ok (.putfield 264, 3) := by decide +kernel
theorem dX11_findsRoom_142 : decode cX11_findsRoom 142 = .ok (.iinc 4 1, 3) := by decide +kernel
theorem dX11_findsRoom_145 : decode cX11_findsRoom 145 = .ok (.goto (-126), 3) := by decide +kernel
theorem dX11_findsRoom_148 : decode cX11_findsRoom 148 = .ok (.iinc 3 1, 3) := by decide +kernel
theorem dX11_findsRoom_151 : decode cX11_findsRoom 151 = .ok (.goto (-143), 3) := by decide +kernel
theorem dX11_findsRoom_154 : decode cX11_findsRoom 154 = .ok (.aload_n 0, 1) := by decide +kernel
theorem dX11_findsRoom_155 : decode cX11_findsRoom 155 = .ok (.getfield 248, 3) := by decide +kernel
theorem dX11_findsRoom_158 : decode cX11_findsRoom 158 = .ok (.bipush (-9), 2) := by decide +kernel
theorem dX11_findsRoom_160 : decode cX11_findsRoom 160 = .ok (.if_icmp .eq 7, 3) := by decide +kernel
theorem dX11_findsRoom_163 : decode cX11_findsRoom 163 = .ok (.iconst 1, 1) := by decide +kernel
theorem dX11_findsRoom_164 : decode cX11_findsRoom 164 = .ok (.goto 4, 3) := by decide +kernel
theorem dX11_findsRoom_167 : decode cX11_findsRoom 167 = .ok (.iconst 0, 1) := by decide +kernel
theorem dX11_findsRoom_168 : decode cX11_findsRoom 168 = .ok (.ireturn, 1) := by decide +kernel
theorem dX11_findsPage_0 : decode cX11_findsPage 0 = .ok (.aload_n 0, 1) := by decide +kernel
theorem dX11_findsPage_1 : decode cX11_findsPage 1 = .ok (.invokevirtual 270, 3) := by decide +kernel
theorem dX11_findsPage_4 : decode cX11_findsPage 4 = .ok (.istore_n 2, 1) := by decide +kernel
theorem dX11_findsPage_5 : decode cX11_findsPage 5 = .ok (.iconst 0, 1) := by decide +kernel
theorem dX11_findsPage_6 : decode cX11_findsPage 6 = .ok (.istore_n 3, 1) := by decide +kernel
theorem dX11_findsPage_7 : decode cX11_findsPage 7 = .ok (.iload_n 3, 1) := by decide +kernel
theorem dX11_findsPage_8 : decode cX11_findsPage 8 = .ok (.iload_n 2, 1) := by decide +kernel
theorem dX11_findsPage_9 : decode cX11_findsPage 9 = .ok (.if_icmp .gt 37, 3) := by decide +kernel
theorem dX11_findsPage_12 : decode cX11_findsPage 12 = .ok (.iload_n 3, 1) := by decide +kernel
theorem dX11_findsPage_13 : decode cX11_findsPage 13 = .ok (.bipush 8, 2) := by decide +kernel
theorem dX11_findsPage_15 : decode cX11_findsPage 15 = .ok (.if_icmp .ge 31, 3) := by decide +kernel
theorem dX11_findsPage_18 : decode cX11_findsPage 18 = .ok (.aload_n 0, 1) := by decide +kernel
theorem dX11_findsPage_19 : decode cX11_findsPage 19 = .ok (.iload_n 3, 1) := by decide +kernel
theorem dX11_findsPage_20 : decode cX11_findsPage 20 = .ok (.invokevirtual 274, 3) := by decide +kernel
theorem dX11_findsPage_23 : decode cX11_findsPage 23 = .ok (.aload_n 0, 1) := by decide +kernel
theorem dX11_findsPage_24 : decode cX11_findsPage 24 = .ok (.iload_n 1, 1) := by decide +kernel
theorem dX11_findsPage_25 : decode cX11_findsPage 25 = .ok (.aload_n 0, 1) := by decide +kernel
theorem dX11_findsPage_26 : decode cX11_findsPage 26 = .ok (.getfield 35, 3) := by decide +kernel
theorem dX11_findsPage_29 : decode cX11_findsPage 29 = .ok (.bipush 32, 2) := by decide +kernel
theorem dX11_findsPage_31 : decode cX11_findsPage 31 = .ok (.iaload, 1) := by decide +kernel
theorem dX11_findsPage_32 : decode cX11_findsPage 32 = .ok (.invokevirtual 277, 3) := by decide +kernel
theorem dX11_findsPage_35 : decode cX11_findsPage 35 = .ok (.ifCond .eq 5, 3) := by decide +kernel
theorem dX11_findsPage_38 : decode cX11_findsPage 38 = .ok (.iload_n 3, 1) := by decide +kernel
theorem dX11_findsPage_39 : decode cX11_findsPage 39 = .ok (.ireturn, 1) := by decide +kernel
theorem dX11_findsPage_40 : decode cX11_findsPage 40 = .ok (.iinc 3 1, 3) := by decide +kernel
theorem dX11_findsPage_43 : decode cX11_findsPage 43 = .ok (.goto (-36), 3) := by decide +kernel
theorem dX11_findsPage_46 : decode cX11_findsPage 46 = .ok (.bipush (-9), 2) := by decide +kernel
theorem dX11_findsPage_48 : decode cX11_findsPage 48 = .ok (.ireturn, 1) := by decide +kernel
theorem dX11_sets_0 : decode cX11_sets 0 = .ok (.aload_n 0, 1) := by decide +kernel
theorem dX11_sets_1 : decode cX11_sets 1 = .ok (.getfield 35, 3) := by decide +kernel
theorem dX11_sets_4 : decode cX11_sets 4 = .ok (.iconst 4, 1) := by decide +kernel
theorem dX11_sets_5 : decode cX11_sets 5 = .ok (.iload_n 1, 1) := by decide +kernel
theorem dX11_sets_6 : decode cX11_sets 6 = .ok (.imul, 1) := by decide +kernel
theorem dX11_sets_7 : decode cX11_sets 7 = .ok (.iconst 0, 1) := by decide +kernel
theorem dX11_sets_8 : decode cX11_sets 8 = .ok (.iadd, 1) := by decide +kernel
theorem dX11_sets_9 : decode cX11_sets 9 = .ok (.iload_n 2, 1) := by decide +kernel
theorem dX11_sets_10 : decode cX11_sets 10 = .ok (.iastore, 1) := by decide +kernel
theorem dX11_sets_11 : decode cX11_sets 11 = .ok (.aload_n 0, 1) := by decide +kernel
theorem dX11_sets_12 : decode cX11_sets 12 = .ok (.getfield 35, 3) := by decide +kernel
theorem dX11_sets_15 : decode cX11_sets 15 = .ok (.iconst 4, 1) := by decide +kernel
theorem dX11_sets_16 : decode cX11_sets 16 = .ok (.iload_n 1, 1) := by decide +kernel
theorem dX11_sets_17 : decode cX11_sets 17 = .ok (.imul, 1) := by decide +kernel
theorem dX11_sets_18 : decode cX11_sets 18 = .ok (.iconst 1, 1) := by decide +kernel
theorem dX11_sets_19 : decode cX11_sets 19 = .ok (.iadd, 1) := by decide +kernel
theorem dX11_sets_20 : decode cX11_sets 20 = .ok (.aload_n 0, 1) := by decide +kernel
theorem dX11_sets_21 : decode cX11_sets 21 = .ok (.getfield 44, 3) := by decide +kernel
theorem dX11_sets_24 : decode cX11_sets 24 = .ok (.aload_n 0, 1) := by decide +kernel
theorem dX11_sets_25 : decode cX11_sets 25 = .ok (.getfield 248, 3) := by decide +kernel
theorem dX11_sets_28 : decode cX11_sets 28 = .ok (.iaload, 1) := by decide +kernel
theorem dX11_sets_29 : decode cX11_sets 29 = .ok (.iastore, 1) := by decide +kernel
theorem dX11_sets_30 : decode cX11_sets 30 = .ok (.aload_n 0, 1) := by decide +kernel
theorem dX11_sets_31 : decode cX11_sets 31 = .ok (.getfield 35, 3) := by decide +kernel
theorem dX11_sets_34 : decode cX11_sets 34 = .ok (.iconst 4, 1) := by decide +kernel
theorem dX11_sets_35 : decode cX11_sets 35 = .ok (.iload_n 1, 1) := by decide +kernel
theorem dX11_sets_36 : decode cX11_sets 36 = .ok (.imul, 1) := by decide +kernel
theorem dX11_sets_37 : decode cX11_sets 37 = .ok (.iconst 2, 1) := by decide +kernel
theorem dX11_sets_38 : decode cX11_sets 38 = .ok (.iadd, 1) := by decide +kernel
theorem dX11_sets_39 : decode cX11_sets 39 = .ok (.aload_n 0, 1) := by decide +kernel
theorem dX11_sets_40 : decode cX11_sets 40 = .ok (.getfield 47, 3) := by decide +kernel
theorem dX11_sets_43 : decode cX11_sets 43 = .ok (.aload_n 0, 1) := by decide +kernel
theorem dX11_sets_44 : decode cX11_sets 44 = .ok (.getfield 248, 3) := by decide +kernel
theorem dX11_sets_47 : decode cX11_sets 47 = .ok (.iaload, 1) := by decide +kernel
theorem dX11_sets_48 : decode cX11_sets 48 = .ok (.iastore, 1) := by decide +kernel
theorem dX11_sets_49 : decode cX11_sets 49 = .ok (.aload_n 0, 1) := by decide +kernel
theorem dX11_sets_50 : decode cX11_sets 50 = .ok (.getfield 35, 3) := by decide +kernel
theorem dX11_sets_53 : decode cX11_sets 53 = .ok (.iconst 4, 1) := by decide +kernel
theorem dX11_sets_54 : decode cX11_sets 54 = .ok (.iload_n 1, 1) := by decide +kernel
theorem dX11_sets_55 : decode cX11_sets 55 = .ok (.imul, 1) := by decide +kernel
theorem dX11_sets_56 : decode cX11_sets 56 = .ok (.iconst 3, 1) := by decide +kernel
theorem dX11_sets_57 : decode cX11_sets 57 = .ok (.iadd, 1) := by decide +kernel
theorem dX11_sets_58 : decode cX11_sets 58 = .ok (.aload_n 0, 1) := by decide +kernel
theorem dX11_sets_59 : decode cX11_sets 59 = .ok (.getfield 267, 3) := by decide +kernel
theorem dX11_sets_62 : decode cX11_sets 62 = .ok (.iastore, 1) := by decide +kernel
theorem dX11_sets_63 : decode cX11_sets 63 = .ok (.return_, 1) := by decide +kernel
theorem dX11_lifts_0 : decode cX11_lifts 0 = .ok (.aload_n 0, 1) := by decide +kernel
theorem dX11_lifts_1 : decode cX11_lifts 1 = .ok (.getfield 35, 3) := by decide +kernel
theorem dX11_lifts_4 : decode cX11_lifts 4 = .ok (.iconst 4, 1) := by decide +kernel
theorem dX11_lifts_5 : decode cX11_lifts 5 = .ok (.iload_n 1, 1) := by decide +kernel
theorem dX11_lifts_6 : decode cX11_lifts 6 = .ok (.imul, 1) := by decide +kernel
theorem dX11_lifts_7 : decode cX11_lifts 7 = .ok (.iconst 0, 1) := by decide +kernel
theorem dX11_lifts_8 : decode cX11_lifts 8 = .ok (.iadd, 1) := by decide +kernel
theorem dX11_lifts_9 : decode cX11_lifts 9 = .ok (.iconst (-1), 1) := by decide +kernel
theorem dX11_lifts_10 : decode cX11_lifts 10 = .ok (.iastore, 1) := by decide +kernel
theorem dX11_lifts_11 : decode cX11_lifts 11 = .ok (.aload_n 0, 1) := by decide +kernel
theorem dX11_lifts_12 : decode cX11_lifts 12 = .ok (.getfield 35, 3) := by decide +kernel
theorem dX11_lifts_15 : decode cX11_lifts 15 = .ok (.iconst 4, 1) := by decide +kernel
theorem dX11_lifts_16 : decode cX11_lifts 16 = .ok (.iload_n 1, 1) := by decide +kernel
theorem dX11_lifts_17 : decode cX11_lifts 17 = .ok (.imul, 1) := by decide +kernel
theorem dX11_lifts_18 : decode cX11_lifts 18 = .ok (.iconst 1, 1) := by decide +kernel
theorem dX11_lifts_19 : decode cX11_lifts 19 = .ok (.iadd, 1) := by decide +kernel
theorem dX11_lifts_20 : decode cX11_lifts 20 = .ok (.iconst 0, 1) := by decide +kernel
theorem dX11_lifts_21 : decode cX11_lifts 21 = .ok (.iastore, 1) := by decide +kernel
theorem dX11_lifts_22 : decode cX11_lifts 22 = .ok (.aload_n 0, 1) := by decide +kernel
theorem dX11_lifts_23 : decode cX11_lifts 23 = .ok (.getfield 35, 3) := by decide +kernel
theorem dX11_lifts_26 : decode cX11_lifts 26 = .ok (.iconst 4, 1) := by decide +kernel
theorem dX11_lifts_27 : decode cX11_lifts 27 = .ok (.iload_n 1, 1) := by decide +kernel
theorem dX11_lifts_28 : decode cX11_lifts 28 = .ok (.imul, 1) := by decide +kernel
theorem dX11_lifts_29 : decode cX11_lifts 29 = .ok (.iconst 2, 1) := by decide +kernel
theorem dX11_lifts_30 : decode cX11_lifts 30 = .ok (.iadd, 1) := by decide +kernel
theorem dX11_lifts_31 : decode cX11_lifts 31 = .ok (.iconst 0, 1) := by decide +kernel
theorem dX11_lifts_32 : decode cX11_lifts 32 = .ok (.iastore, 1) := by decide +kernel
theorem dX11_lifts_33 : decode cX11_lifts 33 = .ok (.aload_n 0, 1) := by decide +kernel
theorem dX11_lifts_34 : decode cX11_lifts 34 = .ok (.getfield 35, 3) := by decide +kernel
theorem dX11_lifts_37 : decode cX11_lifts 37 = .ok (.iconst 4, 1) := by decide +kernel
theorem dX11_lifts_38 : decode cX11_lifts 38 = .ok (.iload_n 1, 1) := by decide +kernel
theorem dX11_lifts_39 : decode cX11_lifts 39 = .ok (.imul, 1) := by decide +kernel
theorem dX11_lifts_40 : decode cX11_lifts 40 = .ok (.iconst 3, 1) := by decide +kernel
theorem dX11_lifts_41 : decode cX11_lifts 41 = .ok (.iadd, 1) := by decide +kernel
theorem dX11_lifts_42 : decode cX11_lifts 42 = .ok (.iconst 0, 1) := by decide +kernel
theorem dX11_lifts_43 : decode cX11_lifts 43 = .ok (.iastore, 1) := by decide +kernel
theorem dX11_lifts_44 : decode cX11_lifts 44 = .ok (.return_, 1) := by decide +kernel
theorem dX11_weight_0 : decode cX11_weight 0 = .ok (.aload_n 0, 1) := by decide +kernel
theorem dX11_weight_1 : decode cX11_weight 1 = .ok (.iload_n 1, 1) := by decide +kernel
theorem dX11_weight_2 : decode cX11_weight 2 = .ok (.iconst 0, 1) := by decide +kernel
theorem dX11_weight_3 : decode cX11_weight 3 = .ok (.invokevirtual 220, 3) := by decide +kernel
theorem dX11_weight_6 : decode cX11_weight 6 = .ok (.istore_n 3, 1) := by decide +kernel
theorem dX11_weight_7 : decode cX11_weight 7 = .ok (.aload_n 0, 1) := by decide +kernel
theorem dX11_weight_8 : decode cX11_weight 8 = .ok (.iload_n 1, 1) := by decide +kernel
theorem dX11_weight_9 : decode cX11_weight 9 = .ok (.iconst 0, 1) := by decide +kernel
theorem dX11_weight_10 : decode cX11_weight 10 = .ok (.invokevirtual 229, 3) := by decide +kernel
theorem dX11_weight_13 : decode cX11_weight 13 = .ok (.istore 4, 2) := by decide +kernel
theorem dX11_weight_15 : decode cX11_weight 15 = .ok (.iload_n 2, 1) := by decide +kernel
theorem dX11_weight_16 : decode cX11_weight 16 = .ok (.ifCond .ne 7, 3) := by decide +kernel
theorem dX11_weight_19 : decode cX11_weight 19 = .ok (.iconst 0, 1) := by decide +kernel
theorem dX11_weight_20 : decode cX11_weight 20 = .ok (.goto 27, 3) := by decide +kernel
theorem dX11_weight_23 : decode cX11_weight 23 = .ok (.iload_n 2, 1) := by decide +kernel
theorem dX11_weight_24 : decode cX11_weight 24 = .ok (.iconst 1, 1) := by decide +kernel
theorem dX11_weight_25 : decode cX11_weight 25 = .ok (.if_icmp .ne 10, 3) := by decide +kernel
theorem dX11_weight_28 : decode cX11_weight 28 = .ok (.iload_n 3, 1) := by decide +kernel
theorem dX11_weight_29 : decode cX11_weight 29 = .ok (.iload 4, 2) := by decide +kernel
theorem dX11_weight_31 : decode cX11_weight 31 = .ok (.imul, 1) := by decide +kernel
theorem dX11_weight_32 : decode cX11_weight 32 = .ok (.goto 15, 3) := by decide +kernel
theorem dX11_weight_35 : decode cX11_weight 35 = .ok (.iload_n 3, 1) := by decide +kernel
theorem dX11_weight_36 : decode cX11_weight 36 = .ok (.iload 4, 2) := by decide +kernel
theorem dX11_weight_38 : decode cX11_weight 38 = .ok (.if_icmp .le 7, 3) := by decide +kernel
theorem dX11_weight_41 : decode cX11_weight 41 = .ok (.iload_n 3, 1) := by decide +kernel
theorem dX11_weight_42 : decode cX11_weight 42 = .ok (.goto 5, 3) := by decide +kernel
theorem dX11_weight_45 : decode cX11_weight 45 = .ok (.iload 4, 2) := by decide +kernel
theorem dX11_weight_47 : decode cX11_weight 47 = .ok (.ireturn, 1) := by decide +kernel
theorem dX11_setsAll_0 : decode cX11_setsAll 0 = .ok (.aload_n 0, 1) := by decide +kernel
theorem dX11_setsAll_1 : decode cX11_setsAll 1 = .ok (.invokevirtual 182, 3) := by decide +kernel
theorem dX11_setsAll_4 : decode cX11_setsAll 4 = .ok (.iconst 0, 1) := by decide +kernel
theorem dX11_setsAll_5 : decode cX11_setsAll 5 = .ok (.istore_n 2, 1) := by decide +kernel
theorem dX11_setsAll_6 : decode cX11_setsAll 6 = .ok (.iconst 0, 1) := by decide +kernel
theorem dX11_setsAll_7 : decode cX11_setsAll 7 = .ok (.istore_n 3, 1) := by decide +kernel
theorem dX11_setsAll_8 : decode cX11_setsAll 8 = .ok (.iload_n 3, 1) := by decide +kernel
theorem dX11_setsAll_9 : decode cX11_setsAll 9 = .ok (.aload_n 0, 1) := by decide +kernel
theorem dX11_setsAll_10 : decode cX11_setsAll 10 = .ok (.getfield 179, 3) := by decide +kernel
theorem dX11_setsAll_13 : decode cX11_setsAll 13 = .ok (.if_icmp .ge 103, 3) := by decide +kernel
theorem dX11_setsAll_16 : decode cX11_setsAll 16 = .ok (.bipush (-9), 2) := by decide +kernel
theorem dX11_setsAll_18 : decode cX11_setsAll 18 = .ok (.istore 4, 2) := by decide +kernel
theorem dX11_setsAll_20 : decode cX11_setsAll 20 = .ok (.iconst 0, 1) := by decide +kernel
theorem dX11_setsAll_21 : decode cX11_setsAll 21 = .ok (.istore 5, 2) := by decide +kernel
theorem dX11_setsAll_23 : decode cX11_setsAll 23 = .ok (.iload 5, 2) := by decide +kernel
theorem dX11_setsAll_25 : decode cX11_setsAll 25 = .ok (.aload_n 0, 1) := by decide +kernel
theorem dX11_setsAll_26 : decode cX11_setsAll 26 = .ok (.getfield 179, 3) := by decide +kernel
theorem dX11_setsAll_29 : decode cX11_setsAll 29 = .ok (.if_icmp .ge 51, 3) := by decide +kernel
theorem dX11_setsAll_32 : decode cX11_setsAll 32 = .ok (.iload_n 2, 1) := by decide +kernel
theorem dX11_setsAll_33 : decode cX11_setsAll 33 = .ok (.iload 5, 2) := by decide +kernel
theorem dX11_setsAll_35 : decode cX11_setsAll 35 = .ok (.invokestatic 280, 3) := by decide +kernel
theorem dX11_setsAll_38 : decode cX11_setsAll 38 = .ok (.ifCond .ne 32, 3) := by decide +kernel
theorem dX11_setsAll_41 : decode cX11_setsAll 41 = .ok (.iload 4, 2) := by decide +kernel
theorem dX11_setsAll_43 : decode cX11_setsAll 43 = .ok (.bipush (-9), 2) := by decide +kernel
theorem dX11_setsAll_45 : decode cX11_setsAll 45 = .ok (.if_icmp .eq 20, 3) := by decide +kernel
theorem dX11_setsAll_48 : decode cX11_setsAll 48 = .ok (.aload_n 0, 1) := by decide +kernel
theorem dX11_setsAll_49 : decode cX11_setsAll 49 = .ok (.iload 5, 2) := by decide +kernel
theorem dX11_setsAll_51 : decode cX11_setsAll 51 = .ok (.iload_n 1, 1) := by decide +kernel
theorem dX11_setsAll_52 : decode cX11_setsAll 52 = .ok (.invokevirtual 283, 3) := by decide +kernel
theorem dX11_setsAll_55 : decode cX11_setsAll 55 = .ok (.aload_n 0, 1) := by decide +kernel
theorem dX11_setsAll_56 : decode cX11_setsAll 56 = .ok (.iload 4, 2) := by decide +kernel
theorem dX11_setsAll_58 : decode cX11_setsAll 58 = .ok (.iload_n 1, 1) := by decide +kernel
theorem dX11_setsAll_59 : decode cX11_setsAll 59 = .ok (.invokevirtual 283, 3) := by decide +kernel
theorem dX11_setsAll_62 : decode cX11_setsAll 62 = .ok (.if_icmp .le 8, 3) := by decide +kernel
theorem dX11_setsAll_65 : decode cX11_setsAll 65 = .ok (.iload 5, 2) := by decide +kernel
theorem dX11_setsAll_67 : decode cX11_setsAll 67 = .ok (.goto 5, 3) := by decide +kernel
theorem dX11_setsAll_70 : decode cX11_setsAll 70 = .ok (.iload 4, 2) := by decide +kernel
theorem dX11_setsAll_72 : decode cX11_setsAll 72 = .ok (.istore 4, 2) := by decide +kernel
theorem dX11_setsAll_74 : decode cX11_setsAll 74 = .ok (.iinc 5 1, 3) := by decide +kernel
theorem dX11_setsAll_77 : decode cX11_setsAll 77 = .ok (.goto (-54), 3) := by decide +kernel
theorem dX11_setsAll_80 : decode cX11_setsAll 80 = .ok (.iload_n 2, 1) := by decide +kernel
theorem dX11_setsAll_81 : decode cX11_setsAll 81 = .ok (.iconst 1, 1) := by decide +kernel
theorem dX11_setsAll_82 : decode cX11_setsAll 82 = .ok (.iload 4, 2) := by decide +kernel
theorem dX11_setsAll_84 : decode cX11_setsAll 84 = .ok (.ishl, 1) := by decide +kernel
theorem dX11_setsAll_85 : decode cX11_setsAll 85 = .ok (.ior, 1) := by decide +kernel
theorem dX11_setsAll_86 : decode cX11_setsAll 86 = .ok (.istore_n 2, 1) := by decide +kernel
theorem dX11_setsAll_87 : decode cX11_setsAll 87 = .ok (.aload_n 0, 1) := by decide +kernel
theorem dX11_setsAll_88 : decode cX11_setsAll 88 = .ok (.iload 4, 2) := by decide +kernel
theorem dX11_setsAll_90 : decode cX11_setsAll 90 = .ok (.invokevirtual 286, 3) := by decide +kernel
theorem dX11_setsAll_93 : decode cX11_setsAll 93 = .ok (.istore 5, 2) := by decide +kernel
theorem dX11_setsAll_95 : decode cX11_setsAll 95 = .ok (.iload 5, 2) := by decide +kernel
theorem dX11_setsAll_97 : decode cX11_setsAll 97 = .ok (.bipush (-9), 2) := by decide +kernel
theorem dX11_setsAll_99 : decode cX11_setsAll 99 = .ok (.if_icmp .eq 11, 3) := by decide +kernel
theorem dX11_setsAll_102 : decode cX11_setsAll 102 = .ok (.aload_n 0, 1) := by decide +kernel
theorem dX11_setsAll_103 : decode cX11_setsAll 103 = .ok (.iload 4, 2) := by decide +kernel
theorem dX11_setsAll_105 : decode cX11_setsAll 105 = .ok (.iload 5, 2) := by decide +kernel
theorem dX11_setsAll_107 : decode cX11_setsAll 107 = .ok (.invokevirtual 289, 3) := by decide +kernel
theorem dX11_setsAll_110 : decode cX11_setsAll 110 = .ok (.iinc 3 1, 3) := by decide +kernel
theorem dX11_setsAll_113 : decode cX11_setsAll 113 = .ok (.goto (-105), 3) := by decide +kernel
theorem dX11_setsAll_116 : decode cX11_setsAll 116 = .ok (.return_, 1) := by decide +kernel
theorem dX11_remember_0 : decode cX11_remember 0 = .ok (.iconst 0, 1) := by decide +kernel
theorem dX11_remember_1 : decode cX11_remember 1 = .ok (.istore_n 1, 1) := by decide +kernel
theorem dX11_remember_2 : decode cX11_remember 2 = .ok (.iload_n 1, 1) := by decide +kernel
theorem dX11_remember_3 : decode cX11_remember 3 = .ok (.bipush 33, 2) := by decide +kernel
theorem dX11_remember_5 : decode cX11_remember 5 = .ok (.if_icmp .ge 29, 3) := by decide +kernel
theorem dX11_remember_8 : decode cX11_remember 8 = .ok (.aload_n 0, 1) := by decide +kernel
theorem dX11_remember_9 : decode cX11_remember 9 = .ok (.getfield 56, 3) := by decide +kernel
theorem dX11_remember_12 : decode cX11_remember 12 = .ok (.bipush 33, 2) := by decide +kernel
theorem dX11_remember_14 : decode cX11_remember 14 = .ok (.aload_n 0, 1) := by decide +kernel
theorem dX11_remember_15 : decode cX11_remember 15 = .ok (.getfield 185, 3) := by decide +kernel
theorem dX11_remember_18 : decode cX11_remember 18 = .ok (.imul, 1) := by decide +kernel
theorem dX11_remember_19 : decode cX11_remember 19 = .ok (.iload_n 1, 1) := by decide +kernel
theorem dX11_remember_20 : decode cX11_remember 20 = .ok (.iadd, 1) := by decide +kernel
theorem dX11_remember_21 : decode cX11_remember 21 = .ok (.aload_n 0, 1) := by decide +kernel
theorem dX11_remember_22 : decode cX11_remember 22 = .ok (.getfield 35, 3) := by decide +kernel
theorem dX11_remember_25 : decode cX11_remember 25 = .ok (.iload_n 1, 1) := by decide +kernel
theorem dX11_remember_26 : decode cX11_remember 26 = .ok (.iaload, 1) := by decide +kernel
theorem dX11_remember_27 : decode cX11_remember 27 = .ok (.iastore, 1) := by decide +kernel
theorem dX11_remember_28 : decode cX11_remember 28 = .ok (.iinc 1 1, 3) := by decide +kernel
theorem dX11_remember_31 : decode cX11_remember 31 = .ok (.goto (-29), 3) := by decide +kernel
theorem dX11_remember_34 : decode cX11_remember 34 = .ok (.aload_n 0, 1) := by decide +kernel
theorem dX11_remember_35 : decode cX11_remember 35 = .ok (.dup, 1) := by decide +kernel
theorem dX11_remember_36 : decode cX11_remember 36 = .ok (.getfield 185, 3) := by decide +kernel
theorem dX11_remember_39 : decode cX11_remember 39 = .ok (.iconst 1, 1) := by decide +kernel
theorem dX11_remember_40 : decode cX11_remember 40 = .ok (.iadd, 1) := by decide +kernel
theorem dX11_remember_41 : decode cX11_remember 41 = .ok (.putfield 185, 3) := by decide +kernel
theorem dX11_remember_44 : decode cX11_remember 44 = .ok (.return_, 1) := by decide +kernel
theorem dX11_undo_0 : decode cX11_undo 0 = .ok (.iload_n 1, 1) := by decide +kernel
theorem dX11_undo_1 : decode cX11_undo 1 = .ok (.iconst 0, 1) := by decide +kernel
theorem dX11_undo_2 : decode cX11_undo 2 = .ok (.aload_n 0, 1) := by decide +kernel
theorem dX11_undo_3 : decode cX11_undo 3 = .ok (.getfield 185, 3) := by decide +kernel
theorem dX11_undo_6 : decode cX11_undo 6 = .ok (.invokestatic 75, 3) := by decide +kernel
theorem dX11_undo_9 : decode cX11_undo 9 = .ok (.ifCond .ne 5, 3) := by decide +kernel
theorem dX11_undo_12 : decode cX11_undo 12 = .ok (.iconst (-1), 1) := by decide +kernel
theorem dX11_undo_13 : decode cX11_undo 13 = .ok (.ireturn, 1) := by decide +kernel
theorem dX11_undo_14 : decode cX11_undo 14 = .ok (.aload_n 0, 1) := by decide +kernel
theorem dX11_undo_15 : decode cX11_undo 15 = .ok (.getfield 185, 3) := by decide +kernel
theorem dX11_undo_18 : decode cX11_undo 18 = .ok (.iload_n 1, 1) := by decide +kernel
theorem dX11_undo_19 : decode cX11_undo 19 = .ok (.isub, 1) := by decide +kernel
theorem dX11_undo_20 : decode cX11_undo 20 = .ok (.istore_n 2, 1) := by decide +kernel
theorem dX11_undo_21 : decode cX11_undo 21 = .ok (.iconst 0, 1) := by decide +kernel
theorem dX11_undo_22 : decode cX11_undo 22 = .ok (.istore_n 3, 1) := by decide +kernel
theorem dX11_undo_23 : decode cX11_undo 23 = .ok (.iload_n 3, 1) := by decide +kernel
theorem dX11_undo_24 : decode cX11_undo 24 = .ok (.bipush 33, 2) := by decide +kernel
theorem dX11_undo_26 : decode cX11_undo 26 = .ok (.if_icmp .ge 30, 3) := by decide +kernel
theorem dX11_undo_29 : decode cX11_undo 29 = .ok (.iload_n 2, 1) := by decide +kernel
theorem dX11_undo_30 : decode cX11_undo 30 = .ok (.ifCond .le 26, 3) := by decide +kernel
theorem dX11_undo_33 : decode cX11_undo 33 = .ok (.aload_n 0, 1) := by decide +kernel
theorem dX11_undo_34 : decode cX11_undo 34 = .ok (.getfield 35, 3) := by decide +kernel
theorem dX11_undo_37 : decode cX11_undo 37 = .ok (.iload_n 3, 1) := by decide +kernel
theorem dX11_undo_38 : decode cX11_undo 38 = .ok (.aload_n 0, 1) := by decide +kernel
theorem dX11_undo_39 : decode cX11_undo 39 = .ok (.getfield 56, 3) := by decide +kernel
theorem dX11_undo_42 : decode cX11_undo 42 = .ok (.bipush 33, 2) := by decide +kernel
theorem dX11_undo_44 : decode cX11_undo 44 = .ok (.iload_n 1, 1) := by decide +kernel
theorem dX11_undo_45 : decode cX11_undo 45 = .ok (.imul, 1) := by decide +kernel
theorem dX11_undo_46 : decode cX11_undo 46 = .ok (.iload_n 3, 1) := by decide +kernel
theorem dX11_undo_47 : decode cX11_undo 47 = .ok (.iadd, 1) := by decide +kernel
theorem dX11_undo_48 : decode cX11_undo 48 = .ok (.iaload, 1) := by decide +kernel
theorem dX11_undo_49 : decode cX11_undo 49 = .ok (.iastore, 1) := by decide +kernel
theorem dX11_undo_50 : decode cX11_undo 50 = .ok (.iinc 3 1, 3) := by decide +kernel
theorem dX11_undo_53 : decode cX11_undo 53 = .ok (.goto (-30), 3) := by decide +kernel
theorem dX11_undo_56 : decode cX11_undo 56 = .ok (.aload_n 0, 1) := by decide +kernel
theorem dX11_undo_57 : decode cX11_undo 57 = .ok (.iload_n 1, 1) := by decide +kernel
theorem dX11_undo_58 : decode cX11_undo 58 = .ok (.putfield 185, 3) := by decide +kernel
theorem dX11_undo_61 : decode cX11_undo 61 = .ok (.iload_n 2, 1) := by decide +kernel
theorem dX11_undo_62 : decode cX11_undo 62 = .ok (.ireturn, 1) := by decide +kernel
theorem dX11_keep_0 : decode cX11_keep 0 = .ok (.iload_n 1, 1) := by decide +kernel
theorem dX11_keep_1 : decode cX11_keep 1 = .ok (.iconst 0, 1) := by decide +kernel
theorem dX11_keep_2 : decode cX11_keep 2 = .ok (.iconst 2, 1) := by decide +kernel
theorem dX11_keep_3 : decode cX11_keep 3 = .ok (.invokestatic 75, 3) := by decide +kernel
theorem dX11_keep_6 : decode cX11_keep 6 = .ok (.ifCond .ne 5, 3) := by decide +kernel
theorem dX11_keep_9 : decode cX11_keep 9 = .ok (.iconst (-1), 1) := by decide +kernel
theorem dX11_keep_10 : decode cX11_keep 10 = .ok (.ireturn, 1) := by decide +kernel
theorem dX11_keep_11 : decode cX11_keep 11 = .ok (.aload_n 0, 1) := by decide +kernel
theorem dX11_keep_12 : decode cX11_keep 12 = .ok (.getfield 179, 3) := by decide +kernel
theorem dX11_keep_15 : decode cX11_keep 15 = .ok (.ifCond .ne 6, 3) := by decide +kernel
theorem dX11_keep_18 : decode cX11_keep 18 = .ok (.bipush (-4), 2) := by decide +kernel
theorem dX11_keep_20 : decode cX11_keep 20 = .ok (.ireturn, 1) := by decide +kernel
theorem dX11_keep_21 : decode cX11_keep 21 = .ok (.aload_n 0, 1) := by decide +kernel
theorem dX11_keep_22 : decode cX11_keep 22 = .ok (.getfield 59, 3) := by decide +kernel
theorem dX11_keep_25 : decode cX11_keep 25 = .ok (.iload_n 1, 1) := by decide +kernel
theorem dX11_keep_26 : decode cX11_keep 26 = .ok (.aload_n 0, 1) := by decide +kernel
theorem dX11_keep_27 : decode cX11_keep 27 = .ok (.getfield 185, 3) := by decide +kernel
theorem dX11_keep_30 : decode cX11_keep 30 = .ok (.iastore, 1) := by decide +kernel
theorem dX11_keep_31 : decode cX11_keep 31 = .ok (.iconst 0, 1) := by decide +kernel
theorem dX11_keep_32 : decode cX11_keep 32 = .ok (.istore_n 2, 1) := by decide +kernel
theorem dX11_keep_33 : decode cX11_keep 33 = .ok (.iload_n 2, 1) := by decide +kernel
theorem dX11_keep_34 : decode cX11_keep 34 = .ok (.bipush 33, 2) := by decide +kernel
theorem dX11_keep_36 : decode cX11_keep 36 = .ok (.if_icmp .ge 27, 3) := by decide +kernel
theorem dX11_keep_39 : decode cX11_keep 39 = .ok (.aload_n 0, 1) := by decide +kernel
theorem dX11_keep_40 : decode cX11_keep 40 = .ok (.getfield 62, 3) := by decide +kernel
theorem dX11_keep_43 : decode cX11_keep 43 = .ok (.sipush 1353, 3) := by decide +kernel
theorem dX11_keep_46 : decode cX11_keep 46 = .ok (.iload_n 1, 1) := by decide +kernel
theorem dX11_keep_47 : decode cX11_keep 47 = .ok (.imul, 1) := by decide +kernel
theorem dX11_keep_48 : decode cX11_keep 48 = .ok (.iload_n 2, 1) := by decide +kernel
theorem dX11_keep_49 : decode cX11_keep 49 = .ok (.iadd, 1) := by decide +kernel
theorem dX11_keep_50 : decode cX11_keep 50 = .ok (.aload_n 0, 1) := by decide +kernel
theorem dX11_keep_51 : decode cX11_keep 51 = .ok (.getfield 35, 3) := by decide +kernel
theorem dX11_keep_54 : decode cX11_keep 54 = .ok (.iload_n 2, 1) := by decide +kernel
theorem dX11_keep_55 : decode cX11_keep 55 = .ok (.iaload, 1) := by decide +kernel
theorem dX11_keep_56 : decode cX11_keep 56 = .ok (.iastore, 1) := by decide +kernel
theorem dX11_keep_57 : decode cX11_keep 57 = .ok (.iinc 2 1, 3) := by decide +kernel
theorem dX11_keep_60 : decode cX11_keep 60 = .ok (.goto (-27), 3) := by decide +kernel
theorem dX11_keep_63 : decode cX11_keep 63 = .ok (.iconst 0, 1) := by decide +kernel
theorem dX11_keep_64 : decode cX11_keep 64 = .ok (.istore_n 2, 1) := by decide +kernel
theorem dX11_keep_65 : decode cX11_keep 65 = .ok (.iload_n 2, 1) := by decide +kernel
theorem dX11_keep_66 : decode cX11_keep 66 = .ok (.bipush 33, 2) := by decide +kernel
theorem dX11_keep_68 : decode cX11_keep 68 = .ok (.aload_n 0, 1) := by decide +kernel
theorem dX11_keep_69 : decode cX11_keep 69 = .ok (.getfield 185, 3) := by decide +kernel
theorem dX11_keep_72 : decode cX11_keep 72 = .ok (.imul, 1) := by decide +kernel
theorem dX11_keep_73 : decode cX11_keep 73 = .ok (.if_icmp .ge 30, 3) := by decide +kernel
theorem dX11_keep_76 : decode cX11_keep 76 = .ok (.aload_n 0, 1) := by decide +kernel
theorem dX11_keep_77 : decode cX11_keep 77 = .ok (.getfield 62, 3) := by decide +kernel
theorem dX11_keep_80 : decode cX11_keep 80 = .ok (.sipush 1353, 3) := by decide +kernel
theorem dX11_keep_83 : decode cX11_keep 83 = .ok (.iload_n 1, 1) := by decide +kernel
theorem dX11_keep_84 : decode cX11_keep 84 = .ok (.imul, 1) := by decide +kernel
theorem dX11_keep_85 : decode cX11_keep 85 = .ok (.bipush 33, 2) := by decide +kernel
theorem dX11_keep_87 : decode cX11_keep 87 = .ok (.iadd, 1) := by decide +kernel
theorem dX11_keep_88 : decode cX11_keep 88 = .ok (.iload_n 2, 1) := by decide +kernel
theorem dX11_keep_89 : decode cX11_keep 89 = .ok (.iadd, 1) := by decide +kernel
theorem dX11_keep_90 : decode cX11_keep 90 = .ok (.aload_n 0, 1) := by decide +kernel
theorem dX11_keep_91 : decode cX11_keep 91 = .ok (.getfield 56, 3) := by decide +kernel
theorem dX11_keep_94 : decode cX11_keep 94 = .ok (.iload_n 2, 1) := by decide +kernel
theorem dX11_keep_95 : decode cX11_keep 95 = .ok (.iaload, 1) := by decide +kernel
theorem dX11_keep_96 : decode cX11_keep 96 = .ok (.iastore, 1) := by decide +kernel
theorem dX11_keep_97 : decode cX11_keep 97 = .ok (.iinc 2 1, 3) := by decide +kernel
theorem dX11_keep_100 : decode cX11_keep 100 = .ok (.goto (-35), 3) := by decide +kernel
theorem dX11_keep_103 : decode cX11_keep 103 = .ok (.aload_n 0, 1) := by decide +kernel
theorem dX11_keep_104 : decode cX11_keep 104 = .ok (.getfield 185, 3) := by decide +kernel
theorem dX11_keep_107 : decode cX11_keep 107 = .ok (.ireturn, 1) := by decide +kernel
theorem dX11_on_0 : decode cX11_on 0 = .ok (.iload_n 1, 1) := by decide +kernel
theorem dX11_on_1 : decode cX11_on 1 = .ok (.iconst 0, 1) := by decide +kernel
theorem dX11_on_2 : decode cX11_on 2 = .ok (.iconst 2, 1) := by decide +kernel
theorem dX11_on_3 : decode cX11_on 3 = .ok (.invokestatic 75, 3) := by decide +kernel
theorem dX11_on_6 : decode cX11_on 6 = .ok (.ifCond .ne 5, 3) := by decide +kernel
theorem dX11_on_9 : decode cX11_on 9 = .ok (.iconst (-1), 1) := by decide +kernel
theorem dX11_on_10 : decode cX11_on 10 = .ok (.ireturn, 1) := by decide +kernel
theorem dX11_on_11 : decode cX11_on 11 = .ok (.aload_n 0, 1) := by decide +kernel
theorem dX11_on_12 : decode cX11_on 12 = .ok (.getfield 59, 3) := by decide +kernel
theorem dX11_on_15 : decode cX11_on 15 = .ok (.iload_n 1, 1) := by decide +kernel
theorem dX11_on_16 : decode cX11_on 16 = .ok (.iaload, 1) := by decide +kernel
theorem dX11_on_17 : decode cX11_on 17 = .ok (.ifCond .ge 9, 3) := by decide +kernel
theorem dX11_on_20 : decode cX11_on 20 = .ok (.aload_n 0, 1) := by decide +kernel
theorem dX11_on_21 : decode cX11_on 21 = .ok (.iconst 1, 1) := by decide +kernel
theorem dX11_on_22 : decode cX11_on 22 = .ok (.invokevirtual 83, 3) := by decide +kernel
theorem dX11_on_25 : decode cX11_on 25 = .ok (.ireturn, 1) := by decide +kernel
theorem dX11_on_26 : decode cX11_on 26 = .ok (.aload_n 0, 1) := by decide +kernel
theorem dX11_on_27 : decode cX11_on 27 = .ok (.aload_n 0, 1) := by decide +kernel
theorem dX11_on_28 : decode cX11_on 28 = .ok (.getfield 59, 3) := by decide +kernel
theorem dX11_on_31 : decode cX11_on 31 = .ok (.iload_n 1, 1) := by decide +kernel
theorem dX11_on_32 : decode cX11_on 32 = .ok (.iaload, 1) := by decide +kernel
theorem dX11_on_33 : decode cX11_on 33 = .ok (.putfield 185, 3) := by decide +kernel
theorem dX11_on_36 : decode cX11_on 36 = .ok (.iconst 0, 1) := by decide +kernel
theorem dX11_on_37 : decode cX11_on 37 = .ok (.istore_n 2, 1) := by decide +kernel
theorem dX11_on_38 : decode cX11_on 38 = .ok (.iload_n 2, 1) := by decide +kernel
theorem dX11_on_39 : decode cX11_on 39 = .ok (.bipush 33, 2) := by decide +kernel
theorem dX11_on_41 : decode cX11_on 41 = .ok (.if_icmp .ge 27, 3) := by decide +kernel
theorem dX11_on_44 : decode cX11_on 44 = .ok (.aload_n 0, 1) := by decide +kernel
theorem dX11_on_45 : decode cX11_on 45 = .ok (.getfield 35, 3) := by decide +kernel
theorem dX11_on_48 : decode cX11_on 48 = .ok (.iload_n 2, 1) := by decide +kernel
theorem dX11_on_49 : decode cX11_on 49 = .ok (.aload_n 0, 1) := by decide +kernel
theorem dX11_on_50 : decode cX11_on 50 = .ok (.getfield 62, 3) := by decide +kernel
theorem dX11_on_53 : decode cX11_on 53 = .ok (.sipush 1353, 3) := by decide +kernel
theorem dX11_on_56 : decode cX11_on 56 = .ok (.iload_n 1, 1) := by decide +kernel
theorem dX11_on_57 : decode cX11_on 57 = .ok (.imul, 1) := by decide +kernel
theorem dX11_on_58 : decode cX11_on 58 = .ok (.iload_n 2, 1) := by decide +kernel
theorem dX11_on_59 : decode cX11_on 59 = .ok (.iadd, 1) := by decide +kernel
theorem dX11_on_60 : decode cX11_on 60 = .ok (.iaload, 1) := by decide +kernel
theorem dX11_on_61 : decode cX11_on 61 = .ok (.iastore, 1) := by decide +kernel
theorem dX11_on_62 : decode cX11_on 62 = .ok (.iinc 2 1, 3) := by decide +kernel
theorem dX11_on_65 : decode cX11_on 65 = .ok (.goto (-27), 3) := by decide +kernel
theorem dX11_on_68 : decode cX11_on 68 = .ok (.iconst 0, 1) := by decide +kernel
theorem dX11_on_69 : decode cX11_on 69 = .ok (.istore_n 2, 1) := by decide +kernel
theorem dX11_on_70 : decode cX11_on 70 = .ok (.iload_n 2, 1) := by decide +kernel
theorem dX11_on_71 : decode cX11_on 71 = .ok (.bipush 33, 2) := by decide +kernel
theorem dX11_on_73 : decode cX11_on 73 = .ok (.aload_n 0, 1) := by decide +kernel
theorem dX11_on_74 : decode cX11_on 74 = .ok (.getfield 185, 3) := by decide +kernel
theorem dX11_on_77 : decode cX11_on 77 = .ok (.imul, 1) := by decide +kernel
theorem dX11_on_78 : decode cX11_on 78 = .ok (.if_icmp .ge 30, 3) := by decide +kernel
theorem dX11_on_81 : decode cX11_on 81 = .ok (.aload_n 0, 1) := by decide +kernel
theorem dX11_on_82 : decode cX11_on 82 = .ok (.getfield 56, 3) := by decide +kernel
theorem dX11_on_85 : decode cX11_on 85 = .ok (.iload_n 2, 1) := by decide +kernel
theorem dX11_on_86 : decode cX11_on 86 = .ok (.aload_n 0, 1) := by decide +kernel
theorem dX11_on_87 : decode cX11_on 87 = .ok (.getfield 62, 3) := by decide +kernel
theorem dX11_on_90 : decode cX11_on 90 = .ok (.sipush 1353, 3) := by decide +kernel
theorem dX11_on_93 : decode cX11_on 93 = .ok (.iload_n 1, 1) := by decide +kernel
theorem dX11_on_94 : decode cX11_on 94 = .ok (.imul, 1) := by decide +kernel
theorem dX11_on_95 : decode cX11_on 95 = .ok (.bipush 33, 2) := by decide +kernel
theorem dX11_on_97 : decode cX11_on 97 = .ok (.iadd, 1) := by decide +kernel
theorem dX11_on_98 : decode cX11_on 98 = .ok (.iload_n 2, 1) := by decide +kernel
theorem dX11_on_99 : decode cX11_on 99 = .ok (.iadd, 1) := by decide +kernel
theorem dX11_on_100 : decode cX11_on 100 = .ok (.iaload, 1) := by decide +kernel
theorem dX11_on_101 : decode cX11_on 101 = .ok (.iastore, 1) := by decide +kernel
theorem dX11_on_102 : decode cX11_on 102 = .ok (.iinc 2 1, 3) := by decide +kernel
theorem dX11_on_105 : decode cX11_on 105 = .ok (.goto (-35), 3) := by decide +kernel
theorem dX11_on_108 : decode cX11_on 108 = .ok (.aload_n 0, 1) := by decide +kernel
theorem dX11_on_109 : decode cX11_on 109 = .ok (.getfield 185, 3) := by decide +kernel
theorem dX11_on_112 : decode cX11_on 112 = .ok (.ireturn, 1) := by decide +kernel
theorem dX11_set_0 : decode cX11_set 0 = .ok (.aload_n 0, 1) := by decide +kernel
theorem dX11_set_1 : decode cX11_set 1 = .ok (.iload_n 1, 1) := by decide +kernel
theorem dX11_set_2 : decode cX11_set 2 = .ok (.invokevirtual 223, 3) := by decide +kernel
theorem dX11_set_5 : decode cX11_set 5 = .ok (.ifCond .ne 5, 3) := by decide +kernel
theorem dX11_set_8 : decode cX11_set 8 = .ok (.iconst (-1), 1) := by decide +kernel
theorem dX11_set_9 : decode cX11_set 9 = .ok (.ireturn, 1) := by decide +kernel
theorem dX11_set_10 : decode cX11_set 10 = .ok (.aload_n 0, 1) := by decide +kernel
theorem dX11_set_11 : decode cX11_set 11 = .ok (.iload_n 1, 1) := by decide +kernel
theorem dX11_set_12 : decode cX11_set 12 = .ok (.invokevirtual 232, 3) := by decide +kernel
theorem dX11_set_15 : decode cX11_set 15 = .ok (.ifCond .eq 6, 3) := by decide +kernel
theorem dX11_set_18 : decode cX11_set 18 = .ok (.bipush (-4), 2) := by decide +kernel
theorem dX11_set_20 : decode cX11_set 20 = .ok (.ireturn, 1) := by decide +kernel
theorem dX11_set_21 : decode cX11_set 21 = .ok (.aload_n 0, 1) := by decide +kernel
theorem dX11_set_22 : decode cX11_set 22 = .ok (.iload_n 1, 1) := by decide +kernel
theorem dX11_set_23 : decode cX11_set 23 = .ok (.invokevirtual 286, 3) := by decide +kernel
theorem dX11_set_26 : decode cX11_set 26 = .ok (.istore_n 2, 1) := by decide +kernel
theorem dX11_set_27 : decode cX11_set 27 = .ok (.iload_n 2, 1) := by decide +kernel
theorem dX11_set_28 : decode cX11_set 28 = .ok (.bipush (-9), 2) := by decide +kernel
theorem dX11_set_30 : decode cX11_set 30 = .ok (.if_icmp .ne 6, 3) := by decide +kernel
theorem dX11_set_33 : decode cX11_set 33 = .ok (.bipush (-6), 2) := by decide +kernel
theorem dX11_set_35 : decode cX11_set 35 = .ok (.ireturn, 1) := by decide +kernel
theorem dX11_set_36 : decode cX11_set 36 = .ok (.aload_n 0, 1) := by decide +kernel
theorem dX11_set_37 : decode cX11_set 37 = .ok (.getfield 185, 3) := by decide +kernel
theorem dX11_set_40 : decode cX11_set 40 = .ok (.bipush 40, 2) := by decide +kernel
theorem dX11_set_42 : decode cX11_set 42 = .ok (.if_icmp .ne 6, 3) := by decide +kernel
theorem dX11_set_45 : decode cX11_set 45 = .ok (.bipush (-2), 2) := by decide +kernel
theorem dX11_set_47 : decode cX11_set 47 = .ok (.ireturn, 1) := by decide +kernel
theorem dX11_set_48 : decode cX11_set 48 = .ok (.aload_n 0, 1) := by decide +kernel
theorem dX11_set_49 : decode cX11_set 49 = .ok (.invokevirtual 293, 3) := by decide +kernel
theorem dX11_set_52 : decode cX11_set 52 = .ok (.aload_n 0, 1) := by decide +kernel
theorem dX11_set_53 : decode cX11_set 53 = .ok (.iload_n 1, 1) := by decide +kernel
theorem dX11_set_54 : decode cX11_set 54 = .ok (.iload_n 2, 1) := by decide +kernel
theorem dX11_set_55 : decode cX11_set 55 = .ok (.invokevirtual 289, 3) := by decide +kernel
theorem dX11_set_58 : decode cX11_set 58 = .ok (.iload_n 2, 1) := by decide +kernel
theorem dX11_set_59 : decode cX11_set 59 = .ok (.ireturn, 1) := by decide +kernel
theorem dX11_lift_0 : decode cX11_lift 0 = .ok (.aload_n 0, 1) := by decide +kernel
theorem dX11_lift_1 : decode cX11_lift 1 = .ok (.iload_n 1, 1) := by decide +kernel
theorem dX11_lift_2 : decode cX11_lift 2 = .ok (.invokevirtual 223, 3) := by decide +kernel
theorem dX11_lift_5 : decode cX11_lift 5 = .ok (.ifCond .ne 5, 3) := by decide +kernel
theorem dX11_lift_8 : decode cX11_lift 8 = .ok (.iconst (-1), 1) := by decide +kernel
theorem dX11_lift_9 : decode cX11_lift 9 = .ok (.ireturn, 1) := by decide +kernel
theorem dX11_lift_10 : decode cX11_lift 10 = .ok (.aload_n 0, 1) := by decide +kernel
theorem dX11_lift_11 : decode cX11_lift 11 = .ok (.iload_n 1, 1) := by decide +kernel
theorem dX11_lift_12 : decode cX11_lift 12 = .ok (.invokevirtual 232, 3) := by decide +kernel
theorem dX11_lift_15 : decode cX11_lift 15 = .ok (.ifCond .ne 6, 3) := by decide +kernel
theorem dX11_lift_18 : decode cX11_lift 18 = .ok (.bipush (-4), 2) := by decide +kernel
theorem dX11_lift_20 : decode cX11_lift 20 = .ok (.ireturn, 1) := by decide +kernel
theorem dX11_lift_21 : decode cX11_lift 21 = .ok (.aload_n 0, 1) := by decide +kernel
theorem dX11_lift_22 : decode cX11_lift 22 = .ok (.getfield 185, 3) := by decide +kernel
theorem dX11_lift_25 : decode cX11_lift 25 = .ok (.bipush 40, 2) := by decide +kernel
theorem dX11_lift_27 : decode cX11_lift 27 = .ok (.if_icmp .ne 6, 3) := by decide +kernel
theorem dX11_lift_30 : decode cX11_lift 30 = .ok (.bipush (-2), 2) := by decide +kernel
theorem dX11_lift_32 : decode cX11_lift 32 = .ok (.ireturn, 1) := by decide +kernel
theorem dX11_lift_33 : decode cX11_lift 33 = .ok (.aload_n 0, 1) := by decide +kernel
theorem dX11_lift_34 : decode cX11_lift 34 = .ok (.invokevirtual 293, 3) := by decide +kernel
theorem dX11_lift_37 : decode cX11_lift 37 = .ok (.aload_n 0, 1) := by decide +kernel
theorem dX11_lift_38 : decode cX11_lift 38 = .ok (.iload_n 1, 1) := by decide +kernel
theorem dX11_lift_39 : decode cX11_lift 39 = .ok (.invokevirtual 296, 3) := by decide +kernel
theorem dX11_lift_42 : decode cX11_lift 42 = .ok (.aload_n 0, 1) := by decide +kernel
theorem dX11_lift_43 : decode cX11_lift 43 = .ok (.invokevirtual 270, 3) := by decide +kernel
theorem dX11_lift_46 : decode cX11_lift 46 = .ok (.ireturn, 1) := by decide +kernel
theorem dX11_all_0 : decode cX11_all 0 = .ok (.iload_n 1, 1) := by decide +kernel
theorem dX11_all_1 : decode cX11_all 1 = .ok (.iconst 0, 1) := by decide +kernel
theorem dX11_all_2 : decode cX11_all 2 = .ok (.iconst 2, 1) := by decide +kernel
theorem dX11_all_3 : decode cX11_all 3 = .ok (.invokestatic 75, 3) := by decide +kernel
theorem dX11_all_6 : decode cX11_all 6 = .ok (.ifCond .eq 10, 3) := by decide +kernel
theorem dX11_all_9 : decode cX11_all 9 = .ok (.aload_n 0, 1) := by decide +kernel
theorem dX11_all_10 : decode cX11_all 10 = .ok (.getfield 179, 3) := by decide +kernel
theorem dX11_all_13 : decode cX11_all 13 = .ok (.ifCond .ne 5, 3) := by decide +kernel
theorem dX11_all_16 : decode cX11_all 16 = .ok (.iconst (-1), 1) := by decide +kernel
theorem dX11_all_17 : decode cX11_all 17 = .ok (.ireturn, 1) := by decide +kernel
theorem dX11_all_18 : decode cX11_all 18 = .ok (.aload_n 0, 1) := by decide +kernel
theorem dX11_all_19 : decode cX11_all 19 = .ok (.getfield 185, 3) := by decide +kernel
theorem dX11_all_22 : decode cX11_all 22 = .ok (.bipush 40, 2) := by decide +kernel
theorem dX11_all_24 : decode cX11_all 24 = .ok (.if_icmp .ne 6, 3) := by decide +kernel
theorem dX11_all_27 : decode cX11_all 27 = .ok (.bipush (-2), 2) := by decide +kernel
theorem dX11_all_29 : decode cX11_all 29 = .ok (.ireturn, 1) := by decide +kernel
theorem dX11_all_30 : decode cX11_all 30 = .ok (.aload_n 0, 1) := by decide +kernel
theorem dX11_all_31 : decode cX11_all 31 = .ok (.invokevirtual 293, 3) := by decide +kernel
theorem dX11_all_34 : decode cX11_all 34 = .ok (.aload_n 0, 1) := by decide +kernel
theorem dX11_all_35 : decode cX11_all 35 = .ok (.iload_n 1, 1) := by decide +kernel
theorem dX11_all_36 : decode cX11_all 36 = .ok (.invokevirtual 299, 3) := by decide +kernel
theorem dX11_all_39 : decode cX11_all 39 = .ok (.aload_n 0, 1) := by decide +kernel
theorem dX11_all_40 : decode cX11_all 40 = .ok (.invokevirtual 270, 3) := by decide +kernel
theorem dX11_all_43 : decode cX11_all 43 = .ok (.ireturn, 1) := by decide +kernel
theorem dX11_rule_0 : decode cX11_rule 0 = .ok (.iload_n 1, 1) := by decide +kernel
theorem dX11_rule_1 : decode cX11_rule 1 = .ok (.iconst 0, 1) := by decide +kernel
theorem dX11_rule_2 : decode cX11_rule 2 = .ok (.iconst 3, 1) := by decide +kernel
theorem dX11_rule_3 : decode cX11_rule 3 = .ok (.invokestatic 75, 3) := by decide +kernel
theorem dX11_rule_6 : decode cX11_rule 6 = .ok (.ifCond .ne 5, 3) := by decide +kernel
theorem dX11_rule_9 : decode cX11_rule 9 = .ok (.iconst (-1), 1) := by decide +kernel
theorem dX11_rule_10 : decode cX11_rule 10 = .ok (.ireturn, 1) := by decide +kernel
theorem dX11_rule_11 : decode cX11_rule 11 = .ok (.aload_n 0, 1) := by decide +kernel
theorem dX11_rule_12 : decode cX11_rule 12 = .ok (.getfield 35, 3) := by decide +kernel
theorem dX11_rule_15 : decode cX11_rule 15 = .ok (.bipush 32, 2) := by decide +kernel
theorem dX11_rule_17 : decode cX11_rule 17 = .ok (.iaload, 1) := by decide +kernel
theorem dX11_rule_18 : decode cX11_rule 18 = .ok (.istore_n 2, 1) := by decide +kernel
theorem dX11_rule_19 : decode cX11_rule 19 = .ok (.aload_n 0, 1) := by decide +kernel
theorem dX11_rule_20 : decode cX11_rule 20 = .ok (.getfield 179, 3) := by decide +kernel
theorem dX11_rule_23 : decode cX11_rule 23 = .ok (.ifCond .eq 8, 3) := by decide +kernel
theorem dX11_rule_26 : decode cX11_rule 26 = .ok (.iload_n 2, 1) := by decide +kernel
theorem dX11_rule_27 : decode cX11_rule 27 = .ok (.iload_n 1, 1) := by decide +kernel
theorem dX11_rule_28 : decode cX11_rule 28 = .ok (.if_icmp .ne 6, 3) := by decide +kernel
theorem dX11_rule_31 : decode cX11_rule 31 = .ok (.bipush (-4), 2) := by decide +kernel
theorem dX11_rule_33 : decode cX11_rule 33 = .ok (.ireturn, 1) := by decide +kernel
theorem dX11_rule_34 : decode cX11_rule 34 = .ok (.aload_n 0, 1) := by decide +kernel
theorem dX11_rule_35 : decode cX11_rule 35 = .ok (.getfield 185, 3) := by decide +kernel
theorem dX11_rule_38 : decode cX11_rule 38 = .ok (.bipush 40, 2) := by decide +kernel
theorem dX11_rule_40 : decode cX11_rule 40 = .ok (.if_icmp .ne 6, 3) := by decide +kernel
theorem dX11_rule_43 : decode cX11_rule 43 = .ok (.bipush (-2), 2) := by decide +kernel
theorem dX11_rule_45 : decode cX11_rule 45 = .ok (.ireturn, 1) := by decide +kernel
theorem dX11_rule_46 : decode cX11_rule 46 = .ok (.aload_n 0, 1) := by decide +kernel
theorem dX11_rule_47 : decode cX11_rule 47 = .ok (.invokevirtual 293, 3) := by decide +kernel
theorem dX11_rule_50 : decode cX11_rule 50 = .ok (.aload_n 0, 1) := by decide +kernel
theorem dX11_rule_51 : decode cX11_rule 51 = .ok (.getfield 35, 3) := by decide +kernel
theorem dX11_rule_54 : decode cX11_rule 54 = .ok (.bipush 32, 2) := by decide +kernel
theorem dX11_rule_56 : decode cX11_rule 56 = .ok (.iload_n 1, 1) := by decide +kernel
theorem dX11_rule_57 : decode cX11_rule 57 = .ok (.iastore, 1) := by decide +kernel
theorem dX11_rule_58 : decode cX11_rule 58 = .ok (.iload_n 2, 1) := by decide +kernel
theorem dX11_rule_59 : decode cX11_rule 59 = .ok (.ireturn, 1) := by decide +kernel
theorem dX11_isPage_0 : decode cX11_isPage 0 = .ok (.iload_n 1, 1) := by decide +kernel
theorem dX11_isPage_1 : decode cX11_isPage 1 = .ok (.iconst 0, 1) := by decide +kernel
theorem dX11_isPage_2 : decode cX11_isPage 2 = .ok (.aload_n 0, 1) := by decide +kernel
theorem dX11_isPage_3 : decode cX11_isPage 3 = .ok (.invokevirtual 270, 3) := by decide +kernel
theorem dX11_isPage_6 : decode cX11_isPage 6 = .ok (.iconst 1, 1) := by decide +kernel
theorem dX11_isPage_7 : decode cX11_isPage 7 = .ok (.isub, 1) := by decide +kernel
theorem dX11_isPage_8 : decode cX11_isPage 8 = .ok (.invokestatic 75, 3) := by decide +kernel
theorem dX11_isPage_11 : decode cX11_isPage 11 = .ok (.ireturn, 1) := by decide +kernel
theorem dX11_free_0 : decode cX11_free 0 = .ok (.aload_n 0, 1) := by decide +kernel
theorem dX11_free_1 : decode cX11_free 1 = .ok (.iload_n 1, 1) := by decide +kernel
theorem dX11_free_2 : decode cX11_free 2 = .ok (.invokevirtual 302, 3) := by decide +kernel
theorem dX11_free_5 : decode cX11_free 5 = .ok (.ifCond .eq 16, 3) := by decide +kernel
theorem dX11_free_8 : decode cX11_free 8 = .ok (.iload_n 2, 1) := by decide +kernel
theorem dX11_free_9 : decode cX11_free 9 = .ok (.ifCond .lt 12, 3) := by decide +kernel
theorem dX11_free_12 : decode cX11_free 12 = .ok (.iload_n 3, 1) := by decide +kernel
theorem dX11_free_13 : decode cX11_free 13 = .ok (.iconst 0, 1) := by decide +kernel
theorem dX11_free_14 : decode cX11_free 14 = .ok (.iconst 3, 1) := by decide +kernel
theorem dX11_free_15 : decode cX11_free 15 = .ok (.invokestatic 75, 3) := by decide +kernel
theorem dX11_free_18 : decode cX11_free 18 = .ok (.ifCond .ne 5, 3) := by decide +kernel
theorem dX11_free_21 : decode cX11_free 21 = .ok (.iconst (-1), 1) := by decide +kernel
theorem dX11_free_22 : decode cX11_free 22 = .ok (.ireturn, 1) := by decide +kernel
theorem dX11_free_23 : decode cX11_free 23 = .ok (.aload_n 0, 1) := by decide +kernel
theorem dX11_free_24 : decode cX11_free 24 = .ok (.iload_n 1, 1) := by decide +kernel
theorem dX11_free_25 : decode cX11_free 25 = .ok (.invokevirtual 274, 3) := by decide +kernel
theorem dX11_free_28 : decode cX11_free 28 = .ok (.iload_n 2, 1) := by decide +kernel
theorem dX11_free_29 : decode cX11_free 29 = .ok (.aload_n 0, 1) := by decide +kernel
theorem dX11_free_30 : decode cX11_free 30 = .ok (.getfield 242, 3) := by decide +kernel
theorem dX11_free_33 : decode cX11_free 33 = .ok (.if_icmp .lt 6, 3) := by decide +kernel
theorem dX11_free_36 : decode cX11_free 36 = .ok (.bipush (-9), 2) := by decide +kernel
theorem dX11_free_38 : decode cX11_free 38 = .ok (.ireturn, 1) := by decide +kernel
theorem dX11_free_39 : decode cX11_free 39 = .ok (.aload_n 0, 1) := by decide +kernel
theorem dX11_free_40 : decode cX11_free 40 = .ok (.iload_n 3, 1) := by decide +kernel
theorem dX11_free_41 : decode cX11_free 41 = .ok (.ifCond .ne 12, 3) := by decide +kernel
theorem dX11_free_44 : decode cX11_free 44 = .ok (.aload_n 0, 1) := by decide +kernel
theorem dX11_free_45 : decode cX11_free 45 = .ok (.getfield 44, 3) := by decide +kernel
theorem dX11_free_48 : decode cX11_free 48 = .ok (.iload_n 2, 1) := by decide +kernel
theorem dX11_free_49 : decode cX11_free 49 = .ok (.iaload, 1) := by decide +kernel
theorem dX11_free_50 : decode cX11_free 50 = .ok (.goto 37, 3) := by decide +kernel
theorem dX11_free_53 : decode cX11_free 53 = .ok (.iload_n 3, 1) := by decide +kernel
theorem dX11_free_54 : decode cX11_free 54 = .ok (.iconst 1, 1) := by decide +kernel
theorem dX11_free_55 : decode cX11_free 55 = .ok (.if_icmp .ne 12, 3) := by decide +kernel
theorem dX11_free_58 : decode cX11_free 58 = .ok (.aload_n 0, 1) := by decide +kernel
theorem dX11_free_59 : decode cX11_free 59 = .ok (.getfield 47, 3) := by decide +kernel
theorem dX11_free_62 : decode cX11_free 62 = .ok (.iload_n 2, 1) := by decide +kernel
theorem dX11_free_63 : decode cX11_free 63 = .ok (.iaload, 1) := by decide +kernel
theorem dX11_free_64 : decode cX11_free 64 = .ok (.goto 23, 3) := by decide +kernel
theorem dX11_free_67 : decode cX11_free 67 = .ok (.iload_n 3, 1) := by decide +kernel
theorem dX11_free_68 : decode cX11_free 68 = .ok (.iconst 2, 1) := by decide +kernel
theorem dX11_free_69 : decode cX11_free 69 = .ok (.if_icmp .ne 12, 3) := by decide +kernel
theorem dX11_free_72 : decode cX11_free 72 = .ok (.aload_n 0, 1) := by decide +kernel
theorem dX11_free_73 : decode cX11_free 73 = .ok (.getfield 50, 3) := by decide +kernel
theorem dX11_free_76 : decode cX11_free 76 = .ok (.iload_n 2, 1) := by decide +kernel
theorem dX11_free_77 : decode cX11_free 77 = .ok (.iaload, 1) := by decide +kernel
theorem dX11_free_78 : decode cX11_free 78 = .ok (.goto 9, 3) := by decide +kernel
theorem dX11_free_81 : decode cX11_free 81 = .ok (.aload_n 0, 1) := by decide +kernel
theorem dX11_free_82 : decode cX11_free 82 = .ok (.getfield 53, 3) := by decide +kernel
theorem dX11_free_85 : decode cX11_free 85 = .ok (.iload_n 2, 1) := by decide +kernel
theorem dX11_free_86 : decode cX11_free 86 = .ok (.iaload, 1) := by decide +kernel
theorem dX11_free_87 : decode cX11_free 87 = .ok (.iconst 1, 1) := by decide +kernel
theorem dX11_free_88 : decode cX11_free 88 = .ok (.invokevirtual 91, 3) := by decide +kernel
theorem dX11_free_91 : decode cX11_free 91 = .ok (.ireturn, 1) := by decide +kernel
theorem dX11_clamped_0 : decode cX11_clamped 0 = .ok (.iload_n 0, 1) := by decide +kernel
theorem dX11_clamped_1 : decode cX11_clamped 1 = .ok (.ifCond .ge 7, 3) := by decide +kernel
theorem dX11_clamped_4 : decode cX11_clamped 4 = .ok (.iconst 0, 1) := by decide +kernel
theorem dX11_clamped_5 : decode cX11_clamped 5 = .ok (.goto 13, 3) := by decide +kernel
theorem dX11_clamped_8 : decode cX11_clamped 8 = .ok (.iload_n 0, 1) := by decide +kernel
theorem dX11_clamped_9 : decode cX11_clamped 9 = .ok (.iload_n 1, 1) := by decide +kernel
theorem dX11_clamped_10 : decode cX11_clamped 10 = .ok (.if_icmp .le 7, 3) := by decide +kernel
theorem dX11_clamped_13 : decode cX11_clamped 13 = .ok (.iload_n 1, 1) := by decide +kernel
theorem dX11_clamped_14 : decode cX11_clamped 14 = .ok (.goto 4, 3) := by decide +kernel
theorem dX11_clamped_17 : decode cX11_clamped 17 = .ok (.iload_n 0, 1) := by decide +kernel
theorem dX11_clamped_18 : decode cX11_clamped 18 = .ok (.ireturn, 1) := by decide +kernel
theorem dX11_seen_0 : decode cX11_seen 0 = .ok (.aload_n 0, 1) := by decide +kernel
theorem dX11_seen_1 : decode cX11_seen 1 = .ok (.iload_n 1, 1) := by decide +kernel
theorem dX11_seen_2 : decode cX11_seen 2 = .ok (.invokevirtual 302, 3) := by decide +kernel
theorem dX11_seen_5 : decode cX11_seen 5 = .ok (.ifCond .eq 31, 3) := by decide +kernel
theorem dX11_seen_8 : decode cX11_seen 8 = .ok (.iload_n 2, 1) := by decide +kernel
theorem dX11_seen_9 : decode cX11_seen 9 = .ok (.iconst 0, 1) := by decide +kernel
theorem dX11_seen_10 : decode cX11_seen 10 = .ok (.aload_n 0, 1) := by decide +kernel
theorem dX11_seen_11 : decode cX11_seen 11 = .ok (.getfield 170, 3) := by decide +kernel
theorem dX11_seen_14 : decode cX11_seen 14 = .ok (.iconst 1, 1) := by decide +kernel
theorem dX11_seen_15 : decode cX11_seen 15 = .ok (.isub, 1) := by decide +kernel
theorem dX11_seen_16 : decode cX11_seen 16 = .ok (.invokestatic 75, 3) := by decide +kernel
theorem dX11_seen_19 : decode cX11_seen 19 = .ok (.ifCond .eq 17, 3) := by decide +kernel
theorem dX11_seen_22 : decode cX11_seen 22 = .ok (.iload_n 3, 1) := by decide +kernel
theorem dX11_seen_23 : decode cX11_seen 23 = .ok (.iconst 0, 1) := by decide +kernel
theorem dX11_seen_24 : decode cX11_seen 24 = .ok (.aload_n 0, 1) := by decide +kernel
theorem dX11_seen_25 : decode cX11_seen 25 = .ok (.getfield 173, 3) := by decide +kernel
theorem dX11_seen_28 : decode cX11_seen 28 = .ok (.iconst 1, 1) := by decide +kernel
theorem dX11_seen_29 : decode cX11_seen 29 = .ok (.isub, 1) := by decide +kernel
theorem dX11_seen_30 : decode cX11_seen 30 = .ok (.invokestatic 75, 3) := by decide +kernel
theorem dX11_seen_33 : decode cX11_seen 33 = .ok (.ifCond .ne 5, 3) := by decide +kernel
theorem dX11_seen_36 : decode cX11_seen 36 = .ok (.iconst (-1), 1) := by decide +kernel
theorem dX11_seen_37 : decode cX11_seen 37 = .ok (.ireturn, 1) := by decide +kernel
theorem dX11_seen_38 : decode cX11_seen 38 = .ok (.aload_n 0, 1) := by decide +kernel
theorem dX11_seen_39 : decode cX11_seen 39 = .ok (.iload_n 1, 1) := by decide +kernel
theorem dX11_seen_40 : decode cX11_seen 40 = .ok (.invokevirtual 239, 3) := by decide +kernel
theorem dX11_seen_43 : decode cX11_seen 43 = .ok (.aload_n 0, 1) := by decide +kernel
theorem dX11_seen_44 : decode cX11_seen 44 = .ok (.getfield 41, 3) := by decide +kernel
theorem dX11_seen_47 : decode cX11_seen 47 = .ok (.bipush 16, 2) := by decide +kernel
theorem dX11_seen_49 : decode cX11_seen 49 = .ok (.iload_n 3, 1) := by decide +kernel
theorem dX11_seen_50 : decode cX11_seen 50 = .ok (.imul, 1) := by decide +kernel
theorem dX11_seen_51 : decode cX11_seen 51 = .ok (.iload_n 2, 1) := by decide +kernel
theorem dX11_seen_52 : decode cX11_seen 52 = .ok (.iadd, 1) := by decide +kernel
theorem dX11_seen_53 : decode cX11_seen 53 = .ok (.iaload, 1) := by decide +kernel
theorem dX11_seen_54 : decode cX11_seen 54 = .ok (.istore 4, 2) := by decide +kernel
theorem dX11_seen_56 : decode cX11_seen 56 = .ok (.iload 4, 2) := by decide +kernel
theorem dX11_seen_58 : decode cX11_seen 58 = .ok (.bipush (-9), 2) := by decide +kernel
theorem dX11_seen_60 : decode cX11_seen 60 = .ok (.if_icmp .ne 6, 3) := by decide +kernel
theorem dX11_seen_63 : decode cX11_seen 63 = .ok (.bipush (-9), 2) := by decide +kernel
theorem dX11_seen_65 : decode cX11_seen 65 = .ok (.ireturn, 1) := by decide +kernel
theorem dX11_seen_66 : decode cX11_seen 66 = .ok (.iload_n 2, 1) := by decide +kernel
theorem dX11_seen_67 : decode cX11_seen 67 = .ok (.aload_n 0, 1) := by decide +kernel
theorem dX11_seen_68 : decode cX11_seen 68 = .ok (.getfield 35, 3) := by decide +kernel
theorem dX11_seen_71 : decode cX11_seen 71 = .ok (.iconst 4, 1) := by decide +kernel
theorem dX11_seen_72 : decode cX11_seen 72 = .ok (.iload 4, 2) := by decide +kernel
theorem dX11_seen_74 : decode cX11_seen 74 = .ok (.imul, 1) := by decide +kernel
theorem dX11_seen_75 : decode cX11_seen 75 = .ok (.iconst 1, 1) := by decide +kernel
theorem dX11_seen_76 : decode cX11_seen 76 = .ok (.iadd, 1) := by decide +kernel
theorem dX11_seen_77 : decode cX11_seen 77 = .ok (.iaload, 1) := by decide +kernel
theorem dX11_seen_78 : decode cX11_seen 78 = .ok (.isub, 1) := by decide +kernel
theorem dX11_seen_79 : decode cX11_seen 79 = .ok (.aload_n 0, 1) := by decide +kernel
theorem dX11_seen_80 : decode cX11_seen 80 = .ok (.iload 4, 2) := by decide +kernel
theorem dX11_seen_82 : decode cX11_seen 82 = .ok (.invokevirtual 211, 3) := by decide +kernel
theorem dX11_seen_85 : decode cX11_seen 85 = .ok (.isub, 1) := by decide +kernel
theorem dX11_seen_86 : decode cX11_seen 86 = .ok (.istore 5, 2) := by decide +kernel
theorem dX11_seen_88 : decode cX11_seen 88 = .ok (.iload_n 3, 1) := by decide +kernel
theorem dX11_seen_89 : decode cX11_seen 89 = .ok (.aload_n 0, 1) := by decide +kernel
theorem dX11_seen_90 : decode cX11_seen 90 = .ok (.getfield 35, 3) := by decide +kernel
theorem dX11_seen_93 : decode cX11_seen 93 = .ok (.iconst 4, 1) := by decide +kernel
theorem dX11_seen_94 : decode cX11_seen 94 = .ok (.iload 4, 2) := by decide +kernel
theorem dX11_seen_96 : decode cX11_seen 96 = .ok (.imul, 1) := by decide +kernel
theorem dX11_seen_97 : decode cX11_seen 97 = .ok (.iconst 2, 1) := by decide +kernel
theorem dX11_seen_98 : decode cX11_seen 98 = .ok (.iadd, 1) := by decide +kernel
theorem dX11_seen_99 : decode cX11_seen 99 = .ok (.iaload, 1) := by decide +kernel
theorem dX11_seen_100 : decode cX11_seen 100 = .ok (.isub, 1) := by decide +kernel
theorem dX11_seen_101 : decode cX11_seen 101 = .ok (.aload_n 0, 1) := by decide +kernel
theorem dX11_seen_102 : decode cX11_seen 102 = .ok (.iload 4, 2) := by decide +kernel
theorem dX11_seen_104 : decode cX11_seen 104 = .ok (.invokevirtual 211, 3) := by decide +kernel
theorem dX11_seen_107 : decode cX11_seen 107 = .ok (.isub, 1) := by decide +kernel
theorem dX11_seen_108 : decode cX11_seen 108 = .ok (.istore 6, 2) := by decide +kernel
theorem dX11_seen_110 : decode cX11_seen 110 = .ok (.aload_n 0, 1) := by decide +kernel
theorem dX11_seen_111 : decode cX11_seen 111 = .ok (.getfield 35, 3) := by decide +kernel
theorem dX11_seen_114 : decode cX11_seen 114 = .ok (.iconst 4, 1) := by decide +kernel
theorem dX11_seen_115 : decode cX11_seen 115 = .ok (.iload 4, 2) := by decide +kernel
theorem dX11_seen_117 : decode cX11_seen 117 = .ok (.imul, 1) := by decide +kernel
theorem dX11_seen_118 : decode cX11_seen 118 = .ok (.iconst 3, 1) := by decide +kernel
theorem dX11_seen_119 : decode cX11_seen 119 = .ok (.iadd, 1) := by decide +kernel
theorem dX11_seen_120 : decode cX11_seen 120 = .ok (.iaload, 1) := by decide +kernel
theorem dX11_seen_121 : decode cX11_seen 121 = .ok (.iconst 1, 1) := by decide +kernel
theorem dX11_seen_122 : decode cX11_seen 122 = .ok (.if_icmp .ne 7, 3) := by decide +kernel
theorem dX11_seen_125 : decode cX11_seen 125 = .ok (.iconst 1, 1) := by decide +kernel
theorem dX11_seen_126 : decode cX11_seen 126 = .ok (.goto 4, 3) := by decide +kernel
theorem dX11_seen_129 : decode cX11_seen 129 = .ok (.iconst 0, 1) := by decide +kernel
theorem dX11_seen_130 : decode cX11_seen 130 = .ok (.istore 7, 2) := by decide +kernel
theorem dX11_seen_132 : decode cX11_seen 132 = .ok (.iload 7, 2) := by decide +kernel
theorem dX11_seen_134 : decode cX11_seen 134 = .ok (.ifCond .eq 8, 3) := by decide +kernel
theorem dX11_seen_137 : decode cX11_seen 137 = .ok (.iload 6, 2) := by decide +kernel
theorem dX11_seen_139 : decode cX11_seen 139 = .ok (.goto 5, 3) := by decide +kernel
theorem dX11_seen_142 : decode cX11_seen 142 = .ok (.iload 5, 2) := by decide +kernel
theorem dX11_seen_144 : decode cX11_seen 144 = .ok (.aload_n 0, 1) := by decide +kernel
theorem dX11_seen_145 : decode cX11_seen 145 = .ok (.iload 4, 2) := by decide +kernel
theorem dX11_seen_147 : decode cX11_seen 147 = .ok (.invokevirtual 214, 3) := by decide +kernel
theorem dX11_seen_150 : decode cX11_seen 150 = .ok (.iconst 1, 1) := by decide +kernel
theorem dX11_seen_151 : decode cX11_seen 151 = .ok (.isub, 1) := by decide +kernel
theorem dX11_seen_152 : decode cX11_seen 152 = .ok (.invokestatic 305, 3) := by decide +kernel
theorem dX11_seen_155 : decode cX11_seen 155 = .ok (.aload_n 0, 1) := by decide +kernel
theorem dX11_seen_156 : decode cX11_seen 156 = .ok (.iload 4, 2) := by decide +kernel
theorem dX11_seen_158 : decode cX11_seen 158 = .ok (.invokevirtual 308, 3) := by decide +kernel
theorem dX11_seen_161 : decode cX11_seen 161 = .ok (.iadd, 1) := by decide +kernel
theorem dX11_seen_162 : decode cX11_seen 162 = .ok (.istore 8, 2) := by decide +kernel
theorem dX11_seen_164 : decode cX11_seen 164 = .ok (.iload 7, 2) := by decide +kernel
theorem dX11_seen_166 : decode cX11_seen 166 = .ok (.ifCond .eq 8, 3) := by decide +kernel
theorem dX11_seen_169 : decode cX11_seen 169 = .ok (.iload 5, 2) := by decide +kernel
theorem dX11_seen_171 : decode cX11_seen 171 = .ok (.goto 5, 3) := by decide +kernel
theorem dX11_seen_174 : decode cX11_seen 174 = .ok (.iload 6, 2) := by decide +kernel
theorem dX11_seen_176 : decode cX11_seen 176 = .ok (.aload_n 0, 1) := by decide +kernel
theorem dX11_seen_177 : decode cX11_seen 177 = .ok (.iload 4, 2) := by decide +kernel
theorem dX11_seen_179 : decode cX11_seen 179 = .ok (.invokevirtual 217, 3) := by decide +kernel
theorem dX11_seen_182 : decode cX11_seen 182 = .ok (.iconst 1, 1) := by decide +kernel
theorem dX11_seen_183 : decode cX11_seen 183 = .ok (.isub, 1) := by decide +kernel
theorem dX11_seen_184 : decode cX11_seen 184 = .ok (.invokestatic 305, 3) := by decide +kernel
theorem dX11_seen_187 : decode cX11_seen 187 = .ok (.aload_n 0, 1) := by decide +kernel
theorem dX11_seen_188 : decode cX11_seen 188 = .ok (.iload 4, 2) := by decide +kernel
theorem dX11_seen_190 : decode cX11_seen 190 = .ok (.invokevirtual 311, 3) := by decide +kernel
theorem dX11_seen_193 : decode cX11_seen 193 = .ok (.iadd, 1) := by decide +kernel
theorem dX11_seen_194 : decode cX11_seen 194 = .ok (.istore 9, 2) := by decide +kernel
theorem dX11_seen_196 : decode cX11_seen 196 = .ok (.aload_n 0, 1) := by decide +kernel
theorem dX11_seen_197 : decode cX11_seen 197 = .ok (.bipush 100, 2) := by decide +kernel
theorem dX11_seen_199 : decode cX11_seen 199 = .ok (.iload 8, 2) := by decide +kernel
theorem dX11_seen_201 : decode cX11_seen 201 = .ok (.imul, 1) := by decide +kernel
theorem dX11_seen_202 : decode cX11_seen 202 = .ok (.iload 9, 2) := by decide +kernel
theorem dX11_seen_204 : decode cX11_seen 204 = .ok (.iadd, 1) := by decide +kernel
theorem dX11_seen_205 : decode cX11_seen 205 = .ok (.iload 4, 2) := by decide +kernel
theorem dX11_seen_207 : decode cX11_seen 207 = .ok (.invokevirtual 91, 3) := by decide +kernel
theorem dX11_seen_210 : decode cX11_seen 210 = .ok (.ireturn, 1) := by decide +kernel
theorem dX11_point_0 : decode cX11_point 0 = .ok (.aload_n 0, 1) := by decide +kernel
theorem dX11_point_1 : decode cX11_point 1 = .ok (.iload_n 1, 1) := by decide +kernel
theorem dX11_point_2 : decode cX11_point 2 = .ok (.invokevirtual 223, 3) := by decide +kernel
theorem dX11_point_5 : decode cX11_point 5 = .ok (.ifCond .eq 35, 3) := by decide +kernel
theorem dX11_point_8 : decode cX11_point 8 = .ok (.iload_n 2, 1) := by decide +kernel
theorem dX11_point_9 : decode cX11_point 9 = .ok (.iconst 0, 1) := by decide +kernel
theorem dX11_point_10 : decode cX11_point 10 = .ok (.aload_n 0, 1) := by decide +kernel
theorem dX11_point_11 : decode cX11_point 11 = .ok (.iload_n 1, 1) := by decide +kernel
theorem dX11_point_12 : decode cX11_point 12 = .ok (.iconst 1, 1) := by decide +kernel
theorem dX11_point_13 : decode cX11_point 13 = .ok (.invokevirtual 208, 3) := by decide +kernel
theorem dX11_point_16 : decode cX11_point 16 = .ok (.iconst 1, 1) := by decide +kernel
theorem dX11_point_17 : decode cX11_point 17 = .ok (.isub, 1) := by decide +kernel
theorem dX11_point_18 : decode cX11_point 18 = .ok (.invokestatic 75, 3) := by decide +kernel
theorem dX11_point_21 : decode cX11_point 21 = .ok (.ifCond .eq 19, 3) := by decide +kernel
theorem dX11_point_24 : decode cX11_point 24 = .ok (.iload_n 3, 1) := by decide +kernel
theorem dX11_point_25 : decode cX11_point 25 = .ok (.iconst 0, 1) := by decide +kernel
theorem dX11_point_26 : decode cX11_point 26 = .ok (.aload_n 0, 1) := by decide +kernel
theorem dX11_point_27 : decode cX11_point 27 = .ok (.iload_n 1, 1) := by decide +kernel
theorem dX11_point_28 : decode cX11_point 28 = .ok (.iconst 2, 1) := by decide +kernel
theorem dX11_point_29 : decode cX11_point 29 = .ok (.invokevirtual 208, 3) := by decide +kernel
theorem dX11_point_32 : decode cX11_point 32 = .ok (.iconst 1, 1) := by decide +kernel
theorem dX11_point_33 : decode cX11_point 33 = .ok (.isub, 1) := by decide +kernel
theorem dX11_point_34 : decode cX11_point 34 = .ok (.invokestatic 75, 3) := by decide +kernel
theorem dX11_point_37 : decode cX11_point 37 = .ok (.ifCond .ne 5, 3) := by decide +kernel
theorem dX11_point_40 : decode cX11_point 40 = .ok (.iconst (-1), 1) := by decide +kernel
theorem dX11_point_41 : decode cX11_point 41 = .ok (.ireturn, 1) := by decide +kernel
theorem dX11_point_42 : decode cX11_point 42 = .ok (.aload_n 0, 1) := by decide +kernel
theorem dX11_point_43 : decode cX11_point 43 = .ok (.iload_n 1, 1) := by decide +kernel
theorem dX11_point_44 : decode cX11_point 44 = .ok (.invokevirtual 232, 3) := by decide +kernel
theorem dX11_point_47 : decode cX11_point 47 = .ok (.ifCond .ne 6, 3) := by decide +kernel
theorem dX11_point_50 : decode cX11_point 50 = .ok (.bipush (-4), 2) := by decide +kernel
theorem dX11_point_52 : decode cX11_point 52 = .ok (.ireturn, 1) := by decide +kernel
theorem dX11_point_53 : decode cX11_point 53 = .ok (.iload_n 2, 1) := by decide +kernel
theorem dX11_point_54 : decode cX11_point 54 = .ok (.aload_n 0, 1) := by decide +kernel
theorem dX11_point_55 : decode cX11_point 55 = .ok (.iload_n 1, 1) := by decide +kernel
theorem dX11_point_56 : decode cX11_point 56 = .ok (.invokevirtual 308, 3) := by decide +kernel
theorem dX11_point_59 : decode cX11_point 59 = .ok (.isub, 1) := by decide +kernel
theorem dX11_point_60 : decode cX11_point 60 = .ok (.istore 4, 2) := by decide +kernel
theorem dX11_point_62 : decode cX11_point 62 = .ok (.iload_n 3, 1) := by decide +kernel
theorem dX11_point_63 : decode cX11_point 63 = .ok (.aload_n 0, 1) := by decide +kernel
theorem dX11_point_64 : decode cX11_point 64 = .ok (.iload_n 1, 1) := by decide +kernel
theorem dX11_point_65 : decode cX11_point 65 = .ok (.invokevirtual 311, 3) := by decide +kernel
theorem dX11_point_68 : decode cX11_point 68 = .ok (.isub, 1) := by decide +kernel
theorem dX11_point_69 : decode cX11_point 69 = .ok (.istore 5, 2) := by decide +kernel
theorem dX11_point_71 : decode cX11_point 71 = .ok (.iload 4, 2) := by decide +kernel
theorem dX11_point_73 : decode cX11_point 73 = .ok (.iconst 0, 1) := by decide +kernel
theorem dX11_point_74 : decode cX11_point 74 = .ok (.aload_n 0, 1) := by decide +kernel
theorem dX11_point_75 : decode cX11_point 75 = .ok (.iload_n 1, 1) := by decide +kernel
theorem dX11_point_76 : decode cX11_point 76 = .ok (.invokevirtual 214, 3) := by decide +kernel
theorem dX11_point_79 : decode cX11_point 79 = .ok (.iconst 1, 1) := by decide +kernel
theorem dX11_point_80 : decode cX11_point 80 = .ok (.isub, 1) := by decide +kernel
theorem dX11_point_81 : decode cX11_point 81 = .ok (.invokestatic 75, 3) := by decide +kernel
theorem dX11_point_84 : decode cX11_point 84 = .ok (.ifCond .eq 19, 3) := by decide +kernel
theorem dX11_point_87 : decode cX11_point 87 = .ok (.iload 5, 2) := by decide +kernel
theorem dX11_point_89 : decode cX11_point 89 = .ok (.iconst 0, 1) := by decide +kernel
theorem dX11_point_90 : decode cX11_point 90 = .ok (.aload_n 0, 1) := by decide +kernel
theorem dX11_point_91 : decode cX11_point 91 = .ok (.iload_n 1, 1) := by decide +kernel
theorem dX11_point_92 : decode cX11_point 92 = .ok (.invokevirtual 217, 3) := by decide +kernel
theorem dX11_point_95 : decode cX11_point 95 = .ok (.iconst 1, 1) := by decide +kernel
theorem dX11_point_96 : decode cX11_point 96 = .ok (.isub, 1) := by decide +kernel
theorem dX11_point_97 : decode cX11_point 97 = .ok (.invokestatic 75, 3) := by decide +kernel
theorem dX11_point_100 : decode cX11_point 100 = .ok (.ifCond .ne 6, 3) := by decide +kernel
theorem dX11_point_103 : decode cX11_point 103 = .ok (.bipush (-9), 2) := by decide +kernel
theorem dX11_point_105 : decode cX11_point 105 = .ok (.ireturn, 1) := by decide +kernel
theorem dX11_point_106 : decode cX11_point 106 = .ok (.aload_n 0, 1) := by decide +kernel
theorem dX11_point_107 : decode cX11_point 107 = .ok (.getfield 35, 3) := by decide +kernel
theorem dX11_point_110 : decode cX11_point 110 = .ok (.iconst 4, 1) := by decide +kernel
theorem dX11_point_111 : decode cX11_point 111 = .ok (.iload_n 1, 1) := by decide +kernel
theorem dX11_point_112 : decode cX11_point 112 = .ok (.imul, 1) := by decide +kernel
theorem dX11_point_113 : decode cX11_point 113 = .ok (.iconst 3, 1) := by decide +kernel
theorem dX11_point_114 : decode cX11_point 114 = .ok (.iadd, 1) := by decide +kernel
theorem dX11_point_115 : decode cX11_point 115 = .ok (.iaload, 1) := by decide +kernel
theorem dX11_point_116 : decode cX11_point 116 = .ok (.iconst 1, 1) := by decide +kernel
theorem dX11_point_117 : decode cX11_point 117 = .ok (.if_icmp .ne 7, 3) := by decide +kernel
theorem dX11_point_120 : decode cX11_point 120 = .ok (.iconst 1, 1) := by decide +kernel
theorem dX11_point_121 : decode cX11_point 121 = .ok (.goto 4, 3) := by decide +kernel
theorem dX11_point_124 : decode cX11_point 124 = .ok (.iconst 0, 1) := by decide +kernel
theorem dX11_point_125 : decode cX11_point 125 = .ok (.istore 6, 2) := by decide +kernel
theorem dX11_point_127 : decode cX11_point 127 = .ok (.aload_n 0, 1) := by decide +kernel
theorem dX11_point_128 : decode cX11_point 128 = .ok (.getfield 35, 3) := by decide +kernel
theorem dX11_point_131 : decode cX11_point 131 = .ok (.iconst 4, 1) := by decide +kernel
theorem dX11_point_132 : decode cX11_point 132 = .ok (.iload_n 1, 1) := by decide +kernel
theorem dX11_point_133 : decode cX11_point 133 = .ok (.imul, 1) := by decide +kernel
theorem dX11_point_134 : decode cX11_point 134 = .ok (.iconst 1, 1) := by decide +kernel
theorem dX11_point_135 : decode cX11_point 135 = .ok (.iadd, 1) := by decide +kernel
theorem dX11_point_136 : decode cX11_point 136 = .ok (.iaload, 1) := by decide +kernel
theorem dX11_point_137 : decode cX11_point 137 = .ok (.aload_n 0, 1) := by decide +kernel
theorem dX11_point_138 : decode cX11_point 138 = .ok (.iload_n 1, 1) := by decide +kernel
theorem dX11_point_139 : decode cX11_point 139 = .ok (.invokevirtual 211, 3) := by decide +kernel
theorem dX11_point_142 : decode cX11_point 142 = .ok (.iadd, 1) := by decide +kernel
theorem dX11_point_143 : decode cX11_point 143 = .ok (.iload 6, 2) := by decide +kernel
theorem dX11_point_145 : decode cX11_point 145 = .ok (.ifCond .eq 8, 3) := by decide +kernel
theorem dX11_point_148 : decode cX11_point 148 = .ok (.iload 5, 2) := by decide +kernel
theorem dX11_point_150 : decode cX11_point 150 = .ok (.goto 5, 3) := by decide +kernel
theorem dX11_point_153 : decode cX11_point 153 = .ok (.iload 4, 2) := by decide +kernel
theorem dX11_point_155 : decode cX11_point 155 = .ok (.iadd, 1) := by decide +kernel
theorem dX11_point_156 : decode cX11_point 156 = .ok (.istore 7, 2) := by decide +kernel
theorem dX11_point_158 : decode cX11_point 158 = .ok (.aload_n 0, 1) := by decide +kernel
theorem dX11_point_159 : decode cX11_point 159 = .ok (.getfield 35, 3) := by decide +kernel
theorem dX11_point_162 : decode cX11_point 162 = .ok (.iconst 4, 1) := by decide +kernel
theorem dX11_point_163 : decode cX11_point 163 = .ok (.iload_n 1, 1) := by decide +kernel
theorem dX11_point_164 : decode cX11_point 164 = .ok (.imul, 1) := by decide +kernel
theorem dX11_point_165 : decode cX11_point 165 = .ok (.iconst 2, 1) := by decide +kernel
theorem dX11_point_166 : decode cX11_point 166 = .ok (.iadd, 1) := by decide +kernel
theorem dX11_point_167 : decode cX11_point 167 = .ok (.iaload, 1) := by decide +kernel
theorem dX11_point_168 : decode cX11_point 168 = .ok (.aload_n 0, 1) := by decide +kernel
theorem dX11_point_169 : decode cX11_point 169 = .ok (.iload_n 1, 1) := by decide +kernel
theorem dX11_point_170 : decode cX11_point 170 = .ok (.invokevirtual 211, 3) := by decide +kernel
theorem dX11_point_173 : decode cX11_point 173 = .ok (.iadd, 1) := by decide +kernel
theorem dX11_point_174 : decode cX11_point 174 = .ok (.iload 6, 2) := by decide +kernel
theorem dX11_point_176 : decode cX11_point 176 = .ok (.ifCond .eq 8, 3) := by decide +kernel
theorem dX11_point_179 : decode cX11_point 179 = .ok (.iload 4, 2) := by decide +kernel
theorem dX11_point_181 : decode cX11_point 181 = .ok (.goto 5, 3) := by decide +kernel
theorem dX11_point_184 : decode cX11_point 184 = .ok (.iload 5, 2) := by decide +kernel
theorem dX11_point_186 : decode cX11_point 186 = .ok (.iadd, 1) := by decide +kernel
theorem dX11_point_187 : decode cX11_point 187 = .ok (.istore 8, 2) := by decide +kernel
theorem dX11_point_189 : decode cX11_point 189 = .ok (.sipush 10000, 3) := by decide +kernel
theorem dX11_point_192 : decode cX11_point 192 = .ok (.aload_n 0, 1) := by decide +kernel
theorem dX11_point_193 : decode cX11_point 193 = .ok (.getfield 35, 3) := by decide +kernel
theorem dX11_point_196 : decode cX11_point 196 = .ok (.iconst 4, 1) := by decide +kernel
theorem dX11_point_197 : decode cX11_point 197 = .ok (.iload_n 1, 1) := by decide +kernel
theorem dX11_point_198 : decode cX11_point 198 = .ok (.imul, 1) := by decide +kernel
theorem dX11_point_199 : decode cX11_point 199 = .ok (.iconst 0, 1) := by decide +kernel
theorem dX11_point_200 : decode cX11_point 200 = .ok (.iadd, 1) := by decide +kernel
theorem dX11_point_201 : decode cX11_point 201 = .ok (.iaload, 1) := by decide +kernel
theorem dX11_point_202 : decode cX11_point 202 = .ok (.imul, 1) := by decide +kernel
theorem dX11_point_203 : decode cX11_point 203 = .ok (.bipush 100, 2) := by decide +kernel
theorem dX11_point_205 : decode cX11_point 205 = .ok (.iload 7, 2) := by decide +kernel
theorem dX11_point_207 : decode cX11_point 207 = .ok (.imul, 1) := by decide +kernel
theorem dX11_point_208 : decode cX11_point 208 = .ok (.iadd, 1) := by decide +kernel
theorem dX11_point_209 : decode cX11_point 209 = .ok (.iload 8, 2) := by decide +kernel
theorem dX11_point_211 : decode cX11_point 211 = .ok (.iadd, 1) := by decide +kernel
theorem dX11_point_212 : decode cX11_point 212 = .ok (.ireturn, 1) := by decide +kernel
theorem dX11_takenOf_0 : decode cX11_takenOf 0 = .ok (.iconst 0, 1) := by decide +kernel
theorem dX11_takenOf_1 : decode cX11_takenOf 1 = .ok (.istore_n 2, 1) := by decide +kernel
theorem dX11_takenOf_2 : decode cX11_takenOf 2 = .ok (.iconst 0, 1) := by decide +kernel
theorem dX11_takenOf_3 : decode cX11_takenOf 3 = .ok (.istore_n 3, 1) := by decide +kernel
theorem dX11_takenOf_4 : decode cX11_takenOf 4 = .ok (.iload_n 3, 1) := by decide +kernel
theorem dX11_takenOf_5 : decode cX11_takenOf 5 = .ok (.aload_n 0, 1) := by decide +kernel
theorem dX11_takenOf_6 : decode cX11_takenOf 6 = .ok (.getfield 179, 3) := by decide +kernel
theorem dX11_takenOf_9 : decode cX11_takenOf 9 = .ok (.if_icmp .ge 43, 3) := by decide +kernel
theorem dX11_takenOf_12 : decode cX11_takenOf 12 = .ok (.iload_n 2, 1) := by decide +kernel
theorem dX11_takenOf_13 : decode cX11_takenOf 13 = .ok (.aload_n 0, 1) := by decide +kernel
theorem dX11_takenOf_14 : decode cX11_takenOf 14 = .ok (.getfield 35, 3) := by decide +kernel
theorem dX11_takenOf_17 : decode cX11_takenOf 17 = .ok (.iconst 4, 1) := by decide +kernel
theorem dX11_takenOf_18 : decode cX11_takenOf 18 = .ok (.iload_n 3, 1) := by decide +kernel
theorem dX11_takenOf_19 : decode cX11_takenOf 19 = .ok (.imul, 1) := by decide +kernel
theorem dX11_takenOf_20 : decode cX11_takenOf 20 = .ok (.iconst 0, 1) := by decide +kernel
theorem dX11_takenOf_21 : decode cX11_takenOf 21 = .ok (.iadd, 1) := by decide +kernel
theorem dX11_takenOf_22 : decode cX11_takenOf 22 = .ok (.iaload, 1) := by decide +kernel
theorem dX11_takenOf_23 : decode cX11_takenOf 23 = .ok (.iload_n 1, 1) := by decide +kernel
theorem dX11_takenOf_24 : decode cX11_takenOf 24 = .ok (.if_icmp .ne 19, 3) := by decide +kernel
theorem dX11_takenOf_27 : decode cX11_takenOf 27 = .ok (.aload_n 0, 1) := by decide +kernel
theorem dX11_takenOf_28 : decode cX11_takenOf 28 = .ok (.iload_n 3, 1) := by decide +kernel
theorem dX11_takenOf_29 : decode cX11_takenOf 29 = .ok (.iconst 0, 1) := by decide +kernel
theorem dX11_takenOf_30 : decode cX11_takenOf 30 = .ok (.invokevirtual 220, 3) := by decide +kernel
theorem dX11_takenOf_33 : decode cX11_takenOf 33 = .ok (.aload_n 0, 1) := by decide +kernel
theorem dX11_takenOf_34 : decode cX11_takenOf 34 = .ok (.iload_n 3, 1) := by decide +kernel
theorem dX11_takenOf_35 : decode cX11_takenOf 35 = .ok (.iconst 0, 1) := by decide +kernel
theorem dX11_takenOf_36 : decode cX11_takenOf 36 = .ok (.invokevirtual 229, 3) := by decide +kernel
theorem dX11_takenOf_39 : decode cX11_takenOf 39 = .ok (.imul, 1) := by decide +kernel
theorem dX11_takenOf_40 : decode cX11_takenOf 40 = .ok (.goto 4, 3) := by decide +kernel
theorem dX11_takenOf_43 : decode cX11_takenOf 43 = .ok (.iconst 0, 1) := by decide +kernel
theorem dX11_takenOf_44 : decode cX11_takenOf 44 = .ok (.iadd, 1) := by decide +kernel
theorem dX11_takenOf_45 : decode cX11_takenOf 45 = .ok (.istore_n 2, 1) := by decide +kernel
theorem dX11_takenOf_46 : decode cX11_takenOf 46 = .ok (.iinc 3 1, 3) := by decide +kernel
theorem dX11_takenOf_49 : decode cX11_takenOf 49 = .ok (.goto (-45), 3) := by decide +kernel
theorem dX11_takenOf_52 : decode cX11_takenOf 52 = .ok (.iload_n 2, 1) := by decide +kernel
theorem dX11_takenOf_53 : decode cX11_takenOf 53 = .ok (.ireturn, 1) := by decide +kernel
theorem dX11_used_0 : decode cX11_used 0 = .ok (.aload_n 0, 1) := by decide +kernel
theorem dX11_used_1 : decode cX11_used 1 = .ok (.iload_n 1, 1) := by decide +kernel
theorem dX11_used_2 : decode cX11_used 2 = .ok (.invokevirtual 302, 3) := by decide +kernel
theorem dX11_used_5 : decode cX11_used 5 = .ok (.ifCond .ne 5, 3) := by decide +kernel
theorem dX11_used_8 : decode cX11_used 8 = .ok (.iconst (-1), 1) := by decide +kernel
theorem dX11_used_9 : decode cX11_used 9 = .ok (.ireturn, 1) := by decide +kernel
theorem dX11_used_10 : decode cX11_used 10 = .ok (.aload_n 0, 1) := by decide +kernel
theorem dX11_used_11 : decode cX11_used 11 = .ok (.iload_n 1, 1) := by decide +kernel
theorem dX11_used_12 : decode cX11_used 12 = .ok (.invokevirtual 314, 3) := by decide +kernel
theorem dX11_used_15 : decode cX11_used 15 = .ok (.istore_n 2, 1) := by decide +kernel
theorem dX11_used_16 : decode cX11_used 16 = .ok (.aload_n 0, 1) := by decide +kernel
theorem dX11_used_17 : decode cX11_used 17 = .ok (.bipush 100, 2) := by decide +kernel
theorem dX11_used_19 : decode cX11_used 19 = .ok (.iload_n 2, 1) := by decide +kernel
theorem dX11_used_20 : decode cX11_used 20 = .ok (.imul, 1) := by decide +kernel
theorem dX11_used_21 : decode cX11_used 21 = .ok (.aload_n 0, 1) := by decide +kernel
theorem dX11_used_22 : decode cX11_used 22 = .ok (.getfield 170, 3) := by decide +kernel
theorem dX11_used_25 : decode cX11_used 25 = .ok (.aload_n 0, 1) := by decide +kernel
theorem dX11_used_26 : decode cX11_used 26 = .ok (.getfield 173, 3) := by decide +kernel
theorem dX11_used_29 : decode cX11_used 29 = .ok (.imul, 1) := by decide +kernel
theorem dX11_used_30 : decode cX11_used 30 = .ok (.idiv, 1) := by decide +kernel
theorem dX11_used_31 : decode cX11_used 31 = .ok (.iload_n 2, 1) := by decide +kernel
theorem dX11_used_32 : decode cX11_used 32 = .ok (.invokevirtual 91, 3) := by decide +kernel
theorem dX11_used_35 : decode cX11_used 35 = .ok (.ireturn, 1) := by decide +kernel
theorem dX11_takes_0 : decode cX11_takes 0 = .ok (.aload_n 0, 1) := by decide +kernel
theorem dX11_takes_1 : decode cX11_takes 1 = .ok (.iload_n 1, 1) := by decide +kernel
theorem dX11_takes_2 : decode cX11_takes 2 = .ok (.invokevirtual 302, 3) := by decide +kernel
theorem dX11_takes_5 : decode cX11_takes 5 = .ok (.ifCond .ne 5, 3) := by decide +kernel
theorem dX11_takes_8 : decode cX11_takes 8 = .ok (.iconst (-1), 1) := by decide +kernel
theorem dX11_takes_9 : decode cX11_takes 9 = .ok (.ireturn, 1) := by decide +kernel
theorem dX11_takes_10 : decode cX11_takes 10 = .ok (.aload_n 0, 1) := by decide +kernel
theorem dX11_takes_11 : decode cX11_takes 11 = .ok (.iload_n 1, 1) := by decide +kernel
theorem dX11_takes_12 : decode cX11_takes 12 = .ok (.invokevirtual 274, 3) := by decide +kernel
theorem dX11_takes_15 : decode cX11_takes 15 = .ok (.iconst 0, 1) := by decide +kernel
theorem dX11_takes_16 : decode cX11_takes 16 = .ok (.istore_n 2, 1) := by decide +kernel
theorem dX11_takes_17 : decode cX11_takes 17 = .ok (.iconst 0, 1) := by decide +kernel
theorem dX11_takes_18 : decode cX11_takes 18 = .ok (.istore_n 3, 1) := by decide +kernel
theorem dX11_takes_19 : decode cX11_takes 19 = .ok (.iconst 0, 1) := by decide +kernel
theorem dX11_takes_20 : decode cX11_takes 20 = .ok (.istore 4, 2) := by decide +kernel
theorem dX11_takes_22 : decode cX11_takes 22 = .ok (.iload 4, 2) := by decide +kernel
theorem dX11_takes_24 : decode cX11_takes 24 = .ok (.aload_n 0, 1) := by decide +kernel
theorem dX11_takes_25 : decode cX11_takes 25 = .ok (.getfield 179, 3) := by decide +kernel
theorem dX11_takes_28 : decode cX11_takes 28 = .ok (.if_icmp .ge 39, 3) := by decide +kernel
theorem dX11_takes_31 : decode cX11_takes 31 = .ok (.iload_n 2, 1) := by decide +kernel
theorem dX11_takes_32 : decode cX11_takes 32 = .ok (.aload_n 0, 1) := by decide +kernel
theorem dX11_takes_33 : decode cX11_takes 33 = .ok (.iload 4, 2) := by decide +kernel
theorem dX11_takes_35 : decode cX11_takes 35 = .ok (.invokevirtual 232, 3) := by decide +kernel
theorem dX11_takes_38 : decode cX11_takes 38 = .ok (.ifCond .ne 20, 3) := by decide +kernel
theorem dX11_takes_41 : decode cX11_takes 41 = .ok (.aload_n 0, 1) := by decide +kernel
theorem dX11_takes_42 : decode cX11_takes 42 = .ok (.iload 4, 2) := by decide +kernel
theorem dX11_takes_44 : decode cX11_takes 44 = .ok (.iconst 0, 1) := by decide +kernel
theorem dX11_takes_45 : decode cX11_takes 45 = .ok (.invokevirtual 277, 3) := by decide +kernel
theorem dX11_takes_48 : decode cX11_takes 48 = .ok (.ifCond .eq 10, 3) := by decide +kernel
theorem dX11_takes_51 : decode cX11_takes 51 = .ok (.iconst 1, 1) := by decide +kernel
theorem dX11_takes_52 : decode cX11_takes 52 = .ok (.iload 4, 2) := by decide +kernel
theorem dX11_takes_54 : decode cX11_takes 54 = .ok (.ishl, 1) := by decide +kernel
theorem dX11_takes_55 : decode cX11_takes 55 = .ok (.goto 4, 3) := by decide +kernel
theorem dX11_takes_58 : decode cX11_takes 58 = .ok (.iconst 0, 1) := by decide +kernel
theorem dX11_takes_59 : decode cX11_takes 59 = .ok (.ior, 1) := by decide +kernel
theorem dX11_takes_60 : decode cX11_takes 60 = .ok (.istore_n 2, 1) := by decide +kernel
theorem dX11_takes_61 : decode cX11_takes 61 = .ok (.iinc 4 1, 3) := by decide +kernel
theorem dX11_takes_64 : decode cX11_takes 64 = .ok (.goto (-42), 3) := by decide +kernel
theorem dX11_takes_67 : decode cX11_takes 67 = .ok (.iconst 0, 1) := by decide +kernel
theorem dX11_takes_68 : decode cX11_takes 68 = .ok (.istore 4, 2) := by decide +kernel
theorem dX11_takes_70 : decode cX11_takes 70 = .ok (.iload 4, 2) := by decide +kernel
theorem dX11_takes_72 : decode cX11_takes 72 = .ok (.aload_n 0, 1) := by decide +kernel
theorem dX11_takes_73 : decode cX11_takes 73 = .ok (.getfield 242, 3) := by decide +kernel
theorem dX11_takes_76 : decode cX11_takes 76 = .ok (.if_icmp .ge 48, 3) := by decide +kernel
theorem dX11_takes_79 : decode cX11_takes 79 = .ok (.aload_n 0, 1) := by decide +kernel
theorem dX11_takes_80 : decode cX11_takes 80 = .ok (.getfield 50, 3) := by decide +kernel
theorem dX11_takes_83 : decode cX11_takes 83 = .ok (.iload 4, 2) := by decide +kernel
theorem dX11_takes_85 : decode cX11_takes 85 = .ok (.iaload, 1) := by decide +kernel
theorem dX11_takes_86 : decode cX11_takes 86 = .ok (.aload_n 0, 1) := by decide +kernel
theorem dX11_takes_87 : decode cX11_takes 87 = .ok (.getfield 53, 3) := by decide +kernel
theorem dX11_takes_90 : decode cX11_takes 90 = .ok (.iload 4, 2) := by decide +kernel
theorem dX11_takes_92 : decode cX11_takes 92 = .ok (.iaload, 1) := by decide +kernel
theorem dX11_takes_93 : decode cX11_takes 93 = .ok (.imul, 1) := by decide +kernel
theorem dX11_takes_94 : decode cX11_takes 94 = .ok (.iload_n 3, 1) := by decide +kernel
theorem dX11_takes_95 : decode cX11_takes 95 = .ok (.if_icmp .le 21, 3) := by decide +kernel
theorem dX11_takes_98 : decode cX11_takes 98 = .ok (.aload_n 0, 1) := by decide +kernel
theorem dX11_takes_99 : decode cX11_takes 99 = .ok (.getfield 50, 3) := by decide +kernel
theorem dX11_takes_102 : decode cX11_takes 102 = .ok (.iload 4, 2) := by decide +kernel
theorem dX11_takes_104 : decode cX11_takes 104 = .ok (.iaload, 1) := by decide +kernel
theorem dX11_takes_105 : decode cX11_takes 105 = .ok (.aload_n 0, 1) := by decide +kernel
theorem dX11_takes_106 : decode cX11_takes 106 = .ok (.getfield 53, 3) := by decide +kernel
theorem dX11_takes_109 : decode cX11_takes 109 = .ok (.iload 4, 2) := by decide +kernel
theorem dX11_takes_111 : decode cX11_takes 111 = .ok (.iaload, 1) := by decide +kernel
theorem dX11_takes_112 : decode cX11_takes 112 = .ok (.imul, 1) := by decide +kernel
theorem dX11_takes_113 : decode cX11_takes 113 = .ok (.goto 4, 3) := by decide +kernel
theorem dX11_takes_116 : decode cX11_takes 116 = .ok (.iload_n 3, 1) := by decide +kernel
theorem dX11_takes_117 : decode cX11_takes 117 = .ok (.istore_n 3, 1) := by decide +kernel
theorem dX11_takes_118 : decode cX11_takes 118 = .ok (.iinc 4 1, 3) := by decide +kernel
theorem dX11_takes_121 : decode cX11_takes 121 = .ok (.goto (-51), 3) := by decide +kernel
theorem dX11_takes_124 : decode cX11_takes 124 = .ok (.aload_n 0, 1) := by decide +kernel
theorem dX11_takes_125 : decode cX11_takes 125 = .ok (.iload_n 3, 1) := by decide +kernel
theorem dX11_takes_126 : decode cX11_takes 126 = .ok (.iload_n 2, 1) := by decide +kernel
theorem dX11_takes_127 : decode cX11_takes 127 = .ok (.invokevirtual 91, 3) := by decide +kernel
theorem dX11_takes_130 : decode cX11_takes 130 = .ok (.ireturn, 1) := by decide +kernel
theorem dX11_tries_0 : decode cX11_tries 0 = .ok (.iconst 0, 1) := by decide +kernel
theorem dX11_tries_1 : decode cX11_tries 1 = .ok (.istore_n 3, 1) := by decide +kernel
theorem dX11_tries_2 : decode cX11_tries 2 = .ok (.iload_n 3, 1) := by decide +kernel
theorem dX11_tries_3 : decode cX11_tries 3 = .ok (.bipush 33, 2) := by decide +kernel
theorem dX11_tries_5 : decode cX11_tries 5 = .ok (.if_icmp .ge 21, 3) := by decide +kernel
theorem dX11_tries_8 : decode cX11_tries 8 = .ok (.aload_n 0, 1) := by decide +kernel
theorem dX11_tries_9 : decode cX11_tries 9 = .ok (.getfield 65, 3) := by decide +kernel
theorem dX11_tries_12 : decode cX11_tries 12 = .ok (.iload_n 3, 1) := by decide +kernel
theorem dX11_tries_13 : decode cX11_tries 13 = .ok (.aload_n 0, 1) := by decide +kernel
theorem dX11_tries_14 : decode cX11_tries 14 = .ok (.getfield 35, 3) := by decide +kernel
theorem dX11_tries_17 : decode cX11_tries 17 = .ok (.iload_n 3, 1) := by decide +kernel
theorem dX11_tries_18 : decode cX11_tries 18 = .ok (.iaload, 1) := by decide +kernel
theorem dX11_tries_19 : decode cX11_tries 19 = .ok (.iastore, 1) := by decide +kernel
theorem dX11_tries_20 : decode cX11_tries 20 = .ok (.iinc 3 1, 3) := by decide +kernel
theorem dX11_tries_23 : decode cX11_tries 23 = .ok (.goto (-21), 3) := by decide +kernel
theorem dX11_tries_26 : decode cX11_tries 26 = .ok (.aload_n 0, 1) := by decide +kernel
theorem dX11_tries_27 : decode cX11_tries 27 = .ok (.getfield 35, 3) := by decide +kernel
theorem dX11_tries_30 : decode cX11_tries 30 = .ok (.bipush 32, 2) := by decide +kernel
theorem dX11_tries_32 : decode cX11_tries 32 = .ok (.iload_n 1, 1) := by decide +kernel
theorem dX11_tries_33 : decode cX11_tries 33 = .ok (.iastore, 1) := by decide +kernel
theorem dX11_tries_34 : decode cX11_tries 34 = .ok (.aload_n 0, 1) := by decide +kernel
theorem dX11_tries_35 : decode cX11_tries 35 = .ok (.iload_n 2, 1) := by decide +kernel
theorem dX11_tries_36 : decode cX11_tries 36 = .ok (.invokevirtual 299, 3) := by decide +kernel
theorem dX11_tries_39 : decode cX11_tries 39 = .ok (.aload_n 0, 1) := by decide +kernel
theorem dX11_tries_40 : decode cX11_tries 40 = .ok (.aload_n 0, 1) := by decide +kernel
theorem dX11_tries_41 : decode cX11_tries 41 = .ok (.invokevirtual 270, 3) := by decide +kernel
theorem dX11_tries_44 : decode cX11_tries 44 = .ok (.putfield 317, 3) := by decide +kernel
theorem dX11_tries_47 : decode cX11_tries 47 = .ok (.aload_n 0, 1) := by decide +kernel
theorem dX11_tries_48 : decode cX11_tries 48 = .ok (.iconst 0, 1) := by decide +kernel
theorem dX11_tries_49 : decode cX11_tries 49 = .ok (.putfield 320, 3) := by decide +kernel
theorem dX11_tries_52 : decode cX11_tries 52 = .ok (.iconst 0, 1) := by decide +kernel
theorem dX11_tries_53 : decode cX11_tries 53 = .ok (.istore_n 3, 1) := by decide +kernel
theorem dX11_tries_54 : decode cX11_tries 54 = .ok (.iload_n 3, 1) := by decide +kernel
theorem dX11_tries_55 : decode cX11_tries 55 = .ok (.aload_n 0, 1) := by decide +kernel
theorem dX11_tries_56 : decode cX11_tries 56 = .ok (.getfield 179, 3) := by decide +kernel
theorem dX11_tries_59 : decode cX11_tries 59 = .ok (.if_icmp .ge 33, 3) := by decide +kernel
theorem dX11_tries_62 : decode cX11_tries 62 = .ok (.aload_n 0, 1) := by decide +kernel
theorem dX11_tries_63 : decode cX11_tries 63 = .ok (.dup, 1) := by decide +kernel
theorem dX11_tries_64 : decode cX11_tries 64 = .ok (.getfield 320, 3) := by decide +kernel
theorem dX11_tries_67 : decode cX11_tries 67 = .ok (.aload_n 0, 1) := by decide +kernel
theorem dX11_tries_68 : decode cX11_tries 68 = .ok (.iload_n 3, 1) := by decide +kernel
theorem dX11_tries_69 : decode cX11_tries 69 = .ok (.invokevirtual 232, 3) := by decide +kernel
theorem dX11_tries_72 : decode cX11_tries 72 = .ok (.ifCond .eq 7, 3) := by decide +kernel
theorem dX11_tries_75 : decode cX11_tries 75 = .ok (.iconst 0, 1) := by decide +kernel
theorem dX11_tries_76 : decode cX11_tries 76 = .ok (.goto 6, 3) := by decide +kernel
theorem dX11_tries_79 : decode cX11_tries 79 = .ok (.iconst 1, 1) := by decide +kernel
theorem dX11_tries_80 : decode cX11_tries 80 = .ok (.iload_n 3, 1) := by decide +kernel
theorem dX11_tries_81 : decode cX11_tries 81 = .ok (.ishl, 1) := by decide +kernel
theorem dX11_tries_82 : decode cX11_tries 82 = .ok (.ior, 1) := by decide +kernel
theorem dX11_tries_83 : decode cX11_tries 83 = .ok (.putfield 320, 3) := by decide +kernel
theorem dX11_tries_86 : decode cX11_tries 86 = .ok (.iinc 3 1, 3) := by decide +kernel
theorem dX11_tries_89 : decode cX11_tries 89 = .ok (.goto (-35), 3) := by decide +kernel
theorem dX11_tries_92 : decode cX11_tries 92 = .ok (.aload_n 0, 1) := by decide +kernel
theorem dX11_tries_93 : decode cX11_tries 93 = .ok (.aload_n 0, 1) := by decide +kernel
theorem dX11_tries_94 : decode cX11_tries 94 = .ok (.getfield 317, 3) := by decide +kernel
theorem dX11_tries_97 : decode cX11_tries 97 = .ok (.ifCond .ne 7, 3) := by decide +kernel
theorem dX11_tries_100 : decode cX11_tries 100 = .ok (.iconst 0, 1) := by decide +kernel
theorem dX11_tries_101 : decode cX11_tries 101 = .ok (.goto 13, 3) := by decide +kernel
theorem dX11_tries_104 : decode cX11_tries 104 = .ok (.aload_n 0, 1) := by decide +kernel
theorem dX11_tries_105 : decode cX11_tries 105 = .ok (.aload_n 0, 1) := by decide +kernel
theorem dX11_tries_106 : decode cX11_tries 106 = .ok (.getfield 317, 3) := by decide +kernel
theorem dX11_tries_109 : decode cX11_tries 109 = .ok (.iconst 1, 1) := by decide +kernel
theorem dX11_tries_110 : decode cX11_tries 110 = .ok (.isub, 1) := by decide +kernel
theorem dX11_tries_111 : decode cX11_tries 111 = .ok (.invokevirtual 314, 3) := by decide +kernel
theorem dX11_tries_114 : decode cX11_tries 114 = .ok (.putfield 323, 3) := by decide +kernel
theorem dX11_tries_117 : decode cX11_tries 117 = .ok (.iconst 0, 1) := by decide +kernel
theorem dX11_tries_118 : decode cX11_tries 118 = .ok (.istore_n 3, 1) := by decide +kernel
theorem dX11_tries_119 : decode cX11_tries 119 = .ok (.iload_n 3, 1) := by decide +kernel
theorem dX11_tries_120 : decode cX11_tries 120 = .ok (.bipush 33, 2) := by decide +kernel
theorem dX11_tries_122 : decode cX11_tries 122 = .ok (.if_icmp .ge 21, 3) := by decide +kernel
theorem dX11_tries_125 : decode cX11_tries 125 = .ok (.aload_n 0, 1) := by decide +kernel
theorem dX11_tries_126 : decode cX11_tries 126 = .ok (.getfield 35, 3) := by decide +kernel
theorem dX11_tries_129 : decode cX11_tries 129 = .ok (.iload_n 3, 1) := by decide +kernel
theorem dX11_tries_130 : decode cX11_tries 130 = .ok (.aload_n 0, 1) := by decide +kernel
theorem dX11_tries_131 : decode cX11_tries 131 = .ok (.getfield 65, 3) := by decide +kernel
theorem dX11_tries_134 : decode cX11_tries 134 = .ok (.iload_n 3, 1) := by decide +kernel
theorem dX11_tries_135 : decode cX11_tries 135 = .ok (.iaload, 1) := by decide +kernel
theorem dX11_tries_136 : decode cX11_tries 136 = .ok (.iastore, 1) := by decide +kernel
theorem dX11_tries_137 : decode cX11_tries 137 = .ok (.iinc 3 1, 3) := by decide +kernel
theorem dX11_tries_140 : decode cX11_tries 140 = .ok (.goto (-21), 3) := by decide +kernel
theorem dX11_tries_143 : decode cX11_tries 143 = .ok (.return_, 1) := by decide +kernel
theorem dX11_would_0 : decode cX11_would 0 = .ok (.iload_n 1, 1) := by decide +kernel
theorem dX11_would_1 : decode cX11_would 1 = .ok (.iconst 0, 1) := by decide +kernel
theorem dX11_would_2 : decode cX11_would 2 = .ok (.iconst 3, 1) := by decide +kernel
theorem dX11_would_3 : decode cX11_would 3 = .ok (.invokestatic 75, 3) := by decide +kernel
theorem dX11_would_6 : decode cX11_would 6 = .ok (.ifCond .eq 19, 3) := by decide +kernel
theorem dX11_would_9 : decode cX11_would 9 = .ok (.iload_n 2, 1) := by decide +kernel
theorem dX11_would_10 : decode cX11_would 10 = .ok (.iconst 0, 1) := by decide +kernel
theorem dX11_would_11 : decode cX11_would 11 = .ok (.iconst 2, 1) := by decide +kernel
theorem dX11_would_12 : decode cX11_would 12 = .ok (.invokestatic 75, 3) := by decide +kernel
theorem dX11_would_15 : decode cX11_would 15 = .ok (.ifCond .eq 10, 3) := by decide +kernel
theorem dX11_would_18 : decode cX11_would 18 = .ok (.aload_n 0, 1) := by decide +kernel
theorem dX11_would_19 : decode cX11_would 19 = .ok (.getfield 179, 3) := by decide +kernel
theorem dX11_would_22 : decode cX11_would 22 = .ok (.ifCond .ne 5, 3) := by decide +kernel
theorem dX11_would_25 : decode cX11_would 25 = .ok (.iconst (-1), 1) := by decide +kernel
theorem dX11_would_26 : decode cX11_would 26 = .ok (.ireturn, 1) := by decide +kernel
theorem dX11_would_27 : decode cX11_would 27 = .ok (.aload_n 0, 1) := by decide +kernel
theorem dX11_would_28 : decode cX11_would 28 = .ok (.iload_n 1, 1) := by decide +kernel
theorem dX11_would_29 : decode cX11_would 29 = .ok (.iload_n 2, 1) := by decide +kernel
theorem dX11_would_30 : decode cX11_would 30 = .ok (.invokevirtual 326, 3) := by decide +kernel
theorem dX11_would_33 : decode cX11_would 33 = .ok (.aload_n 0, 1) := by decide +kernel
theorem dX11_would_34 : decode cX11_would 34 = .ok (.aload_n 0, 1) := by decide +kernel
theorem dX11_would_35 : decode cX11_would 35 = .ok (.getfield 320, 3) := by decide +kernel
theorem dX11_would_38 : decode cX11_would 38 = .ok (.aload_n 0, 1) := by decide +kernel
theorem dX11_would_39 : decode cX11_would 39 = .ok (.getfield 317, 3) := by decide +kernel
theorem dX11_would_42 : decode cX11_would 42 = .ok (.invokevirtual 91, 3) := by decide +kernel
theorem dX11_would_45 : decode cX11_would 45 = .ok (.ireturn, 1) := by decide +kernel
theorem dX11_bitsOf_0 : decode cX11_bitsOf 0 = .ok (.iconst 0, 1) := by decide +kernel
theorem dX11_bitsOf_1 : decode cX11_bitsOf 1 = .ok (.istore_n 1, 1) := by decide +kernel
theorem dX11_bitsOf_2 : decode cX11_bitsOf 2 = .ok (.iload_n 0, 1) := by decide +kernel
theorem dX11_bitsOf_3 : decode cX11_bitsOf 3 = .ok (.istore_n 2, 1) := by decide +kernel
theorem dX11_bitsOf_4 : decode cX11_bitsOf 4 = .ok (.iload_n 2, 1) := by decide +kernel
theorem dX11_bitsOf_5 : decode cX11_bitsOf 5 = .ok (.ifCond .eq 15, 3) := by decide +kernel
theorem dX11_bitsOf_8 : decode cX11_bitsOf 8 = .ok (.iinc 1 1, 3) := by decide +kernel
theorem dX11_bitsOf_11 : decode cX11_bitsOf 11 = .ok (.iload_n 2, 1) := by decide +kernel
theorem dX11_bitsOf_12 : decode cX11_bitsOf 12 = .ok (.iload_n 2, 1) := by decide +kernel
theorem dX11_bitsOf_13 : decode cX11_bitsOf 13 = .ok (.iconst 1, 1) := by decide +kernel
theorem dX11_bitsOf_14 : decode cX11_bitsOf 14 = .ok (.isub, 1) := by decide +kernel
theorem dX11_bitsOf_15 : decode cX11_bitsOf 15 = .ok (.iand, 1) := by decide +kernel
theorem dX11_bitsOf_16 : decode cX11_bitsOf 16 = .ok (.istore_n 2, 1) := by decide +kernel
theorem dX11_bitsOf_17 : decode cX11_bitsOf 17 = .ok (.goto (-13), 3) := by decide +kernel
theorem dX11_bitsOf_20 : decode cX11_bitsOf 20 = .ok (.iload_n 1, 1) := by decide +kernel
theorem dX11_bitsOf_21 : decode cX11_bitsOf 21 = .ok (.ireturn, 1) := by decide +kernel
theorem dX11_best_0 : decode cX11_best 0 = .ok (.aload_n 0, 1) := by decide +kernel
theorem dX11_best_1 : decode cX11_best 1 = .ok (.getfield 179, 3) := by decide +kernel
theorem dX11_best_4 : decode cX11_best 4 = .ok (.ifCond .ne 6, 3) := by decide +kernel
theorem dX11_best_7 : decode cX11_best 7 = .ok (.bipush (-4), 2) := by decide +kernel
theorem dX11_best_9 : decode cX11_best 9 = .ok (.ireturn, 1) := by decide +kernel
theorem dX11_best_10 : decode cX11_best 10 = .ok (.bipush (-9), 2) := by decide +kernel
theorem dX11_best_12 : decode cX11_best 12 = .ok (.istore_n 1, 1) := by decide +kernel
theorem dX11_best_13 : decode cX11_best 13 = .ok (.iconst 0, 1) := by decide +kernel
theorem dX11_best_14 : decode cX11_best 14 = .ok (.istore_n 2, 1) := by decide +kernel
theorem dX11_best_15 : decode cX11_best 15 = .ok (.iconst 0, 1) := by decide +kernel
theorem dX11_best_16 : decode cX11_best 16 = .ok (.istore_n 3, 1) := by decide +kernel
theorem dX11_best_17 : decode cX11_best 17 = .ok (.iconst 0, 1) := by decide +kernel
theorem dX11_best_18 : decode cX11_best 18 = .ok (.istore 4, 2) := by decide +kernel
theorem dX11_best_20 : decode cX11_best 20 = .ok (.iconst 0, 1) := by decide +kernel
theorem dX11_best_21 : decode cX11_best 21 = .ok (.istore 5, 2) := by decide +kernel
theorem dX11_best_23 : decode cX11_best 23 = .ok (.iload 5, 2) := by decide +kernel
theorem dX11_best_25 : decode cX11_best 25 = .ok (.iconst 4, 1) := by decide +kernel
theorem dX11_best_26 : decode cX11_best 26 = .ok (.if_icmp .ge 119, 3) := by decide +kernel
theorem dX11_best_29 : decode cX11_best 29 = .ok (.iconst 0, 1) := by decide +kernel
theorem dX11_best_30 : decode cX11_best 30 = .ok (.istore 6, 2) := by decide +kernel
theorem dX11_best_32 : decode cX11_best 32 = .ok (.iload 6, 2) := by decide +kernel
theorem dX11_best_34 : decode cX11_best 34 = .ok (.iconst 3, 1) := by decide +kernel
theorem dX11_best_35 : decode cX11_best 35 = .ok (.if_icmp .ge 104, 3) := by decide +kernel
theorem dX11_best_38 : decode cX11_best 38 = .ok (.aload_n 0, 1) := by decide +kernel
theorem dX11_best_39 : decode cX11_best 39 = .ok (.iload 5, 2) := by decide +kernel
theorem dX11_best_41 : decode cX11_best 41 = .ok (.iload 6, 2) := by decide +kernel
theorem dX11_best_43 : decode cX11_best 43 = .ok (.invokevirtual 326, 3) := by decide +kernel
theorem dX11_best_46 : decode cX11_best 46 = .ok (.aload_n 0, 1) := by decide +kernel
theorem dX11_best_47 : decode cX11_best 47 = .ok (.getfield 320, 3) := by decide +kernel
theorem dX11_best_50 : decode cX11_best 50 = .ok (.invokestatic 329, 3) := by decide +kernel
theorem dX11_best_53 : decode cX11_best 53 = .ok (.iload_n 2, 1) := by decide +kernel
theorem dX11_best_54 : decode cX11_best 54 = .ok (.isub, 1) := by decide +kernel
theorem dX11_best_55 : decode cX11_best 55 = .ok (.istore 7, 2) := by decide +kernel
theorem dX11_best_57 : decode cX11_best 57 = .ok (.iload 7, 2) := by decide +kernel
theorem dX11_best_59 : decode cX11_best 59 = .ok (.ifCond .ne 12, 3) := by decide +kernel
theorem dX11_best_62 : decode cX11_best 62 = .ok (.aload_n 0, 1) := by decide +kernel
theorem dX11_best_63 : decode cX11_best 63 = .ok (.getfield 317, 3) := by decide +kernel
theorem dX11_best_66 : decode cX11_best 66 = .ok (.iload_n 3, 1) := by decide +kernel
theorem dX11_best_67 : decode cX11_best 67 = .ok (.isub, 1) := by decide +kernel
theorem dX11_best_68 : decode cX11_best 68 = .ok (.goto 5, 3) := by decide +kernel
theorem dX11_best_71 : decode cX11_best 71 = .ok (.iload 7, 2) := by decide +kernel
theorem dX11_best_73 : decode cX11_best 73 = .ok (.istore 7, 2) := by decide +kernel
theorem dX11_best_75 : decode cX11_best 75 = .ok (.iload 7, 2) := by decide +kernel
theorem dX11_best_77 : decode cX11_best 77 = .ok (.ifCond .ne 13, 3) := by decide +kernel
theorem dX11_best_80 : decode cX11_best 80 = .ok (.aload_n 0, 1) := by decide +kernel
theorem dX11_best_81 : decode cX11_best 81 = .ok (.getfield 323, 3) := by decide +kernel
theorem dX11_best_84 : decode cX11_best 84 = .ok (.iload 4, 2) := by decide +kernel
theorem dX11_best_86 : decode cX11_best 86 = .ok (.isub, 1) := by decide +kernel
theorem dX11_best_87 : decode cX11_best 87 = .ok (.goto 5, 3) := by decide +kernel
theorem dX11_best_90 : decode cX11_best 90 = .ok (.iload 7, 2) := by decide +kernel
theorem dX11_best_92 : decode cX11_best 92 = .ok (.istore 7, 2) := by decide +kernel
theorem dX11_best_94 : decode cX11_best 94 = .ok (.iload_n 1, 1) := by decide +kernel
theorem dX11_best_95 : decode cX11_best 95 = .ok (.bipush (-9), 2) := by decide +kernel
theorem dX11_best_97 : decode cX11_best 97 = .ok (.if_icmp .eq 8, 3) := by decide +kernel
theorem dX11_best_100 : decode cX11_best 100 = .ok (.iload 7, 2) := by decide +kernel
theorem dX11_best_102 : decode cX11_best 102 = .ok (.ifCond .ge 31, 3) := by decide +kernel
theorem dX11_best_105 : decode cX11_best 105 = .ok (.bipush 10, 2) := by decide +kernel
theorem dX11_best_107 : decode cX11_best 107 = .ok (.iload 5, 2) := by decide +kernel
theorem dX11_best_109 : decode cX11_best 109 = .ok (.imul, 1) := by decide +kernel
theorem dX11_best_110 : decode cX11_best 110 = .ok (.iload 6, 2) := by decide +kernel
theorem dX11_best_112 : decode cX11_best 112 = .ok (.iadd, 1) := by decide +kernel
theorem dX11_best_113 : decode cX11_best 113 = .ok (.istore_n 1, 1) := by decide +kernel
theorem dX11_best_114 : decode cX11_best 114 = .ok (.aload_n 0, 1) := by decide +kernel
theorem dX11_best_115 : decode cX11_best 115 = .ok (.getfield 320, 3) := by decide +kernel
theorem dX11_best_118 : decode cX11_best 118 = .ok (.invokestatic 329, 3) := by decide +kernel
theorem dX11_best_121 : decode cX11_best 121 = .ok (.istore_n 2, 1) := by decide +kernel
theorem dX11_best_122 : decode cX11_best 122 = .ok (.aload_n 0, 1) := by decide +kernel
theorem dX11_best_123 : decode cX11_best 123 = .ok (.getfield 317, 3) := by decide +kernel
theorem dX11_best_126 : decode cX11_best 126 = .ok (.istore_n 3, 1) := by decide +kernel
theorem dX11_best_127 : decode cX11_best 127 = .ok (.aload_n 0, 1) := by decide +kernel
theorem dX11_best_128 : decode cX11_best 128 = .ok (.getfield 323, 3) := by decide +kernel
theorem dX11_best_131 : decode cX11_best 131 = .ok (.istore 4, 2) := by decide +kernel
theorem dX11_best_133 : decode cX11_best 133 = .ok (.iinc 6 1, 3) := by decide +kernel
theorem dX11_best_136 : decode cX11_best 136 = .ok (.goto (-104), 3) := by decide +kernel
theorem dX11_best_139 : decode cX11_best 139 = .ok (.iinc 5 1, 3) := by decide +kernel
theorem dX11_best_142 : decode cX11_best 142 = .ok (.goto (-119), 3) := by decide +kernel
theorem dX11_best_145 : decode cX11_best 145 = .ok (.aload_n 0, 1) := by decide +kernel
theorem dX11_best_146 : decode cX11_best 146 = .ok (.iload_n 3, 1) := by decide +kernel
theorem dX11_best_147 : decode cX11_best 147 = .ok (.iload_n 1, 1) := by decide +kernel
theorem dX11_best_148 : decode cX11_best 148 = .ok (.invokevirtual 91, 3) := by decide +kernel
theorem dX11_best_151 : decode cX11_best 151 = .ok (.ireturn, 1) := by decide +kernel
theorem dX11_lots_0 : decode cX11_lots 0 = .ok (.iload_n 1, 1) := by decide +kernel
theorem dX11_lots_1 : decode cX11_lots 1 = .ok (.iconst 1, 1) := by decide +kernel
theorem dX11_lots_2 : decode cX11_lots 2 = .ok (.bipush 20, 2) := by decide +kernel
theorem dX11_lots_4 : decode cX11_lots 4 = .ok (.invokestatic 75, 3) := by decide +kernel
theorem dX11_lots_7 : decode cX11_lots 7 = .ok (.ifCond .eq 14, 3) := by decide +kernel
theorem dX11_lots_10 : decode cX11_lots 10 = .ok (.iload_n 2, 1) := by decide +kernel
theorem dX11_lots_11 : decode cX11_lots 11 = .ok (.iconst 1, 1) := by decide +kernel
theorem dX11_lots_12 : decode cX11_lots 12 = .ok (.ldc_w 332, 3) := by decide +kernel
theorem dX11_lots_15 : decode cX11_lots 15 = .ok (.invokestatic 75, 3) := by decide +kernel
theorem dX11_lots_18 : decode cX11_lots 18 = .ok (.ifCond .ne 5, 3) := by decide +kernel
theorem dX11_lots_21 : decode cX11_lots 21 = .ok (.iconst (-1), 1) := by decide +kernel
theorem dX11_lots_22 : decode cX11_lots 22 = .ok (.ireturn, 1) := by decide +kernel
theorem dX11_lots_23 : decode cX11_lots 23 = .ok (.aload_n 0, 1) := by decide +kernel
theorem dX11_lots_24 : decode cX11_lots 24 = .ok (.getfield 179, 3) := by decide +kernel
theorem dX11_lots_27 : decode cX11_lots 27 = .ok (.ifCond .ne 6, 3) := by decide +kernel
theorem dX11_lots_30 : decode cX11_lots 30 = .ok (.bipush (-4), 2) := by decide +kernel
theorem dX11_lots_32 : decode cX11_lots 32 = .ok (.ireturn, 1) := by decide +kernel
theorem dX11_lots_33 : decode cX11_lots 33 = .ok (.aload_n 0, 1) := by decide +kernel
theorem dX11_lots_34 : decode cX11_lots 34 = .ok (.getfield 185, 3) := by decide +kernel
theorem dX11_lots_37 : decode cX11_lots 37 = .ok (.iload_n 1, 1) := by decide +kernel
theorem dX11_lots_38 : decode cX11_lots 38 = .ok (.iadd, 1) := by decide +kernel
theorem dX11_lots_39 : decode cX11_lots 39 = .ok (.bipush 40, 2) := by decide +kernel
theorem dX11_lots_41 : decode cX11_lots 41 = .ok (.if_icmp .le 6, 3) := by decide +kernel
theorem dX11_lots_44 : decode cX11_lots 44 = .ok (.bipush (-2), 2) := by decide +kernel
theorem dX11_lots_46 : decode cX11_lots 46 = .ok (.ireturn, 1) := by decide +kernel
theorem dX11_lots_47 : decode cX11_lots 47 = .ok (.iload_n 2, 1) := by decide +kernel
theorem dX11_lots_48 : decode cX11_lots 48 = .ok (.i2l, 1) := by decide +kernel
theorem dX11_lots_49 : decode cX11_lots 49 = .ok (.lstore_n 3, 1) := by decide +kernel
theorem dX11_lots_50 : decode cX11_lots 50 = .ok (.iconst 0, 1) := by decide +kernel
theorem dX11_lots_51 : decode cX11_lots 51 = .ok (.istore 5, 2) := by decide +kernel
theorem dX11_lots_53 : decode cX11_lots 53 = .ok (.iload 5, 2) := by decide +kernel
theorem dX11_lots_55 : decode cX11_lots 55 = .ok (.iload_n 1, 1) := by decide +kernel
theorem dX11_lots_56 : decode cX11_lots 56 = .ok (.if_icmp .ge 122, 3) := by decide +kernel
theorem dX11_lots_59 : decode cX11_lots 59 = .ok (.lload_n 3, 1) := by decide +kernel
theorem dX11_lots_60 : decode cX11_lots 60 = .ok (.ldc2_w 333, 3) := by decide +kernel
theorem dX11_lots_63 : decode cX11_lots 63 = .ok (.lmul, 1) := by decide +kernel
theorem dX11_lots_64 : decode cX11_lots 64 = .ok (.ldc2_w 335, 3) := by decide +kernel
theorem dX11_lots_67 : decode cX11_lots 67 = .ok (.lrem, 1) := by decide +kernel
theorem dX11_lots_68 : decode cX11_lots 68 = .ok (.lstore_n 3, 1) := by decide +kernel
theorem dX11_lots_69 : decode cX11_lots 69 = .ok (.aload_n 0, 1) := by decide +kernel
theorem dX11_lots_70 : decode cX11_lots 70 = .ok (.invokevirtual 293, 3) := by decide +kernel
theorem dX11_lots_73 : decode cX11_lots 73 = .ok (.lload_n 3, 1) := by decide +kernel
theorem dX11_lots_74 : decode cX11_lots 74 = .ok (.ldc2_w 337, 3) := by decide +kernel
theorem dX11_lots_77 : decode cX11_lots 77 = .ok (.ldiv, 1) := by decide +kernel
theorem dX11_lots_78 : decode cX11_lots 78 = .ok (.aload_n 0, 1) := by decide +kernel
theorem dX11_lots_79 : decode cX11_lots 79 = .ok (.getfield 179, 3) := by decide +kernel
theorem dX11_lots_82 : decode cX11_lots 82 = .ok (.i2l, 1) := by decide +kernel
theorem dX11_lots_83 : decode cX11_lots 83 = .ok (.lrem, 1) := by decide +kernel
theorem dX11_lots_84 : decode cX11_lots 84 = .ok (.l2i, 1) := by decide +kernel
theorem dX11_lots_85 : decode cX11_lots 85 = .ok (.istore 6, 2) := by decide +kernel
theorem dX11_lots_87 : decode cX11_lots 87 = .ok (.lload_n 3, 1) := by decide +kernel
theorem dX11_lots_88 : decode cX11_lots 88 = .ok (.ldc2_w 337, 3) := by decide +kernel
theorem dX11_lots_91 : decode cX11_lots 91 = .ok (.lrem, 1) := by decide +kernel
theorem dX11_lots_92 : decode cX11_lots 92 = .ok (.l2i, 1) := by decide +kernel
theorem dX11_lots_93 : decode cX11_lots 93 = .ok (.istore 7, 2) := by decide +kernel
theorem dX11_lots_95 : decode cX11_lots 95 = .ok (.iload 7, 2) := by decide +kernel
theorem dX11_lots_97 : decode cX11_lots 97 = .ok (.ifCond .ne 23, 3) := by decide +kernel
theorem dX11_lots_100 : decode cX11_lots 100 = .ok (.aload_n 0, 1) := by decide +kernel
theorem dX11_lots_101 : decode cX11_lots 101 = .ok (.getfield 35, 3) := by decide +kernel
theorem dX11_lots_104 : decode cX11_lots 104 = .ok (.bipush 32, 2) := by decide +kernel
theorem dX11_lots_106 : decode cX11_lots 106 = .ok (.lload_n 3, 1) := by decide +kernel
theorem dX11_lots_107 : decode cX11_lots 107 = .ok (.ldc2_w 339, 3) := by decide +kernel
theorem dX11_lots_110 : decode cX11_lots 110 = .ok (.ldiv, 1) := by decide +kernel
theorem dX11_lots_111 : decode cX11_lots 111 = .ok (.ldc2_w 341, 3) := by decide +kernel
theorem dX11_lots_114 : decode cX11_lots 114 = .ok (.lrem, 1) := by decide +kernel
theorem dX11_lots_115 : decode cX11_lots 115 = .ok (.l2i, 1) := by decide +kernel
theorem dX11_lots_116 : decode cX11_lots 116 = .ok (.iastore, 1) := by decide +kernel
theorem dX11_lots_117 : decode cX11_lots 117 = .ok (.goto 55, 3) := by decide +kernel
theorem dX11_lots_120 : decode cX11_lots 120 = .ok (.iload 7, 2) := by decide +kernel
theorem dX11_lots_122 : decode cX11_lots 122 = .ok (.iconst 4, 1) := by decide +kernel
theorem dX11_lots_123 : decode cX11_lots 123 = .ok (.if_icmp .le 12, 3) := by decide +kernel
theorem dX11_lots_126 : decode cX11_lots 126 = .ok (.aload_n 0, 1) := by decide +kernel
theorem dX11_lots_127 : decode cX11_lots 127 = .ok (.iload 6, 2) := by decide +kernel
theorem dX11_lots_129 : decode cX11_lots 129 = .ok (.invokevirtual 296, 3) := by decide +kernel
theorem dX11_lots_132 : decode cX11_lots 132 = .ok (.goto 40, 3) := by decide +kernel
theorem dX11_lots_135 : decode cX11_lots 135 = .ok (.aload_n 0, 1) := by decide +kernel
theorem dX11_lots_136 : decode cX11_lots 136 = .ok (.iload 6, 2) := by decide +kernel
theorem dX11_lots_138 : decode cX11_lots 138 = .ok (.invokevirtual 232, 3) := by decide +kernel
theorem dX11_lots_141 : decode cX11_lots 141 = .ok (.ifCond .eq 8, 3) := by decide +kernel
theorem dX11_lots_144 : decode cX11_lots 144 = .ok (.bipush (-9), 2) := by decide +kernel
theorem dX11_lots_146 : decode cX11_lots 146 = .ok (.goto 9, 3) := by decide +kernel
theorem dX11_lots_149 : decode cX11_lots 149 = .ok (.aload_n 0, 1) := by decide +kernel
theorem dX11_lots_150 : decode cX11_lots 150 = .ok (.iload 6, 2) := by decide +kernel
theorem dX11_lots_152 : decode cX11_lots 152 = .ok (.invokevirtual 286, 3) := by decide +kernel
theorem dX11_lots_155 : decode cX11_lots 155 = .ok (.istore 8, 2) := by decide +kernel
theorem dX11_lots_157 : decode cX11_lots 157 = .ok (.iload 8, 2) := by decide +kernel
theorem dX11_lots_159 : decode cX11_lots 159 = .ok (.bipush (-9), 2) := by decide +kernel
theorem dX11_lots_161 : decode cX11_lots 161 = .ok (.if_icmp .eq 11, 3) := by decide +kernel
theorem dX11_lots_164 : decode cX11_lots 164 = .ok (.aload_n 0, 1) := by decide +kernel
theorem dX11_lots_165 : decode cX11_lots 165 = .ok (.iload 6, 2) := by decide +kernel
theorem dX11_lots_167 : decode cX11_lots 167 = .ok (.iload 8, 2) := by decide +kernel
theorem dX11_lots_169 : decode cX11_lots 169 = .ok (.invokevirtual 289, 3) := by decide +kernel
theorem dX11_lots_172 : decode cX11_lots 172 = .ok (.iinc 5 1, 3) := by decide +kernel
theorem dX11_lots_175 : decode cX11_lots 175 = .ok (.goto (-122), 3) := by decide +kernel
theorem dX11_lots_178 : decode cX11_lots 178 = .ok (.aload_n 0, 1) := by decide +kernel
theorem dX11_lots_179 : decode cX11_lots 179 = .ok (.invokevirtual 343, 3) := by decide +kernel
theorem dX11_lots_182 : decode cX11_lots 182 = .ok (.ireturn, 1) := by decide +kernel
theorem dX11_setMany_0 : decode cX11_setMany 0 = .ok (.iconst 0, 1) := by decide +kernel
theorem dX11_setMany_1 : decode cX11_setMany 1 = .ok (.istore_n 1, 1) := by decide +kernel
