theorem dX4_bestSpot_177 : decode cX4_bestSpot 177 = .ok (.ireturn, 1) := by decide +kernel
theorem dX4_numbersOf_0 : decode cX4_numbersOf 0 = .ok (.iload_n 1, 1) := by decide +kernel
theorem dX4_numbersOf_1 : decode cX4_numbersOf 1 = .ok (.invokestatic 91, 3) := by decide +kernel
theorem dX4_numbersOf_4 : decode cX4_numbersOf 4 = .ok (.iload_n 2, 1) := by decide +kernel
theorem dX4_numbersOf_5 : decode cX4_numbersOf 5 = .ok (.isub, 1) := by decide +kernel
theorem dX4_numbersOf_6 : decode cX4_numbersOf 6 = .ok (.istore 4, 2) := by decide +kernel
theorem dX4_numbersOf_8 : decode cX4_numbersOf 8 = .ok (.iload_n 1, 1) := by decide +kernel
theorem dX4_numbersOf_9 : decode cX4_numbersOf 9 = .ok (.invokestatic 94, 3) := by decide +kernel
theorem dX4_numbersOf_12 : decode cX4_numbersOf 12 = .ok (.iload_n 3, 1) := by decide +kernel
theorem dX4_numbersOf_13 : decode cX4_numbersOf 13 = .ok (.isub, 1) := by decide +kernel
theorem dX4_numbersOf_14 : decode cX4_numbersOf 14 = .ok (.istore 5, 2) := by decide +kernel
theorem dX4_numbersOf_16 : decode cX4_numbersOf 16 = .ok (.iload 4, 2) := by decide +kernel
theorem dX4_numbersOf_18 : decode cX4_numbersOf 18 = .ok (.iload 5, 2) := by decide +kernel
theorem dX4_numbersOf_20 : decode cX4_numbersOf 20 = .ok (.invokestatic 31, 3) := by decide +kernel
theorem dX4_numbersOf_23 : decode cX4_numbersOf 23 = .ok (.istore 6, 2) := by decide +kernel
theorem dX4_numbersOf_25 : decode cX4_numbersOf 25 = .ok (.iload 4, 2) := by decide +kernel
theorem dX4_numbersOf_27 : decode cX4_numbersOf 27 = .ok (.iload 5, 2) := by decide +kernel
theorem dX4_numbersOf_29 : decode cX4_numbersOf 29 = .ok (.invokestatic 98, 3) := by decide +kernel
theorem dX4_numbersOf_32 : decode cX4_numbersOf 32 = .ok (.istore 7, 2) := by decide +kernel
theorem dX4_numbersOf_34 : decode cX4_numbersOf 34 = .ok (.iload_n 1, 1) := by decide +kernel
theorem dX4_numbersOf_35 : decode cX4_numbersOf 35 = .ok (.invokestatic 91, 3) := by decide +kernel
theorem dX4_numbersOf_38 : decode cX4_numbersOf 38 = .ok (.iload_n 1, 1) := by decide +kernel
theorem dX4_numbersOf_39 : decode cX4_numbersOf 39 = .ok (.invokestatic 94, 3) := by decide +kernel
theorem dX4_numbersOf_42 : decode cX4_numbersOf 42 = .ok (.imul, 1) := by decide +kernel
theorem dX4_numbersOf_43 : decode cX4_numbersOf 43 = .ok (.iload_n 2, 1) := by decide +kernel
theorem dX4_numbersOf_44 : decode cX4_numbersOf 44 = .ok (.iload_n 3, 1) := by decide +kernel
theorem dX4_numbersOf_45 : decode cX4_numbersOf 45 = .ok (.imul, 1) := by decide +kernel
theorem dX4_numbersOf_46 : decode cX4_numbersOf 46 = .ok (.isub, 1) := by decide +kernel
theorem dX4_numbersOf_47 : decode cX4_numbersOf 47 = .ok (.istore 8, 2) := by decide +kernel
theorem dX4_numbersOf_49 : decode cX4_numbersOf 49 = .ok (.iload_n 0, 1) := by decide +kernel
theorem dX4_numbersOf_50 : decode cX4_numbersOf 50 = .ok (.tableswitch 59 1 3 #[26, 35, 50], 26) := by decide +kernel
theorem dX4_numbersOf_76 : decode cX4_numbersOf 76 = .ok (.iload 8, 2) := by decide +kernel
theorem dX4_numbersOf_78 : decode cX4_numbersOf 78 = .ok (.bipush 32, 2) := by decide +kernel
theorem dX4_numbersOf_80 : decode cX4_numbersOf 80 = .ok (.imul, 1) := by decide +kernel
theorem dX4_numbersOf_81 : decode cX4_numbersOf 81 = .ok (.iload 6, 2) := by decide +kernel
theorem dX4_numbersOf_83 : decode cX4_numbersOf 83 = .ok (.iadd, 1) := by decide +kernel
theorem dX4_numbersOf_84 : decode cX4_numbersOf 84 = .ok (.ireturn, 1) := by decide +kernel
theorem dX4_numbersOf_85 : decode cX4_numbersOf 85 = .ok (.iload_n 1, 1) := by decide +kernel
theorem dX4_numbersOf_86 : decode cX4_numbersOf 86 = .ok (.invokestatic 90, 3) := by decide +kernel
theorem dX4_numbersOf_89 : decode cX4_numbersOf 89 = .ok (.iload_n 3, 1) := by decide +kernel
theorem dX4_numbersOf_90 : decode cX4_numbersOf 90 = .ok (.iadd, 1) := by decide +kernel
theorem dX4_numbersOf_91 : decode cX4_numbersOf 91 = .ok (.bipush 32, 2) := by decide +kernel
theorem dX4_numbersOf_93 : decode cX4_numbersOf 93 = .ok (.imul, 1) := by decide +kernel
theorem dX4_numbersOf_94 : decode cX4_numbersOf 94 = .ok (.iload_n 1, 1) := by decide +kernel
theorem dX4_numbersOf_95 : decode cX4_numbersOf 95 = .ok (.invokestatic 89, 3) := by decide +kernel
theorem dX4_numbersOf_98 : decode cX4_numbersOf 98 = .ok (.iadd, 1) := by decide +kernel
theorem dX4_numbersOf_99 : decode cX4_numbersOf 99 = .ok (.ireturn, 1) := by decide +kernel
theorem dX4_numbersOf_100 : decode cX4_numbersOf 100 = .ok (.iload 7, 2) := by decide +kernel
theorem dX4_numbersOf_102 : decode cX4_numbersOf 102 = .ok (.bipush 32, 2) := by decide +kernel
theorem dX4_numbersOf_104 : decode cX4_numbersOf 104 = .ok (.imul, 1) := by decide +kernel
theorem dX4_numbersOf_105 : decode cX4_numbersOf 105 = .ok (.iload 6, 2) := by decide +kernel
theorem dX4_numbersOf_107 : decode cX4_numbersOf 107 = .ok (.iadd, 1) := by decide +kernel
theorem dX4_numbersOf_108 : decode cX4_numbersOf 108 = .ok (.ireturn, 1) := by decide +kernel
theorem dX4_numbersOf_109 : decode cX4_numbersOf 109 = .ok (.iload 6, 2) := by decide +kernel
theorem dX4_numbersOf_111 : decode cX4_numbersOf 111 = .ok (.bipush 32, 2) := by decide +kernel
theorem dX4_numbersOf_113 : decode cX4_numbersOf 113 = .ok (.imul, 1) := by decide +kernel
theorem dX4_numbersOf_114 : decode cX4_numbersOf 114 = .ok (.iload 7, 2) := by decide +kernel
theorem dX4_numbersOf_116 : decode cX4_numbersOf 116 = .ok (.iadd, 1) := by decide +kernel
theorem dX4_numbersOf_117 : decode cX4_numbersOf 117 = .ok (.ireturn, 1) := by decide +kernel
theorem dX5_init_0 : decode cX5_init 0 = .ok (.aload_n 0, 1) := by decide +kernel
theorem dX5_init_1 : decode cX5_init 1 = .ok (.invokespecial 3, 3) := by decide +kernel
theorem dX5_init_4 : decode cX5_init 4 = .ok (.aload_n 0, 1) := by decide +kernel
theorem dX5_init_5 : decode cX5_init 5 = .ok (.bipush 40, 2) := by decide +kernel
theorem dX5_init_7 : decode cX5_init 7 = .ok (.newarray .int, 2) := by decide +kernel
theorem dX5_init_9 : decode cX5_init 9 = .ok (.putfield 9, 3) := by decide +kernel
theorem dX5_init_12 : decode cX5_init 12 = .ok (.aload_n 0, 1) := by decide +kernel
theorem dX5_init_13 : decode cX5_init 13 = .ok (.iconst (-1), 1) := by decide +kernel
theorem dX5_init_14 : decode cX5_init 14 = .ok (.putfield 15, 3) := by decide +kernel
theorem dX5_init_17 : decode cX5_init 17 = .ok (.return_, 1) := by decide +kernel
theorem dX5_isMissing_0 : decode cX5_isMissing 0 = .ok (.aload_n 0, 1) := by decide +kernel
theorem dX5_isMissing_1 : decode cX5_isMissing 1 = .ok (.getfield 15, 3) := by decide +kernel
theorem dX5_isMissing_4 : decode cX5_isMissing 4 = .ok (.iconst (-1), 1) := by decide +kernel
theorem dX5_isMissing_5 : decode cX5_isMissing 5 = .ok (.if_icmp .ne 7, 3) := by decide +kernel
theorem dX5_isMissing_8 : decode cX5_isMissing 8 = .ok (.iconst 1, 1) := by decide +kernel
theorem dX5_isMissing_9 : decode cX5_isMissing 9 = .ok (.goto 4, 3) := by decide +kernel
theorem dX5_isMissing_12 : decode cX5_isMissing 12 = .ok (.iconst 0, 1) := by decide +kernel
theorem dX5_isMissing_13 : decode cX5_isMissing 13 = .ok (.ireturn, 1) := by decide +kernel
theorem dX5_renew_0 : decode cX5_renew 0 = .ok (.aload_n 0, 1) := by decide +kernel
theorem dX5_renew_1 : decode cX5_renew 1 = .ok (.iconst 0, 1) := by decide +kernel
theorem dX5_renew_2 : decode cX5_renew 2 = .ok (.iload_n 1, 1) := by decide +kernel
theorem dX5_renew_3 : decode cX5_renew 3 = .ok (.bipush 40, 2) := by decide +kernel
theorem dX5_renew_5 : decode cX5_renew 5 = .ok (.invokestatic 19, 3) := by decide +kernel
theorem dX5_renew_8 : decode cX5_renew 8 = .ok (.invokestatic 25, 3) := by decide +kernel
theorem dX5_renew_11 : decode cX5_renew 11 = .ok (.putfield 15, 3) := by decide +kernel
theorem dX5_renew_14 : decode cX5_renew 14 = .ok (.iconst 0, 1) := by decide +kernel
theorem dX5_renew_15 : decode cX5_renew 15 = .ok (.istore_n 2, 1) := by decide +kernel
theorem dX5_renew_16 : decode cX5_renew 16 = .ok (.iload_n 2, 1) := by decide +kernel
theorem dX5_renew_17 : decode cX5_renew 17 = .ok (.aload_n 0, 1) := by decide +kernel
theorem dX5_renew_18 : decode cX5_renew 18 = .ok (.getfield 15, 3) := by decide +kernel
theorem dX5_renew_21 : decode cX5_renew 21 = .ok (.if_icmp .ge 16, 3) := by decide +kernel
theorem dX5_renew_24 : decode cX5_renew 24 = .ok (.aload_n 0, 1) := by decide +kernel
theorem dX5_renew_25 : decode cX5_renew 25 = .ok (.getfield 9, 3) := by decide +kernel
theorem dX5_renew_28 : decode cX5_renew 28 = .ok (.iload_n 2, 1) := by decide +kernel
theorem dX5_renew_29 : decode cX5_renew 29 = .ok (.iconst 0, 1) := by decide +kernel
theorem dX5_renew_30 : decode cX5_renew 30 = .ok (.iastore, 1) := by decide +kernel
theorem dX5_renew_31 : decode cX5_renew 31 = .ok (.iinc 2 1, 3) := by decide +kernel
theorem dX5_renew_34 : decode cX5_renew 34 = .ok (.goto (-18), 3) := by decide +kernel
theorem dX5_renew_37 : decode cX5_renew 37 = .ok (.return_, 1) := by decide +kernel
theorem dX5_holds_0 : decode cX5_holds 0 = .ok (.iload_n 1, 1) := by decide +kernel
theorem dX5_holds_1 : decode cX5_holds 1 = .ok (.ifCond .lt 25, 3) := by decide +kernel
theorem dX5_holds_4 : decode cX5_holds 4 = .ok (.iload_n 1, 1) := by decide +kernel
theorem dX5_holds_5 : decode cX5_holds 5 = .ok (.aload_n 0, 1) := by decide +kernel
theorem dX5_holds_6 : decode cX5_holds 6 = .ok (.getfield 15, 3) := by decide +kernel
theorem dX5_holds_9 : decode cX5_holds 9 = .ok (.if_icmp .gt 17, 3) := by decide +kernel
theorem dX5_holds_12 : decode cX5_holds 12 = .ok (.iload_n 2, 1) := by decide +kernel
theorem dX5_holds_13 : decode cX5_holds 13 = .ok (.aload_n 0, 1) := by decide +kernel
theorem dX5_holds_14 : decode cX5_holds 14 = .ok (.getfield 15, 3) := by decide +kernel
theorem dX5_holds_17 : decode cX5_holds 17 = .ok (.iload_n 1, 1) := by decide +kernel
theorem dX5_holds_18 : decode cX5_holds 18 = .ok (.isub, 1) := by decide +kernel
theorem dX5_holds_19 : decode cX5_holds 19 = .ok (.if_icmp .gt 7, 3) := by decide +kernel
theorem dX5_holds_22 : decode cX5_holds 22 = .ok (.iconst 1, 1) := by decide +kernel
theorem dX5_holds_23 : decode cX5_holds 23 = .ok (.goto 4, 3) := by decide +kernel
theorem dX5_holds_26 : decode cX5_holds 26 = .ok (.iconst 0, 1) := by decide +kernel
theorem dX5_holds_27 : decode cX5_holds 27 = .ok (.ireturn, 1) := by decide +kernel
theorem dX5_sum_0 : decode cX5_sum 0 = .ok (.lconst 0, 1) := by decide +kernel
theorem dX5_sum_1 : decode cX5_sum 1 = .ok (.lstore_n 1, 1) := by decide +kernel
theorem dX5_sum_2 : decode cX5_sum 2 = .ok (.iconst 0, 1) := by decide +kernel
theorem dX5_sum_3 : decode cX5_sum 3 = .ok (.istore_n 3, 1) := by decide +kernel
theorem dX5_sum_4 : decode cX5_sum 4 = .ok (.iload_n 3, 1) := by decide +kernel
theorem dX5_sum_5 : decode cX5_sum 5 = .ok (.aload_n 0, 1) := by decide +kernel
theorem dX5_sum_6 : decode cX5_sum 6 = .ok (.getfield 15, 3) := by decide +kernel
theorem dX5_sum_9 : decode cX5_sum 9 = .ok (.if_icmp .ge 19, 3) := by decide +kernel
theorem dX5_sum_12 : decode cX5_sum 12 = .ok (.lload_n 1, 1) := by decide +kernel
theorem dX5_sum_13 : decode cX5_sum 13 = .ok (.aload_n 0, 1) := by decide +kernel
theorem dX5_sum_14 : decode cX5_sum 14 = .ok (.getfield 9, 3) := by decide +kernel
theorem dX5_sum_17 : decode cX5_sum 17 = .ok (.iload_n 3, 1) := by decide +kernel
theorem dX5_sum_18 : decode cX5_sum 18 = .ok (.iaload, 1) := by decide +kernel
theorem dX5_sum_19 : decode cX5_sum 19 = .ok (.i2l, 1) := by decide +kernel
theorem dX5_sum_20 : decode cX5_sum 20 = .ok (.ladd, 1) := by decide +kernel
theorem dX5_sum_21 : decode cX5_sum 21 = .ok (.lstore_n 1, 1) := by decide +kernel
theorem dX5_sum_22 : decode cX5_sum 22 = .ok (.iinc 3 1, 3) := by decide +kernel
theorem dX5_sum_25 : decode cX5_sum 25 = .ok (.goto (-21), 3) := by decide +kernel
theorem dX5_sum_28 : decode cX5_sum 28 = .ok (.lload_n 1, 1) := by decide +kernel
theorem dX5_sum_29 : decode cX5_sum 29 = .ok (.lreturn, 1) := by decide +kernel
theorem dX6_init_0 : decode cX6_init 0 = .ok (.aload_n 0, 1) := by decide +kernel
theorem dX6_init_1 : decode cX6_init 1 = .ok (.invokespecial 3, 3) := by decide +kernel
theorem dX6_init_4 : decode cX6_init 4 = .ok (.aload_n 0, 1) := by decide +kernel
theorem dX6_init_5 : decode cX6_init 5 = .ok (.bipush 120, 2) := by decide +kernel
theorem dX6_init_7 : decode cX6_init 7 = .ok (.newarray .byte, 2) := by decide +kernel
theorem dX6_init_9 : decode cX6_init 9 = .ok (.putfield 9, 3) := by decide +kernel
theorem dX6_init_12 : decode cX6_init 12 = .ok (.aload_n 0, 1) := by decide +kernel
theorem dX6_init_13 : decode cX6_init 13 = .ok (.iconst 0, 1) := by decide +kernel
theorem dX6_init_14 : decode cX6_init 14 = .ok (.putfield 15, 3) := by decide +kernel
theorem dX6_init_17 : decode cX6_init 17 = .ok (.return_, 1) := by decide +kernel
theorem dX6_writeSheet_0 : decode cX6_writeSheet 0 = .ok (.aload_n 0, 1) := by decide +kernel
theorem dX6_writeSheet_1 : decode cX6_writeSheet 1 = .ok (.iconst 0, 1) := by decide +kernel
theorem dX6_writeSheet_2 : decode cX6_writeSheet 2 = .ok (.putfield 15, 3) := by decide +kernel
theorem dX6_writeSheet_5 : decode cX6_writeSheet 5 = .ok (.aload_n 0, 1) := by decide +kernel
theorem dX6_writeSheet_6 : decode cX6_writeSheet 6 = .ok (.ldc 19, 2) := by decide +kernel
theorem dX6_writeSheet_8 : decode cX6_writeSheet 8 = .ok (.invokevirtual 21, 3) := by decide +kernel
theorem dX6_writeSheet_11 : decode cX6_writeSheet 11 = .ok (.aload_n 0, 1) := by decide +kernel
theorem dX6_writeSheet_12 : decode cX6_writeSheet 12 = .ok (.aload_n 1, 1) := by decide +kernel
theorem dX6_writeSheet_13 : decode cX6_writeSheet 13 = .ok (.getfield 25, 3) := by decide +kernel
theorem dX6_writeSheet_16 : decode cX6_writeSheet 16 = .ok (.invokevirtual 30, 3) := by decide +kernel
theorem dX6_writeSheet_19 : decode cX6_writeSheet 19 = .ok (.aload_n 0, 1) := by decide +kernel
theorem dX6_writeSheet_20 : decode cX6_writeSheet 20 = .ok (.aload_n 1, 1) := by decide +kernel
theorem dX6_writeSheet_21 : decode cX6_writeSheet 21 = .ok (.getfield 34, 3) := by decide +kernel
theorem dX6_writeSheet_24 : decode cX6_writeSheet 24 = .ok (.invokevirtual 30, 3) := by decide +kernel
theorem dX6_writeSheet_27 : decode cX6_writeSheet 27 = .ok (.aload_n 0, 1) := by decide +kernel
theorem dX6_writeSheet_28 : decode cX6_writeSheet 28 = .ok (.bipush 59, 2) := by decide +kernel
theorem dX6_writeSheet_30 : decode cX6_writeSheet 30 = .ok (.invokevirtual 37, 3) := by decide +kernel
theorem dX6_writeSheet_33 : decode cX6_writeSheet 33 = .ok (.aload_n 1, 1) := by decide +kernel
theorem dX6_writeSheet_34 : decode cX6_writeSheet 34 = .ok (.getfield 40, 3) := by decide +kernel
theorem dX6_writeSheet_37 : decode cX6_writeSheet 37 = .ok (.ifCond .eq 23, 3) := by decide +kernel
theorem dX6_writeSheet_40 : decode cX6_writeSheet 40 = .ok (.aload_n 0, 1) := by decide +kernel
theorem dX6_writeSheet_41 : decode cX6_writeSheet 41 = .ok (.ldc 43, 2) := by decide +kernel
theorem dX6_writeSheet_43 : decode cX6_writeSheet 43 = .ok (.invokevirtual 21, 3) := by decide +kernel
theorem dX6_writeSheet_46 : decode cX6_writeSheet 46 = .ok (.aload_n 0, 1) := by decide +kernel
theorem dX6_writeSheet_47 : decode cX6_writeSheet 47 = .ok (.aload_n 1, 1) := by decide +kernel
theorem dX6_writeSheet_48 : decode cX6_writeSheet 48 = .ok (.getfield 40, 3) := by decide +kernel
theorem dX6_writeSheet_51 : decode cX6_writeSheet 51 = .ok (.invokevirtual 30, 3) := by decide +kernel
theorem dX6_writeSheet_54 : decode cX6_writeSheet 54 = .ok (.aload_n 0, 1) := by decide +kernel
theorem dX6_writeSheet_55 : decode cX6_writeSheet 55 = .ok (.bipush 59, 2) := by decide +kernel
theorem dX6_writeSheet_57 : decode cX6_writeSheet 57 = .ok (.invokevirtual 37, 3) := by decide +kernel
theorem dX6_writeSheet_60 : decode cX6_writeSheet 60 = .ok (.iconst 0, 1) := by decide +kernel
theorem dX6_writeSheet_61 : decode cX6_writeSheet 61 = .ok (.istore_n 2, 1) := by decide +kernel
theorem dX6_writeSheet_62 : decode cX6_writeSheet 62 = .ok (.iload_n 2, 1) := by decide +kernel
theorem dX6_writeSheet_63 : decode cX6_writeSheet 63 = .ok (.aload_n 1, 1) := by decide +kernel
theorem dX6_writeSheet_64 : decode cX6_writeSheet 64 = .ok (.getfield 44, 3) := by decide +kernel
theorem dX6_writeSheet_67 : decode cX6_writeSheet 67 = .ok (.if_icmp .ge 19, 3) := by decide +kernel
theorem dX6_writeSheet_70 : decode cX6_writeSheet 70 = .ok (.aload_n 0, 1) := by decide +kernel
theorem dX6_writeSheet_71 : decode cX6_writeSheet 71 = .ok (.aload_n 1, 1) := by decide +kernel
theorem dX6_writeSheet_72 : decode cX6_writeSheet 72 = .ok (.getfield 45, 3) := by decide +kernel
theorem dX6_writeSheet_75 : decode cX6_writeSheet 75 = .ok (.iload_n 2, 1) := by decide +kernel
theorem dX6_writeSheet_76 : decode cX6_writeSheet 76 = .ok (.aaload, 1) := by decide +kernel
theorem dX6_writeSheet_77 : decode cX6_writeSheet 77 = .ok (.invokevirtual 49, 3) := by decide +kernel
theorem dX6_writeSheet_80 : decode cX6_writeSheet 80 = .ok (.iinc 2 1, 3) := by decide +kernel
theorem dX6_writeSheet_83 : decode cX6_writeSheet 83 = .ok (.goto (-21), 3) := by decide +kernel
theorem dX6_writeSheet_86 : decode cX6_writeSheet 86 = .ok (.return_, 1) := by decide +kernel
theorem dX6_writeFrame_0 : decode cX6_writeFrame 0 = .ok (.aload_n 0, 1) := by decide +kernel
theorem dX6_writeFrame_1 : decode cX6_writeFrame 1 = .ok (.aload_n 1, 1) := by decide +kernel
theorem dX6_writeFrame_2 : decode cX6_writeFrame 2 = .ok (.getfield 53, 3) := by decide +kernel
theorem dX6_writeFrame_5 : decode cX6_writeFrame 5 = .ok (.invokestatic 58, 3) := by decide +kernel
theorem dX6_writeFrame_8 : decode cX6_writeFrame 8 = .ok (.invokevirtual 21, 3) := by decide +kernel
theorem dX6_writeFrame_11 : decode cX6_writeFrame 11 = .ok (.aload_n 0, 1) := by decide +kernel
theorem dX6_writeFrame_12 : decode cX6_writeFrame 12 = .ok (.aload_n 1, 1) := by decide +kernel
theorem dX6_writeFrame_13 : decode cX6_writeFrame 13 = .ok (.getfield 62, 3) := by decide +kernel
theorem dX6_writeFrame_16 : decode cX6_writeFrame 16 = .ok (.invokevirtual 30, 3) := by decide +kernel
theorem dX6_writeFrame_19 : decode cX6_writeFrame 19 = .ok (.aload_n 0, 1) := by decide +kernel
theorem dX6_writeFrame_20 : decode cX6_writeFrame 20 = .ok (.aload_n 1, 1) := by decide +kernel
theorem dX6_writeFrame_21 : decode cX6_writeFrame 21 = .ok (.getfield 65, 3) := by decide +kernel
theorem dX6_writeFrame_24 : decode cX6_writeFrame 24 = .ok (.invokevirtual 30, 3) := by decide +kernel
theorem dX6_writeFrame_27 : decode cX6_writeFrame 27 = .ok (.aload_n 0, 1) := by decide +kernel
theorem dX6_writeFrame_28 : decode cX6_writeFrame 28 = .ok (.aload_n 1, 1) := by decide +kernel
theorem dX6_writeFrame_29 : decode cX6_writeFrame 29 = .ok (.getfield 68, 3) := by decide +kernel
theorem dX6_writeFrame_32 : decode cX6_writeFrame 32 = .ok (.invokevirtual 30, 3) := by decide +kernel
theorem dX6_writeFrame_35 : decode cX6_writeFrame 35 = .ok (.aload_n 0, 1) := by decide +kernel
theorem dX6_writeFrame_36 : decode cX6_writeFrame 36 = .ok (.aload_n 1, 1) := by decide +kernel
theorem dX6_writeFrame_37 : decode cX6_writeFrame 37 = .ok (.getfield 71, 3) := by decide +kernel
theorem dX6_writeFrame_40 : decode cX6_writeFrame 40 = .ok (.invokevirtual 30, 3) := by decide +kernel
theorem dX6_writeFrame_43 : decode cX6_writeFrame 43 = .ok (.aload_n 0, 1) := by decide +kernel
theorem dX6_writeFrame_44 : decode cX6_writeFrame 44 = .ok (.aload_n 1, 1) := by decide +kernel
theorem dX6_writeFrame_45 : decode cX6_writeFrame 45 = .ok (.getfield 74, 3) := by decide +kernel
theorem dX6_writeFrame_48 : decode cX6_writeFrame 48 = .ok (.invokevirtual 30, 3) := by decide +kernel
theorem dX6_writeFrame_51 : decode cX6_writeFrame 51 = .ok (.aload_n 0, 1) := by decide +kernel
theorem dX6_writeFrame_52 : decode cX6_writeFrame 52 = .ok (.aload_n 1, 1) := by decide +kernel
theorem dX6_writeFrame_53 : decode cX6_writeFrame 53 = .ok (.getfield 77, 3) := by decide +kernel
theorem dX6_writeFrame_56 : decode cX6_writeFrame 56 = .ok (.invokevirtual 30, 3) := by decide +kernel
theorem dX6_writeFrame_59 : decode cX6_writeFrame 59 = .ok (.aload_n 0, 1) := by decide +kernel
theorem dX6_writeFrame_60 : decode cX6_writeFrame 60 = .ok (.bipush 59, 2) := by decide +kernel
theorem dX6_writeFrame_62 : decode cX6_writeFrame 62 = .ok (.invokevirtual 37, 3) := by decide +kernel
theorem dX6_writeFrame_65 : decode cX6_writeFrame 65 = .ok (.return_, 1) := by decide +kernel
theorem dX6_addWord_0 : decode cX6_addWord 0 = .ok (.iconst 0, 1) := by decide +kernel
theorem dX6_addWord_1 : decode cX6_addWord 1 = .ok (.istore_n 2, 1) := by decide +kernel
theorem dX6_addWord_2 : decode cX6_addWord 2 = .ok (.iload_n 2, 1) := by decide +kernel
theorem dX6_addWord_3 : decode cX6_addWord 3 = .ok (.aload_n 1, 1) := by decide +kernel
theorem dX6_addWord_4 : decode cX6_addWord 4 = .ok (.invokevirtual 80, 3) := by decide +kernel
theorem dX6_addWord_7 : decode cX6_addWord 7 = .ok (.if_icmp .ge 18, 3) := by decide +kernel
theorem dX6_addWord_10 : decode cX6_addWord 10 = .ok (.aload_n 0, 1) := by decide +kernel
theorem dX6_addWord_11 : decode cX6_addWord 11 = .ok (.aload_n 1, 1) := by decide +kernel
theorem dX6_addWord_12 : decode cX6_addWord 12 = .ok (.iload_n 2, 1) := by decide +kernel
theorem dX6_addWord_13 : decode cX6_addWord 13 = .ok (.invokevirtual 86, 3) := by decide +kernel
theorem dX6_addWord_16 : decode cX6_addWord 16 = .ok (.invokevirtual 37, 3) := by decide +kernel
theorem dX6_addWord_19 : decode cX6_addWord 19 = .ok (.iinc 2 1, 3) := by decide +kernel
theorem dX6_addWord_22 : decode cX6_addWord 22 = .ok (.goto (-20), 3) := by decide +kernel
theorem dX6_addWord_25 : decode cX6_addWord 25 = .ok (.return_, 1) := by decide +kernel
theorem dX6_addNumber_0 : decode cX6_addNumber 0 = .ok (.aload_n 0, 1) := by decide +kernel
theorem dX6_addNumber_1 : decode cX6_addNumber 1 = .ok (.bipush 32, 2) := by decide +kernel
theorem dX6_addNumber_3 : decode cX6_addNumber 3 = .ok (.invokevirtual 37, 3) := by decide +kernel
theorem dX6_addNumber_6 : decode cX6_addNumber 6 = .ok (.iload_n 1, 1) := by decide +kernel
theorem dX6_addNumber_7 : decode cX6_addNumber 7 = .ok (.bipush 10, 2) := by decide +kernel
theorem dX6_addNumber_9 : decode cX6_addNumber 9 = .ok (.if_icmp .lt 14, 3) := by decide +kernel
theorem dX6_addNumber_12 : decode cX6_addNumber 12 = .ok (.aload_n 0, 1) := by decide +kernel
theorem dX6_addNumber_13 : decode cX6_addNumber 13 = .ok (.bipush 48, 2) := by decide +kernel
theorem dX6_addNumber_15 : decode cX6_addNumber 15 = .ok (.iload_n 1, 1) := by decide +kernel
theorem dX6_addNumber_16 : decode cX6_addNumber 16 = .ok (.bipush 10, 2) := by decide +kernel
theorem dX6_addNumber_18 : decode cX6_addNumber 18 = .ok (.idiv, 1) := by decide +kernel
theorem dX6_addNumber_19 : decode cX6_addNumber 19 = .ok (.iadd, 1) := by decide +kernel
theorem dX6_addNumber_20 : decode cX6_addNumber 20 = .ok (.invokevirtual 37, 3) := by decide +kernel
theorem dX6_addNumber_23 : decode cX6_addNumber 23 = .ok (.aload_n 0, 1) := by decide +kernel
theorem dX6_addNumber_24 : decode cX6_addNumber 24 = .ok (.bipush 48, 2) := by decide +kernel
theorem dX6_addNumber_26 : decode cX6_addNumber 26 = .ok (.iload_n 1, 1) := by decide +kernel
theorem dX6_addNumber_27 : decode cX6_addNumber 27 = .ok (.bipush 10, 2) := by decide +kernel
theorem dX6_addNumber_29 : decode cX6_addNumber 29 = .ok (.irem, 1) := by decide +kernel
theorem dX6_addNumber_30 : decode cX6_addNumber 30 = .ok (.iadd, 1) := by decide +kernel
theorem dX6_addNumber_31 : decode cX6_addNumber 31 = .ok (.invokevirtual 37, 3) := by decide +kernel
theorem dX6_addNumber_34 : decode cX6_addNumber 34 = .ok (.return_, 1) := by decide +kernel
theorem dX6_addSign_0 : decode cX6_addSign 0 = .ok (.aload_n 0, 1) := by decide +kernel
theorem dX6_addSign_1 : decode cX6_addSign 1 = .ok (.getfield 15, 3) := by decide +kernel
theorem dX6_addSign_4 : decode cX6_addSign 4 = .ok (.bipush 120, 2) := by decide +kernel
theorem dX6_addSign_6 : decode cX6_addSign 6 = .ok (.if_icmp .ge 14, 3) := by decide +kernel
theorem dX6_addSign_9 : decode cX6_addSign 9 = .ok (.aload_n 0, 1) := by decide +kernel
theorem dX6_addSign_10 : decode cX6_addSign 10 = .ok (.getfield 9, 3) := by decide +kernel
theorem dX6_addSign_13 : decode cX6_addSign 13 = .ok (.aload_n 0, 1) := by decide +kernel
theorem dX6_addSign_14 : decode cX6_addSign 14 = .ok (.getfield 15, 3) := by decide +kernel
theorem dX6_addSign_17 : decode cX6_addSign 17 = .ok (.iload_n 1, 1) := by decide +kernel
theorem dX6_addSign_18 : decode cX6_addSign 18 = .ok (.i2b, 1) := by decide +kernel
theorem dX6_addSign_19 : decode cX6_addSign 19 = .ok (.bastore, 1) := by decide +kernel
theorem dX6_addSign_20 : decode cX6_addSign 20 = .ok (.aload_n 0, 1) := by decide +kernel
theorem dX6_addSign_21 : decode cX6_addSign 21 = .ok (.dup, 1) := by decide +kernel
theorem dX6_addSign_22 : decode cX6_addSign 22 = .ok (.getfield 15, 3) := by decide +kernel
theorem dX6_addSign_25 : decode cX6_addSign 25 = .ok (.iconst 1, 1) := by decide +kernel
theorem dX6_addSign_26 : decode cX6_addSign 26 = .ok (.iadd, 1) := by decide +kernel
theorem dX6_addSign_27 : decode cX6_addSign 27 = .ok (.putfield 15, 3) := by decide +kernel
theorem dX6_addSign_30 : decode cX6_addSign 30 = .ok (.return_, 1) := by decide +kernel
theorem dX7_init_0 : decode cX7_init 0 = .ok (.aload_n 0, 1) := by decide +kernel
theorem dX7_init_1 : decode cX7_init 1 = .ok (.invokespecial 3, 3) := by decide +kernel
theorem dX7_init_4 : decode cX7_init 4 = .ok (.aload_n 0, 1) := by decide +kernel
theorem dX7_init_5 : decode cX7_init 5 = .ok (.bipush 8, 2) := by decide +kernel
theorem dX7_init_7 : decode cX7_init 7 = .ok (.anewarray 9, 3) := by decide +kernel
theorem dX7_init_10 : decode cX7_init 10 = .ok (.putfield 11, 3) := by decide +kernel
theorem dX7_init_13 : decode cX7_init 13 = .ok (.aload_n 0, 1) := by decide +kernel
theorem dX7_init_14 : decode cX7_init 14 = .ok (.iconst 0, 1) := by decide +kernel
theorem dX7_init_15 : decode cX7_init 15 = .ok (.putfield 17, 3) := by decide +kernel
theorem dX7_init_18 : decode cX7_init 18 = .ok (.aload_n 0, 1) := by decide +kernel
theorem dX7_init_19 : decode cX7_init 19 = .ok (.iconst 0, 1) := by decide +kernel
theorem dX7_init_20 : decode cX7_init 20 = .ok (.putfield 21, 3) := by decide +kernel
theorem dX7_init_23 : decode cX7_init 23 = .ok (.aload_n 0, 1) := by decide +kernel
theorem dX7_init_24 : decode cX7_init 24 = .ok (.iconst 0, 1) := by decide +kernel
theorem dX7_init_25 : decode cX7_init 25 = .ok (.putfield 24, 3) := by decide +kernel
theorem dX7_init_28 : decode cX7_init 28 = .ok (.aload_n 0, 1) := by decide +kernel
theorem dX7_init_29 : decode cX7_init 29 = .ok (.iconst 0, 1) := by decide +kernel
theorem dX7_init_30 : decode cX7_init 30 = .ok (.putfield 27, 3) := by decide +kernel
theorem dX7_init_33 : decode cX7_init 33 = .ok (.iconst 0, 1) := by decide +kernel
theorem dX7_init_34 : decode cX7_init 34 = .ok (.istore_n 1, 1) := by decide +kernel
theorem dX7_init_35 : decode cX7_init 35 = .ok (.iload_n 1, 1) := by decide +kernel
theorem dX7_init_36 : decode cX7_init 36 = .ok (.bipush 8, 2) := by decide +kernel
theorem dX7_init_38 : decode cX7_init 38 = .ok (.if_icmp .ge 22, 3) := by decide +kernel
theorem dX7_init_41 : decode cX7_init 41 = .ok (.aload_n 0, 1) := by decide +kernel
theorem dX7_init_42 : decode cX7_init 42 = .ok (.getfield 11, 3) := by decide +kernel
theorem dX7_init_45 : decode cX7_init 45 = .ok (.iload_n 1, 1) := by decide +kernel
theorem dX7_init_46 : decode cX7_init 46 = .ok (.new 9, 3) := by decide +kernel
theorem dX7_init_49 : decode cX7_init 49 = .ok (.dup, 1) := by decide +kernel
theorem dX7_init_50 : decode cX7_init 50 = .ok (.invokespecial 30, 3) := by decide +kernel
theorem dX7_init_53 : decode cX7_init 53 = .ok (.aastore, 1) := by decide +kernel
theorem dX7_init_54 : decode cX7_init 54 = .ok (.iinc 1 1, 3) := by decide +kernel
theorem dX7_init_57 : decode cX7_init 57 = .ok (.goto (-22), 3) := by decide +kernel
theorem dX7_init_60 : decode cX7_init 60 = .ok (.return_, 1) := by decide +kernel
theorem dX7_settleFrames_0 : decode cX7_settleFrames 0 = .ok (.iconst 0, 1) := by decide +kernel
theorem dX7_settleFrames_1 : decode cX7_settleFrames 1 = .ok (.istore_n 1, 1) := by decide +kernel
theorem dX7_settleFrames_2 : decode cX7_settleFrames 2 = .ok (.iload_n 1, 1) := by decide +kernel
theorem dX7_settleFrames_3 : decode cX7_settleFrames 3 = .ok (.aload_n 0, 1) := by decide +kernel
theorem dX7_settleFrames_4 : decode cX7_settleFrames 4 = .ok (.getfield 17, 3) := by decide +kernel
theorem dX7_settleFrames_7 : decode cX7_settleFrames 7 = .ok (.if_icmp .ge 22, 3) := by decide +kernel
theorem dX7_settleFrames_10 : decode cX7_settleFrames 10 = .ok (.aload_n 0, 1) := by decide +kernel
theorem dX7_settleFrames_11 : decode cX7_settleFrames 11 = .ok (.getfield 11, 3) := by decide +kernel
theorem dX7_settleFrames_14 : decode cX7_settleFrames 14 = .ok (.iload_n 1, 1) := by decide +kernel
theorem dX7_settleFrames_15 : decode cX7_settleFrames 15 = .ok (.aaload, 1) := by decide +kernel
theorem dX7_settleFrames_16 : decode cX7_settleFrames 16 = .ok (.aload_n 0, 1) := by decide +kernel
theorem dX7_settleFrames_17 : decode cX7_settleFrames 17 = .ok (.getfield 27, 3) := by decide +kernel
theorem dX7_settleFrames_20 : decode cX7_settleFrames 20 = .ok (.invokevirtual 31, 3) := by decide +kernel
theorem dX7_settleFrames_23 : decode cX7_settleFrames 23 = .ok (.iinc 1 1, 3) := by decide +kernel
theorem dX7_settleFrames_26 : decode cX7_settleFrames 26 = .ok (.goto (-24), 3) := by decide +kernel
theorem dX7_settleFrames_29 : decode cX7_settleFrames 29 = .ok (.return_, 1) := by decide +kernel
theorem dX7_placesTaken_0 : decode cX7_placesTaken 0 = .ok (.iconst 0, 1) := by decide +kernel
theorem dX7_placesTaken_1 : decode cX7_placesTaken 1 = .ok (.istore_n 3, 1) := by decide +kernel
theorem dX7_placesTaken_2 : decode cX7_placesTaken 2 = .ok (.iconst 0, 1) := by decide +kernel
theorem dX7_placesTaken_3 : decode cX7_placesTaken 3 = .ok (.istore 4, 2) := by decide +kernel
theorem dX7_placesTaken_5 : decode cX7_placesTaken 5 = .ok (.iload 4, 2) := by decide +kernel
theorem dX7_placesTaken_7 : decode cX7_placesTaken 7 = .ok (.aload_n 0, 1) := by decide +kernel
theorem dX7_placesTaken_8 : decode cX7_placesTaken 8 = .ok (.getfield 17, 3) := by decide +kernel
theorem dX7_placesTaken_11 : decode cX7_placesTaken 11 = .ok (.if_icmp .ge 41, 3) := by decide +kernel
theorem dX7_placesTaken_14 : decode cX7_placesTaken 14 = .ok (.aload_n 1, 1) := by decide +kernel
theorem dX7_placesTaken_15 : decode cX7_placesTaken 15 = .ok (.iload 4, 2) := by decide +kernel
theorem dX7_placesTaken_17 : decode cX7_placesTaken 17 = .ok (.invokevirtual 35, 3) := by decide +kernel
theorem dX7_placesTaken_20 : decode cX7_placesTaken 20 = .ok (.ifCond .eq 26, 3) := by decide +kernel
theorem dX7_placesTaken_23 : decode cX7_placesTaken 23 = .ok (.aload_n 1, 1) := by decide +kernel
theorem dX7_placesTaken_24 : decode cX7_placesTaken 24 = .ok (.iload 4, 2) := by decide +kernel
theorem dX7_placesTaken_26 : decode cX7_placesTaken 26 = .ok (.invokevirtual 41, 3) := by decide +kernel
theorem dX7_placesTaken_29 : decode cX7_placesTaken 29 = .ok (.iload_n 2, 1) := by decide +kernel
theorem dX7_placesTaken_30 : decode cX7_placesTaken 30 = .ok (.if_icmp .ne 16, 3) := by decide +kernel
theorem dX7_placesTaken_33 : decode cX7_placesTaken 33 = .ok (.iload_n 3, 1) := by decide +kernel
theorem dX7_placesTaken_34 : decode cX7_placesTaken 34 = .ok (.aload_n 0, 1) := by decide +kernel
theorem dX7_placesTaken_35 : decode cX7_placesTaken 35 = .ok (.getfield 11, 3) := by decide +kernel
theorem dX7_placesTaken_38 : decode cX7_placesTaken 38 = .ok (.iload 4, 2) := by decide +kernel
theorem dX7_placesTaken_40 : decode cX7_placesTaken 40 = .ok (.aaload, 1) := by decide +kernel
theorem dX7_placesTaken_41 : decode cX7_placesTaken 41 = .ok (.invokevirtual 45, 3) := by decide +kernel
theorem dX7_placesTaken_44 : decode cX7_placesTaken 44 = .ok (.iadd, 1) := by decide +kernel
theorem dX7_placesTaken_45 : decode cX7_placesTaken 45 = .ok (.istore_n 3, 1) := by decide +kernel
theorem dX7_placesTaken_46 : decode cX7_placesTaken 46 = .ok (.iinc 4 1, 3) := by decide +kernel
theorem dX7_placesTaken_49 : decode cX7_placesTaken 49 = .ok (.goto (-44), 3) := by decide +kernel
theorem dX7_placesTaken_52 : decode cX7_placesTaken 52 = .ok (.iload_n 3, 1) := by decide +kernel
theorem dX7_placesTaken_53 : decode cX7_placesTaken 53 = .ok (.ireturn, 1) := by decide +kernel
theorem dX8_init_0 : decode cX8_init 0 = .ok (.aload_n 0, 1) := by decide +kernel
theorem dX8_init_1 : decode cX8_init 1 = .ok (.invokespecial 3, 3) := by decide +kernel
theorem dX8_init_4 : decode cX8_init 4 = .ok (.aload_n 0, 1) := by decide +kernel
theorem dX8_init_5 : decode cX8_init 5 = .ok (.new 9, 3) := by decide +kernel
theorem dX8_init_8 : decode cX8_init 8 = .ok (.dup, 1) := by decide +kernel
theorem dX8_init_9 : decode cX8_init 9 = .ok (.invokespecial 11, 3) := by decide +kernel
theorem dX8_init_12 : decode cX8_init 12 = .ok (.putfield 12, 3) := by decide +kernel
theorem dX8_init_15 : decode cX8_init 15 = .ok (.aload_n 0, 1) := by decide +kernel
theorem dX8_init_16 : decode cX8_init 16 = .ok (.sipush 360, 3) := by decide +kernel
theorem dX8_init_19 : decode cX8_init 19 = .ok (.newarray .int, 2) := by decide +kernel
theorem dX8_init_21 : decode cX8_init 21 = .ok (.putfield 18, 3) := by decide +kernel
theorem dX8_init_24 : decode cX8_init 24 = .ok (.aload_n 0, 1) := by decide +kernel
theorem dX8_init_25 : decode cX8_init 25 = .ok (.iconst 0, 1) := by decide +kernel
theorem dX8_init_26 : decode cX8_init 26 = .ok (.putfield 22, 3) := by decide +kernel
theorem dX8_init_29 : decode cX8_init 29 = .ok (.return_, 1) := by decide +kernel
theorem dX8_isFull_0 : decode cX8_isFull 0 = .ok (.aload_n 0, 1) := by decide +kernel
theorem dX8_isFull_1 : decode cX8_isFull 1 = .ok (.getfield 22, 3) := by decide +kernel
theorem dX8_isFull_4 : decode cX8_isFull 4 = .ok (.bipush 40, 2) := by decide +kernel
theorem dX8_isFull_6 : decode cX8_isFull 6 = .ok (.if_icmp .lt 7, 3) := by decide +kernel
theorem dX8_isFull_9 : decode cX8_isFull 9 = .ok (.iconst 1, 1) := by decide +kernel
theorem dX8_isFull_10 : decode cX8_isFull 10 = .ok (.goto 4, 3) := by decide +kernel
theorem dX8_isFull_13 : decode cX8_isFull 13 = .ok (.iconst 0, 1) := by decide +kernel
theorem dX8_isFull_14 : decode cX8_isFull 14 = .ok (.ireturn, 1) := by decide +kernel
theorem dX8_start_0 : decode cX8_start 0 = .ok (.aload_n 0, 1) := by decide +kernel
theorem dX8_start_1 : decode cX8_start 1 = .ok (.getfield 12, 3) := by decide +kernel
theorem dX8_start_4 : decode cX8_start 4 = .ok (.invokevirtual 26, 3) := by decide +kernel
theorem dX8_start_7 : decode cX8_start 7 = .ok (.aload_n 0, 1) := by decide +kernel
theorem dX8_start_8 : decode cX8_start 8 = .ok (.getfield 12, 3) := by decide +kernel
theorem dX8_start_11 : decode cX8_start 11 = .ok (.iconst 0, 1) := by decide +kernel
theorem dX8_start_12 : decode cX8_start 12 = .ok (.putfield 29, 3) := by decide +kernel
theorem dX8_start_15 : decode cX8_start 15 = .ok (.aload_n 0, 1) := by decide +kernel
theorem dX8_start_16 : decode cX8_start 16 = .ok (.iconst 0, 1) := by decide +kernel
theorem dX8_start_17 : decode cX8_start 17 = .ok (.putfield 22, 3) := by decide +kernel
theorem dX8_start_20 : decode cX8_start 20 = .ok (.return_, 1) := by decide +kernel
theorem dX8_beginDeed_0 : decode cX8_beginDeed 0 = .ok (.aload_n 0, 1) := by decide +kernel
theorem dX8_beginDeed_1 : decode cX8_beginDeed 1 = .ok (.invokevirtual 32, 3) := by decide +kernel
theorem dX8_beginDeed_4 : decode cX8_beginDeed 4 = .ok (.ifCond .eq 4, 3) := by decide +kernel
theorem dX8_beginDeed_7 : decode cX8_beginDeed 7 = .ok (.return_, 1) := by decide +kernel
theorem dX8_beginDeed_8 : decode cX8_beginDeed 8 = .ok (.aload_n 0, 1) := by decide +kernel
theorem dX8_beginDeed_9 : decode cX8_beginDeed 9 = .ok (.getfield 22, 3) := by decide +kernel
theorem dX8_beginDeed_12 : decode cX8_beginDeed 12 = .ok (.bipush 9, 2) := by decide +kernel
theorem dX8_beginDeed_14 : decode cX8_beginDeed 14 = .ok (.imul, 1) := by decide +kernel
theorem dX8_beginDeed_15 : decode cX8_beginDeed 15 = .ok (.istore_n 1, 1) := by decide +kernel
theorem dX8_beginDeed_16 : decode cX8_beginDeed 16 = .ok (.aload_n 0, 1) := by decide +kernel
theorem dX8_beginDeed_17 : decode cX8_beginDeed 17 = .ok (.getfield 12, 3) := by decide +kernel
theorem dX8_beginDeed_20 : decode cX8_beginDeed 20 = .ok (.getfield 36, 3) := by decide +kernel
theorem dX8_beginDeed_23 : decode cX8_beginDeed 23 = .ok (.iconst 0, 1) := by decide +kernel
theorem dX8_beginDeed_24 : decode cX8_beginDeed 24 = .ok (.aload_n 0, 1) := by decide +kernel
theorem dX8_beginDeed_25 : decode cX8_beginDeed 25 = .ok (.getfield 18, 3) := by decide +kernel
theorem dX8_beginDeed_28 : decode cX8_beginDeed 28 = .ok (.iload_n 1, 1) := by decide +kernel
theorem dX8_beginDeed_29 : decode cX8_beginDeed 29 = .ok (.bipush 8, 2) := by decide +kernel
theorem dX8_beginDeed_31 : decode cX8_beginDeed 31 = .ok (.invokestatic 39, 3) := by decide +kernel
theorem dX8_beginDeed_34 : decode cX8_beginDeed 34 = .ok (.aload_n 0, 1) := by decide +kernel
theorem dX8_beginDeed_35 : decode cX8_beginDeed 35 = .ok (.getfield 18, 3) := by decide +kernel
theorem dX8_beginDeed_38 : decode cX8_beginDeed 38 = .ok (.iload_n 1, 1) := by decide +kernel
theorem dX8_beginDeed_39 : decode cX8_beginDeed 39 = .ok (.bipush 8, 2) := by decide +kernel
theorem dX8_beginDeed_41 : decode cX8_beginDeed 41 = .ok (.iadd, 1) := by decide +kernel
theorem dX8_beginDeed_42 : decode cX8_beginDeed 42 = .ok (.aload_n 0, 1) := by decide +kernel
theorem dX8_beginDeed_43 : decode cX8_beginDeed 43 = .ok (.getfield 12, 3) := by decide +kernel
theorem dX8_beginDeed_46 : decode cX8_beginDeed 46 = .ok (.getfield 29, 3) := by decide +kernel
theorem dX8_beginDeed_49 : decode cX8_beginDeed 49 = .ok (.iastore, 1) := by decide +kernel
theorem dX8_beginDeed_50 : decode cX8_beginDeed 50 = .ok (.aload_n 0, 1) := by decide +kernel
theorem dX8_beginDeed_51 : decode cX8_beginDeed 51 = .ok (.dup, 1) := by decide +kernel
theorem dX8_beginDeed_52 : decode cX8_beginDeed 52 = .ok (.getfield 22, 3) := by decide +kernel
theorem dX8_beginDeed_55 : decode cX8_beginDeed 55 = .ok (.iconst 1, 1) := by decide +kernel
theorem dX8_beginDeed_56 : decode cX8_beginDeed 56 = .ok (.iadd, 1) := by decide +kernel
theorem dX8_beginDeed_57 : decode cX8_beginDeed 57 = .ok (.putfield 22, 3) := by decide +kernel
theorem dX8_beginDeed_60 : decode cX8_beginDeed 60 = .ok (.return_, 1) := by decide +kernel
theorem dX8_goBackTo_0 : decode cX8_goBackTo 0 = .ok (.iload_n 1, 1) := by decide +kernel
theorem dX8_goBackTo_1 : decode cX8_goBackTo 1 = .ok (.ifCond .lt 11, 3) := by decide +kernel
theorem dX8_goBackTo_4 : decode cX8_goBackTo 4 = .ok (.iload_n 1, 1) := by decide +kernel
theorem dX8_goBackTo_5 : decode cX8_goBackTo 5 = .ok (.aload_n 0, 1) := by decide +kernel
theorem dX8_goBackTo_6 : decode cX8_goBackTo 6 = .ok (.getfield 22, 3) := by decide +kernel
theorem dX8_goBackTo_9 : decode cX8_goBackTo 9 = .ok (.if_icmp .lt 4, 3) := by decide +kernel
theorem dX8_goBackTo_12 : decode cX8_goBackTo 12 = .ok (.return_, 1) := by decide +kernel
theorem dX8_goBackTo_13 : decode cX8_goBackTo 13 = .ok (.iload_n 1, 1) := by decide +kernel
theorem dX8_goBackTo_14 : decode cX8_goBackTo 14 = .ok (.bipush 9, 2) := by decide +kernel
theorem dX8_goBackTo_16 : decode cX8_goBackTo 16 = .ok (.imul, 1) := by decide +kernel
theorem dX8_goBackTo_17 : decode cX8_goBackTo 17 = .ok (.istore_n 2, 1) := by decide +kernel
theorem dX8_goBackTo_18 : decode cX8_goBackTo 18 = .ok (.aload_n 0, 1) := by decide +kernel
theorem dX8_goBackTo_19 : decode cX8_goBackTo 19 = .ok (.getfield 18, 3) := by decide +kernel
theorem dX8_goBackTo_22 : decode cX8_goBackTo 22 = .ok (.iload_n 2, 1) := by decide +kernel
theorem dX8_goBackTo_23 : decode cX8_goBackTo 23 = .ok (.aload_n 0, 1) := by decide +kernel
theorem dX8_goBackTo_24 : decode cX8_goBackTo 24 = .ok (.getfield 12, 3) := by decide +kernel
theorem dX8_goBackTo_27 : decode cX8_goBackTo 27 = .ok (.getfield 36, 3) := by decide +kernel
theorem dX8_goBackTo_30 : decode cX8_goBackTo 30 = .ok (.iconst 0, 1) := by decide +kernel
theorem dX8_goBackTo_31 : decode cX8_goBackTo 31 = .ok (.bipush 8, 2) := by decide +kernel
theorem dX8_goBackTo_33 : decode cX8_goBackTo 33 = .ok (.invokestatic 39, 3) := by decide +kernel
theorem dX8_goBackTo_36 : decode cX8_goBackTo 36 = .ok (.aload_n 0, 1) := by decide +kernel
theorem dX8_goBackTo_37 : decode cX8_goBackTo 37 = .ok (.getfield 12, 3) := by decide +kernel
theorem dX8_goBackTo_40 : decode cX8_goBackTo 40 = .ok (.aload_n 0, 1) := by decide +kernel
theorem dX8_goBackTo_41 : decode cX8_goBackTo 41 = .ok (.getfield 18, 3) := by decide +kernel
theorem dX8_goBackTo_44 : decode cX8_goBackTo 44 = .ok (.iload_n 2, 1) := by decide +kernel
theorem dX8_goBackTo_45 : decode cX8_goBackTo 45 = .ok (.bipush 8, 2) := by decide +kernel
theorem dX8_goBackTo_47 : decode cX8_goBackTo 47 = .ok (.iadd, 1) := by decide +kernel
theorem dX8_goBackTo_48 : decode cX8_goBackTo 48 = .ok (.iaload, 1) := by decide +kernel
theorem dX8_goBackTo_49 : decode cX8_goBackTo 49 = .ok (.putfield 29, 3) := by decide +kernel
theorem dX8_goBackTo_52 : decode cX8_goBackTo 52 = .ok (.aload_n 0, 1) := by decide +kernel
theorem dX8_goBackTo_53 : decode cX8_goBackTo 53 = .ok (.iload_n 1, 1) := by decide +kernel
theorem dX8_goBackTo_54 : decode cX8_goBackTo 54 = .ok (.putfield 22, 3) := by decide +kernel
theorem dX8_goBackTo_57 : decode cX8_goBackTo 57 = .ok (.return_, 1) := by decide +kernel
theorem dX8_takeOver_0 : decode cX8_takeOver 0 = .ok (.aload_n 1, 1) := by decide +kernel
theorem dX8_takeOver_1 : decode cX8_takeOver 1 = .ok (.getfield 12, 3) := by decide +kernel
theorem dX8_takeOver_4 : decode cX8_takeOver 4 = .ok (.getfield 36, 3) := by decide +kernel
theorem dX8_takeOver_7 : decode cX8_takeOver 7 = .ok (.iconst 0, 1) := by decide +kernel
theorem dX8_takeOver_8 : decode cX8_takeOver 8 = .ok (.aload_n 0, 1) := by decide +kernel
theorem dX8_takeOver_9 : decode cX8_takeOver 9 = .ok (.getfield 12, 3) := by decide +kernel
theorem dX8_takeOver_12 : decode cX8_takeOver 12 = .ok (.getfield 36, 3) := by decide +kernel
theorem dX8_takeOver_15 : decode cX8_takeOver 15 = .ok (.iconst 0, 1) := by decide +kernel
theorem dX8_takeOver_16 : decode cX8_takeOver 16 = .ok (.bipush 8, 2) := by decide +kernel
theorem dX8_takeOver_18 : decode cX8_takeOver 18 = .ok (.invokestatic 39, 3) := by decide +kernel
theorem dX8_takeOver_21 : decode cX8_takeOver 21 = .ok (.aload_n 0, 1) := by decide +kernel
theorem dX8_takeOver_22 : decode cX8_takeOver 22 = .ok (.getfield 12, 3) := by decide +kernel
theorem dX8_takeOver_25 : decode cX8_takeOver 25 = .ok (.aload_n 1, 1) := by decide +kernel
theorem dX8_takeOver_26 : decode cX8_takeOver 26 = .ok (.getfield 12, 3) := by decide +kernel
theorem dX8_takeOver_29 : decode cX8_takeOver 29 = .ok (.getfield 29, 3) := by decide +kernel
theorem dX8_takeOver_32 : decode cX8_takeOver 32 = .ok (.putfield 29, 3) := by decide +kernel
theorem dX8_takeOver_35 : decode cX8_takeOver 35 = .ok (.aload_n 1, 1) := by decide +kernel
theorem dX8_takeOver_36 : decode cX8_takeOver 36 = .ok (.getfield 18, 3) := by decide +kernel
theorem dX8_takeOver_39 : decode cX8_takeOver 39 = .ok (.iconst 0, 1) := by decide +kernel
theorem dX8_takeOver_40 : decode cX8_takeOver 40 = .ok (.aload_n 0, 1) := by decide +kernel
theorem dX8_takeOver_41 : decode cX8_takeOver 41 = .ok (.getfield 18, 3) := by decide +kernel
theorem dX8_takeOver_44 : decode cX8_takeOver 44 = .ok (.iconst 0, 1) := by decide +kernel
theorem dX8_takeOver_45 : decode cX8_takeOver 45 = .ok (.aload_n 1, 1) := by decide +kernel
theorem dX8_takeOver_46 : decode cX8_takeOver 46 = .ok (.getfield 22, 3) := by decide +kernel
theorem dX8_takeOver_49 : decode cX8_takeOver 49 = .ok (.bipush 9, 2) := by decide +kernel
theorem dX8_takeOver_51 : decode cX8_takeOver 51 = .ok (.imul, 1) := by decide +kernel
theorem dX8_takeOver_52 : decode cX8_takeOver 52 = .ok (.invokestatic 39, 3) := by decide +kernel
theorem dX8_takeOver_55 : decode cX8_takeOver 55 = .ok (.aload_n 0, 1) := by decide +kernel
theorem dX8_takeOver_56 : decode cX8_takeOver 56 = .ok (.aload_n 1, 1) := by decide +kernel
theorem dX8_takeOver_57 : decode cX8_takeOver 57 = .ok (.getfield 22, 3) := by decide +kernel
theorem dX8_takeOver_60 : decode cX8_takeOver 60 = .ok (.putfield 22, 3) := by decide +kernel
theorem dX8_takeOver_63 : decode cX8_takeOver 63 = .ok (.return_, 1) := by decide +kernel
theorem dX9_init_0 : decode cX9_init 0 = .ok (.aload_n 0, 1) := by decide +kernel
theorem dX9_init_1 : decode cX9_init 1 = .ok (.invokespecial 3, 3) := by decide +kernel
theorem dX9_init_4 : decode cX9_init 4 = .ok (.aload_n 0, 1) := by decide +kernel
theorem dX9_init_5 : decode cX9_init 5 = .ok (.bipush 120, 2) := by decide +kernel
theorem dX9_init_7 : decode cX9_init 7 = .ok (.newarray .byte, 2) := by decide +kernel
theorem dX9_init_9 : decode cX9_init 9 = .ok (.putfield 9, 3) := by decide +kernel
theorem dX9_init_12 : decode cX9_init 12 = .ok (.aload_n 0, 1) := by decide +kernel
theorem dX9_init_13 : decode cX9_init 13 = .ok (.iconst (-1), 1) := by decide +kernel
theorem dX9_init_14 : decode cX9_init 14 = .ok (.putfield 15, 3) := by decide +kernel
theorem dX9_init_17 : decode cX9_init 17 = .ok (.return_, 1) := by decide +kernel
theorem dX9_isMissing_0 : decode cX9_isMissing 0 = .ok (.aload_n 0, 1) := by decide +kernel
theorem dX9_isMissing_1 : decode cX9_isMissing 1 = .ok (.getfield 15, 3) := by decide +kernel
theorem dX9_isMissing_4 : decode cX9_isMissing 4 = .ok (.iconst (-1), 1) := by decide +kernel
theorem dX9_isMissing_5 : decode cX9_isMissing 5 = .ok (.if_icmp .ne 7, 3) := by decide +kernel
theorem dX9_isMissing_8 : decode cX9_isMissing 8 = .ok (.iconst 1, 1) := by decide +kernel
theorem dX9_isMissing_9 : decode cX9_isMissing 9 = .ok (.goto 4, 3) := by decide +kernel
theorem dX9_isMissing_12 : decode cX9_isMissing 12 = .ok (.iconst 0, 1) := by decide +kernel
theorem dX9_isMissing_13 : decode cX9_isMissing 13 = .ok (.ireturn, 1) := by decide +kernel
theorem dX9_renew_0 : decode cX9_renew 0 = .ok (.aload_n 0, 1) := by decide +kernel
theorem dX9_renew_1 : decode cX9_renew 1 = .ok (.iconst 0, 1) := by decide +kernel
theorem dX9_renew_2 : decode cX9_renew 2 = .ok (.iload_n 1, 1) := by decide +kernel
theorem dX9_renew_3 : decode cX9_renew 3 = .ok (.bipush 120, 2) := by decide +kernel
theorem dX9_renew_5 : decode cX9_renew 5 = .ok (.invokestatic 19, 3) := by decide +kernel
theorem dX9_renew_8 : decode cX9_renew 8 = .ok (.invokestatic 25, 3) := by decide +kernel
theorem dX9_renew_11 : decode cX9_renew 11 = .ok (.putfield 15, 3) := by decide +kernel
theorem dX9_renew_14 : decode cX9_renew 14 = .ok (.iconst 0, 1) := by decide +kernel
theorem dX9_renew_15 : decode cX9_renew 15 = .ok (.istore_n 2, 1) := by decide +kernel
theorem dX9_renew_16 : decode cX9_renew 16 = .ok (.iload_n 2, 1) := by decide +kernel
theorem dX9_renew_17 : decode cX9_renew 17 = .ok (.aload_n 0, 1) := by decide +kernel
theorem dX9_renew_18 : decode cX9_renew 18 = .ok (.getfield 15, 3) := by decide +kernel
theorem dX9_renew_21 : decode cX9_renew 21 = .ok (.if_icmp .ge 17, 3) := by decide +kernel
theorem dX9_renew_24 : decode cX9_renew 24 = .ok (.aload_n 0, 1) := by decide +kernel
theorem dX9_renew_25 : decode cX9_renew 25 = .ok (.getfield 9, 3) := by decide +kernel
theorem dX9_renew_28 : decode cX9_renew 28 = .ok (.iload_n 2, 1) := by decide +kernel
theorem dX9_renew_29 : decode cX9_renew 29 = .ok (.bipush 32, 2) := by decide +kernel
theorem dX9_renew_31 : decode cX9_renew 31 = .ok (.bastore, 1) := by decide +kernel
theorem dX9_renew_32 : decode cX9_renew 32 = .ok (.iinc 2 1, 3) := by decide +kernel
theorem dX9_renew_35 : decode cX9_renew 35 = .ok (.goto (-19), 3) := by decide +kernel
theorem dX9_renew_38 : decode cX9_renew 38 = .ok (.return_, 1) := by decide +kernel
theorem dX9_takeOver_0 : decode cX9_takeOver 0 = .ok (.aload_n 0, 1) := by decide +kernel
theorem dX9_takeOver_1 : decode cX9_takeOver 1 = .ok (.iconst 0, 1) := by decide +kernel
theorem dX9_takeOver_2 : decode cX9_takeOver 2 = .ok (.iload_n 2, 1) := by decide +kernel
theorem dX9_takeOver_3 : decode cX9_takeOver 3 = .ok (.aload_n 1, 1) := by decide +kernel
theorem dX9_takeOver_4 : decode cX9_takeOver 4 = .ok (.arraylength, 1) := by decide +kernel
theorem dX9_takeOver_5 : decode cX9_takeOver 5 = .ok (.bipush 120, 2) := by decide +kernel
theorem dX9_takeOver_7 : decode cX9_takeOver 7 = .ok (.invokestatic 19, 3) := by decide +kernel
theorem dX9_takeOver_10 : decode cX9_takeOver 10 = .ok (.invokestatic 19, 3) := by decide +kernel
theorem dX9_takeOver_13 : decode cX9_takeOver 13 = .ok (.invokestatic 25, 3) := by decide +kernel
theorem dX9_takeOver_16 : decode cX9_takeOver 16 = .ok (.putfield 15, 3) := by decide +kernel
theorem dX9_takeOver_19 : decode cX9_takeOver 19 = .ok (.aload_n 1, 1) := by decide +kernel
theorem dX9_takeOver_20 : decode cX9_takeOver 20 = .ok (.iconst 0, 1) := by decide +kernel
theorem dX9_takeOver_21 : decode cX9_takeOver 21 = .ok (.aload_n 0, 1) := by decide +kernel
theorem dX9_takeOver_22 : decode cX9_takeOver 22 = .ok (.getfield 9, 3) := by decide +kernel
theorem dX9_takeOver_25 : decode cX9_takeOver 25 = .ok (.iconst 0, 1) := by decide +kernel
theorem dX9_takeOver_26 : decode cX9_takeOver 26 = .ok (.aload_n 0, 1) := by decide +kernel
theorem dX9_takeOver_27 : decode cX9_takeOver 27 = .ok (.getfield 15, 3) := by decide +kernel
theorem dX9_takeOver_30 : decode cX9_takeOver 30 = .ok (.invokestatic 28, 3) := by decide +kernel
theorem dX9_takeOver_33 : decode cX9_takeOver 33 = .ok (.return_, 1) := by decide +kernel
theorem dX10_init_0 : decode cX10_init 0 = .ok (.aload_n 0, 1) := by decide +kernel
theorem dX10_init_1 : decode cX10_init 1 = .ok (.invokespecial 1, 3) := by decide +kernel
theorem dX10_init_4 : decode cX10_init 4 = .ok (.aload_n 0, 1) := by decide +kernel
theorem dX10_init_5 : decode cX10_init 5 = .ok (.bipush 6, 2) := by decide +kernel
theorem dX10_init_7 : decode cX10_init 7 = .ok (.anewarray 9, 3) := by decide +kernel
theorem dX10_init_10 : decode cX10_init 10 = .ok (.putfield 11, 3) := by decide +kernel
theorem dX10_init_13 : decode cX10_init 13 = .ok (.aload_n 0, 1) := by decide +kernel
theorem dX10_init_14 : decode cX10_init 14 = .ok (.iconst 4, 1) := by decide +kernel
theorem dX10_init_15 : decode cX10_init 15 = .ok (.anewarray 15, 3) := by decide +kernel
theorem dX10_init_18 : decode cX10_init 18 = .ok (.putfield 17, 3) := by decide +kernel
theorem dX10_init_21 : decode cX10_init 21 = .ok (.aload_n 0, 1) := by decide +kernel
theorem dX10_init_22 : decode cX10_init 22 = .ok (.iconst 3, 1) := by decide +kernel
theorem dX10_init_23 : decode cX10_init 23 = .ok (.anewarray 21, 3) := by decide +kernel
theorem dX10_init_26 : decode cX10_init 26 = .ok (.putfield 23, 3) := by decide +kernel
theorem dX10_init_29 : decode cX10_init 29 = .ok (.aload_n 0, 1) := by decide +kernel
theorem dX10_init_30 : decode cX10_init 30 = .ok (.iconst 3, 1) := by decide +kernel
theorem dX10_init_31 : decode cX10_init 31 = .ok (.newarray .boolean, 2) := by decide +kernel
theorem dX10_init_33 : decode cX10_init 33 = .ok (.putfield 27, 3) := by decide +kernel
theorem dX10_init_36 : decode cX10_init 36 = .ok (.aload_n 0, 1) := by decide +kernel
theorem dX10_init_37 : decode cX10_init 37 = .ok (.new 21, 3) := by decide +kernel
theorem dX10_init_40 : decode cX10_init 40 = .ok (.dup, 1) := by decide +kernel
theorem dX10_init_41 : decode cX10_init 41 = .ok (.invokespecial 31, 3) := by decide +kernel
theorem dX10_init_44 : decode cX10_init 44 = .ok (.putfield 32, 3) := by decide +kernel
theorem dX10_init_47 : decode cX10_init 47 = .ok (.aload_n 0, 1) := by decide +kernel
theorem dX10_init_48 : decode cX10_init 48 = .ok (.new 36, 3) := by decide +kernel
theorem dX10_init_51 : decode cX10_init 51 = .ok (.dup, 1) := by decide +kernel
theorem dX10_init_52 : decode cX10_init 52 = .ok (.invokespecial 38, 3) := by decide +kernel
theorem dX10_init_55 : decode cX10_init 55 = .ok (.putfield 39, 3) := by decide +kernel
theorem dX10_init_58 : decode cX10_init 58 = .ok (.aload_n 0, 1) := by decide +kernel
theorem dX10_init_59 : decode cX10_init 59 = .ok (.new 43, 3) := by decide +kernel
theorem dX10_init_62 : decode cX10_init 62 = .ok (.dup, 1) := by decide +kernel
theorem dX10_init_63 : decode cX10_init 63 = .ok (.invokespecial 45, 3) := by decide +kernel
theorem dX10_init_66 : decode cX10_init 66 = .ok (.putfield 46, 3) := by decide +kernel
theorem dX10_init_69 : decode cX10_init 69 = .ok (.aload_n 0, 1) := by decide +kernel
theorem dX10_init_70 : decode cX10_init 70 = .ok (.new 50, 3) := by decide +kernel
theorem dX10_init_73 : decode cX10_init 73 = .ok (.dup, 1) := by decide +kernel
theorem dX10_init_74 : decode cX10_init 74 = .ok (.invokespecial 52, 3) := by decide +kernel
theorem dX10_init_77 : decode cX10_init 77 = .ok (.putfield 53, 3) := by decide +kernel
theorem dX10_init_80 : decode cX10_init 80 = .ok (.aload_n 0, 1) := by decide +kernel
theorem dX10_init_81 : decode cX10_init 81 = .ok (.new 57, 3) := by decide +kernel
theorem dX10_init_84 : decode cX10_init 84 = .ok (.dup, 1) := by decide +kernel
theorem dX10_init_85 : decode cX10_init 85 = .ok (.invokespecial 59, 3) := by decide +kernel
theorem dX10_init_88 : decode cX10_init 88 = .ok (.putfield 60, 3) := by decide +kernel
theorem dX10_init_91 : decode cX10_init 91 = .ok (.aload_n 0, 1) := by decide +kernel
theorem dX10_init_92 : decode cX10_init 92 = .ok (.bipush 6, 2) := by decide +kernel
theorem dX10_init_94 : decode cX10_init 94 = .ok (.newarray .int, 2) := by decide +kernel
theorem dX10_init_96 : decode cX10_init 96 = .ok (.putfield 64, 3) := by decide +kernel
theorem dX10_init_99 : decode cX10_init 99 = .ok (.aload_n 0, 1) := by decide +kernel
theorem dX10_init_100 : decode cX10_init 100 = .ok (.new 68, 3) := by decide +kernel
theorem dX10_init_103 : decode cX10_init 103 = .ok (.dup, 1) := by decide +kernel
theorem dX10_init_104 : decode cX10_init 104 = .ok (.invokespecial 70, 3) := by decide +kernel
theorem dX10_init_107 : decode cX10_init 107 = .ok (.putfield 71, 3) := by decide +kernel
theorem dX10_init_110 : decode cX10_init 110 = .ok (.aload_n 0, 1) := by decide +kernel
theorem dX10_init_111 : decode cX10_init 111 = .ok (.iconst 0, 1) := by decide +kernel
theorem dX10_init_112 : decode cX10_init 112 = .ok (.putfield 75, 3) := by decide +kernel
theorem dX10_init_115 : decode cX10_init 115 = .ok (.aload_n 0, 1) := by decide +kernel
theorem dX10_init_116 : decode cX10_init 116 = .ok (.iconst 0, 1) := by decide +kernel
theorem dX10_init_117 : decode cX10_init 117 = .ok (.putfield 79, 3) := by decide +kernel
theorem dX10_init_120 : decode cX10_init 120 = .ok (.iconst 0, 1) := by decide +kernel
theorem dX10_init_121 : decode cX10_init 121 = .ok (.istore_n 1, 1) := by decide +kernel
theorem dX10_init_122 : decode cX10_init 122 = .ok (.iload_n 1, 1) := by decide +kernel
theorem dX10_init_123 : decode cX10_init 123 = .ok (.bipush 6, 2) := by decide +kernel
theorem dX10_init_125 : decode cX10_init 125 = .ok (.if_icmp .ge 22, 3) := by decide +kernel
theorem dX10_init_128 : decode cX10_init 128 = .ok (.aload_n 0, 1) := by decide +kernel
theorem dX10_init_129 : decode cX10_init 129 = .ok (.getfield 11, 3) := by decide +kernel
theorem dX10_init_132 : decode cX10_init 132 = .ok (.iload_n 1, 1) := by decide +kernel
theorem dX10_init_133 : decode cX10_init 133 = .ok (.new 9, 3) := by decide +kernel
theorem dX10_init_136 : decode cX10_init 136 = .ok (.dup, 1) := by decide +kernel
theorem dX10_init_137 : decode cX10_init 137 = .ok (.invokespecial 82, 3) := by decide +kernel
theorem dX10_init_140 : decode cX10_init 140 = .ok (.aastore, 1) := by decide +kernel
theorem dX10_init_141 : decode cX10_init 141 = .ok (.iinc 1 1, 3) := by decide +kernel
theorem dX10_init_144 : decode cX10_init 144 = .ok (.goto (-22), 3) := by decide +kernel
theorem dX10_init_147 : decode cX10_init 147 = .ok (.iconst 0, 1) := by decide +kernel
theorem dX10_init_148 : decode cX10_init 148 = .ok (.istore_n 1, 1) := by decide +kernel
theorem dX10_init_149 : decode cX10_init 149 = .ok (.iload_n 1, 1) := by decide +kernel
theorem dX10_init_150 : decode cX10_init 150 = .ok (.iconst 4, 1) := by decide +kernel
theorem dX10_init_151 : decode cX10_init 151 = .ok (.if_icmp .ge 22, 3) := by decide +kernel
theorem dX10_init_154 : decode cX10_init 154 = .ok (.aload_n 0, 1) := by decide +kernel
theorem dX10_init_155 : decode cX10_init 155 = .ok (.getfield 17, 3) := by decide +kernel
theorem dX10_init_158 : decode cX10_init 158 = .ok (.iload_n 1, 1) := by decide +kernel
theorem dX10_init_159 : decode cX10_init 159 = .ok (.new 15, 3) := by decide +kernel
theorem dX10_init_162 : decode cX10_init 162 = .ok (.dup, 1) := by decide +kernel
theorem dX10_init_163 : decode cX10_init 163 = .ok (.invokespecial 83, 3) := by decide +kernel
theorem dX10_init_166 : decode cX10_init 166 = .ok (.aastore, 1) := by decide +kernel
theorem dX10_init_167 : decode cX10_init 167 = .ok (.iinc 1 1, 3) := by decide +kernel
theorem dX10_init_170 : decode cX10_init 170 = .ok (.goto (-21), 3) := by decide +kernel
theorem dX10_init_173 : decode cX10_init 173 = .ok (.iconst 0, 1) := by decide +kernel
theorem dX10_init_174 : decode cX10_init 174 = .ok (.istore_n 1, 1) := by decide +kernel
theorem dX10_init_175 : decode cX10_init 175 = .ok (.iload_n 1, 1) := by decide +kernel
theorem dX10_init_176 : decode cX10_init 176 = .ok (.iconst 3, 1) := by decide +kernel
theorem dX10_init_177 : decode cX10_init 177 = .ok (.if_icmp .ge 22, 3) := by decide +kernel
theorem dX10_init_180 : decode cX10_init 180 = .ok (.aload_n 0, 1) := by decide +kernel
theorem dX10_init_181 : decode cX10_init 181 = .ok (.getfield 23, 3) := by decide +kernel
theorem dX10_init_184 : decode cX10_init 184 = .ok (.iload_n 1, 1) := by decide +kernel
theorem dX10_init_185 : decode cX10_init 185 = .ok (.new 21, 3) := by decide +kernel
theorem dX10_init_188 : decode cX10_init 188 = .ok (.dup, 1) := by decide +kernel
theorem dX10_init_189 : decode cX10_init 189 = .ok (.invokespecial 31, 3) := by decide +kernel
theorem dX10_init_192 : decode cX10_init 192 = .ok (.aastore, 1) := by decide +kernel
theorem dX10_init_193 : decode cX10_init 193 = .ok (.iinc 1 1, 3) := by decide +kernel
theorem dX10_init_196 : decode cX10_init 196 = .ok (.goto (-21), 3) := by decide +kernel
theorem dX10_init_199 : decode cX10_init 199 = .ok (.return_, 1) := by decide +kernel
theorem dX10_row_0 : decode cX10_row 0 = .ok (.iload_n 1, 1) := by decide +kernel
theorem dX10_row_1 : decode cX10_row 1 = .ok (.bipush 6, 2) := by decide +kernel
theorem dX10_row_3 : decode cX10_row 3 = .ok (.invokestatic 84, 3) := by decide +kernel
theorem dX10_row_6 : decode cX10_row 6 = .ok (.ifCond .eq 9, 3) := by decide +kernel
theorem dX10_row_9 : decode cX10_row 9 = .ok (.iload_n 2, 1) := by decide +kernel
theorem dX10_row_10 : decode cX10_row 10 = .ok (.bipush 40, 2) := by decide +kernel
theorem dX10_row_12 : decode cX10_row 12 = .ok (.if_icmp .le 5, 3) := by decide +kernel
theorem dX10_row_15 : decode cX10_row 15 = .ok (.iconst (-1), 1) := by decide +kernel
theorem dX10_row_16 : decode cX10_row 16 = .ok (.ireturn, 1) := by decide +kernel
theorem dX10_row_17 : decode cX10_row 17 = .ok (.iload_n 2, 1) := by decide +kernel
theorem dX10_row_18 : decode cX10_row 18 = .ok (.ifCond .ge 9, 3) := by decide +kernel
theorem dX10_row_21 : decode cX10_row 21 = .ok (.aload_n 0, 1) := by decide +kernel
theorem dX10_row_22 : decode cX10_row 22 = .ok (.iconst 5, 1) := by decide +kernel
theorem dX10_row_23 : decode cX10_row 23 = .ok (.invokevirtual 88, 3) := by decide +kernel
theorem dX10_row_26 : decode cX10_row 26 = .ok (.ireturn, 1) := by decide +kernel
theorem dX10_row_27 : decode cX10_row 27 = .ok (.aload_n 0, 1) := by decide +kernel
theorem dX10_row_28 : decode cX10_row 28 = .ok (.getfield 11, 3) := by decide +kernel
theorem dX10_row_31 : decode cX10_row 31 = .ok (.iload_n 1, 1) := by decide +kernel
theorem dX10_row_32 : decode cX10_row 32 = .ok (.aaload, 1) := by decide +kernel
theorem dX10_row_33 : decode cX10_row 33 = .ok (.iload_n 2, 1) := by decide +kernel
theorem dX10_row_34 : decode cX10_row 34 = .ok (.invokevirtual 92, 3) := by decide +kernel
theorem dX10_row_37 : decode cX10_row 37 = .ok (.iload_n 2, 1) := by decide +kernel
theorem dX10_row_38 : decode cX10_row 38 = .ok (.ireturn, 1) := by decide +kernel
theorem dX10_lay_0 : decode cX10_lay 0 = .ok (.iload_n 1, 1) := by decide +kernel
theorem dX10_lay_1 : decode cX10_lay 1 = .ok (.bipush 6, 2) := by decide +kernel
theorem dX10_lay_3 : decode cX10_lay 3 = .ok (.invokestatic 84, 3) := by decide +kernel
theorem dX10_lay_6 : decode cX10_lay 6 = .ok (.ifCond .ne 5, 3) := by decide +kernel
theorem dX10_lay_9 : decode cX10_lay 9 = .ok (.iconst (-1), 1) := by decide +kernel
theorem dX10_lay_10 : decode cX10_lay 10 = .ok (.ireturn, 1) := by decide +kernel
theorem dX10_lay_11 : decode cX10_lay 11 = .ok (.aload_n 0, 1) := by decide +kernel
theorem dX10_lay_12 : decode cX10_lay 12 = .ok (.getfield 11, 3) := by decide +kernel
theorem dX10_lay_15 : decode cX10_lay 15 = .ok (.iload_n 1, 1) := by decide +kernel
theorem dX10_lay_16 : decode cX10_lay 16 = .ok (.aaload, 1) := by decide +kernel
theorem dX10_lay_17 : decode cX10_lay 17 = .ok (.astore 4, 2) := by decide +kernel
theorem dX10_lay_19 : decode cX10_lay 19 = .ok (.aload 4, 2) := by decide +kernel
theorem dX10_lay_21 : decode cX10_lay 21 = .ok (.invokevirtual 96, 3) := by decide +kernel
theorem dX10_lay_24 : decode cX10_lay 24 = .ok (.ifCond .eq 9, 3) := by decide +kernel
theorem dX10_lay_27 : decode cX10_lay 27 = .ok (.aload_n 0, 1) := by decide +kernel
theorem dX10_lay_28 : decode cX10_lay 28 = .ok (.iconst 1, 1) := by decide +kernel
theorem dX10_lay_29 : decode cX10_lay 29 = .ok (.invokevirtual 88, 3) := by decide +kernel
theorem dX10_lay_32 : decode cX10_lay 32 = .ok (.ireturn, 1) := by decide +kernel
theorem dX10_lay_33 : decode cX10_lay 33 = .ok (.iload_n 2, 1) := by decide +kernel
theorem dX10_lay_34 : decode cX10_lay 34 = .ok (.aload 4, 2) := by decide +kernel
theorem dX10_lay_36 : decode cX10_lay 36 = .ok (.getfield 100, 3) := by decide +kernel
theorem dX10_lay_39 : decode cX10_lay 39 = .ok (.invokestatic 84, 3) := by decide +kernel
theorem dX10_lay_42 : decode cX10_lay 42 = .ok (.ifCond .ne 9, 3) := by decide +kernel
theorem dX10_lay_45 : decode cX10_lay 45 = .ok (.aload_n 0, 1) := by decide +kernel
theorem dX10_lay_46 : decode cX10_lay 46 = .ok (.iconst 2, 1) := by decide +kernel
theorem dX10_lay_47 : decode cX10_lay 47 = .ok (.invokevirtual 88, 3) := by decide +kernel
theorem dX10_lay_50 : decode cX10_lay 50 = .ok (.ireturn, 1) := by decide +kernel
theorem dX10_lay_51 : decode cX10_lay 51 = .ok (.aload 4, 2) := by decide +kernel
theorem dX10_lay_53 : decode cX10_lay 53 = .ok (.getfield 103, 3) := by decide +kernel
theorem dX10_lay_56 : decode cX10_lay 56 = .ok (.iload_n 2, 1) := by decide +kernel
theorem dX10_lay_57 : decode cX10_lay 57 = .ok (.iaload, 1) := by decide +kernel
theorem dX10_lay_58 : decode cX10_lay 58 = .ok (.istore 5, 2) := by decide +kernel
theorem dX10_lay_60 : decode cX10_lay 60 = .ok (.aload 4, 2) := by decide +kernel
theorem dX10_lay_62 : decode cX10_lay 62 = .ok (.getfield 103, 3) := by decide +kernel
theorem dX10_lay_65 : decode cX10_lay 65 = .ok (.iload_n 2, 1) := by decide +kernel
theorem dX10_lay_66 : decode cX10_lay 66 = .ok (.iload_n 3, 1) := by decide +kernel
theorem dX10_lay_67 : decode cX10_lay 67 = .ok (.iastore, 1) := by decide +kernel
theorem dX10_lay_68 : decode cX10_lay 68 = .ok (.aload_n 0, 1) := by decide +kernel
theorem dX10_lay_69 : decode cX10_lay 69 = .ok (.iload 5, 2) := by decide +kernel
theorem dX10_lay_71 : decode cX10_lay 71 = .ok (.invokevirtual 106, 3) := by decide +kernel
theorem dX10_lay_74 : decode cX10_lay 74 = .ok (.ireturn, 1) := by decide +kernel
theorem dX10_at_0 : decode cX10_at 0 = .ok (.iload_n 1, 1) := by decide +kernel
theorem dX10_at_1 : decode cX10_at 1 = .ok (.bipush 6, 2) := by decide +kernel
theorem dX10_at_3 : decode cX10_at 3 = .ok (.invokestatic 84, 3) := by decide +kernel
theorem dX10_at_6 : decode cX10_at 6 = .ok (.ifCond .ne 5, 3) := by decide +kernel
theorem dX10_at_9 : decode cX10_at 9 = .ok (.iconst (-1), 1) := by decide +kernel
theorem dX10_at_10 : decode cX10_at 10 = .ok (.ireturn, 1) := by decide +kernel
theorem dX10_at_11 : decode cX10_at 11 = .ok (.aload_n 0, 1) := by decide +kernel
theorem dX10_at_12 : decode cX10_at 12 = .ok (.getfield 11, 3) := by decide +kernel
theorem dX10_at_15 : decode cX10_at 15 = .ok (.iload_n 1, 1) := by decide +kernel
theorem dX10_at_16 : decode cX10_at 16 = .ok (.aaload, 1) := by decide +kernel
theorem dX10_at_17 : decode cX10_at 17 = .ok (.astore_n 3, 1) := by decide +kernel
theorem dX10_at_18 : decode cX10_at 18 = .ok (.aload_n 3, 1) := by decide +kernel
theorem dX10_at_19 : decode cX10_at 19 = .ok (.invokevirtual 96, 3) := by decide +kernel
theorem dX10_at_22 : decode cX10_at 22 = .ok (.ifCond .eq 9, 3) := by decide +kernel
theorem dX10_at_25 : decode cX10_at 25 = .ok (.aload_n 0, 1) := by decide +kernel
theorem dX10_at_26 : decode cX10_at 26 = .ok (.iconst 1, 1) := by decide +kernel
theorem dX10_at_27 : decode cX10_at 27 = .ok (.invokevirtual 88, 3) := by decide +kernel
theorem dX10_at_30 : decode cX10_at 30 = .ok (.ireturn, 1) := by decide +kernel
theorem dX10_at_31 : decode cX10_at 31 = .ok (.iload_n 2, 1) := by decide +kernel
theorem dX10_at_32 : decode cX10_at 32 = .ok (.aload_n 3, 1) := by decide +kernel
theorem dX10_at_33 : decode cX10_at 33 = .ok (.getfield 100, 3) := by decide +kernel
theorem dX10_at_36 : decode cX10_at 36 = .ok (.invokestatic 84, 3) := by decide +kernel
theorem dX10_at_39 : decode cX10_at 39 = .ok (.ifCond .ne 9, 3) := by decide +kernel
theorem dX10_at_42 : decode cX10_at 42 = .ok (.aload_n 0, 1) := by decide +kernel
theorem dX10_at_43 : decode cX10_at 43 = .ok (.iconst 2, 1) := by decide +kernel
theorem dX10_at_44 : decode cX10_at 44 = .ok (.invokevirtual 88, 3) := by decide +kernel
theorem dX10_at_47 : decode cX10_at 47 = .ok (.ireturn, 1) := by decide +kernel
theorem dX10_at_48 : decode cX10_at 48 = .ok (.aload_n 0, 1) := by decide +kernel
theorem dX10_at_49 : decode cX10_at 49 = .ok (.aload_n 3, 1) := by decide +kernel
theorem dX10_at_50 : decode cX10_at 50 = .ok (.getfield 103, 3) := by decide +kernel
theorem dX10_at_53 : decode cX10_at 53 = .ok (.iload_n 2, 1) := by decide +kernel
theorem dX10_at_54 : decode cX10_at 54 = .ok (.iaload, 1) := by decide +kernel
theorem dX10_at_55 : decode cX10_at 55 = .ok (.invokevirtual 106, 3) := by decide +kernel
theorem dX10_at_58 : decode cX10_at 58 = .ok (.ireturn, 1) := by decide +kernel
theorem dX10_tear_0 : decode cX10_tear 0 = .ok (.iload_n 1, 1) := by decide +kernel
theorem dX10_tear_1 : decode cX10_tear 1 = .ok (.bipush 6, 2) := by decide +kernel
theorem dX10_tear_3 : decode cX10_tear 3 = .ok (.invokestatic 84, 3) := by decide +kernel
theorem dX10_tear_6 : decode cX10_tear 6 = .ok (.ifCond .ne 5, 3) := by decide +kernel
theorem dX10_tear_9 : decode cX10_tear 9 = .ok (.iconst (-1), 1) := by decide +kernel
theorem dX10_tear_10 : decode cX10_tear 10 = .ok (.ireturn, 1) := by decide +kernel
theorem dX10_tear_11 : decode cX10_tear 11 = .ok (.aload_n 0, 1) := by decide +kernel
theorem dX10_tear_12 : decode cX10_tear 12 = .ok (.getfield 11, 3) := by decide +kernel
theorem dX10_tear_15 : decode cX10_tear 15 = .ok (.iload_n 1, 1) := by decide +kernel
theorem dX10_tear_16 : decode cX10_tear 16 = .ok (.aaload, 1) := by decide +kernel
theorem dX10_tear_17 : decode cX10_tear 17 = .ok (.invokevirtual 96, 3) := by decide +kernel
theorem dX10_tear_20 : decode cX10_tear 20 = .ok (.ifCond .eq 9, 3) := by decide +kernel
theorem dX10_tear_23 : decode cX10_tear 23 = .ok (.aload_n 0, 1) := by decide +kernel
theorem dX10_tear_24 : decode cX10_tear 24 = .ok (.iconst 1, 1) := by decide +kernel
theorem dX10_tear_25 : decode cX10_tear 25 = .ok (.invokevirtual 88, 3) := by decide +kernel
theorem dX10_tear_28 : decode cX10_tear 28 = .ok (.ireturn, 1) := by decide +kernel
theorem dX10_tear_29 : decode cX10_tear 29 = .ok (.aload_n 0, 1) := by decide +kernel
theorem dX10_tear_30 : decode cX10_tear 30 = .ok (.getfield 11, 3) := by decide +kernel
theorem dX10_tear_33 : decode cX10_tear 33 = .ok (.iload_n 1, 1) := by decide +kernel
theorem dX10_tear_34 : decode cX10_tear 34 = .ok (.aaload, 1) := by decide +kernel
theorem dX10_tear_35 : decode cX10_tear 35 = .ok (.iconst (-1), 1) := by decide +kernel
theorem dX10_tear_36 : decode cX10_tear 36 = .ok (.putfield 100, 3) := by decide +kernel
theorem dX10_tear_39 : decode cX10_tear 39 = .ok (.iconst 1, 1) := by decide +kernel
theorem dX10_tear_40 : decode cX10_tear 40 = .ok (.ireturn, 1) := by decide +kernel
theorem dX10_copy_0 : decode cX10_copy 0 = .ok (.iload_n 1, 1) := by decide +kernel
theorem dX10_copy_1 : decode cX10_copy 1 = .ok (.bipush 6, 2) := by decide +kernel
theorem dX10_copy_3 : decode cX10_copy 3 = .ok (.invokestatic 84, 3) := by decide +kernel
theorem dX10_copy_6 : decode cX10_copy 6 = .ok (.ifCond .eq 12, 3) := by decide +kernel
theorem dX10_copy_9 : decode cX10_copy 9 = .ok (.iload_n 3, 1) := by decide +kernel
theorem dX10_copy_10 : decode cX10_copy 10 = .ok (.bipush 6, 2) := by decide +kernel
theorem dX10_copy_12 : decode cX10_copy 12 = .ok (.invokestatic 84, 3) := by decide +kernel
theorem dX10_copy_15 : decode cX10_copy 15 = .ok (.ifCond .ne 5, 3) := by decide +kernel
theorem dX10_copy_18 : decode cX10_copy 18 = .ok (.iconst (-1), 1) := by decide +kernel
theorem dX10_copy_19 : decode cX10_copy 19 = .ok (.ireturn, 1) := by decide +kernel
theorem dX10_copy_20 : decode cX10_copy 20 = .ok (.iload 5, 2) := by decide +kernel
theorem dX10_copy_22 : decode cX10_copy 22 = .ok (.ifCond .ge 9, 3) := by decide +kernel
theorem dX10_copy_25 : decode cX10_copy 25 = .ok (.aload_n 0, 1) := by decide +kernel
theorem dX10_copy_26 : decode cX10_copy 26 = .ok (.iconst 5, 1) := by decide +kernel
theorem dX10_copy_27 : decode cX10_copy 27 = .ok (.invokevirtual 88, 3) := by decide +kernel
theorem dX10_copy_30 : decode cX10_copy 30 = .ok (.ireturn, 1) := by decide +kernel
theorem dX10_copy_31 : decode cX10_copy 31 = .ok (.aload_n 0, 1) := by decide +kernel
theorem dX10_copy_32 : decode cX10_copy 32 = .ok (.getfield 11, 3) := by decide +kernel
theorem dX10_copy_35 : decode cX10_copy 35 = .ok (.iload_n 1, 1) := by decide +kernel
theorem dX10_copy_36 : decode cX10_copy 36 = .ok (.aaload, 1) := by decide +kernel
theorem dX10_copy_37 : decode cX10_copy 37 = .ok (.astore 6, 2) := by decide +kernel
theorem dX10_copy_39 : decode cX10_copy 39 = .ok (.aload_n 0, 1) := by decide +kernel
theorem dX10_copy_40 : decode cX10_copy 40 = .ok (.getfield 11, 3) := by decide +kernel
theorem dX10_copy_43 : decode cX10_copy 43 = .ok (.iload_n 3, 1) := by decide +kernel
theorem dX10_copy_44 : decode cX10_copy 44 = .ok (.aaload, 1) := by decide +kernel
theorem dX10_copy_45 : decode cX10_copy 45 = .ok (.astore 7, 2) := by decide +kernel
theorem dX10_copy_47 : decode cX10_copy 47 = .ok (.aload 6, 2) := by decide +kernel
theorem dX10_copy_49 : decode cX10_copy 49 = .ok (.invokevirtual 96, 3) := by decide +kernel
theorem dX10_copy_52 : decode cX10_copy 52 = .ok (.ifCond .ne 11, 3) := by decide +kernel
theorem dX10_copy_55 : decode cX10_copy 55 = .ok (.aload 7, 2) := by decide +kernel
theorem dX10_copy_57 : decode cX10_copy 57 = .ok (.invokevirtual 96, 3) := by decide +kernel
theorem dX10_copy_60 : decode cX10_copy 60 = .ok (.ifCond .eq 9, 3) := by decide +kernel
theorem dX10_copy_63 : decode cX10_copy 63 = .ok (.aload_n 0, 1) := by decide +kernel
theorem dX10_copy_64 : decode cX10_copy 64 = .ok (.iconst 1, 1) := by decide +kernel
theorem dX10_copy_65 : decode cX10_copy 65 = .ok (.invokevirtual 88, 3) := by decide +kernel
theorem dX10_copy_68 : decode cX10_copy 68 = .ok (.ireturn, 1) := by decide +kernel
theorem dX10_copy_69 : decode cX10_copy 69 = .ok (.aload 6, 2) := by decide +kernel
theorem dX10_copy_71 : decode cX10_copy 71 = .ok (.iload_n 2, 1) := by decide +kernel
theorem dX10_copy_72 : decode cX10_copy 72 = .ok (.iload 5, 2) := by decide +kernel
theorem dX10_copy_74 : decode cX10_copy 74 = .ok (.invokevirtual 109, 3) := by decide +kernel
theorem dX10_copy_77 : decode cX10_copy 77 = .ok (.ifCond .eq 15, 3) := by decide +kernel
theorem dX10_copy_80 : decode cX10_copy 80 = .ok (.aload 7, 2) := by decide +kernel
theorem dX10_copy_82 : decode cX10_copy 82 = .ok (.iload 4, 2) := by decide +kernel
theorem dX10_copy_84 : decode cX10_copy 84 = .ok (.iload 5, 2) := by decide +kernel
theorem dX10_copy_86 : decode cX10_copy 86 = .ok (.invokevirtual 109, 3) := by decide +kernel
theorem dX10_copy_89 : decode cX10_copy 89 = .ok (.ifCond .ne 9, 3) := by decide +kernel
theorem dX10_copy_92 : decode cX10_copy 92 = .ok (.aload_n 0, 1) := by decide +kernel
theorem dX10_copy_93 : decode cX10_copy 93 = .ok (.iconst 2, 1) := by decide +kernel
theorem dX10_copy_94 : decode cX10_copy 94 = .ok (.invokevirtual 88, 3) := by decide +kernel
theorem dX10_copy_97 : decode cX10_copy 97 = .ok (.ireturn, 1) := by decide +kernel
theorem dX10_copy_98 : decode cX10_copy 98 = .ok (.aload 6, 2) := by decide +kernel
theorem dX10_copy_100 : decode cX10_copy 100 = .ok (.getfield 103, 3) := by decide +kernel
theorem dX10_copy_103 : decode cX10_copy 103 = .ok (.iload_n 2, 1) := by decide +kernel
theorem dX10_copy_104 : decode cX10_copy 104 = .ok (.aload 7, 2) := by decide +kernel
theorem dX10_copy_106 : decode cX10_copy 106 = .ok (.getfield 103, 3) := by decide +kernel
theorem dX10_copy_109 : decode cX10_copy 109 = .ok (.iload 4, 2) := by decide +kernel
theorem dX10_copy_111 : decode cX10_copy 111 = .ok (.iload 5, 2) := by decide +kernel
theorem dX10_copy_113 : decode cX10_copy 113 = .ok (.invokestatic 112, 3) := by decide +kernel
theorem dX10_copy_116 : decode cX10_copy 116 = .ok (.iconst 1, 1) := by decide +kernel
theorem dX10_copy_117 : decode cX10_copy 117 = .ok (.ireturn, 1) := by decide +kernel
theorem dX10_mean_0 : decode cX10_mean 0 = .ok (.iload_n 1, 1) := by decide +kernel
theorem dX10_mean_1 : decode cX10_mean 1 = .ok (.bipush 6, 2) := by decide +kernel
theorem dX10_mean_3 : decode cX10_mean 3 = .ok (.invokestatic 84, 3) := by decide +kernel
theorem dX10_mean_6 : decode cX10_mean 6 = .ok (.ifCond .ne 5, 3) := by decide +kernel
theorem dX10_mean_9 : decode cX10_mean 9 = .ok (.iconst (-1), 1) := by decide +kernel
theorem dX10_mean_10 : decode cX10_mean 10 = .ok (.ireturn, 1) := by decide +kernel
theorem dX10_mean_11 : decode cX10_mean 11 = .ok (.aload_n 0, 1) := by decide +kernel
theorem dX10_mean_12 : decode cX10_mean 12 = .ok (.getfield 11, 3) := by decide +kernel
theorem dX10_mean_15 : decode cX10_mean 15 = .ok (.iload_n 1, 1) := by decide +kernel
theorem dX10_mean_16 : decode cX10_mean 16 = .ok (.aaload, 1) := by decide +kernel
theorem dX10_mean_17 : decode cX10_mean 17 = .ok (.astore_n 2, 1) := by decide +kernel
theorem dX10_mean_18 : decode cX10_mean 18 = .ok (.aload_n 2, 1) := by decide +kernel
theorem dX10_mean_19 : decode cX10_mean 19 = .ok (.invokevirtual 96, 3) := by decide +kernel
theorem dX10_mean_22 : decode cX10_mean 22 = .ok (.ifCond .eq 9, 3) := by decide +kernel
theorem dX10_mean_25 : decode cX10_mean 25 = .ok (.aload_n 0, 1) := by decide +kernel
theorem dX10_mean_26 : decode cX10_mean 26 = .ok (.iconst 1, 1) := by decide +kernel
theorem dX10_mean_27 : decode cX10_mean 27 = .ok (.invokevirtual 88, 3) := by decide +kernel
theorem dX10_mean_30 : decode cX10_mean 30 = .ok (.ireturn, 1) := by decide +kernel
theorem dX10_mean_31 : decode cX10_mean 31 = .ok (.aload_n 2, 1) := by decide +kernel
theorem dX10_mean_32 : decode cX10_mean 32 = .ok (.getfield 100, 3) := by decide +kernel
theorem dX10_mean_35 : decode cX10_mean 35 = .ok (.ifCond .ne 9, 3) := by decide +kernel
theorem dX10_mean_38 : decode cX10_mean 38 = .ok (.aload_n 0, 1) := by decide +kernel
theorem dX10_mean_39 : decode cX10_mean 39 = .ok (.iconst 4, 1) := by decide +kernel
theorem dX10_mean_40 : decode cX10_mean 40 = .ok (.invokevirtual 88, 3) := by decide +kernel
theorem dX10_mean_43 : decode cX10_mean 43 = .ok (.ireturn, 1) := by decide +kernel
theorem dX10_mean_44 : decode cX10_mean 44 = .ok (.aload_n 0, 1) := by decide +kernel
theorem dX10_mean_45 : decode cX10_mean 45 = .ok (.aload_n 2, 1) := by decide +kernel
theorem dX10_mean_46 : decode cX10_mean 46 = .ok (.invokevirtual 118, 3) := by decide +kernel
theorem dX10_mean_49 : decode cX10_mean 49 = .ok (.aload_n 2, 1) := by decide +kernel
theorem dX10_mean_50 : decode cX10_mean 50 = .ok (.getfield 100, 3) := by decide +kernel
theorem dX10_mean_53 : decode cX10_mean 53 = .ok (.i2l, 1) := by decide +kernel
theorem dX10_mean_54 : decode cX10_mean 54 = .ok (.ldiv, 1) := by decide +kernel
theorem dX10_mean_55 : decode cX10_mean 55 = .ok (.l2i, 1) := by decide +kernel
theorem dX10_mean_56 : decode cX10_mean 56 = .ok (.invokevirtual 106, 3) := by decide +kernel
theorem dX10_mean_59 : decode cX10_mean 59 = .ok (.ireturn, 1) := by decide +kernel
theorem dX10_text_0 : decode cX10_text 0 = .ok (.iload_n 1, 1) := by decide +kernel
theorem dX10_text_1 : decode cX10_text 1 = .ok (.iconst 4, 1) := by decide +kernel
theorem dX10_text_2 : decode cX10_text 2 = .ok (.invokestatic 84, 3) := by decide +kernel
theorem dX10_text_5 : decode cX10_text 5 = .ok (.ifCond .eq 9, 3) := by decide +kernel
theorem dX10_text_8 : decode cX10_text 8 = .ok (.iload_n 2, 1) := by decide +kernel
theorem dX10_text_9 : decode cX10_text 9 = .ok (.bipush 120, 2) := by decide +kernel
theorem dX10_text_11 : decode cX10_text 11 = .ok (.if_icmp .le 5, 3) := by decide +kernel
theorem dX10_text_14 : decode cX10_text 14 = .ok (.iconst (-1), 1) := by decide +kernel
theorem dX10_text_15 : decode cX10_text 15 = .ok (.ireturn, 1) := by decide +kernel
theorem dX10_text_16 : decode cX10_text 16 = .ok (.iload_n 2, 1) := by decide +kernel
theorem dX10_text_17 : decode cX10_text 17 = .ok (.ifCond .ge 9, 3) := by decide +kernel
theorem dX10_text_20 : decode cX10_text 20 = .ok (.aload_n 0, 1) := by decide +kernel
theorem dX10_text_21 : decode cX10_text 21 = .ok (.iconst 5, 1) := by decide +kernel
theorem dX10_text_22 : decode cX10_text 22 = .ok (.invokevirtual 88, 3) := by decide +kernel
theorem dX10_text_25 : decode cX10_text 25 = .ok (.ireturn, 1) := by decide +kernel
theorem dX10_text_26 : decode cX10_text 26 = .ok (.aload_n 0, 1) := by decide +kernel
theorem dX10_text_27 : decode cX10_text 27 = .ok (.getfield 17, 3) := by decide +kernel
theorem dX10_text_30 : decode cX10_text 30 = .ok (.iload_n 1, 1) := by decide +kernel
theorem dX10_text_31 : decode cX10_text 31 = .ok (.aaload, 1) := by decide +kernel
theorem dX10_text_32 : decode cX10_text 32 = .ok (.iload_n 2, 1) := by decide +kernel
theorem dX10_text_33 : decode cX10_text 33 = .ok (.invokevirtual 122, 3) := by decide +kernel
theorem dX10_text_36 : decode cX10_text 36 = .ok (.iload_n 2, 1) := by decide +kernel
theorem dX10_text_37 : decode cX10_text 37 = .ok (.ireturn, 1) := by decide +kernel
theorem dX10_put_0 : decode cX10_put 0 = .ok (.iload_n 1, 1) := by decide +kernel
theorem dX10_put_1 : decode cX10_put 1 = .ok (.iconst 4, 1) := by decide +kernel
theorem dX10_put_2 : decode cX10_put 2 = .ok (.invokestatic 84, 3) := by decide +kernel
theorem dX10_put_5 : decode cX10_put 5 = .ok (.ifCond .ne 5, 3) := by decide +kernel
theorem dX10_put_8 : decode cX10_put 8 = .ok (.iconst (-1), 1) := by decide +kernel
theorem dX10_put_9 : decode cX10_put 9 = .ok (.ireturn, 1) := by decide +kernel
theorem dX10_put_10 : decode cX10_put 10 = .ok (.aload_n 0, 1) := by decide +kernel
theorem dX10_put_11 : decode cX10_put 11 = .ok (.getfield 17, 3) := by decide +kernel
theorem dX10_put_14 : decode cX10_put 14 = .ok (.iload_n 1, 1) := by decide +kernel
theorem dX10_put_15 : decode cX10_put 15 = .ok (.aaload, 1) := by decide +kernel
theorem dX10_put_16 : decode cX10_put 16 = .ok (.astore 4, 2) := by decide +kernel
theorem dX10_put_18 : decode cX10_put 18 = .ok (.aload 4, 2) := by decide +kernel
theorem dX10_put_20 : decode cX10_put 20 = .ok (.invokevirtual 123, 3) := by decide +kernel
theorem dX10_put_23 : decode cX10_put 23 = .ok (.ifCond .eq 9, 3) := by decide +kernel
theorem dX10_put_26 : decode cX10_put 26 = .ok (.aload_n 0, 1) := by decide +kernel
theorem dX10_put_27 : decode cX10_put 27 = .ok (.iconst 1, 1) := by decide +kernel
theorem dX10_put_28 : decode cX10_put 28 = .ok (.invokevirtual 88, 3) := by decide +kernel
theorem dX10_put_31 : decode cX10_put 31 = .ok (.ireturn, 1) := by decide +kernel
theorem dX10_put_32 : decode cX10_put 32 = .ok (.iload_n 2, 1) := by decide +kernel
theorem dX10_put_33 : decode cX10_put 33 = .ok (.aload 4, 2) := by decide +kernel
theorem dX10_put_35 : decode cX10_put 35 = .ok (.getfield 124, 3) := by decide +kernel
theorem dX10_put_38 : decode cX10_put 38 = .ok (.invokestatic 84, 3) := by decide +kernel
theorem dX10_put_41 : decode cX10_put 41 = .ok (.ifCond .ne 9, 3) := by decide +kernel
theorem dX10_put_44 : decode cX10_put 44 = .ok (.aload_n 0, 1) := by decide +kernel
theorem dX10_put_45 : decode cX10_put 45 = .ok (.iconst 2, 1) := by decide +kernel
theorem dX10_put_46 : decode cX10_put 46 = .ok (.invokevirtual 88, 3) := by decide +kernel
theorem dX10_put_49 : decode cX10_put 49 = .ok (.ireturn, 1) := by decide +kernel
theorem dX10_put_50 : decode cX10_put 50 = .ok (.aload 4, 2) := by decide +kernel
theorem dX10_put_52 : decode cX10_put 52 = .ok (.getfield 125, 3) := by decide +kernel
theorem dX10_put_55 : decode cX10_put 55 = .ok (.iload_n 2, 1) := by decide +kernel
theorem dX10_put_56 : decode cX10_put 56 = .ok (.baload, 1) := by decide +kernel
theorem dX10_put_57 : decode cX10_put 57 = .ok (.istore 5, 2) := by decide +kernel
theorem dX10_put_59 : decode cX10_put 59 = .ok (.aload 4, 2) := by decide +kernel
theorem dX10_put_61 : decode cX10_put 61 = .ok (.getfield 125, 3) := by decide +kernel
theorem dX10_put_64 : decode cX10_put 64 = .ok (.iload_n 2, 1) := by decide +kernel
theorem dX10_put_65 : decode cX10_put 65 = .ok (.iload_n 3, 1) := by decide +kernel
theorem dX10_put_66 : decode cX10_put 66 = .ok (.i2b, 1) := by decide +kernel
theorem dX10_put_67 : decode cX10_put 67 = .ok (.bastore, 1) := by decide +kernel
theorem dX10_put_68 : decode cX10_put 68 = .ok (.sipush 1000, 3) := by decide +kernel
theorem dX10_put_71 : decode cX10_put 71 = .ok (.iload 5, 2) := by decide +kernel
theorem dX10_put_73 : decode cX10_put 73 = .ok (.iadd, 1) := by decide +kernel
theorem dX10_put_74 : decode cX10_put 74 = .ok (.ireturn, 1) := by decide +kernel
theorem dX10_fault_0 : decode cX10_fault 0 = .ok (.iload_n 1, 1) := by decide +kernel
theorem dX10_fault_1 : decode cX10_fault 1 = .ok (.iconst 4, 1) := by decide +kernel
theorem dX10_fault_2 : decode cX10_fault 2 = .ok (.invokestatic 84, 3) := by decide +kernel
theorem dX10_fault_5 : decode cX10_fault 5 = .ok (.ifCond .ne 5, 3) := by decide +kernel
theorem dX10_fault_8 : decode cX10_fault 8 = .ok (.iconst (-1), 1) := by decide +kernel
theorem dX10_fault_9 : decode cX10_fault 9 = .ok (.ireturn, 1) := by decide +kernel
theorem dX10_fault_10 : decode cX10_fault 10 = .ok (.aload_n 0, 1) := by decide +kernel
theorem dX10_fault_11 : decode cX10_fault 11 = .ok (.getfield 17, 3) := by decide +kernel
theorem dX10_fault_14 : decode cX10_fault 14 = .ok (.iload_n 1, 1) := by decide +kernel
theorem dX10_fault_15 : decode cX10_fault 15 = .ok (.aaload, 1) := by decide +kernel
theorem dX10_fault_16 : decode cX10_fault 16 = .ok (.invokevirtual 123, 3) := by decide +kernel
theorem dX10_fault_19 : decode cX10_fault 19 = .ok (.ifCond .eq 9, 3) := by decide +kernel
theorem dX10_fault_22 : decode cX10_fault 22 = .ok (.aload_n 0, 1) := by decide +kernel
theorem dX10_fault_23 : decode cX10_fault 23 = .ok (.iconst 1, 1) := by decide +kernel
theorem dX10_fault_24 : decode cX10_fault 24 = .ok (.invokevirtual 88, 3) := by decide +kernel
theorem dX10_fault_27 : decode cX10_fault 27 = .ok (.ireturn, 1) := by decide +kernel
theorem dX10_fault_28 : decode cX10_fault 28 = .ok (.aload_n 0, 1) := by decide +kernel
theorem dX10_fault_29 : decode cX10_fault 29 = .ok (.getfield 39, 3) := by decide +kernel
theorem dX10_fault_32 : decode cX10_fault 32 = .ok (.aload_n 0, 1) := by decide +kernel
theorem dX10_fault_33 : decode cX10_fault 33 = .ok (.getfield 17, 3) := by decide +kernel
theorem dX10_fault_36 : decode cX10_fault 36 = .ok (.iload_n 1, 1) := by decide +kernel
theorem dX10_fault_37 : decode cX10_fault 37 = .ok (.aaload, 1) := by decide +kernel
theorem dX10_fault_38 : decode cX10_fault 38 = .ok (.invokevirtual 129, 3) := by decide +kernel
theorem dX10_fault_41 : decode cX10_fault 41 = .ok (.ireturn, 1) := by decide +kernel
theorem dX10_sheet_0 : decode cX10_sheet 0 = .ok (.iload_n 1, 1) := by decide +kernel
theorem dX10_sheet_1 : decode cX10_sheet 1 = .ok (.iconst 4, 1) := by decide +kernel
theorem dX10_sheet_2 : decode cX10_sheet 2 = .ok (.invokestatic 84, 3) := by decide +kernel
theorem dX10_sheet_5 : decode cX10_sheet 5 = .ok (.ifCond .ne 5, 3) := by decide +kernel
theorem dX10_sheet_8 : decode cX10_sheet 8 = .ok (.iconst (-1), 1) := by decide +kernel
theorem dX10_sheet_9 : decode cX10_sheet 9 = .ok (.ireturn, 1) := by decide +kernel
theorem dX10_sheet_10 : decode cX10_sheet 10 = .ok (.aload_n 0, 1) := by decide +kernel
theorem dX10_sheet_11 : decode cX10_sheet 11 = .ok (.getfield 17, 3) := by decide +kernel
theorem dX10_sheet_14 : decode cX10_sheet 14 = .ok (.iload_n 1, 1) := by decide +kernel
theorem dX10_sheet_15 : decode cX10_sheet 15 = .ok (.aaload, 1) := by decide +kernel
theorem dX10_sheet_16 : decode cX10_sheet 16 = .ok (.invokevirtual 123, 3) := by decide +kernel
theorem dX10_sheet_19 : decode cX10_sheet 19 = .ok (.ifCond .eq 9, 3) := by decide +kernel
theorem dX10_sheet_22 : decode cX10_sheet 22 = .ok (.aload_n 0, 1) := by decide +kernel
theorem dX10_sheet_23 : decode cX10_sheet 23 = .ok (.iconst 1, 1) := by decide +kernel
theorem dX10_sheet_24 : decode cX10_sheet 24 = .ok (.invokevirtual 88, 3) := by decide +kernel
theorem dX10_sheet_27 : decode cX10_sheet 27 = .ok (.ireturn, 1) := by decide +kernel
theorem dX10_sheet_28 : decode cX10_sheet 28 = .ok (.aload_n 0, 1) := by decide +kernel
theorem dX10_sheet_29 : decode cX10_sheet 29 = .ok (.getfield 39, 3) := by decide +kernel
theorem dX10_sheet_32 : decode cX10_sheet 32 = .ok (.aload_n 0, 1) := by decide +kernel
theorem dX10_sheet_33 : decode cX10_sheet 33 = .ok (.getfield 17, 3) := by decide +kernel
theorem dX10_sheet_36 : decode cX10_sheet 36 = .ok (.iload_n 1, 1) := by decide +kernel
theorem dX10_sheet_37 : decode cX10_sheet 37 = .ok (.aaload, 1) := by decide +kernel
theorem dX10_sheet_38 : decode cX10_sheet 38 = .ok (.invokevirtual 129, 3) := by decide +kernel
theorem dX10_sheet_41 : decode cX10_sheet 41 = .ok (.bipush (-9), 2) := by decide +kernel
theorem dX10_sheet_43 : decode cX10_sheet 43 = .ok (.if_icmp .eq 6, 3) := by decide +kernel
theorem dX10_sheet_46 : decode cX10_sheet 46 = .ok (.bipush (-4), 2) := by decide +kernel
theorem dX10_sheet_48 : decode cX10_sheet 48 = .ok (.ireturn, 1) := by decide +kernel
theorem dX10_sheet_49 : decode cX10_sheet 49 = .ok (.aload_n 0, 1) := by decide +kernel
theorem dX10_sheet_50 : decode cX10_sheet 50 = .ok (.aload_n 0, 1) := by decide +kernel
theorem dX10_sheet_51 : decode cX10_sheet 51 = .ok (.getfield 39, 3) := by decide +kernel
theorem dX10_sheet_54 : decode cX10_sheet 54 = .ok (.aload_n 0, 1) := by decide +kernel
theorem dX10_sheet_55 : decode cX10_sheet 55 = .ok (.getfield 71, 3) := by decide +kernel
theorem dX10_sheet_58 : decode cX10_sheet 58 = .ok (.invokevirtual 133, 3) := by decide +kernel
theorem dX10_sheet_61 : decode cX10_sheet 61 = .ok (.putfield 71, 3) := by decide +kernel
theorem dX10_sheet_64 : decode cX10_sheet 64 = .ok (.aload_n 0, 1) := by decide +kernel
theorem dX10_sheet_65 : decode cX10_sheet 65 = .ok (.getfield 32, 3) := by decide +kernel
theorem dX10_sheet_68 : decode cX10_sheet 68 = .ok (.invokevirtual 137, 3) := by decide +kernel
theorem dX10_sheet_71 : decode cX10_sheet 71 = .ok (.iconst 0, 1) := by decide +kernel
theorem dX10_sheet_72 : decode cX10_sheet 72 = .ok (.istore_n 2, 1) := by decide +kernel
theorem dX10_sheet_73 : decode cX10_sheet 73 = .ok (.iload_n 2, 1) := by decide +kernel
theorem dX10_sheet_74 : decode cX10_sheet 74 = .ok (.iconst 3, 1) := by decide +kernel
theorem dX10_sheet_75 : decode cX10_sheet 75 = .ok (.if_icmp .ge 16, 3) := by decide +kernel
theorem dX10_sheet_78 : decode cX10_sheet 78 = .ok (.aload_n 0, 1) := by decide +kernel
theorem dX10_sheet_79 : decode cX10_sheet 79 = .ok (.getfield 27, 3) := by decide +kernel
theorem dX10_sheet_82 : decode cX10_sheet 82 = .ok (.iload_n 2, 1) := by decide +kernel
theorem dX10_sheet_83 : decode cX10_sheet 83 = .ok (.iconst 0, 1) := by decide +kernel
theorem dX10_sheet_84 : decode cX10_sheet 84 = .ok (.bastore, 1) := by decide +kernel
theorem dX10_sheet_85 : decode cX10_sheet 85 = .ok (.iinc 2 1, 3) := by decide +kernel
theorem dX10_sheet_88 : decode cX10_sheet 88 = .ok (.goto (-15), 3) := by decide +kernel
theorem dX10_sheet_91 : decode cX10_sheet 91 = .ok (.aload_n 0, 1) := by decide +kernel
theorem dX10_sheet_92 : decode cX10_sheet 92 = .ok (.getfield 71, 3) := by decide +kernel
theorem dX10_sheet_95 : decode cX10_sheet 95 = .ok (.getfield 140, 3) := by decide +kernel
theorem dX10_sheet_98 : decode cX10_sheet 98 = .ok (.ireturn, 1) := by decide +kernel
theorem dX10_write_0 : decode cX10_write 0 = .ok (.iload_n 1, 1) := by decide +kernel
theorem dX10_write_1 : decode cX10_write 1 = .ok (.iconst 4, 1) := by decide +kernel
theorem dX10_write_2 : decode cX10_write 2 = .ok (.invokestatic 84, 3) := by decide +kernel
theorem dX10_write_5 : decode cX10_write 5 = .ok (.ifCond .ne 5, 3) := by decide +kernel
theorem dX10_write_8 : decode cX10_write 8 = .ok (.iconst (-1), 1) := by decide +kernel
theorem dX10_write_9 : decode cX10_write 9 = .ok (.ireturn, 1) := by decide +kernel
theorem dX10_write_10 : decode cX10_write 10 = .ok (.aload_n 0, 1) := by decide +kernel
theorem dX10_write_11 : decode cX10_write 11 = .ok (.invokevirtual 141, 3) := by decide +kernel
theorem dX10_write_14 : decode cX10_write 14 = .ok (.ifCond .eq 6, 3) := by decide +kernel
theorem dX10_write_17 : decode cX10_write 17 = .ok (.bipush (-4), 2) := by decide +kernel
theorem dX10_write_19 : decode cX10_write 19 = .ok (.ireturn, 1) := by decide +kernel
theorem dX10_write_20 : decode cX10_write 20 = .ok (.aload_n 0, 1) := by decide +kernel
theorem dX10_write_21 : decode cX10_write 21 = .ok (.getfield 46, 3) := by decide +kernel
theorem dX10_write_24 : decode cX10_write 24 = .ok (.aload_n 0, 1) := by decide +kernel
theorem dX10_write_25 : decode cX10_write 25 = .ok (.getfield 71, 3) := by decide +kernel
theorem dX10_write_28 : decode cX10_write 28 = .ok (.invokevirtual 144, 3) := by decide +kernel
theorem dX10_write_31 : decode cX10_write 31 = .ok (.aload_n 0, 1) := by decide +kernel
theorem dX10_write_32 : decode cX10_write 32 = .ok (.getfield 46, 3) := by decide +kernel
theorem dX10_write_35 : decode cX10_write 35 = .ok (.getfield 148, 3) := by decide +kernel
theorem dX10_write_38 : decode cX10_write 38 = .ok (.bipush 120, 2) := by decide +kernel
theorem dX10_write_40 : decode cX10_write 40 = .ok (.if_icmp .le 6, 3) := by decide +kernel
theorem dX10_write_43 : decode cX10_write 43 = .ok (.bipush (-6), 2) := by decide +kernel
theorem dX10_write_45 : decode cX10_write 45 = .ok (.ireturn, 1) := by decide +kernel
theorem dX10_write_46 : decode cX10_write 46 = .ok (.aload_n 0, 1) := by decide +kernel
theorem dX10_write_47 : decode cX10_write 47 = .ok (.getfield 17, 3) := by decide +kernel
theorem dX10_write_50 : decode cX10_write 50 = .ok (.iload_n 1, 1) := by decide +kernel
theorem dX10_write_51 : decode cX10_write 51 = .ok (.aaload, 1) := by decide +kernel
theorem dX10_write_52 : decode cX10_write 52 = .ok (.aload_n 0, 1) := by decide +kernel
theorem dX10_write_53 : decode cX10_write 53 = .ok (.getfield 46, 3) := by decide +kernel
theorem dX10_write_56 : decode cX10_write 56 = .ok (.getfield 149, 3) := by decide +kernel
theorem dX10_write_59 : decode cX10_write 59 = .ok (.aload_n 0, 1) := by decide +kernel
theorem dX10_write_60 : decode cX10_write 60 = .ok (.getfield 46, 3) := by decide +kernel
theorem dX10_write_63 : decode cX10_write 63 = .ok (.getfield 148, 3) := by decide +kernel
theorem dX10_write_66 : decode cX10_write 66 = .ok (.invokevirtual 150, 3) := by decide +kernel
theorem dX10_write_69 : decode cX10_write 69 = .ok (.aload_n 0, 1) := by decide +kernel
theorem dX10_write_70 : decode cX10_write 70 = .ok (.getfield 46, 3) := by decide +kernel
theorem dX10_write_73 : decode cX10_write 73 = .ok (.getfield 148, 3) := by decide +kernel
theorem dX10_write_76 : decode cX10_write 76 = .ok (.ireturn, 1) := by decide +kernel
theorem dX10_frame_0 : decode cX10_frame 0 = .ok (.iload_n 1, 1) := by decide +kernel
theorem dX10_frame_1 : decode cX10_frame 1 = .ok (.aload_n 0, 1) := by decide +kernel
theorem dX10_frame_2 : decode cX10_frame 2 = .ok (.getfield 71, 3) := by decide +kernel
theorem dX10_frame_5 : decode cX10_frame 5 = .ok (.getfield 140, 3) := by decide +kernel
theorem dX10_frame_8 : decode cX10_frame 8 = .ok (.invokestatic 84, 3) := by decide +kernel
theorem dX10_frame_11 : decode cX10_frame 11 = .ok (.ifCond .eq 11, 3) := by decide +kernel
theorem dX10_frame_14 : decode cX10_frame 14 = .ok (.iload_n 2, 1) := by decide +kernel
theorem dX10_frame_15 : decode cX10_frame 15 = .ok (.iconst 5, 1) := by decide +kernel
theorem dX10_frame_16 : decode cX10_frame 16 = .ok (.invokestatic 84, 3) := by decide +kernel
theorem dX10_frame_19 : decode cX10_frame 19 = .ok (.ifCond .ne 5, 3) := by decide +kernel
theorem dX10_frame_22 : decode cX10_frame 22 = .ok (.iconst (-1), 1) := by decide +kernel
theorem dX10_frame_23 : decode cX10_frame 23 = .ok (.ireturn, 1) := by decide +kernel
theorem dX10_frame_24 : decode cX10_frame 24 = .ok (.aload_n 0, 1) := by decide +kernel
theorem dX10_frame_25 : decode cX10_frame 25 = .ok (.aload_n 0, 1) := by decide +kernel
theorem dX10_frame_26 : decode cX10_frame 26 = .ok (.getfield 71, 3) := by decide +kernel
theorem dX10_frame_29 : decode cX10_frame 29 = .ok (.getfield 154, 3) := by decide +kernel
theorem dX10_frame_32 : decode cX10_frame 32 = .ok (.iload_n 1, 1) := by decide +kernel
theorem dX10_frame_33 : decode cX10_frame 33 = .ok (.aaload, 1) := by decide +kernel
theorem dX10_frame_34 : decode cX10_frame 34 = .ok (.iload_n 2, 1) := by decide +kernel
theorem dX10_frame_35 : decode cX10_frame 35 = .ok (.invokevirtual 158, 3) := by decide +kernel
theorem dX10_frame_38 : decode cX10_frame 38 = .ok (.invokevirtual 106, 3) := by decide +kernel
theorem dX10_frame_41 : decode cX10_frame 41 = .ok (.ireturn, 1) := by decide +kernel
theorem dX10_place_0 : decode cX10_place 0 = .ok (.iload_n 1, 1) := by decide +kernel
theorem dX10_place_1 : decode cX10_place 1 = .ok (.aload_n 0, 1) := by decide +kernel
theorem dX10_place_2 : decode cX10_place 2 = .ok (.getfield 71, 3) := by decide +kernel
theorem dX10_place_5 : decode cX10_place 5 = .ok (.getfield 140, 3) := by decide +kernel
theorem dX10_place_8 : decode cX10_place 8 = .ok (.invokestatic 84, 3) := by decide +kernel
theorem dX10_place_11 : decode cX10_place 11 = .ok (.ifCond .eq 11, 3) := by decide +kernel
theorem dX10_place_14 : decode cX10_place 14 = .ok (.iload_n 2, 1) := by decide +kernel
theorem dX10_place_15 : decode cX10_place 15 = .ok (.iconst 4, 1) := by decide +kernel
theorem dX10_place_16 : decode cX10_place 16 = .ok (.invokestatic 84, 3) := by decide +kernel
theorem dX10_place_19 : decode cX10_place 19 = .ok (.ifCond .ne 5, 3) := by decide +kernel
theorem dX10_place_22 : decode cX10_place 22 = .ok (.iconst (-1), 1) := by decide +kernel
theorem dX10_place_23 : decode cX10_place 23 = .ok (.ireturn, 1) := by decide +kernel
theorem dX10_place_24 : decode cX10_place 24 = .ok (.aload_n 0, 1) := by decide +kernel
theorem dX10_place_25 : decode cX10_place 25 = .ok (.getfield 32, 3) := by decide +kernel
theorem dX10_place_28 : decode cX10_place 28 = .ok (.getfield 163, 3) := by decide +kernel
theorem dX10_place_31 : decode cX10_place 31 = .ok (.iload_n 1, 1) := by decide +kernel
theorem dX10_place_32 : decode cX10_place 32 = .ok (.invokevirtual 166, 3) := by decide +kernel
theorem dX10_place_35 : decode cX10_place 35 = .ok (.ifCond .ne 6, 3) := by decide +kernel
theorem dX10_place_38 : decode cX10_place 38 = .ok (.bipush (-9), 2) := by decide +kernel
theorem dX10_place_40 : decode cX10_place 40 = .ok (.ireturn, 1) := by decide +kernel
theorem dX10_place_41 : decode cX10_place 41 = .ok (.aload_n 0, 1) := by decide +kernel
theorem dX10_place_42 : decode cX10_place 42 = .ok (.aload_n 0, 1) := by decide +kernel
theorem dX10_place_43 : decode cX10_place 43 = .ok (.getfield 32, 3) := by decide +kernel
theorem dX10_place_46 : decode cX10_place 46 = .ok (.getfield 163, 3) := by decide +kernel
theorem dX10_place_49 : decode cX10_place 49 = .ok (.iload_n 1, 1) := by decide +kernel
theorem dX10_place_50 : decode cX10_place 50 = .ok (.iload_n 2, 1) := by decide +kernel
theorem dX10_place_51 : decode cX10_place 51 = .ok (.invokevirtual 170, 3) := by decide +kernel
theorem dX10_place_54 : decode cX10_place 54 = .ok (.invokevirtual 106, 3) := by decide +kernel
theorem dX10_place_57 : decode cX10_place 57 = .ok (.ireturn, 1) := by decide +kernel
theorem dX10_mark_0 : decode cX10_mark 0 = .ok (.iload_n 1, 1) := by decide +kernel
theorem dX10_mark_1 : decode cX10_mark 1 = .ok (.aload_n 0, 1) := by decide +kernel
theorem dX10_mark_2 : decode cX10_mark 2 = .ok (.getfield 71, 3) := by decide +kernel
theorem dX10_mark_5 : decode cX10_mark 5 = .ok (.getfield 140, 3) := by decide +kernel
theorem dX10_mark_8 : decode cX10_mark 8 = .ok (.invokestatic 84, 3) := by decide +kernel
theorem dX10_mark_11 : decode cX10_mark 11 = .ok (.ifCond .eq 13, 3) := by decide +kernel
theorem dX10_mark_14 : decode cX10_mark 14 = .ok (.iload_n 2, 1) := by decide +kernel
theorem dX10_mark_15 : decode cX10_mark 15 = .ok (.iconst 1, 1) := by decide +kernel
theorem dX10_mark_16 : decode cX10_mark 16 = .ok (.if_icmp .lt 8, 3) := by decide +kernel
theorem dX10_mark_19 : decode cX10_mark 19 = .ok (.iload_n 2, 1) := by decide +kernel
theorem dX10_mark_20 : decode cX10_mark 20 = .ok (.iconst 4, 1) := by decide +kernel
theorem dX10_mark_21 : decode cX10_mark 21 = .ok (.if_icmp .lt 5, 3) := by decide +kernel
theorem dX10_mark_24 : decode cX10_mark 24 = .ok (.iconst (-1), 1) := by decide +kernel
theorem dX10_mark_25 : decode cX10_mark 25 = .ok (.ireturn, 1) := by decide +kernel
theorem dX10_mark_26 : decode cX10_mark 26 = .ok (.aload_n 0, 1) := by decide +kernel
theorem dX10_mark_27 : decode cX10_mark 27 = .ok (.getfield 71, 3) := by decide +kernel
theorem dX10_mark_30 : decode cX10_mark 30 = .ok (.getfield 154, 3) := by decide +kernel
theorem dX10_mark_33 : decode cX10_mark 33 = .ok (.iload_n 1, 1) := by decide +kernel
theorem dX10_mark_34 : decode cX10_mark 34 = .ok (.aaload, 1) := by decide +kernel
theorem dX10_mark_35 : decode cX10_mark 35 = .ok (.astore_n 3, 1) := by decide +kernel
theorem dX10_mark_36 : decode cX10_mark 36 = .ok (.aload_n 3, 1) := by decide +kernel
theorem dX10_mark_37 : decode cX10_mark 37 = .ok (.iload_n 2, 1) := by decide +kernel
theorem dX10_mark_38 : decode cX10_mark 38 = .ok (.invokevirtual 173, 3) := by decide +kernel
theorem dX10_mark_41 : decode cX10_mark 41 = .ok (.ifCond .ne 9, 3) := by decide +kernel
theorem dX10_mark_44 : decode cX10_mark 44 = .ok (.aload_n 0, 1) := by decide +kernel
theorem dX10_mark_45 : decode cX10_mark 45 = .ok (.iconst 3, 1) := by decide +kernel
theorem dX10_mark_46 : decode cX10_mark 46 = .ok (.invokevirtual 88, 3) := by decide +kernel
theorem dX10_mark_49 : decode cX10_mark 49 = .ok (.ireturn, 1) := by decide +kernel
theorem dX10_mark_50 : decode cX10_mark 50 = .ok (.iload_n 2, 1) := by decide +kernel
theorem dX10_mark_51 : decode cX10_mark 51 = .ok (.iconst 1, 1) := by decide +kernel
theorem dX10_mark_52 : decode cX10_mark 52 = .ok (.if_icmp .ne 16, 3) := by decide +kernel
theorem dX10_mark_55 : decode cX10_mark 55 = .ok (.aload_n 3, 1) := by decide +kernel
theorem dX10_mark_56 : decode cX10_mark 56 = .ok (.getfield 176, 3) := by decide +kernel
theorem dX10_mark_59 : decode cX10_mark 59 = .ok (.aload_n 3, 1) := by decide +kernel
theorem dX10_mark_60 : decode cX10_mark 60 = .ok (.getfield 179, 3) := by decide +kernel
theorem dX10_mark_63 : decode cX10_mark 63 = .ok (.isub, 1) := by decide +kernel
theorem dX10_mark_64 : decode cX10_mark 64 = .ok (.invokestatic 182, 3) := by decide +kernel
theorem dX10_mark_67 : decode cX10_mark 67 = .ok (.ireturn, 1) := by decide +kernel
theorem dX10_mark_68 : decode cX10_mark 68 = .ok (.iload_n 2, 1) := by decide +kernel
theorem dX10_mark_69 : decode cX10_mark 69 = .ok (.iconst 2, 1) := by decide +kernel
theorem dX10_mark_70 : decode cX10_mark 70 = .ok (.if_icmp .ne 8, 3) := by decide +kernel
theorem dX10_mark_73 : decode cX10_mark 73 = .ok (.aload_n 3, 1) := by decide +kernel
theorem dX10_mark_74 : decode cX10_mark 74 = .ok (.invokevirtual 187, 3) := by decide +kernel
theorem dX10_mark_77 : decode cX10_mark 77 = .ok (.ireturn, 1) := by decide +kernel
theorem dX10_mark_78 : decode cX10_mark 78 = .ok (.aload_n 3, 1) := by decide +kernel
theorem dX10_mark_79 : decode cX10_mark 79 = .ok (.invokevirtual 191, 3) := by decide +kernel
theorem dX10_mark_82 : decode cX10_mark 82 = .ok (.ireturn, 1) := by decide +kernel
theorem dX10_set_0 : decode cX10_set 0 = .ok (.iload_n 1, 1) := by decide +kernel
theorem dX10_set_1 : decode cX10_set 1 = .ok (.aload_n 0, 1) := by decide +kernel
theorem dX10_set_2 : decode cX10_set 2 = .ok (.getfield 71, 3) := by decide +kernel
theorem dX10_set_5 : decode cX10_set 5 = .ok (.getfield 140, 3) := by decide +kernel
theorem dX10_set_8 : decode cX10_set 8 = .ok (.invokestatic 84, 3) := by decide +kernel
theorem dX10_set_11 : decode cX10_set 11 = .ok (.ifCond .ne 5, 3) := by decide +kernel
theorem dX10_set_14 : decode cX10_set 14 = .ok (.iconst (-1), 1) := by decide +kernel
theorem dX10_set_15 : decode cX10_set 15 = .ok (.ireturn, 1) := by decide +kernel
theorem dX10_set_16 : decode cX10_set 16 = .ok (.aload_n 0, 1) := by decide +kernel
theorem dX10_set_17 : decode cX10_set 17 = .ok (.getfield 32, 3) := by decide +kernel
theorem dX10_set_20 : decode cX10_set 20 = .ok (.getfield 163, 3) := by decide +kernel
theorem dX10_set_23 : decode cX10_set 23 = .ok (.iload_n 1, 1) := by decide +kernel
theorem dX10_set_24 : decode cX10_set 24 = .ok (.invokevirtual 166, 3) := by decide +kernel
theorem dX10_set_27 : decode cX10_set 27 = .ok (.ifCond .eq 6, 3) := by decide +kernel
theorem dX10_set_30 : decode cX10_set 30 = .ok (.bipush (-4), 2) := by decide +kernel
theorem dX10_set_32 : decode cX10_set 32 = .ok (.ireturn, 1) := by decide +kernel
theorem dX10_set_33 : decode cX10_set 33 = .ok (.aload_n 0, 1) := by decide +kernel
theorem dX10_set_34 : decode cX10_set 34 = .ok (.getfield 53, 3) := by decide +kernel
theorem dX10_set_37 : decode cX10_set 37 = .ok (.aload_n 0, 1) := by decide +kernel
theorem dX10_set_38 : decode cX10_set 38 = .ok (.getfield 71, 3) := by decide +kernel
theorem dX10_set_41 : decode cX10_set 41 = .ok (.aload_n 0, 1) := by decide +kernel
theorem dX10_set_42 : decode cX10_set 42 = .ok (.getfield 32, 3) := by decide +kernel
theorem dX10_set_45 : decode cX10_set 45 = .ok (.getfield 163, 3) := by decide +kernel
theorem dX10_set_48 : decode cX10_set 48 = .ok (.iload_n 1, 1) := by decide +kernel
theorem dX10_set_49 : decode cX10_set 49 = .ok (.invokevirtual 194, 3) := by decide +kernel
theorem dX10_set_52 : decode cX10_set 52 = .ok (.istore_n 2, 1) := by decide +kernel
theorem dX10_set_53 : decode cX10_set 53 = .ok (.iload_n 2, 1) := by decide +kernel
theorem dX10_set_54 : decode cX10_set 54 = .ok (.bipush (-9), 2) := by decide +kernel
theorem dX10_set_56 : decode cX10_set 56 = .ok (.if_icmp .ne 6, 3) := by decide +kernel
theorem dX10_set_59 : decode cX10_set 59 = .ok (.bipush (-6), 2) := by decide +kernel
theorem dX10_set_61 : decode cX10_set 61 = .ok (.ireturn, 1) := by decide +kernel
theorem dX10_set_62 : decode cX10_set 62 = .ok (.aload_n 0, 1) := by decide +kernel
theorem dX10_set_63 : decode cX10_set 63 = .ok (.getfield 32, 3) := by decide +kernel
theorem dX10_set_66 : decode cX10_set 66 = .ok (.invokevirtual 198, 3) := by decide +kernel
theorem dX10_set_69 : decode cX10_set 69 = .ok (.ifCond .eq 6, 3) := by decide +kernel
theorem dX10_set_72 : decode cX10_set 72 = .ok (.bipush (-2), 2) := by decide +kernel
theorem dX10_set_74 : decode cX10_set 74 = .ok (.ireturn, 1) := by decide +kernel
theorem dX10_set_75 : decode cX10_set 75 = .ok (.aload_n 0, 1) := by decide +kernel
theorem dX10_set_76 : decode cX10_set 76 = .ok (.getfield 32, 3) := by decide +kernel
theorem dX10_set_79 : decode cX10_set 79 = .ok (.invokevirtual 201, 3) := by decide +kernel
theorem dX10_set_82 : decode cX10_set 82 = .ok (.aload_n 0, 1) := by decide +kernel
theorem dX10_set_83 : decode cX10_set 83 = .ok (.getfield 32, 3) := by decide +kernel
theorem dX10_set_86 : decode cX10_set 86 = .ok (.getfield 163, 3) := by decide +kernel
theorem dX10_set_89 : decode cX10_set 89 = .ok (.getfield 204, 3) := by decide +kernel
theorem dX10_set_92 : decode cX10_set 92 = .ok (.iload_n 1, 1) := by decide +kernel
theorem dX10_set_93 : decode cX10_set 93 = .ok (.iload_n 2, 1) := by decide +kernel
theorem dX10_set_94 : decode cX10_set 94 = .ok (.iastore, 1) := by decide +kernel
theorem dX10_set_95 : decode cX10_set 95 = .ok (.aload_n 0, 1) := by decide +kernel
theorem dX10_set_96 : decode cX10_set 96 = .ok (.getfield 32, 3) := by decide +kernel
theorem dX10_set_99 : decode cX10_set 99 = .ok (.getfield 163, 3) := by decide +kernel
theorem dX10_set_102 : decode cX10_set 102 = .ok (.iload_n 1, 1) := by decide +kernel
theorem dX10_set_103 : decode cX10_set 103 = .ok (.invokevirtual 207, 3) := by decide +kernel
theorem dX10_set_106 : decode cX10_set 106 = .ok (.ireturn, 1) := by decide +kernel
theorem dX10_lift_0 : decode cX10_lift 0 = .ok (.iload_n 1, 1) := by decide +kernel
theorem dX10_lift_1 : decode cX10_lift 1 = .ok (.aload_n 0, 1) := by decide +kernel
theorem dX10_lift_2 : decode cX10_lift 2 = .ok (.getfield 71, 3) := by decide +kernel
theorem dX10_lift_5 : decode cX10_lift 5 = .ok (.getfield 140, 3) := by decide +kernel
theorem dX10_lift_8 : decode cX10_lift 8 = .ok (.invokestatic 84, 3) := by decide +kernel
theorem dX10_lift_11 : decode cX10_lift 11 = .ok (.ifCond .ne 5, 3) := by decide +kernel
theorem dX10_lift_14 : decode cX10_lift 14 = .ok (.iconst (-1), 1) := by decide +kernel
theorem dX10_lift_15 : decode cX10_lift 15 = .ok (.ireturn, 1) := by decide +kernel
theorem dX10_lift_16 : decode cX10_lift 16 = .ok (.aload_n 0, 1) := by decide +kernel
theorem dX10_lift_17 : decode cX10_lift 17 = .ok (.getfield 32, 3) := by decide +kernel
theorem dX10_lift_20 : decode cX10_lift 20 = .ok (.getfield 163, 3) := by decide +kernel
theorem dX10_lift_23 : decode cX10_lift 23 = .ok (.iload_n 1, 1) := by decide +kernel
theorem dX10_lift_24 : decode cX10_lift 24 = .ok (.invokevirtual 166, 3) := by decide +kernel
theorem dX10_lift_27 : decode cX10_lift 27 = .ok (.ifCond .ne 6, 3) := by decide +kernel
theorem dX10_lift_30 : decode cX10_lift 30 = .ok (.bipush (-4), 2) := by decide +kernel
theorem dX10_lift_32 : decode cX10_lift 32 = .ok (.ireturn, 1) := by decide +kernel
theorem dX10_lift_33 : decode cX10_lift 33 = .ok (.aload_n 0, 1) := by decide +kernel
theorem dX10_lift_34 : decode cX10_lift 34 = .ok (.getfield 32, 3) := by decide +kernel
theorem dX10_lift_37 : decode cX10_lift 37 = .ok (.invokevirtual 198, 3) := by decide +kernel
theorem dX10_lift_40 : decode cX10_lift 40 = .ok (.ifCond .eq 6, 3) := by decide +kernel
theorem dX10_lift_43 : decode cX10_lift 43 = .ok (.bipush (-2), 2) := by decide +kernel
theorem dX10_lift_45 : decode cX10_lift 45 = .ok (.ireturn, 1) := by decide +kernel
theorem dX10_lift_46 : decode cX10_lift 46 = .ok (.aload_n 0, 1) := by decide +kernel
theorem dX10_lift_47 : decode cX10_lift 47 = .ok (.getfield 32, 3) := by decide +kernel
theorem dX10_lift_50 : decode cX10_lift 50 = .ok (.invokevirtual 201, 3) := by decide +kernel
theorem dX10_lift_53 : decode cX10_lift 53 = .ok (.aload_n 0, 1) := by decide +kernel
theorem dX10_lift_54 : decode cX10_lift 54 = .ok (.getfield 32, 3) := by decide +kernel
theorem dX10_lift_57 : decode cX10_lift 57 = .ok (.getfield 163, 3) := by decide +kernel
theorem dX10_lift_60 : decode cX10_lift 60 = .ok (.getfield 204, 3) := by decide +kernel
theorem dX10_lift_63 : decode cX10_lift 63 = .ok (.iload_n 1, 1) := by decide +kernel
theorem dX10_lift_64 : decode cX10_lift 64 = .ok (.bipush (-9), 2) := by decide +kernel
theorem dX10_lift_66 : decode cX10_lift 66 = .ok (.iastore, 1) := by decide +kernel
theorem dX10_lift_67 : decode cX10_lift 67 = .ok (.aload_n 0, 1) := by decide +kernel
theorem dX10_lift_68 : decode cX10_lift 68 = .ok (.getfield 32, 3) := by decide +kernel
theorem dX10_lift_71 : decode cX10_lift 71 = .ok (.getfield 163, 3) := by decide +kernel
theorem dX10_lift_74 : decode cX10_lift 74 = .ok (.invokevirtual 210, 3) := by decide +kernel
theorem dX10_lift_77 : decode cX10_lift 77 = .ok (.ireturn, 1) := by decide +kernel
theorem dX10_all_0 : decode cX10_all 0 = .ok (.iload_n 1, 1) := by decide +kernel
theorem dX10_all_1 : decode cX10_all 1 = .ok (.iconst 3, 1) := by decide +kernel
theorem dX10_all_2 : decode cX10_all 2 = .ok (.invokestatic 84, 3) := by decide +kernel
theorem dX10_all_5 : decode cX10_all 5 = .ok (.ifCond .eq 10, 3) := by decide +kernel
theorem dX10_all_8 : decode cX10_all 8 = .ok (.aload_n 0, 1) := by decide +kernel
theorem dX10_all_9 : decode cX10_all 9 = .ok (.invokevirtual 141, 3) := by decide +kernel
theorem dX10_all_12 : decode cX10_all 12 = .ok (.ifCond .eq 5, 3) := by decide +kernel
theorem dX10_all_15 : decode cX10_all 15 = .ok (.iconst (-1), 1) := by decide +kernel
theorem dX10_all_16 : decode cX10_all 16 = .ok (.ireturn, 1) := by decide +kernel
theorem dX10_all_17 : decode cX10_all 17 = .ok (.aload_n 0, 1) := by decide +kernel
theorem dX10_all_18 : decode cX10_all 18 = .ok (.getfield 32, 3) := by decide +kernel
theorem dX10_all_21 : decode cX10_all 21 = .ok (.invokevirtual 198, 3) := by decide +kernel
theorem dX10_all_24 : decode cX10_all 24 = .ok (.ifCond .eq 6, 3) := by decide +kernel
theorem dX10_all_27 : decode cX10_all 27 = .ok (.bipush (-2), 2) := by decide +kernel
theorem dX10_all_29 : decode cX10_all 29 = .ok (.ireturn, 1) := by decide +kernel
theorem dX10_all_30 : decode cX10_all 30 = .ok (.aload_n 0, 1) := by decide +kernel
theorem dX10_all_31 : decode cX10_all 31 = .ok (.getfield 32, 3) := by decide +kernel
theorem dX10_all_34 : decode cX10_all 34 = .ok (.invokevirtual 201, 3) := by decide +kernel
theorem dX10_all_37 : decode cX10_all 37 = .ok (.aload_n 0, 1) := by decide +kernel
theorem dX10_all_38 : decode cX10_all 38 = .ok (.getfield 53, 3) := by decide +kernel
theorem dX10_all_41 : decode cX10_all 41 = .ok (.aload_n 0, 1) := by decide +kernel
theorem dX10_all_42 : decode cX10_all 42 = .ok (.getfield 71, 3) := by decide +kernel
theorem dX10_all_45 : decode cX10_all 45 = .ok (.aload_n 0, 1) := by decide +kernel
theorem dX10_all_46 : decode cX10_all 46 = .ok (.getfield 32, 3) := by decide +kernel
theorem dX10_all_49 : decode cX10_all 49 = .ok (.getfield 163, 3) := by decide +kernel
theorem dX10_all_52 : decode cX10_all 52 = .ok (.iload_n 1, 1) := by decide +kernel
theorem dX10_all_53 : decode cX10_all 53 = .ok (.invokevirtual 213, 3) := by decide +kernel
theorem dX10_all_56 : decode cX10_all 56 = .ok (.aload_n 0, 1) := by decide +kernel
theorem dX10_all_57 : decode cX10_all 57 = .ok (.getfield 32, 3) := by decide +kernel
theorem dX10_all_60 : decode cX10_all 60 = .ok (.getfield 163, 3) := by decide +kernel
theorem dX10_all_63 : decode cX10_all 63 = .ok (.invokevirtual 210, 3) := by decide +kernel
theorem dX10_all_66 : decode cX10_all 66 = .ok (.ireturn, 1) := by decide +kernel
theorem dX10_rule_0 : decode cX10_rule 0 = .ok (.iload_n 1, 1) := by decide +kernel
theorem dX10_rule_1 : decode cX10_rule 1 = .ok (.iconst 4, 1) := by decide +kernel
theorem dX10_rule_2 : decode cX10_rule 2 = .ok (.invokestatic 84, 3) := by decide +kernel
theorem dX10_rule_5 : decode cX10_rule 5 = .ok (.ifCond .ne 5, 3) := by decide +kernel
theorem dX10_rule_8 : decode cX10_rule 8 = .ok (.iconst (-1), 1) := by decide +kernel
theorem dX10_rule_9 : decode cX10_rule 9 = .ok (.ireturn, 1) := by decide +kernel
theorem dX10_rule_10 : decode cX10_rule 10 = .ok (.aload_n 0, 1) := by decide +kernel
theorem dX10_rule_11 : decode cX10_rule 11 = .ok (.invokevirtual 141, 3) := by decide +kernel
theorem dX10_rule_14 : decode cX10_rule 14 = .ok (.ifCond .ne 17, 3) := by decide +kernel
theorem dX10_rule_17 : decode cX10_rule 17 = .ok (.aload_n 0, 1) := by decide +kernel
theorem dX10_rule_18 : decode cX10_rule 18 = .ok (.getfield 32, 3) := by decide +kernel
theorem dX10_rule_21 : decode cX10_rule 21 = .ok (.getfield 163, 3) := by decide +kernel
theorem dX10_rule_24 : decode cX10_rule 24 = .ok (.getfield 217, 3) := by decide +kernel
theorem dX10_rule_27 : decode cX10_rule 27 = .ok (.iload_n 1, 1) := by decide +kernel
theorem dX10_rule_28 : decode cX10_rule 28 = .ok (.if_icmp .ne 6, 3) := by decide +kernel
theorem dX10_rule_31 : decode cX10_rule 31 = .ok (.bipush (-4), 2) := by decide +kernel
theorem dX10_rule_33 : decode cX10_rule 33 = .ok (.ireturn, 1) := by decide +kernel
theorem dX10_rule_34 : decode cX10_rule 34 = .ok (.aload_n 0, 1) := by decide +kernel
theorem dX10_rule_35 : decode cX10_rule 35 = .ok (.getfield 32, 3) := by decide +kernel
theorem dX10_rule_38 : decode cX10_rule 38 = .ok (.invokevirtual 198, 3) := by decide +kernel
theorem dX10_rule_41 : decode cX10_rule 41 = .ok (.ifCond .eq 6, 3) := by decide +kernel
theorem dX10_rule_44 : decode cX10_rule 44 = .ok (.bipush (-2), 2) := by decide +kernel
theorem dX10_rule_46 : decode cX10_rule 46 = .ok (.ireturn, 1) := by decide +kernel
theorem dX10_rule_47 : decode cX10_rule 47 = .ok (.aload_n 0, 1) := by decide +kernel
theorem dX10_rule_48 : decode cX10_rule 48 = .ok (.getfield 32, 3) := by decide +kernel
theorem dX10_rule_51 : decode cX10_rule 51 = .ok (.getfield 163, 3) := by decide +kernel
theorem dX10_rule_54 : decode cX10_rule 54 = .ok (.getfield 217, 3) := by decide +kernel
theorem dX10_rule_57 : decode cX10_rule 57 = .ok (.istore_n 2, 1) := by decide +kernel
theorem dX10_rule_58 : decode cX10_rule 58 = .ok (.aload_n 0, 1) := by decide +kernel
theorem dX10_rule_59 : decode cX10_rule 59 = .ok (.getfield 32, 3) := by decide +kernel
theorem dX10_rule_62 : decode cX10_rule 62 = .ok (.invokevirtual 201, 3) := by decide +kernel
theorem dX10_rule_65 : decode cX10_rule 65 = .ok (.aload_n 0, 1) := by decide +kernel
theorem dX10_rule_66 : decode cX10_rule 66 = .ok (.getfield 32, 3) := by decide +kernel
theorem dX10_rule_69 : decode cX10_rule 69 = .ok (.getfield 163, 3) := by decide +kernel
theorem dX10_rule_72 : decode cX10_rule 72 = .ok (.iload_n 1, 1) := by decide +kernel
theorem dX10_rule_73 : decode cX10_rule 73 = .ok (.putfield 217, 3) := by decide +kernel
theorem dX10_rule_76 : decode cX10_rule 76 = .ok (.iload_n 2, 1) := by decide +kernel
theorem dX10_rule_77 : decode cX10_rule 77 = .ok (.ireturn, 1) := by decide +kernel
theorem dX10_undo_0 : decode cX10_undo 0 = .ok (.iload_n 1, 1) := by decide +kernel
theorem dX10_undo_1 : decode cX10_undo 1 = .ok (.ifCond .lt 14, 3) := by decide +kernel
theorem dX10_undo_4 : decode cX10_undo 4 = .ok (.iload_n 1, 1) := by decide +kernel
theorem dX10_undo_5 : decode cX10_undo 5 = .ok (.aload_n 0, 1) := by decide +kernel
theorem dX10_undo_6 : decode cX10_undo 6 = .ok (.getfield 32, 3) := by decide +kernel
theorem dX10_undo_9 : decode cX10_undo 9 = .ok (.getfield 220, 3) := by decide +kernel
theorem dX10_undo_12 : decode cX10_undo 12 = .ok (.if_icmp .le 5, 3) := by decide +kernel
theorem dX10_undo_15 : decode cX10_undo 15 = .ok (.iconst (-1), 1) := by decide +kernel
theorem dX10_undo_16 : decode cX10_undo 16 = .ok (.ireturn, 1) := by decide +kernel
theorem dX10_undo_17 : decode cX10_undo 17 = .ok (.aload_n 0, 1) := by decide +kernel
theorem dX10_undo_18 : decode cX10_undo 18 = .ok (.getfield 32, 3) := by decide +kernel
theorem dX10_undo_21 : decode cX10_undo 21 = .ok (.getfield 220, 3) := by decide +kernel
theorem dX10_undo_24 : decode cX10_undo 24 = .ok (.iload_n 1, 1) := by decide +kernel
theorem dX10_undo_25 : decode cX10_undo 25 = .ok (.isub, 1) := by decide +kernel
theorem dX10_undo_26 : decode cX10_undo 26 = .ok (.istore_n 2, 1) := by decide +kernel
theorem dX10_undo_27 : decode cX10_undo 27 = .ok (.aload_n 0, 1) := by decide +kernel
theorem dX10_undo_28 : decode cX10_undo 28 = .ok (.getfield 32, 3) := by decide +kernel
theorem dX10_undo_31 : decode cX10_undo 31 = .ok (.iload_n 1, 1) := by decide +kernel
theorem dX10_undo_32 : decode cX10_undo 32 = .ok (.invokevirtual 223, 3) := by decide +kernel
theorem dX10_undo_35 : decode cX10_undo 35 = .ok (.iload_n 2, 1) := by decide +kernel
theorem dX10_undo_36 : decode cX10_undo 36 = .ok (.ireturn, 1) := by decide +kernel
theorem dX10_keep_0 : decode cX10_keep 0 = .ok (.iload_n 1, 1) := by decide +kernel
theorem dX10_keep_1 : decode cX10_keep 1 = .ok (.iconst 3, 1) := by decide +kernel
theorem dX10_keep_2 : decode cX10_keep 2 = .ok (.invokestatic 84, 3) := by decide +kernel
theorem dX10_keep_5 : decode cX10_keep 5 = .ok (.ifCond .ne 5, 3) := by decide +kernel
theorem dX10_keep_8 : decode cX10_keep 8 = .ok (.iconst (-1), 1) := by decide +kernel
theorem dX10_keep_9 : decode cX10_keep 9 = .ok (.ireturn, 1) := by decide +kernel
theorem dX10_keep_10 : decode cX10_keep 10 = .ok (.aload_n 0, 1) := by decide +kernel
theorem dX10_keep_11 : decode cX10_keep 11 = .ok (.invokevirtual 141, 3) := by decide +kernel
theorem dX10_keep_14 : decode cX10_keep 14 = .ok (.ifCond .eq 6, 3) := by decide +kernel
theorem dX10_keep_17 : decode cX10_keep 17 = .ok (.bipush (-4), 2) := by decide +kernel
theorem dX10_keep_19 : decode cX10_keep 19 = .ok (.ireturn, 1) := by decide +kernel
theorem dX10_keep_20 : decode cX10_keep 20 = .ok (.aload_n 0, 1) := by decide +kernel
theorem dX10_keep_21 : decode cX10_keep 21 = .ok (.getfield 23, 3) := by decide +kernel
theorem dX10_keep_24 : decode cX10_keep 24 = .ok (.iload_n 1, 1) := by decide +kernel
theorem dX10_keep_25 : decode cX10_keep 25 = .ok (.aaload, 1) := by decide +kernel
theorem dX10_keep_26 : decode cX10_keep 26 = .ok (.aload_n 0, 1) := by decide +kernel
theorem dX10_keep_27 : decode cX10_keep 27 = .ok (.getfield 32, 3) := by decide +kernel
theorem dX10_keep_30 : decode cX10_keep 30 = .ok (.invokevirtual 226, 3) := by decide +kernel
theorem dX10_keep_33 : decode cX10_keep 33 = .ok (.aload_n 0, 1) := by decide +kernel
theorem dX10_keep_34 : decode cX10_keep 34 = .ok (.getfield 27, 3) := by decide +kernel
theorem dX10_keep_37 : decode cX10_keep 37 = .ok (.iload_n 1, 1) := by decide +kernel
theorem dX10_keep_38 : decode cX10_keep 38 = .ok (.iconst 1, 1) := by decide +kernel
theorem dX10_keep_39 : decode cX10_keep 39 = .ok (.bastore, 1) := by decide +kernel
theorem dX10_keep_40 : decode cX10_keep 40 = .ok (.aload_n 0, 1) := by decide +kernel
theorem dX10_keep_41 : decode cX10_keep 41 = .ok (.getfield 32, 3) := by decide +kernel
theorem dX10_keep_44 : decode cX10_keep 44 = .ok (.getfield 220, 3) := by decide +kernel
theorem dX10_keep_47 : decode cX10_keep 47 = .ok (.ireturn, 1) := by decide +kernel
theorem dX10_on_0 : decode cX10_on 0 = .ok (.iload_n 1, 1) := by decide +kernel
theorem dX10_on_1 : decode cX10_on 1 = .ok (.iconst 3, 1) := by decide +kernel
theorem dX10_on_2 : decode cX10_on 2 = .ok (.invokestatic 84, 3) := by decide +kernel
theorem dX10_on_5 : decode cX10_on 5 = .ok (.ifCond .ne 5, 3) := by decide +kernel
theorem dX10_on_8 : decode cX10_on 8 = .ok (.iconst (-1), 1) := by decide +kernel
theorem dX10_on_9 : decode cX10_on 9 = .ok (.ireturn, 1) := by decide +kernel
theorem dX10_on_10 : decode cX10_on 10 = .ok (.aload_n 0, 1) := by decide +kernel
theorem dX10_on_11 : decode cX10_on 11 = .ok (.getfield 27, 3) := by decide +kernel
theorem dX10_on_14 : decode cX10_on 14 = .ok (.iload_n 1, 1) := by decide +kernel
theorem dX10_on_15 : decode cX10_on 15 = .ok (.baload, 1) := by decide +kernel
theorem dX10_on_16 : decode cX10_on 16 = .ok (.ifCond .ne 9, 3) := by decide +kernel
theorem dX10_on_19 : decode cX10_on 19 = .ok (.aload_n 0, 1) := by decide +kernel
theorem dX10_on_20 : decode cX10_on 20 = .ok (.iconst 1, 1) := by decide +kernel
theorem dX10_on_21 : decode cX10_on 21 = .ok (.invokevirtual 88, 3) := by decide +kernel
theorem dX10_on_24 : decode cX10_on 24 = .ok (.ireturn, 1) := by decide +kernel
theorem dX10_on_25 : decode cX10_on 25 = .ok (.aload_n 0, 1) := by decide +kernel
theorem dX10_on_26 : decode cX10_on 26 = .ok (.getfield 32, 3) := by decide +kernel
theorem dX10_on_29 : decode cX10_on 29 = .ok (.aload_n 0, 1) := by decide +kernel
theorem dX10_on_30 : decode cX10_on 30 = .ok (.getfield 23, 3) := by decide +kernel
theorem dX10_on_33 : decode cX10_on 33 = .ok (.iload_n 1, 1) := by decide +kernel
theorem dX10_on_34 : decode cX10_on 34 = .ok (.aaload, 1) := by decide +kernel
theorem dX10_on_35 : decode cX10_on 35 = .ok (.invokevirtual 226, 3) := by decide +kernel
theorem dX10_on_38 : decode cX10_on 38 = .ok (.aload_n 0, 1) := by decide +kernel
theorem dX10_on_39 : decode cX10_on 39 = .ok (.getfield 32, 3) := by decide +kernel
theorem dX10_on_42 : decode cX10_on 42 = .ok (.getfield 220, 3) := by decide +kernel
theorem dX10_on_45 : decode cX10_on 45 = .ok (.ireturn, 1) := by decide +kernel
theorem dX10_free_0 : decode cX10_free 0 = .ok (.aload_n 0, 1) := by decide +kernel
theorem dX10_free_1 : decode cX10_free 1 = .ok (.iload_n 1, 1) := by decide +kernel
theorem dX10_free_2 : decode cX10_free 2 = .ok (.invokevirtual 229, 3) := by decide +kernel
theorem dX10_free_5 : decode cX10_free 5 = .ok (.ifCond .eq 15, 3) := by decide +kernel
theorem dX10_free_8 : decode cX10_free 8 = .ok (.iload_n 2, 1) := by decide +kernel
theorem dX10_free_9 : decode cX10_free 9 = .ok (.ifCond .lt 11, 3) := by decide +kernel
theorem dX10_free_12 : decode cX10_free 12 = .ok (.iload_n 3, 1) := by decide +kernel
theorem dX10_free_13 : decode cX10_free 13 = .ok (.iconst 4, 1) := by decide +kernel
theorem dX10_free_14 : decode cX10_free 14 = .ok (.invokestatic 84, 3) := by decide +kernel
theorem dX10_free_17 : decode cX10_free 17 = .ok (.ifCond .ne 5, 3) := by decide +kernel
theorem dX10_free_20 : decode cX10_free 20 = .ok (.iconst (-1), 1) := by decide +kernel
theorem dX10_free_21 : decode cX10_free 21 = .ok (.ireturn, 1) := by decide +kernel
theorem dX10_free_22 : decode cX10_free 22 = .ok (.aload_n 0, 1) := by decide +kernel
theorem dX10_free_23 : decode cX10_free 23 = .ok (.getfield 53, 3) := by decide +kernel
theorem dX10_free_26 : decode cX10_free 26 = .ok (.getfield 232, 3) := by decide +kernel
theorem dX10_free_29 : decode cX10_free 29 = .ok (.astore 4, 2) := by decide +kernel
theorem dX10_free_31 : decode cX10_free 31 = .ok (.aload 4, 2) := by decide +kernel
theorem dX10_free_33 : decode cX10_free 33 = .ok (.aload_n 0, 1) := by decide +kernel
theorem dX10_free_34 : decode cX10_free 34 = .ok (.getfield 71, 3) := by decide +kernel
theorem dX10_free_37 : decode cX10_free 37 = .ok (.aload_n 0, 1) := by decide +kernel
theorem dX10_free_38 : decode cX10_free 38 = .ok (.getfield 32, 3) := by decide +kernel
theorem dX10_free_41 : decode cX10_free 41 = .ok (.getfield 163, 3) := by decide +kernel
theorem dX10_free_44 : decode cX10_free 44 = .ok (.iload_n 1, 1) := by decide +kernel
theorem dX10_free_45 : decode cX10_free 45 = .ok (.invokevirtual 236, 3) := by decide +kernel
theorem dX10_free_48 : decode cX10_free 48 = .ok (.iload_n 2, 1) := by decide +kernel
theorem dX10_free_49 : decode cX10_free 49 = .ok (.aload 4, 2) := by decide +kernel
theorem dX10_free_51 : decode cX10_free 51 = .ok (.getfield 241, 3) := by decide +kernel
theorem dX10_free_54 : decode cX10_free 54 = .ok (.if_icmp .lt 6, 3) := by decide +kernel
theorem dX10_free_57 : decode cX10_free 57 = .ok (.bipush (-9), 2) := by decide +kernel
theorem dX10_free_59 : decode cX10_free 59 = .ok (.ireturn, 1) := by decide +kernel
theorem dX10_free_60 : decode cX10_free 60 = .ok (.aload_n 0, 1) := by decide +kernel
theorem dX10_free_61 : decode cX10_free 61 = .ok (.aload 4, 2) := by decide +kernel
theorem dX10_free_63 : decode cX10_free 63 = .ok (.iload_n 2, 1) := by decide +kernel
theorem dX10_free_64 : decode cX10_free 64 = .ok (.iload_n 3, 1) := by decide +kernel
theorem dX10_free_65 : decode cX10_free 65 = .ok (.invokevirtual 242, 3) := by decide +kernel
theorem dX10_free_68 : decode cX10_free 68 = .ok (.invokevirtual 106, 3) := by decide +kernel
theorem dX10_free_71 : decode cX10_free 71 = .ok (.ireturn, 1) := by decide +kernel
theorem dX10_seen_0 : decode cX10_seen 0 = .ok (.aload_n 0, 1) := by decide +kernel
theorem dX10_seen_1 : decode cX10_seen 1 = .ok (.iload_n 1, 1) := by decide +kernel
theorem dX10_seen_2 : decode cX10_seen 2 = .ok (.invokevirtual 229, 3) := by decide +kernel
theorem dX10_seen_5 : decode cX10_seen 5 = .ok (.ifCond .eq 31, 3) := by decide +kernel
theorem dX10_seen_8 : decode cX10_seen 8 = .ok (.iload_n 2, 1) := by decide +kernel
theorem dX10_seen_9 : decode cX10_seen 9 = .ok (.aload_n 0, 1) := by decide +kernel
theorem dX10_seen_10 : decode cX10_seen 10 = .ok (.getfield 71, 3) := by decide +kernel
theorem dX10_seen_13 : decode cX10_seen 13 = .ok (.getfield 243, 3) := by decide +kernel
theorem dX10_seen_16 : decode cX10_seen 16 = .ok (.invokestatic 84, 3) := by decide +kernel
theorem dX10_seen_19 : decode cX10_seen 19 = .ok (.ifCond .eq 17, 3) := by decide +kernel
theorem dX10_seen_22 : decode cX10_seen 22 = .ok (.iload_n 3, 1) := by decide +kernel
theorem dX10_seen_23 : decode cX10_seen 23 = .ok (.aload_n 0, 1) := by decide +kernel
theorem dX10_seen_24 : decode cX10_seen 24 = .ok (.getfield 71, 3) := by decide +kernel
theorem dX10_seen_27 : decode cX10_seen 27 = .ok (.getfield 246, 3) := by decide +kernel
theorem dX10_seen_30 : decode cX10_seen 30 = .ok (.invokestatic 84, 3) := by decide +kernel
theorem dX10_seen_33 : decode cX10_seen 33 = .ok (.ifCond .ne 5, 3) := by decide +kernel
theorem dX10_seen_36 : decode cX10_seen 36 = .ok (.iconst (-1), 1) := by decide +kernel
theorem dX10_seen_37 : decode cX10_seen 37 = .ok (.ireturn, 1) := by decide +kernel
theorem dX10_seen_38 : decode cX10_seen 38 = .ok (.iconst 0, 1) := by decide +kernel
theorem dX10_seen_39 : decode cX10_seen 39 = .ok (.istore 4, 2) := by decide +kernel
theorem dX10_seen_41 : decode cX10_seen 41 = .ok (.iload 4, 2) := by decide +kernel
theorem dX10_seen_43 : decode cX10_seen 43 = .ok (.aload_n 0, 1) := by decide +kernel
theorem dX10_seen_44 : decode cX10_seen 44 = .ok (.getfield 71, 3) := by decide +kernel
theorem dX10_seen_47 : decode cX10_seen 47 = .ok (.getfield 140, 3) := by decide +kernel
theorem dX10_seen_50 : decode cX10_seen 50 = .ok (.if_icmp .ge 36, 3) := by decide +kernel
theorem dX10_seen_53 : decode cX10_seen 53 = .ok (.aload_n 0, 1) := by decide +kernel
theorem dX10_seen_54 : decode cX10_seen 54 = .ok (.iload 4, 2) := by decide +kernel
theorem dX10_seen_56 : decode cX10_seen 56 = .ok (.iload_n 1, 1) := by decide +kernel
theorem dX10_seen_57 : decode cX10_seen 57 = .ok (.iload_n 2, 1) := by decide +kernel
theorem dX10_seen_58 : decode cX10_seen 58 = .ok (.iload_n 3, 1) := by decide +kernel
theorem dX10_seen_59 : decode cX10_seen 59 = .ok (.invokevirtual 249, 3) := by decide +kernel
theorem dX10_seen_62 : decode cX10_seen 62 = .ok (.ifCond .eq 18, 3) := by decide +kernel
theorem dX10_seen_65 : decode cX10_seen 65 = .ok (.aload_n 0, 1) := by decide +kernel
theorem dX10_seen_66 : decode cX10_seen 66 = .ok (.aload_n 0, 1) := by decide +kernel
theorem dX10_seen_67 : decode cX10_seen 67 = .ok (.iload 4, 2) := by decide +kernel
theorem dX10_seen_69 : decode cX10_seen 69 = .ok (.iload_n 2, 1) := by decide +kernel
theorem dX10_seen_70 : decode cX10_seen 70 = .ok (.iload_n 3, 1) := by decide +kernel
theorem dX10_seen_71 : decode cX10_seen 71 = .ok (.invokevirtual 253, 3) := by decide +kernel
theorem dX10_seen_74 : decode cX10_seen 74 = .ok (.putfield 75, 3) := by decide +kernel
theorem dX10_seen_77 : decode cX10_seen 77 = .ok (.iload 4, 2) := by decide +kernel
theorem dX10_seen_79 : decode cX10_seen 79 = .ok (.ireturn, 1) := by decide +kernel
theorem dX10_seen_80 : decode cX10_seen 80 = .ok (.iinc 4 1, 3) := by decide +kernel
theorem dX10_seen_83 : decode cX10_seen 83 = .ok (.goto (-42), 3) := by decide +kernel
theorem dX10_seen_86 : decode cX10_seen 86 = .ok (.bipush (-9), 2) := by decide +kernel
theorem dX10_seen_88 : decode cX10_seen 88 = .ok (.ireturn, 1) := by decide +kernel
theorem dX10_point_0 : decode cX10_point 0 = .ok (.iload_n 1, 1) := by decide +kernel
theorem dX10_point_1 : decode cX10_point 1 = .ok (.aload_n 0, 1) := by decide +kernel
theorem dX10_point_2 : decode cX10_point 2 = .ok (.getfield 71, 3) := by decide +kernel
theorem dX10_point_5 : decode cX10_point 5 = .ok (.getfield 140, 3) := by decide +kernel
theorem dX10_point_8 : decode cX10_point 8 = .ok (.invokestatic 84, 3) := by decide +kernel
theorem dX10_point_11 : decode cX10_point 11 = .ok (.ifCond .ne 5, 3) := by decide +kernel
theorem dX10_point_14 : decode cX10_point 14 = .ok (.iconst (-1), 1) := by decide +kernel
theorem dX10_point_15 : decode cX10_point 15 = .ok (.ireturn, 1) := by decide +kernel
theorem dX10_point_16 : decode cX10_point 16 = .ok (.aload_n 0, 1) := by decide +kernel
theorem dX10_point_17 : decode cX10_point 17 = .ok (.getfield 71, 3) := by decide +kernel
theorem dX10_point_20 : decode cX10_point 20 = .ok (.getfield 154, 3) := by decide +kernel
theorem dX10_point_23 : decode cX10_point 23 = .ok (.iload_n 1, 1) := by decide +kernel
theorem dX10_point_24 : decode cX10_point 24 = .ok (.aaload, 1) := by decide +kernel
theorem dX10_point_25 : decode cX10_point 25 = .ok (.astore 4, 2) := by decide +kernel
theorem dX10_point_27 : decode cX10_point 27 = .ok (.iload_n 2, 1) := by decide +kernel
theorem dX10_point_28 : decode cX10_point 28 = .ok (.aload 4, 2) := by decide +kernel
theorem dX10_point_30 : decode cX10_point 30 = .ok (.getfield 257, 3) := by decide +kernel
theorem dX10_point_33 : decode cX10_point 33 = .ok (.invokestatic 84, 3) := by decide +kernel
theorem dX10_point_36 : decode cX10_point 36 = .ok (.ifCond .eq 15, 3) := by decide +kernel
theorem dX10_point_39 : decode cX10_point 39 = .ok (.iload_n 3, 1) := by decide +kernel
theorem dX10_point_40 : decode cX10_point 40 = .ok (.aload 4, 2) := by decide +kernel
theorem dX10_point_42 : decode cX10_point 42 = .ok (.getfield 260, 3) := by decide +kernel
theorem dX10_point_45 : decode cX10_point 45 = .ok (.invokestatic 84, 3) := by decide +kernel
theorem dX10_point_48 : decode cX10_point 48 = .ok (.ifCond .ne 5, 3) := by decide +kernel
theorem dX10_point_51 : decode cX10_point 51 = .ok (.iconst (-1), 1) := by decide +kernel
theorem dX10_point_52 : decode cX10_point 52 = .ok (.ireturn, 1) := by decide +kernel
theorem dX10_point_53 : decode cX10_point 53 = .ok (.aload_n 0, 1) := by decide +kernel
theorem dX10_point_54 : decode cX10_point 54 = .ok (.getfield 32, 3) := by decide +kernel
theorem dX10_point_57 : decode cX10_point 57 = .ok (.getfield 163, 3) := by decide +kernel
theorem dX10_point_60 : decode cX10_point 60 = .ok (.astore 5, 2) := by decide +kernel
theorem dX10_point_62 : decode cX10_point 62 = .ok (.aload 5, 2) := by decide +kernel
theorem dX10_point_64 : decode cX10_point 64 = .ok (.iload_n 1, 1) := by decide +kernel
theorem dX10_point_65 : decode cX10_point 65 = .ok (.invokevirtual 166, 3) := by decide +kernel
theorem dX10_point_68 : decode cX10_point 68 = .ok (.ifCond .ne 6, 3) := by decide +kernel
theorem dX10_point_71 : decode cX10_point 71 = .ok (.bipush (-4), 2) := by decide +kernel
theorem dX10_point_73 : decode cX10_point 73 = .ok (.ireturn, 1) := by decide +kernel
theorem dX10_point_74 : decode cX10_point 74 = .ok (.iload_n 2, 1) := by decide +kernel
theorem dX10_point_75 : decode cX10_point 75 = .ok (.aload 4, 2) := by decide +kernel
theorem dX10_point_77 : decode cX10_point 77 = .ok (.getfield 263, 3) := by decide +kernel
theorem dX10_point_80 : decode cX10_point 80 = .ok (.isub, 1) := by decide +kernel
theorem dX10_point_81 : decode cX10_point 81 = .ok (.istore 6, 2) := by decide +kernel
theorem dX10_point_83 : decode cX10_point 83 = .ok (.iload_n 3, 1) := by decide +kernel
theorem dX10_point_84 : decode cX10_point 84 = .ok (.aload 4, 2) := by decide +kernel
theorem dX10_point_86 : decode cX10_point 86 = .ok (.getfield 266, 3) := by decide +kernel
