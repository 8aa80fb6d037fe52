theorem dX0_init_0 : decode cX0_init 0 = .ok (.aload_n 0, 1) := by decide +kernel
theorem dX0_init_1 : decode cX0_init 1 = .ok (.invokespecial 3, 3) := by decide +kernel
theorem dX0_init_4 : decode cX0_init 4 = .ok (.return_, 1) := by decide +kernel
theorem dX0_settle_0 : decode cX0_settle 0 = .ok (.aload_n 0, 1) := by decide +kernel
theorem dX0_settle_1 : decode cX0_settle 1 = .ok (.getfield 9, 3) := by decide +kernel
theorem dX0_settle_4 : decode cX0_settle 4 = .ok (.iconst 3, 1) := by decide +kernel
theorem dX0_settle_5 : decode cX0_settle 5 = .ok (.if_icmp .eq 7, 3) := by decide +kernel
theorem dX0_settle_8 : decode cX0_settle 8 = .ok (.iconst 1, 1) := by decide +kernel
theorem dX0_settle_9 : decode cX0_settle 9 = .ok (.goto 4, 3) := by decide +kernel
theorem dX0_settle_12 : decode cX0_settle 12 = .ok (.iconst 0, 1) := by decide +kernel
theorem dX0_settle_13 : decode cX0_settle 13 = .ok (.istore_n 2, 1) := by decide +kernel
theorem dX0_settle_14 : decode cX0_settle 14 = .ok (.aload_n 0, 1) := by decide +kernel
theorem dX0_settle_15 : decode cX0_settle 15 = .ok (.aload_n 0, 1) := by decide +kernel
theorem dX0_settle_16 : decode cX0_settle 16 = .ok (.getfield 9, 3) := by decide +kernel
theorem dX0_settle_19 : decode cX0_settle 19 = .ok (.iconst 2, 1) := by decide +kernel
theorem dX0_settle_20 : decode cX0_settle 20 = .ok (.if_icmp .ne 9, 3) := by decide +kernel
theorem dX0_settle_23 : decode cX0_settle 23 = .ok (.iload_n 1, 1) := by decide +kernel
theorem dX0_settle_24 : decode cX0_settle 24 = .ok (.iconst 1, 1) := by decide +kernel
theorem dX0_settle_25 : decode cX0_settle 25 = .ok (.iadd, 1) := by decide +kernel
theorem dX0_settle_26 : decode cX0_settle 26 = .ok (.goto 4, 3) := by decide +kernel
theorem dX0_settle_29 : decode cX0_settle 29 = .ok (.iload_n 1, 1) := by decide +kernel
theorem dX0_settle_30 : decode cX0_settle 30 = .ok (.putfield 15, 3) := by decide +kernel
theorem dX0_settle_33 : decode cX0_settle 33 = .ok (.aload_n 0, 1) := by decide +kernel
theorem dX0_settle_34 : decode cX0_settle 34 = .ok (.iload_n 2, 1) := by decide +kernel
theorem dX0_settle_35 : decode cX0_settle 35 = .ok (.ifCond .eq 20, 3) := by decide +kernel
theorem dX0_settle_38 : decode cX0_settle 38 = .ok (.aload_n 0, 1) := by decide +kernel
theorem dX0_settle_39 : decode cX0_settle 39 = .ok (.getfield 18, 3) := by decide +kernel
theorem dX0_settle_42 : decode cX0_settle 42 = .ok (.aload_n 0, 1) := by decide +kernel
theorem dX0_settle_43 : decode cX0_settle 43 = .ok (.getfield 21, 3) := by decide +kernel
theorem dX0_settle_46 : decode cX0_settle 46 = .ok (.isub, 1) := by decide +kernel
theorem dX0_settle_47 : decode cX0_settle 47 = .ok (.aload_n 0, 1) := by decide +kernel
theorem dX0_settle_48 : decode cX0_settle 48 = .ok (.getfield 24, 3) := by decide +kernel
theorem dX0_settle_51 : decode cX0_settle 51 = .ok (.isub, 1) := by decide +kernel
theorem dX0_settle_52 : decode cX0_settle 52 = .ok (.goto 7, 3) := by decide +kernel
theorem dX0_settle_55 : decode cX0_settle 55 = .ok (.aload_n 0, 1) := by decide +kernel
theorem dX0_settle_56 : decode cX0_settle 56 = .ok (.getfield 18, 3) := by decide +kernel
theorem dX0_settle_59 : decode cX0_settle 59 = .ok (.putfield 27, 3) := by decide +kernel
theorem dX0_settle_62 : decode cX0_settle 62 = .ok (.aload_n 0, 1) := by decide +kernel
theorem dX0_settle_63 : decode cX0_settle 63 = .ok (.iload_n 2, 1) := by decide +kernel
theorem dX0_settle_64 : decode cX0_settle 64 = .ok (.ifCond .eq 20, 3) := by decide +kernel
theorem dX0_settle_67 : decode cX0_settle 67 = .ok (.aload_n 0, 1) := by decide +kernel
theorem dX0_settle_68 : decode cX0_settle 68 = .ok (.getfield 30, 3) := by decide +kernel
theorem dX0_settle_71 : decode cX0_settle 71 = .ok (.aload_n 0, 1) := by decide +kernel
theorem dX0_settle_72 : decode cX0_settle 72 = .ok (.getfield 33, 3) := by decide +kernel
theorem dX0_settle_75 : decode cX0_settle 75 = .ok (.isub, 1) := by decide +kernel
theorem dX0_settle_76 : decode cX0_settle 76 = .ok (.aload_n 0, 1) := by decide +kernel
theorem dX0_settle_77 : decode cX0_settle 77 = .ok (.getfield 36, 3) := by decide +kernel
theorem dX0_settle_80 : decode cX0_settle 80 = .ok (.isub, 1) := by decide +kernel
theorem dX0_settle_81 : decode cX0_settle 81 = .ok (.goto 7, 3) := by decide +kernel
theorem dX0_settle_84 : decode cX0_settle 84 = .ok (.aload_n 0, 1) := by decide +kernel
theorem dX0_settle_85 : decode cX0_settle 85 = .ok (.getfield 30, 3) := by decide +kernel
theorem dX0_settle_88 : decode cX0_settle 88 = .ok (.putfield 39, 3) := by decide +kernel
theorem dX0_settle_91 : decode cX0_settle 91 = .ok (.aload_n 0, 1) := by decide +kernel
theorem dX0_settle_92 : decode cX0_settle 92 = .ok (.iload_n 2, 1) := by decide +kernel
theorem dX0_settle_93 : decode cX0_settle 93 = .ok (.ifCond .eq 10, 3) := by decide +kernel
theorem dX0_settle_96 : decode cX0_settle 96 = .ok (.aload_n 0, 1) := by decide +kernel
theorem dX0_settle_97 : decode cX0_settle 97 = .ok (.getfield 21, 3) := by decide +kernel
theorem dX0_settle_100 : decode cX0_settle 100 = .ok (.goto 4, 3) := by decide +kernel
theorem dX0_settle_103 : decode cX0_settle 103 = .ok (.iconst 0, 1) := by decide +kernel
theorem dX0_settle_104 : decode cX0_settle 104 = .ok (.putfield 42, 3) := by decide +kernel
theorem dX0_settle_107 : decode cX0_settle 107 = .ok (.aload_n 0, 1) := by decide +kernel
theorem dX0_settle_108 : decode cX0_settle 108 = .ok (.iload_n 2, 1) := by decide +kernel
theorem dX0_settle_109 : decode cX0_settle 109 = .ok (.ifCond .eq 10, 3) := by decide +kernel
theorem dX0_settle_112 : decode cX0_settle 112 = .ok (.aload_n 0, 1) := by decide +kernel
theorem dX0_settle_113 : decode cX0_settle 113 = .ok (.getfield 33, 3) := by decide +kernel
theorem dX0_settle_116 : decode cX0_settle 116 = .ok (.goto 4, 3) := by decide +kernel
theorem dX0_settle_119 : decode cX0_settle 119 = .ok (.iconst 0, 1) := by decide +kernel
theorem dX0_settle_120 : decode cX0_settle 120 = .ok (.putfield 45, 3) := by decide +kernel
theorem dX0_settle_123 : decode cX0_settle 123 = .ok (.return_, 1) := by decide +kernel
theorem dX0_isOf_0 : decode cX0_isOf 0 = .ok (.iload_n 1, 1) := by decide +kernel
theorem dX0_isOf_1 : decode cX0_isOf 1 = .ok (.ifCond .eq 24, 3) := by decide +kernel
theorem dX0_isOf_4 : decode cX0_isOf 4 = .ok (.aload_n 0, 1) := by decide +kernel
theorem dX0_isOf_5 : decode cX0_isOf 5 = .ok (.getfield 9, 3) := by decide +kernel
theorem dX0_isOf_8 : decode cX0_isOf 8 = .ok (.iload_n 1, 1) := by decide +kernel
theorem dX0_isOf_9 : decode cX0_isOf 9 = .ok (.if_icmp .eq 16, 3) := by decide +kernel
theorem dX0_isOf_12 : decode cX0_isOf 12 = .ok (.aload_n 0, 1) := by decide +kernel
theorem dX0_isOf_13 : decode cX0_isOf 13 = .ok (.getfield 9, 3) := by decide +kernel
theorem dX0_isOf_16 : decode cX0_isOf 16 = .ok (.iconst 3, 1) := by decide +kernel
theorem dX0_isOf_17 : decode cX0_isOf 17 = .ok (.if_icmp .ne 12, 3) := by decide +kernel
theorem dX0_isOf_20 : decode cX0_isOf 20 = .ok (.iload_n 1, 1) := by decide +kernel
theorem dX0_isOf_21 : decode cX0_isOf 21 = .ok (.iconst 1, 1) := by decide +kernel
theorem dX0_isOf_22 : decode cX0_isOf 22 = .ok (.if_icmp .ne 7, 3) := by decide +kernel
theorem dX0_isOf_25 : decode cX0_isOf 25 = .ok (.iconst 1, 1) := by decide +kernel
theorem dX0_isOf_26 : decode cX0_isOf 26 = .ok (.goto 4, 3) := by decide +kernel
theorem dX0_isOf_29 : decode cX0_isOf 29 = .ok (.iconst 0, 1) := by decide +kernel
theorem dX0_isOf_30 : decode cX0_isOf 30 = .ok (.ireturn, 1) := by decide +kernel
theorem dX0_mayTurn_0 : decode cX0_mayTurn 0 = .ok (.aload_n 0, 1) := by decide +kernel
theorem dX0_mayTurn_1 : decode cX0_mayTurn 1 = .ok (.iconst 1, 1) := by decide +kernel
theorem dX0_mayTurn_2 : decode cX0_mayTurn 2 = .ok (.invokevirtual 48, 3) := by decide +kernel
theorem dX0_mayTurn_5 : decode cX0_mayTurn 5 = .ok (.ifCond .ne 7, 3) := by decide +kernel
theorem dX0_mayTurn_8 : decode cX0_mayTurn 8 = .ok (.iconst 1, 1) := by decide +kernel
theorem dX0_mayTurn_9 : decode cX0_mayTurn 9 = .ok (.goto 4, 3) := by decide +kernel
theorem dX0_mayTurn_12 : decode cX0_mayTurn 12 = .ok (.iconst 0, 1) := by decide +kernel
theorem dX0_mayTurn_13 : decode cX0_mayTurn 13 = .ok (.ireturn, 1) := by decide +kernel
theorem dX0_needsAcross_0 : decode cX0_needsAcross 0 = .ok (.iload_n 1, 1) := by decide +kernel
theorem dX0_needsAcross_1 : decode cX0_needsAcross 1 = .ok (.ifCond .eq 10, 3) := by decide +kernel
theorem dX0_needsAcross_4 : decode cX0_needsAcross 4 = .ok (.aload_n 0, 1) := by decide +kernel
theorem dX0_needsAcross_5 : decode cX0_needsAcross 5 = .ok (.getfield 39, 3) := by decide +kernel
theorem dX0_needsAcross_8 : decode cX0_needsAcross 8 = .ok (.goto 7, 3) := by decide +kernel
theorem dX0_needsAcross_11 : decode cX0_needsAcross 11 = .ok (.aload_n 0, 1) := by decide +kernel
theorem dX0_needsAcross_12 : decode cX0_needsAcross 12 = .ok (.getfield 27, 3) := by decide +kernel
theorem dX0_needsAcross_15 : decode cX0_needsAcross 15 = .ok (.iconst 2, 1) := by decide +kernel
theorem dX0_needsAcross_16 : decode cX0_needsAcross 16 = .ok (.aload_n 0, 1) := by decide +kernel
theorem dX0_needsAcross_17 : decode cX0_needsAcross 17 = .ok (.getfield 15, 3) := by decide +kernel
theorem dX0_needsAcross_20 : decode cX0_needsAcross 20 = .ok (.imul, 1) := by decide +kernel
theorem dX0_needsAcross_21 : decode cX0_needsAcross 21 = .ok (.iadd, 1) := by decide +kernel
theorem dX0_needsAcross_22 : decode cX0_needsAcross 22 = .ok (.ireturn, 1) := by decide +kernel
theorem dX0_needsDown_0 : decode cX0_needsDown 0 = .ok (.iload_n 1, 1) := by decide +kernel
theorem dX0_needsDown_1 : decode cX0_needsDown 1 = .ok (.ifCond .eq 10, 3) := by decide +kernel
theorem dX0_needsDown_4 : decode cX0_needsDown 4 = .ok (.aload_n 0, 1) := by decide +kernel
theorem dX0_needsDown_5 : decode cX0_needsDown 5 = .ok (.getfield 27, 3) := by decide +kernel
theorem dX0_needsDown_8 : decode cX0_needsDown 8 = .ok (.goto 7, 3) := by decide +kernel
theorem dX0_needsDown_11 : decode cX0_needsDown 11 = .ok (.aload_n 0, 1) := by decide +kernel
theorem dX0_needsDown_12 : decode cX0_needsDown 12 = .ok (.getfield 39, 3) := by decide +kernel
theorem dX0_needsDown_15 : decode cX0_needsDown 15 = .ok (.iconst 2, 1) := by decide +kernel
theorem dX0_needsDown_16 : decode cX0_needsDown 16 = .ok (.aload_n 0, 1) := by decide +kernel
theorem dX0_needsDown_17 : decode cX0_needsDown 17 = .ok (.getfield 15, 3) := by decide +kernel
theorem dX0_needsDown_20 : decode cX0_needsDown 20 = .ok (.imul, 1) := by decide +kernel
theorem dX0_needsDown_21 : decode cX0_needsDown 21 = .ok (.iadd, 1) := by decide +kernel
theorem dX0_needsDown_22 : decode cX0_needsDown 22 = .ok (.ireturn, 1) := by decide +kernel
theorem dX0_needsPlaces_0 : decode cX0_needsPlaces 0 = .ok (.aload_n 0, 1) := by decide +kernel
theorem dX0_needsPlaces_1 : decode cX0_needsPlaces 1 = .ok (.iconst 0, 1) := by decide +kernel
theorem dX0_needsPlaces_2 : decode cX0_needsPlaces 2 = .ok (.invokevirtual 52, 3) := by decide +kernel
theorem dX0_needsPlaces_5 : decode cX0_needsPlaces 5 = .ok (.aload_n 0, 1) := by decide +kernel
theorem dX0_needsPlaces_6 : decode cX0_needsPlaces 6 = .ok (.iconst 0, 1) := by decide +kernel
theorem dX0_needsPlaces_7 : decode cX0_needsPlaces 7 = .ok (.invokevirtual 56, 3) := by decide +kernel
theorem dX0_needsPlaces_10 : decode cX0_needsPlaces 10 = .ok (.imul, 1) := by decide +kernel
theorem dX0_needsPlaces_11 : decode cX0_needsPlaces 11 = .ok (.ireturn, 1) := by decide +kernel
theorem dX0_edgePlaces_0 : decode cX0_edgePlaces 0 = .ok (.aload_n 0, 1) := by decide +kernel
theorem dX0_edgePlaces_1 : decode cX0_edgePlaces 1 = .ok (.invokevirtual 59, 3) := by decide +kernel
theorem dX0_edgePlaces_4 : decode cX0_edgePlaces 4 = .ok (.aload_n 0, 1) := by decide +kernel
theorem dX0_edgePlaces_5 : decode cX0_edgePlaces 5 = .ok (.getfield 27, 3) := by decide +kernel
theorem dX0_edgePlaces_8 : decode cX0_edgePlaces 8 = .ok (.aload_n 0, 1) := by decide +kernel
theorem dX0_edgePlaces_9 : decode cX0_edgePlaces 9 = .ok (.getfield 39, 3) := by decide +kernel
theorem dX0_edgePlaces_12 : decode cX0_edgePlaces 12 = .ok (.imul, 1) := by decide +kernel
theorem dX0_edgePlaces_13 : decode cX0_edgePlaces 13 = .ok (.isub, 1) := by decide +kernel
theorem dX0_edgePlaces_14 : decode cX0_edgePlaces 14 = .ok (.ireturn, 1) := by decide +kernel
theorem dX0_emptyPoints_0 : decode cX0_emptyPoints 0 = .ok (.aload_n 0, 1) := by decide +kernel
theorem dX0_emptyPoints_1 : decode cX0_emptyPoints 1 = .ok (.getfield 18, 3) := by decide +kernel
theorem dX0_emptyPoints_4 : decode cX0_emptyPoints 4 = .ok (.aload_n 0, 1) := by decide +kernel
theorem dX0_emptyPoints_5 : decode cX0_emptyPoints 5 = .ok (.getfield 30, 3) := by decide +kernel
theorem dX0_emptyPoints_8 : decode cX0_emptyPoints 8 = .ok (.imul, 1) := by decide +kernel
theorem dX0_emptyPoints_9 : decode cX0_emptyPoints 9 = .ok (.aload_n 0, 1) := by decide +kernel
theorem dX0_emptyPoints_10 : decode cX0_emptyPoints 10 = .ok (.getfield 18, 3) := by decide +kernel
theorem dX0_emptyPoints_13 : decode cX0_emptyPoints 13 = .ok (.aload_n 0, 1) := by decide +kernel
theorem dX0_emptyPoints_14 : decode cX0_emptyPoints 14 = .ok (.getfield 21, 3) := by decide +kernel
theorem dX0_emptyPoints_17 : decode cX0_emptyPoints 17 = .ok (.isub, 1) := by decide +kernel
theorem dX0_emptyPoints_18 : decode cX0_emptyPoints 18 = .ok (.aload_n 0, 1) := by decide +kernel
theorem dX0_emptyPoints_19 : decode cX0_emptyPoints 19 = .ok (.getfield 24, 3) := by decide +kernel
theorem dX0_emptyPoints_22 : decode cX0_emptyPoints 22 = .ok (.isub, 1) := by decide +kernel
theorem dX0_emptyPoints_23 : decode cX0_emptyPoints 23 = .ok (.aload_n 0, 1) := by decide +kernel
theorem dX0_emptyPoints_24 : decode cX0_emptyPoints 24 = .ok (.getfield 30, 3) := by decide +kernel
theorem dX0_emptyPoints_27 : decode cX0_emptyPoints 27 = .ok (.aload_n 0, 1) := by decide +kernel
theorem dX0_emptyPoints_28 : decode cX0_emptyPoints 28 = .ok (.getfield 33, 3) := by decide +kernel
theorem dX0_emptyPoints_31 : decode cX0_emptyPoints 31 = .ok (.isub, 1) := by decide +kernel
theorem dX0_emptyPoints_32 : decode cX0_emptyPoints 32 = .ok (.aload_n 0, 1) := by decide +kernel
theorem dX0_emptyPoints_33 : decode cX0_emptyPoints 33 = .ok (.getfield 36, 3) := by decide +kernel
theorem dX0_emptyPoints_36 : decode cX0_emptyPoints 36 = .ok (.isub, 1) := by decide +kernel
theorem dX0_emptyPoints_37 : decode cX0_emptyPoints 37 = .ok (.imul, 1) := by decide +kernel
theorem dX0_emptyPoints_38 : decode cX0_emptyPoints 38 = .ok (.isub, 1) := by decide +kernel
theorem dX0_emptyPoints_39 : decode cX0_emptyPoints 39 = .ok (.ireturn, 1) := by decide +kernel
theorem dX0_part_0 : decode cX0_part 0 = .ok (.iload_n 1, 1) := by decide +kernel
theorem dX0_part_1 : decode cX0_part 1 = .ok (.tableswitch 52 0 3 #[31, 36, 41, 46], 31) := by decide +kernel
theorem dX0_part_32 : decode cX0_part 32 = .ok (.aload_n 0, 1) := by decide +kernel
theorem dX0_part_33 : decode cX0_part 33 = .ok (.getfield 9, 3) := by decide +kernel
theorem dX0_part_36 : decode cX0_part 36 = .ok (.ireturn, 1) := by decide +kernel
theorem dX0_part_37 : decode cX0_part 37 = .ok (.aload_n 0, 1) := by decide +kernel
theorem dX0_part_38 : decode cX0_part 38 = .ok (.getfield 27, 3) := by decide +kernel
theorem dX0_part_41 : decode cX0_part 41 = .ok (.ireturn, 1) := by decide +kernel
theorem dX0_part_42 : decode cX0_part 42 = .ok (.aload_n 0, 1) := by decide +kernel
theorem dX0_part_43 : decode cX0_part 43 = .ok (.getfield 39, 3) := by decide +kernel
theorem dX0_part_46 : decode cX0_part 46 = .ok (.ireturn, 1) := by decide +kernel
theorem dX0_part_47 : decode cX0_part 47 = .ok (.aload_n 0, 1) := by decide +kernel
theorem dX0_part_48 : decode cX0_part 48 = .ok (.iconst 0, 1) := by decide +kernel
theorem dX0_part_49 : decode cX0_part 49 = .ok (.invokevirtual 52, 3) := by decide +kernel
theorem dX0_part_52 : decode cX0_part 52 = .ok (.ireturn, 1) := by decide +kernel
theorem dX0_part_53 : decode cX0_part 53 = .ok (.aload_n 0, 1) := by decide +kernel
theorem dX0_part_54 : decode cX0_part 54 = .ok (.iconst 0, 1) := by decide +kernel
theorem dX0_part_55 : decode cX0_part 55 = .ok (.invokevirtual 56, 3) := by decide +kernel
theorem dX0_part_58 : decode cX0_part 58 = .ok (.ireturn, 1) := by decide +kernel
theorem dX1_init_0 : decode cX1_init 0 = .ok (.aload_n 0, 1) := by decide +kernel
theorem dX1_init_1 : decode cX1_init 1 = .ok (.invokespecial 3, 3) := by decide +kernel
theorem dX1_init_4 : decode cX1_init 4 = .ok (.aload_n 0, 1) := by decide +kernel
theorem dX1_init_5 : decode cX1_init 5 = .ok (.bipush 8, 2) := by decide +kernel
theorem dX1_init_7 : decode cX1_init 7 = .ok (.newarray .int, 2) := by decide +kernel
theorem dX1_init_9 : decode cX1_init 9 = .ok (.putfield 9, 3) := by decide +kernel
theorem dX1_init_12 : decode cX1_init 12 = .ok (.aload_n 0, 1) := by decide +kernel
theorem dX1_init_13 : decode cX1_init 13 = .ok (.iconst 0, 1) := by decide +kernel
theorem dX1_init_14 : decode cX1_init 14 = .ok (.putfield 15, 3) := by decide +kernel
theorem dX1_init_17 : decode cX1_init 17 = .ok (.iconst 0, 1) := by decide +kernel
theorem dX1_init_18 : decode cX1_init 18 = .ok (.istore_n 1, 1) := by decide +kernel
theorem dX1_init_19 : decode cX1_init 19 = .ok (.iload_n 1, 1) := by decide +kernel
theorem dX1_init_20 : decode cX1_init 20 = .ok (.bipush 8, 2) := by decide +kernel
theorem dX1_init_22 : decode cX1_init 22 = .ok (.if_icmp .ge 17, 3) := by decide +kernel
theorem dX1_init_25 : decode cX1_init 25 = .ok (.aload_n 0, 1) := by decide +kernel
theorem dX1_init_26 : decode cX1_init 26 = .ok (.getfield 9, 3) := by decide +kernel
theorem dX1_init_29 : decode cX1_init 29 = .ok (.iload_n 1, 1) := by decide +kernel
theorem dX1_init_30 : decode cX1_init 30 = .ok (.bipush (-9), 2) := by decide +kernel
theorem dX1_init_32 : decode cX1_init 32 = .ok (.iastore, 1) := by decide +kernel
theorem dX1_init_33 : decode cX1_init 33 = .ok (.iinc 1 1, 3) := by decide +kernel
theorem dX1_init_36 : decode cX1_init 36 = .ok (.goto (-17), 3) := by decide +kernel
theorem dX1_init_39 : decode cX1_init 39 = .ok (.return_, 1) := by decide +kernel
theorem dX1_spotAt_0 : decode cX1_spotAt 0 = .ok (.iload_n 0, 1) := by decide +kernel
theorem dX1_spotAt_1 : decode cX1_spotAt 1 = .ok (.bipush 32, 2) := by decide +kernel
theorem dX1_spotAt_3 : decode cX1_spotAt 3 = .ok (.imul, 1) := by decide +kernel
theorem dX1_spotAt_4 : decode cX1_spotAt 4 = .ok (.iload_n 1, 1) := by decide +kernel
theorem dX1_spotAt_5 : decode cX1_spotAt 5 = .ok (.iconst 2, 1) := by decide +kernel
theorem dX1_spotAt_6 : decode cX1_spotAt 6 = .ok (.imul, 1) := by decide +kernel
theorem dX1_spotAt_7 : decode cX1_spotAt 7 = .ok (.iadd, 1) := by decide +kernel
theorem dX1_spotAt_8 : decode cX1_spotAt 8 = .ok (.iload_n 2, 1) := by decide +kernel
theorem dX1_spotAt_9 : decode cX1_spotAt 9 = .ok (.ifCond .eq 7, 3) := by decide +kernel
theorem dX1_spotAt_12 : decode cX1_spotAt 12 = .ok (.iconst 1, 1) := by decide +kernel
theorem dX1_spotAt_13 : decode cX1_spotAt 13 = .ok (.goto 4, 3) := by decide +kernel
theorem dX1_spotAt_16 : decode cX1_spotAt 16 = .ok (.iconst 0, 1) := by decide +kernel
theorem dX1_spotAt_17 : decode cX1_spotAt 17 = .ok (.iadd, 1) := by decide +kernel
theorem dX1_spotAt_18 : decode cX1_spotAt 18 = .ok (.ireturn, 1) := by decide +kernel
theorem dX1_spotOnPage_0 : decode cX1_spotOnPage 0 = .ok (.iload_n 0, 1) := by decide +kernel
theorem dX1_spotOnPage_1 : decode cX1_spotOnPage 1 = .ok (.sipush 512, 3) := by decide +kernel
theorem dX1_spotOnPage_4 : decode cX1_spotOnPage 4 = .ok (.imul, 1) := by decide +kernel
theorem dX1_spotOnPage_5 : decode cX1_spotOnPage 5 = .ok (.iload_n 1, 1) := by decide +kernel
theorem dX1_spotOnPage_6 : decode cX1_spotOnPage 6 = .ok (.iadd, 1) := by decide +kernel
theorem dX1_spotOnPage_7 : decode cX1_spotOnPage 7 = .ok (.ireturn, 1) := by decide +kernel
theorem dX1_liftAll_0 : decode cX1_liftAll 0 = .ok (.iconst 0, 1) := by decide +kernel
theorem dX1_liftAll_1 : decode cX1_liftAll 1 = .ok (.istore_n 1, 1) := by decide +kernel
theorem dX1_liftAll_2 : decode cX1_liftAll 2 = .ok (.iload_n 1, 1) := by decide +kernel
theorem dX1_liftAll_3 : decode cX1_liftAll 3 = .ok (.bipush 8, 2) := by decide +kernel
theorem dX1_liftAll_5 : decode cX1_liftAll 5 = .ok (.if_icmp .ge 17, 3) := by decide +kernel
theorem dX1_liftAll_8 : decode cX1_liftAll 8 = .ok (.aload_n 0, 1) := by decide +kernel
theorem dX1_liftAll_9 : decode cX1_liftAll 9 = .ok (.getfield 9, 3) := by decide +kernel
theorem dX1_liftAll_12 : decode cX1_liftAll 12 = .ok (.iload_n 1, 1) := by decide +kernel
theorem dX1_liftAll_13 : decode cX1_liftAll 13 = .ok (.bipush (-9), 2) := by decide +kernel
theorem dX1_liftAll_15 : decode cX1_liftAll 15 = .ok (.iastore, 1) := by decide +kernel
theorem dX1_liftAll_16 : decode cX1_liftAll 16 = .ok (.iinc 1 1, 3) := by decide +kernel
theorem dX1_liftAll_19 : decode cX1_liftAll 19 = .ok (.goto (-17), 3) := by decide +kernel
theorem dX1_liftAll_22 : decode cX1_liftAll 22 = .ok (.return_, 1) := by decide +kernel
theorem dX1_isSet_0 : decode cX1_isSet 0 = .ok (.aload_n 0, 1) := by decide +kernel
theorem dX1_isSet_1 : decode cX1_isSet 1 = .ok (.getfield 9, 3) := by decide +kernel
theorem dX1_isSet_4 : decode cX1_isSet 4 = .ok (.iload_n 1, 1) := by decide +kernel
theorem dX1_isSet_5 : decode cX1_isSet 5 = .ok (.iaload, 1) := by decide +kernel
theorem dX1_isSet_6 : decode cX1_isSet 6 = .ok (.bipush (-9), 2) := by decide +kernel
theorem dX1_isSet_8 : decode cX1_isSet 8 = .ok (.if_icmp .eq 7, 3) := by decide +kernel
theorem dX1_isSet_11 : decode cX1_isSet 11 = .ok (.iconst 1, 1) := by decide +kernel
theorem dX1_isSet_12 : decode cX1_isSet 12 = .ok (.goto 4, 3) := by decide +kernel
theorem dX1_isSet_15 : decode cX1_isSet 15 = .ok (.iconst 0, 1) := by decide +kernel
theorem dX1_isSet_16 : decode cX1_isSet 16 = .ok (.ireturn, 1) := by decide +kernel
theorem dX1_pageOf_0 : decode cX1_pageOf 0 = .ok (.aload_n 0, 1) := by decide +kernel
theorem dX1_pageOf_1 : decode cX1_pageOf 1 = .ok (.getfield 9, 3) := by decide +kernel
theorem dX1_pageOf_4 : decode cX1_pageOf 4 = .ok (.iload_n 1, 1) := by decide +kernel
theorem dX1_pageOf_5 : decode cX1_pageOf 5 = .ok (.iaload, 1) := by decide +kernel
theorem dX1_pageOf_6 : decode cX1_pageOf 6 = .ok (.sipush 512, 3) := by decide +kernel
theorem dX1_pageOf_9 : decode cX1_pageOf 9 = .ok (.idiv, 1) := by decide +kernel
theorem dX1_pageOf_10 : decode cX1_pageOf 10 = .ok (.ireturn, 1) := by decide +kernel
theorem dX1_xOf_0 : decode cX1_xOf 0 = .ok (.aload_n 0, 1) := by decide +kernel
theorem dX1_xOf_1 : decode cX1_xOf 1 = .ok (.getfield 9, 3) := by decide +kernel
theorem dX1_xOf_4 : decode cX1_xOf 4 = .ok (.iload_n 1, 1) := by decide +kernel
theorem dX1_xOf_5 : decode cX1_xOf 5 = .ok (.iaload, 1) := by decide +kernel
theorem dX1_xOf_6 : decode cX1_xOf 6 = .ok (.sipush 512, 3) := by decide +kernel
theorem dX1_xOf_9 : decode cX1_xOf 9 = .ok (.irem, 1) := by decide +kernel
theorem dX1_xOf_10 : decode cX1_xOf 10 = .ok (.bipush 32, 2) := by decide +kernel
theorem dX1_xOf_12 : decode cX1_xOf 12 = .ok (.idiv, 1) := by decide +kernel
theorem dX1_xOf_13 : decode cX1_xOf 13 = .ok (.ireturn, 1) := by decide +kernel
theorem dX1_yOf_0 : decode cX1_yOf 0 = .ok (.aload_n 0, 1) := by decide +kernel
theorem dX1_yOf_1 : decode cX1_yOf 1 = .ok (.getfield 9, 3) := by decide +kernel
theorem dX1_yOf_4 : decode cX1_yOf 4 = .ok (.iload_n 1, 1) := by decide +kernel
theorem dX1_yOf_5 : decode cX1_yOf 5 = .ok (.iaload, 1) := by decide +kernel
theorem dX1_yOf_6 : decode cX1_yOf 6 = .ok (.bipush 32, 2) := by decide +kernel
theorem dX1_yOf_8 : decode cX1_yOf 8 = .ok (.irem, 1) := by decide +kernel
theorem dX1_yOf_9 : decode cX1_yOf 9 = .ok (.iconst 2, 1) := by decide +kernel
theorem dX1_yOf_10 : decode cX1_yOf 10 = .ok (.idiv, 1) := by decide +kernel
theorem dX1_yOf_11 : decode cX1_yOf 11 = .ok (.ireturn, 1) := by decide +kernel
theorem dX1_isTurned_0 : decode cX1_isTurned 0 = .ok (.aload_n 0, 1) := by decide +kernel
theorem dX1_isTurned_1 : decode cX1_isTurned 1 = .ok (.getfield 9, 3) := by decide +kernel
theorem dX1_isTurned_4 : decode cX1_isTurned 4 = .ok (.iload_n 1, 1) := by decide +kernel
theorem dX1_isTurned_5 : decode cX1_isTurned 5 = .ok (.iaload, 1) := by decide +kernel
theorem dX1_isTurned_6 : decode cX1_isTurned 6 = .ok (.iconst 2, 1) := by decide +kernel
theorem dX1_isTurned_7 : decode cX1_isTurned 7 = .ok (.irem, 1) := by decide +kernel
theorem dX1_isTurned_8 : decode cX1_isTurned 8 = .ok (.iconst 1, 1) := by decide +kernel
theorem dX1_isTurned_9 : decode cX1_isTurned 9 = .ok (.if_icmp .ne 7, 3) := by decide +kernel
theorem dX1_isTurned_12 : decode cX1_isTurned 12 = .ok (.iconst 1, 1) := by decide +kernel
theorem dX1_isTurned_13 : decode cX1_isTurned 13 = .ok (.goto 4, 3) := by decide +kernel
theorem dX1_isTurned_16 : decode cX1_isTurned 16 = .ok (.iconst 0, 1) := by decide +kernel
theorem dX1_isTurned_17 : decode cX1_isTurned 17 = .ok (.ireturn, 1) := by decide +kernel
theorem dX1_part_0 : decode cX1_part 0 = .ok (.iload_n 2, 1) := by decide +kernel
theorem dX1_part_1 : decode cX1_part 1 = .ok (.tableswitch 45 0 2 #[27, 33, 39], 27) := by decide +kernel
theorem dX1_part_28 : decode cX1_part 28 = .ok (.aload_n 0, 1) := by decide +kernel
theorem dX1_part_29 : decode cX1_part 29 = .ok (.iload_n 1, 1) := by decide +kernel
theorem dX1_part_30 : decode cX1_part 30 = .ok (.invokevirtual 19, 3) := by decide +kernel
theorem dX1_part_33 : decode cX1_part 33 = .ok (.ireturn, 1) := by decide +kernel
theorem dX1_part_34 : decode cX1_part 34 = .ok (.aload_n 0, 1) := by decide +kernel
theorem dX1_part_35 : decode cX1_part 35 = .ok (.iload_n 1, 1) := by decide +kernel
theorem dX1_part_36 : decode cX1_part 36 = .ok (.invokevirtual 23, 3) := by decide +kernel
theorem dX1_part_39 : decode cX1_part 39 = .ok (.ireturn, 1) := by decide +kernel
theorem dX1_part_40 : decode cX1_part 40 = .ok (.aload_n 0, 1) := by decide +kernel
theorem dX1_part_41 : decode cX1_part 41 = .ok (.iload_n 1, 1) := by decide +kernel
theorem dX1_part_42 : decode cX1_part 42 = .ok (.invokevirtual 26, 3) := by decide +kernel
theorem dX1_part_45 : decode cX1_part 45 = .ok (.ireturn, 1) := by decide +kernel
theorem dX1_part_46 : decode cX1_part 46 = .ok (.aload_n 0, 1) := by decide +kernel
theorem dX1_part_47 : decode cX1_part 47 = .ok (.iload_n 1, 1) := by decide +kernel
theorem dX1_part_48 : decode cX1_part 48 = .ok (.invokevirtual 29, 3) := by decide +kernel
theorem dX1_part_51 : decode cX1_part 51 = .ok (.ifCond .eq 7, 3) := by decide +kernel
theorem dX1_part_54 : decode cX1_part 54 = .ok (.iconst 1, 1) := by decide +kernel
theorem dX1_part_55 : decode cX1_part 55 = .ok (.goto 4, 3) := by decide +kernel
theorem dX1_part_58 : decode cX1_part 58 = .ok (.iconst 0, 1) := by decide +kernel
theorem dX1_part_59 : decode cX1_part 59 = .ok (.ireturn, 1) := by decide +kernel
theorem dX1_pages_0 : decode cX1_pages 0 = .ok (.iconst 0, 1) := by decide +kernel
theorem dX1_pages_1 : decode cX1_pages 1 = .ok (.istore_n 1, 1) := by decide +kernel
theorem dX1_pages_2 : decode cX1_pages 2 = .ok (.iconst 0, 1) := by decide +kernel
theorem dX1_pages_3 : decode cX1_pages 3 = .ok (.istore_n 2, 1) := by decide +kernel
theorem dX1_pages_4 : decode cX1_pages 4 = .ok (.iload_n 2, 1) := by decide +kernel
theorem dX1_pages_5 : decode cX1_pages 5 = .ok (.bipush 8, 2) := by decide +kernel
theorem dX1_pages_7 : decode cX1_pages 7 = .ok (.if_icmp .ge 29, 3) := by decide +kernel
theorem dX1_pages_10 : decode cX1_pages 10 = .ok (.aload_n 0, 1) := by decide +kernel
theorem dX1_pages_11 : decode cX1_pages 11 = .ok (.iload_n 2, 1) := by decide +kernel
theorem dX1_pages_12 : decode cX1_pages 12 = .ok (.invokevirtual 33, 3) := by decide +kernel
theorem dX1_pages_15 : decode cX1_pages 15 = .ok (.ifCond .eq 15, 3) := by decide +kernel
theorem dX1_pages_18 : decode cX1_pages 18 = .ok (.iload_n 1, 1) := by decide +kernel
theorem dX1_pages_19 : decode cX1_pages 19 = .ok (.aload_n 0, 1) := by decide +kernel
theorem dX1_pages_20 : decode cX1_pages 20 = .ok (.iload_n 2, 1) := by decide +kernel
theorem dX1_pages_21 : decode cX1_pages 21 = .ok (.invokevirtual 19, 3) := by decide +kernel
theorem dX1_pages_24 : decode cX1_pages 24 = .ok (.iconst 1, 1) := by decide +kernel
theorem dX1_pages_25 : decode cX1_pages 25 = .ok (.iadd, 1) := by decide +kernel
theorem dX1_pages_26 : decode cX1_pages 26 = .ok (.invokestatic 36, 3) := by decide +kernel
theorem dX1_pages_29 : decode cX1_pages 29 = .ok (.istore_n 1, 1) := by decide +kernel
theorem dX1_pages_30 : decode cX1_pages 30 = .ok (.iinc 2 1, 3) := by decide +kernel
theorem dX1_pages_33 : decode cX1_pages 33 = .ok (.goto (-29), 3) := by decide +kernel
theorem dX1_pages_36 : decode cX1_pages 36 = .ok (.iload_n 1, 1) := by decide +kernel
theorem dX1_pages_37 : decode cX1_pages 37 = .ok (.ireturn, 1) := by decide +kernel
theorem dX1_framesSet_0 : decode cX1_framesSet 0 = .ok (.iconst 0, 1) := by decide +kernel
theorem dX1_framesSet_1 : decode cX1_framesSet 1 = .ok (.istore_n 1, 1) := by decide +kernel
theorem dX1_framesSet_2 : decode cX1_framesSet 2 = .ok (.iconst 0, 1) := by decide +kernel
theorem dX1_framesSet_3 : decode cX1_framesSet 3 = .ok (.istore_n 2, 1) := by decide +kernel
theorem dX1_framesSet_4 : decode cX1_framesSet 4 = .ok (.iload_n 2, 1) := by decide +kernel
theorem dX1_framesSet_5 : decode cX1_framesSet 5 = .ok (.bipush 8, 2) := by decide +kernel
theorem dX1_framesSet_7 : decode cX1_framesSet 7 = .ok (.if_icmp .ge 20, 3) := by decide +kernel
theorem dX1_framesSet_10 : decode cX1_framesSet 10 = .ok (.aload_n 0, 1) := by decide +kernel
theorem dX1_framesSet_11 : decode cX1_framesSet 11 = .ok (.iload_n 2, 1) := by decide +kernel
theorem dX1_framesSet_12 : decode cX1_framesSet 12 = .ok (.invokevirtual 33, 3) := by decide +kernel
theorem dX1_framesSet_15 : decode cX1_framesSet 15 = .ok (.ifCond .eq 6, 3) := by decide +kernel
theorem dX1_framesSet_18 : decode cX1_framesSet 18 = .ok (.iinc 1 1, 3) := by decide +kernel
theorem dX1_framesSet_21 : decode cX1_framesSet 21 = .ok (.iinc 2 1, 3) := by decide +kernel
theorem dX1_framesSet_24 : decode cX1_framesSet 24 = .ok (.goto (-20), 3) := by decide +kernel
theorem dX1_framesSet_27 : decode cX1_framesSet 27 = .ok (.iload_n 1, 1) := by decide +kernel
theorem dX1_framesSet_28 : decode cX1_framesSet 28 = .ok (.ireturn, 1) := by decide +kernel
theorem dX1_framesTurned_0 : decode cX1_framesTurned 0 = .ok (.iconst 0, 1) := by decide +kernel
theorem dX1_framesTurned_1 : decode cX1_framesTurned 1 = .ok (.istore_n 1, 1) := by decide +kernel
theorem dX1_framesTurned_2 : decode cX1_framesTurned 2 = .ok (.iconst 0, 1) := by decide +kernel
theorem dX1_framesTurned_3 : decode cX1_framesTurned 3 = .ok (.istore_n 2, 1) := by decide +kernel
theorem dX1_framesTurned_4 : decode cX1_framesTurned 4 = .ok (.iload_n 2, 1) := by decide +kernel
theorem dX1_framesTurned_5 : decode cX1_framesTurned 5 = .ok (.bipush 8, 2) := by decide +kernel
theorem dX1_framesTurned_7 : decode cX1_framesTurned 7 = .ok (.if_icmp .ge 28, 3) := by decide +kernel
theorem dX1_framesTurned_10 : decode cX1_framesTurned 10 = .ok (.aload_n 0, 1) := by decide +kernel
theorem dX1_framesTurned_11 : decode cX1_framesTurned 11 = .ok (.iload_n 2, 1) := by decide +kernel
theorem dX1_framesTurned_12 : decode cX1_framesTurned 12 = .ok (.invokevirtual 33, 3) := by decide +kernel
theorem dX1_framesTurned_15 : decode cX1_framesTurned 15 = .ok (.ifCond .eq 14, 3) := by decide +kernel
theorem dX1_framesTurned_18 : decode cX1_framesTurned 18 = .ok (.aload_n 0, 1) := by decide +kernel
theorem dX1_framesTurned_19 : decode cX1_framesTurned 19 = .ok (.iload_n 2, 1) := by decide +kernel
theorem dX1_framesTurned_20 : decode cX1_framesTurned 20 = .ok (.invokevirtual 29, 3) := by decide +kernel
theorem dX1_framesTurned_23 : decode cX1_framesTurned 23 = .ok (.ifCond .eq 6, 3) := by decide +kernel
theorem dX1_framesTurned_26 : decode cX1_framesTurned 26 = .ok (.iinc 1 1, 3) := by decide +kernel
theorem dX1_framesTurned_29 : decode cX1_framesTurned 29 = .ok (.iinc 2 1, 3) := by decide +kernel
theorem dX1_framesTurned_32 : decode cX1_framesTurned 32 = .ok (.goto (-28), 3) := by decide +kernel
theorem dX1_framesTurned_35 : decode cX1_framesTurned 35 = .ok (.iload_n 1, 1) := by decide +kernel
theorem dX1_framesTurned_36 : decode cX1_framesTurned 36 = .ok (.ireturn, 1) := by decide +kernel
theorem dX2_init_0 : decode cX2_init 0 = .ok (.aload_n 0, 1) := by decide +kernel
theorem dX2_init_1 : decode cX2_init 1 = .ok (.invokespecial 3, 3) := by decide +kernel
theorem dX2_init_4 : decode cX2_init 4 = .ok (.aload_n 0, 1) := by decide +kernel
theorem dX2_init_5 : decode cX2_init 5 = .ok (.new 9, 3) := by decide +kernel
theorem dX2_init_8 : decode cX2_init 8 = .ok (.dup, 1) := by decide +kernel
theorem dX2_init_9 : decode cX2_init 9 = .ok (.invokespecial 11, 3) := by decide +kernel
theorem dX2_init_12 : decode cX2_init 12 = .ok (.putfield 12, 3) := by decide +kernel
theorem dX2_init_15 : decode cX2_init 15 = .ok (.aload_n 0, 1) := by decide +kernel
theorem dX2_init_16 : decode cX2_init 16 = .ok (.bipush 8, 2) := by decide +kernel
theorem dX2_init_18 : decode cX2_init 18 = .ok (.newarray .int, 2) := by decide +kernel
theorem dX2_init_20 : decode cX2_init 20 = .ok (.putfield 18, 3) := by decide +kernel
theorem dX2_init_23 : decode cX2_init 23 = .ok (.return_, 1) := by decide +kernel
theorem dX2_spotFor_0 : decode cX2_spotFor 0 = .ok (.aload_n 2, 1) := by decide +kernel
theorem dX2_spotFor_1 : decode cX2_spotFor 1 = .ok (.invokevirtual 22, 3) := by decide +kernel
theorem dX2_spotFor_4 : decode cX2_spotFor 4 = .ok (.istore 4, 2) := by decide +kernel
theorem dX2_spotFor_6 : decode cX2_spotFor 6 = .ok (.iconst 0, 1) := by decide +kernel
theorem dX2_spotFor_7 : decode cX2_spotFor 7 = .ok (.istore 5, 2) := by decide +kernel
theorem dX2_spotFor_9 : decode cX2_spotFor 9 = .ok (.iload 5, 2) := by decide +kernel
theorem dX2_spotFor_11 : decode cX2_spotFor 11 = .ok (.iload 4, 2) := by decide +kernel
theorem dX2_spotFor_13 : decode cX2_spotFor 13 = .ok (.if_icmp .gt 61, 3) := by decide +kernel
theorem dX2_spotFor_16 : decode cX2_spotFor 16 = .ok (.iload 5, 2) := by decide +kernel
theorem dX2_spotFor_18 : decode cX2_spotFor 18 = .ok (.bipush 8, 2) := by decide +kernel
theorem dX2_spotFor_20 : decode cX2_spotFor 20 = .ok (.if_icmp .ge 54, 3) := by decide +kernel
theorem dX2_spotFor_23 : decode cX2_spotFor 23 = .ok (.aload_n 0, 1) := by decide +kernel
theorem dX2_spotFor_24 : decode cX2_spotFor 24 = .ok (.getfield 12, 3) := by decide +kernel
theorem dX2_spotFor_27 : decode cX2_spotFor 27 = .ok (.aload_n 1, 1) := by decide +kernel
theorem dX2_spotFor_28 : decode cX2_spotFor 28 = .ok (.aload_n 2, 1) := by decide +kernel
theorem dX2_spotFor_29 : decode cX2_spotFor 29 = .ok (.iload 5, 2) := by decide +kernel
theorem dX2_spotFor_31 : decode cX2_spotFor 31 = .ok (.invokevirtual 28, 3) := by decide +kernel
theorem dX2_spotFor_34 : decode cX2_spotFor 34 = .ok (.aload_n 0, 1) := by decide +kernel
theorem dX2_spotFor_35 : decode cX2_spotFor 35 = .ok (.getfield 12, 3) := by decide +kernel
theorem dX2_spotFor_38 : decode cX2_spotFor 38 = .ok (.aload_n 1, 1) := by decide +kernel
theorem dX2_spotFor_39 : decode cX2_spotFor 39 = .ok (.getfield 32, 3) := by decide +kernel
theorem dX2_spotFor_42 : decode cX2_spotFor 42 = .ok (.iload_n 3, 1) := by decide +kernel
theorem dX2_spotFor_43 : decode cX2_spotFor 43 = .ok (.aaload, 1) := by decide +kernel
theorem dX2_spotFor_44 : decode cX2_spotFor 44 = .ok (.aload_n 2, 1) := by decide +kernel
theorem dX2_spotFor_45 : decode cX2_spotFor 45 = .ok (.getfield 38, 3) := by decide +kernel
