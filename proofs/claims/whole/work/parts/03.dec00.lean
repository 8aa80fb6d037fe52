theorem dX0_init_0 : decode cX0_init 0 = .ok (.aload_n 0, 1) := by decide +kernel
theorem dX0_init_1 : decode cX0_init 1 = .ok (.invokespecial 3, 3) := by decide +kernel
theorem dX0_init_4 : decode cX0_init 4 = .ok (.return_, 1) := by decide +kernel
theorem dX0_settle_0 : decode cX0_settle 0 = .ok (.aload_n 0, 1) := by decide +kernel
theorem dX0_settle_1 : decode cX0_settle 1 = .ok (.getfield 9, 3) := by decide +kernel
theorem dX0_settle_4 : decode cX0_settle 4 = .ok (.iconst 3, 1) := by decide +kernel
theorem dX0_settle_5 : decode cX0_settle 5 = .ok (.if_icmp .eq 7, 3) := by decide +kernel
theorem dX0_settle_8 : decode cX0_settle 8 = .ok (.iconst 1, 1) := by decide +kernel
theorem dX0_settle_9 : decode cX0_settle 9 = .ok (.goto 4, 3) := by decide +kernel
theorem dX0_settle_12 : decode cX0_settle 12 = .ok (.iconst 0, 1) := by decide +kernel
theorem dX0_settle_13 : decode cX0_settle 13 = .ok (.istore_n 2, 1) := by decide +kernel
theorem dX0_settle_14 : decode cX0_settle 14 = .ok (.aload_n 0, 1) := by decide +kernel
theorem dX0_settle_15 : decode cX0_settle 15 = .ok (.aload_n 0, 1) := by decide +kernel
theorem dX0_settle_16 : decode cX0_settle 16 = .ok (.getfield 9, 3) := by decide +kernel
theorem dX0_settle_19 : decode cX0_settle 19 = .ok (.iconst 2, 1) := by decide +kernel
theorem dX0_settle_20 : decode cX0_settle 20 = .ok (.if_icmp .ne 9, 3) := by decide +kernel
theorem dX0_settle_23 : decode cX0_settle 23 = .ok (.iload_n 1, 1) := by decide +kernel
theorem dX0_settle_24 : decode cX0_settle 24 = .ok (.iconst 1, 1) := by decide +kernel
theorem dX0_settle_25 : decode cX0_settle 25 = .ok (.iadd, 1) := by decide +kernel
theorem dX0_settle_26 : decode cX0_settle 26 = .ok (.goto 4, 3) := by decide +kernel
theorem dX0_settle_29 : decode cX0_settle 29 = .ok (.iload_n 1, 1) := by decide +kernel
theorem dX0_settle_30 : decode cX0_settle 30 = .ok (.putfield 15, 3) := by decide +kernel
theorem dX0_settle_33 : decode cX0_settle 33 = .ok (.aload_n 0, 1) := by decide +kernel
theorem dX0_settle_34 : decode cX0_settle 34 = .ok (.iload_n 2, 1) := by decide +kernel
theorem dX0_settle_35 : decode cX0_settle 35 = .ok (.ifCond .eq 20, 3) := by decide +kernel
theorem dX0_settle_38 : decode cX0_settle 38 = .ok (.aload_n 0, 1) := by decide +kernel
theorem dX0_settle_39 : decode cX0_settle 39 = .ok (.getfield 18, 3) := by decide +kernel
theorem dX0_settle_42 : decode cX0_settle 42 = .ok (.aload_n 0, 1) := by decide +kernel
theorem dX0_settle_43 : decode cX0_settle 43 = .ok (.getfield 21, 3) := by decide +kernel
theorem dX0_settle_46 : decode cX0_settle 46 = .ok (.isub, 1) := by decide +kernel
theorem dX0_settle_47 : decode cX0_settle 47 = .ok (.aload_n 0, 1) := by decide +kernel
theorem dX0_settle_48 : decode cX0_settle 48 = .ok (.getfield 24, 3) := by decide +kernel
theorem dX0_settle_51 : decode cX0_settle 51 = .ok (.isub, 1) := by decide +kernel
theorem dX0_settle_52 : decode cX0_settle 52 = .ok (.goto 7, 3) := by decide +kernel
theorem dX0_settle_55 : decode cX0_settle 55 = .ok (.aload_n 0, 1) := by decide +kernel
theorem dX0_settle_56 : decode cX0_settle 56 = .ok (.getfield 18, 3) := by decide +kernel
theorem dX0_settle_59 : decode cX0_settle 59 = .ok (.putfield 27, 3) := by decide +kernel
theorem dX0_settle_62 : decode cX0_settle 62 = .ok (.aload_n 0, 1) := by decide +kernel
theorem dX0_settle_63 : decode cX0_settle 63 = .ok (.iload_n 2, 1) := by decide +kernel
theorem dX0_settle_64 : decode cX0_settle 64 = .ok (.ifCond .eq 20, 3) := by decide +kernel
theorem dX0_settle_67 : decode cX0_settle 67 = .ok (.aload_n 0, 1) := by decide +kernel
theorem dX0_settle_68 : decode cX0_settle 68 = .ok (.getfield 30, 3) := by decide +kernel
theorem dX0_settle_71 : decode cX0_settle 71 = .ok (.aload_n 0, 1) := by decide +kernel
theorem dX0_settle_72 : decode cX0_settle 72 = .ok (.getfield 33, 3) := by decide +kernel
theorem dX0_settle_75 : decode cX0_settle 75 = .ok (.isub, 1) := by decide +kernel
theorem dX0_settle_76 : decode cX0_settle 76 = .ok (.aload_n 0, 1) := by decide +kernel
theorem dX0_settle_77 : decode cX0_settle 77 = .ok (.getfield 36, 3) := by decide +kernel
theorem dX0_settle_80 : decode cX0_settle 80 = .ok (.isub, 1) := by decide +kernel
theorem dX0_settle_81 : decode cX0_settle 81 = .ok (.goto 7, 3) := by decide +kernel
theorem dX0_settle_84 : decode cX0_settle 84 = .ok (.aload_n 0, 1) := by decide +kernel
theorem dX0_settle_85 : decode cX0_settle 85 = .ok (.getfield 30, 3) := by decide +kernel
theorem dX0_settle_88 : decode cX0_settle 88 = .ok (.putfield 39, 3) := by decide +kernel
theorem dX0_settle_91 : decode cX0_settle 91 = .ok (.aload_n 0, 1) := by decide +kernel
theorem dX0_settle_92 : decode cX0_settle 92 = .ok (.iload_n 2, 1) := by decide +kernel
theorem dX0_settle_93 : decode cX0_settle 93 = .ok (.ifCond .eq 10, 3) := by decide +kernel
theorem dX0_settle_96 : decode cX0_settle 96 = .ok (.aload_n 0, 1) := by decide +kernel
theorem dX0_settle_97 : decode cX0_settle 97 = .ok (.getfield 21, 3) := by decide +kernel
theorem dX0_settle_100 : decode cX0_settle 100 = .ok (.goto 4, 3) := by decide +kernel
theorem dX0_settle_103 : decode cX0_settle 103 = .ok (.iconst 0, 1) := by decide +kernel
theorem dX0_settle_104 : decode cX0_settle 104 = .ok (.putfield 42, 3) := by decide +kernel
theorem dX0_settle_107 : decode cX0_settle 107 = .ok (.aload_n 0, 1) := by decide +kernel
theorem dX0_settle_108 : decode cX0_settle 108 = .ok (.iload_n 2, 1) := by decide +kernel
theorem dX0_settle_109 : decode cX0_settle 109 = .ok (.ifCond .eq 10, 3) := by decide +kernel
theorem dX0_settle_112 : decode cX0_settle 112 = .ok (.aload_n 0, 1) := by decide +kernel
theorem dX0_settle_113 : decode cX0_settle 113 = .ok (.getfield 33, 3) := by decide +kernel
theorem dX0_settle_116 : decode cX0_settle 116 = .ok (.goto 4, 3) := by decide +kernel
theorem dX0_settle_119 : decode cX0_settle 119 = .ok (.iconst 0, 1) := by decide +kernel
theorem dX0_settle_120 : decode cX0_settle 120 = .ok (.putfield 45, 3) := by decide +kernel
theorem dX0_settle_123 : decode cX0_settle 123 = .ok (.return_, 1) := by decide +kernel
theorem dX0_isOf_0 : decode cX0_isOf 0 = .ok (.iload_n 1, 1) := by decide +kernel
theorem dX0_isOf_1 : decode cX0_isOf 1 = .ok (.ifCond .eq 24, 3) := by decide +kernel
theorem dX0_isOf_4 : decode cX0_isOf 4 = .ok (.aload_n 0, 1) := by decide +kernel
theorem dX0_isOf_5 : decode cX0_isOf 5 = .ok (.getfield 9, 3) := by decide +kernel
theorem dX0_isOf_8 : decode cX0_isOf 8 = .ok (.iload_n 1, 1) := by decide +kernel
theorem dX0_isOf_9 : decode cX0_isOf 9 = .ok (.if_icmp .eq 16, 3) := by decide +kernel
theorem dX0_isOf_12 : decode cX0_isOf 12 = .ok (.aload_n 0, 1) := by decide +kernel
theorem dX0_isOf_13 : decode cX0_isOf 13 = .ok (.getfield 9, 3) := by decide +kernel
theorem dX0_isOf_16 : decode cX0_isOf 16 = .ok (.iconst 3, 1) := by decide +kernel
theorem dX0_isOf_17 : decode cX0_isOf 17 = .ok (.if_icmp .ne 12, 3) := by decide +kernel
theorem dX0_isOf_20 : decode cX0_isOf 20 = .ok (.iload_n 1, 1) := by decide +kernel
theorem dX0_isOf_21 : decode cX0_isOf 21 = .ok (.iconst 1, 1) := by decide +kernel
theorem dX0_isOf_22 : decode cX0_isOf 22 = .ok (.if_icmp .ne 7, 3) := by decide +kernel
theorem dX0_isOf_25 : decode cX0_isOf 25 = .ok (.iconst 1, 1) := by decide +kernel
theorem dX0_isOf_26 : decode cX0_isOf 26 = .ok (.goto 4, 3) := by decide +kernel
theorem dX0_isOf_29 : decode cX0_isOf 29 = .ok (.iconst 0, 1) := by decide +kernel
theorem dX0_isOf_30 : decode cX0_isOf 30 = .ok (.ireturn, 1) := by decide +kernel
theorem dX0_mayTurn_0 : decode cX0_mayTurn 0 = .ok (.aload_n 0, 1) := by decide +kernel
theorem dX0_mayTurn_1 : decode cX0_mayTurn 1 = .ok (.iconst 1, 1) := by decide +kernel
theorem dX0_mayTurn_2 : decode cX0_mayTurn 2 = .ok (.invokevirtual 48, 3) := by decide +kernel
theorem dX0_mayTurn_5 : decode cX0_mayTurn 5 = .ok (.ifCond .ne 7, 3) := by decide +kernel
theorem dX0_mayTurn_8 : decode cX0_mayTurn 8 = .ok (.iconst 1, 1) := by decide +kernel
theorem dX0_mayTurn_9 : decode cX0_mayTurn 9 = .ok (.goto 4, 3) := by decide +kernel
theorem dX0_mayTurn_12 : decode cX0_mayTurn 12 = .ok (.iconst 0, 1) := by decide +kernel
theorem dX0_mayTurn_13 : decode cX0_mayTurn 13 = .ok (.ireturn, 1) := by decide +kernel
theorem dX0_needsAcross_0 : decode cX0_needsAcross 0 = .ok (.iload_n 1, 1) := by decide +kernel
theorem dX0_needsAcross_1 : decode cX0_needsAcross 1 = .ok (.ifCond .eq 10, 3) := by decide +kernel
theorem dX0_needsAcross_4 : decode cX0_needsAcross 4 = .ok (.aload_n 0, 1) := by decide +kernel
theorem dX0_needsAcross_5 : decode cX0_needsAcross 5 = .ok (.getfield 39, 3) := by decide +kernel
theorem dX0_needsAcross_8 : decode cX0_needsAcross 8 = .ok (.goto 7, 3) := by decide +kernel
theorem dX0_needsAcross_11 : decode cX0_needsAcross 11 = .ok (.aload_n 0, 1) := by decide +kernel
theorem dX0_needsAcross_12 : decode cX0_needsAcross 12 = .ok (.getfield 27, 3) := by decide +kernel
theorem dX0_needsAcross_15 : decode cX0_needsAcross 15 = .ok (.iconst 2, 1) := by decide +kernel
theorem dX0_needsAcross_16 : decode cX0_needsAcross 16 = .ok (.aload_n 0, 1) := by decide +kernel
theorem dX0_needsAcross_17 : decode cX0_needsAcross 17 = .ok (.getfield 15, 3) := by decide +kernel
theorem dX0_needsAcross_20 : decode cX0_needsAcross 20 = .ok (.imul, 1) := by decide +kernel
theorem dX0_needsAcross_21 : decode cX0_needsAcross 21 = .ok (.iadd, 1) := by decide +kernel
theorem dX0_needsAcross_22 : decode cX0_needsAcross 22 = .ok (.ireturn, 1) := by decide +kernel
theorem dX0_needsDown_0 : decode cX0_needsDown 0 = .ok (.iload_n 1, 1) := by decide +kernel
theorem dX0_needsDown_1 : decode cX0_needsDown 1 = .ok (.ifCond .eq 10, 3) := by decide +kernel
theorem dX0_needsDown_4 : decode cX0_needsDown 4 = .ok (.aload_n 0, 1) := by decide +kernel
theorem dX0_needsDown_5 : decode cX0_needsDown 5 = .ok (.getfield 27, 3) := by decide +kernel
theorem dX0_needsDown_8 : decode cX0_needsDown 8 = .ok (.goto 7, 3) := by decide +kernel
theorem dX0_needsDown_11 : decode cX0_needsDown 11 = .ok (.aload_n 0, 1) := by decide +kernel
theorem dX0_needsDown_12 : decode cX0_needsDown 12 = .ok (.getfield 39, 3) := by decide +kernel
theorem dX0_needsDown_15 : decode cX0_needsDown 15 = .ok (.iconst 2, 1) := by decide +kernel
theorem dX0_needsDown_16 : decode cX0_needsDown 16 = .ok (.aload_n 0, 1) := by decide +kernel
theorem dX0_needsDown_17 : decode cX0_needsDown 17 = .ok (.getfield 15, 3) := by decide +kernel
theorem dX0_needsDown_20 : decode cX0_needsDown 20 = .ok (.imul, 1) := by decide +kernel
theorem dX0_needsDown_21 : decode cX0_needsDown 21 = .ok (.iadd, 1) := by decide +kernel
theorem dX0_needsDown_22 : decode cX0_needsDown 22 = .ok (.ireturn, 1) := by decide +kernel
theorem dX0_needsPlaces_0 : decode cX0_needsPlaces 0 = .ok (.aload_n 0, 1) := by decide +kernel
theorem dX0_needsPlaces_1 : decode cX0_needsPlaces 1 = .ok (.iconst 0, 1) := by decide +kernel
theorem dX0_needsPlaces_2 : decode cX0_needsPlaces 2 = .ok (.invokevirtual 52, 3) := by decide +kernel
theorem dX0_needsPlaces_5 : decode cX0_needsPlaces 5 = .ok (.aload_n 0, 1) := by decide +kernel
theorem dX0_needsPlaces_6 : decode cX0_needsPlaces 6 = .ok (.iconst 0, 1) := by decide +kernel
theorem dX0_needsPlaces_7 : decode cX0_needsPlaces 7 = .ok (.invokevirtual 56, 3) := by decide +kernel
theorem dX0_needsPlaces_10 : decode cX0_needsPlaces 10 = .ok (.imul, 1) := by decide +kernel
theorem dX0_needsPlaces_11 : decode cX0_needsPlaces 11 = .ok (.ireturn, 1) := by decide +kernel
theorem dX0_edgePlaces_0 : decode cX0_edgePlaces 0 = .ok (.aload_n 0, 1) := by decide +kernel
theorem dX0_edgePlaces_1 : decode cX0_edgePlaces 1 = .ok (.invokevirtual 59, 3) := by decide +kernel
theorem dX0_edgePlaces_4 : decode cX0_edgePlaces 4 = .ok (.aload_n 0, 1) := by decide +kernel
theorem dX0_edgePlaces_5 : decode cX0_edgePlaces 5 = .ok (.getfield 27, 3) := by decide +kernel
theorem dX0_edgePlaces_8 : decode cX0_edgePlaces 8 = .ok (.aload_n 0, 1) := by decide +kernel
theorem dX0_edgePlaces_9 : decode cX0_edgePlaces 9 = .ok (.getfield 39, 3) := by decide +kernel
theorem dX0_edgePlaces_12 : decode cX0_edgePlaces 12 = .ok (.imul, 1) := by decide +kernel
theorem dX0_edgePlaces_13 : decode cX0_edgePlaces 13 = .ok (.isub, 1) := by decide +kernel
theorem dX0_edgePlaces_14 : decode cX0_edgePlaces 14 = .ok (.ireturn, 1) := by decide +kernel
theorem dX0_emptyPoints_0 : decode cX0_emptyPoints 0 = .ok (.aload_n 0, 1) := by decide +kernel
theorem dX0_emptyPoints_1 : decode cX0_emptyPoints 1 = .ok (.getfield 18, 3) := by decide +kernel
theorem dX0_emptyPoints_4 : decode cX0_emptyPoints 4 = .ok (.aload_n 0, 1) := by decide +kernel
theorem dX0_emptyPoints_5 : decode cX0_emptyPoints 5 = .ok (.getfield 30, 3) := by decide +kernel
theorem dX0_emptyPoints_8 : decode cX0_emptyPoints 8 = .ok (.imul, 1) := by decide +kernel
theorem dX0_emptyPoints_9 : decode cX0_emptyPoints 9 = .ok (.aload_n 0, 1) := by decide +kernel
theorem dX0_emptyPoints_10 : decode cX0_emptyPoints 10 = .ok (.getfield 18, 3) := by decide +kernel
theorem dX0_emptyPoints_13 : decode cX0_emptyPoints 13 = .ok (.aload_n 0, 1) := by decide +kernel
theorem dX0_emptyPoints_14 : decode cX0_emptyPoints 14 = .ok (.getfield 21, 3) := by decide +kernel
theorem dX0_emptyPoints_17 : decode cX0_emptyPoints 17 = .ok (.isub, 1) := by decide +kernel
theorem dX0_emptyPoints_18 : decode cX0_emptyPoints 18 = .ok (.aload_n 0, 1) := by decide +kernel
theorem dX0_emptyPoints_19 : decode cX0_emptyPoints 19 = .ok (.getfield 24, 3) := by decide +kernel
theorem dX0_emptyPoints_22 : decode cX0_emptyPoints 22 = .ok (.isub, 1) := by decide +kernel
theorem dX0_emptyPoints_23 : decode cX0_emptyPoints 23 = .ok (.aload_n 0, 1) := by decide +kernel
theorem dX0_emptyPoints_24 : decode cX0_emptyPoints 24 = .ok (.getfield 30, 3) := by decide +kernel
theorem dX0_emptyPoints_27 : decode cX0_emptyPoints 27 = .ok (.aload_n 0, 1) := by decide +kernel
theorem dX0_emptyPoints_28 : decode cX0_emptyPoints 28 = .ok (.getfield 33, 3) := by decide +kernel
theorem dX0_emptyPoints_31 : decode cX0_emptyPoints 31 = .ok (.isub, 1) := by decide +kernel
theorem dX0_emptyPoints_32 : decode cX0_emptyPoints 32 = .ok (.aload_n 0, 1) := by decide +kernel
theorem dX0_emptyPoints_33 : decode cX0_emptyPoints 33 = .ok (.getfield 36, 3) := by decide +kernel
theorem dX0_emptyPoints_36 : decode cX0_emptyPoints 36 = .ok (.isub, 1) := by decide +kernel
theorem dX0_emptyPoints_37 : decode cX0_emptyPoints 37 = .ok (.imul, 1) := by decide +kernel
theorem dX0_emptyPoints_38 : decode cX0_emptyPoints 38 = .ok (.isub, 1) := by decide +kernel
theorem dX0_emptyPoints_39 : decode cX0_emptyPoints 39 = .ok (.ireturn, 1) := by decide +kernel
theorem dX0_part_0 : decode cX0_part 0 = .ok (.iload_n 1, 1) := by decide +kernel
theorem dX0_part_1 : decode cX0_part 1 = .ok (.tableswitch 52 0 3 #[31, 36, 41, 46], 31) := by decide +kernel
theorem dX0_part_32 : decode cX0_part 32 = .ok (.aload_n 0, 1) := by decide +kernel
theorem dX0_part_33 : decode cX0_part 33 = .ok (.getfield 9, 3) := by decide +kernel
theorem dX0_part_36 : decode cX0_part 36 = .ok (.ireturn, 1) := by decide +kernel
theorem dX0_part_37 : decode cX0_part 37 = .ok (.aload_n 0, 1) := by decide +kernel
theorem dX0_part_38 : decode cX0_part 38 = .ok (.getfield 27, 3) := by decide +kernel
theorem dX0_part_41 : decode cX0_part 41 = .ok (.ireturn, 1) := by decide +kernel
theorem dX0_part_42 : decode cX0_part 42 = .ok (.aload_n 0, 1) := by decide +kernel
theorem dX0_part_43 : decode cX0_part 43 = .ok (.getfield 39, 3) := by decide +kernel
theorem dX0_part_46 : decode cX0_part 46 = .ok (.ireturn, 1) := by decide +kernel
theorem dX0_part_47 : decode cX0_part 47 = .ok (.aload_n 0, 1) := by decide +kernel
theorem dX0_part_48 : decode cX0_part 48 = .ok (.iconst 0, 1) := by decide +kernel
theorem dX0_part_49 : decode cX0_part 49 = .ok (.invokevirtual 52, 3) := by decide +kernel
theorem dX0_part_52 : decode cX0_part 52 = .ok (.ireturn, 1) := by decide +kernel
theorem dX0_part_53 : decode cX0_part 53 = .ok (.aload_n 0, 1) := by decide +kernel
theorem dX0_part_54 : decode cX0_part 54 = .ok (.iconst 0, 1) := by decide +kernel
theorem dX0_part_55 : decode cX0_part 55 = .ok (.invokevirtual 56, 3) := by decide +kernel
theorem dX0_part_58 : decode cX0_part 58 = .ok (.ireturn, 1) := by decide +kernel
theorem dX1_init_0 : decode cX1_init 0 = .ok (.aload_n 0, 1) := by decide +kernel
theorem dX1_init_1 : decode cX1_init 1 = .ok (.invokespecial 3, 3) := by decide +kernel
theorem dX1_init_4 : decode cX1_init 4 = .ok (.aload_n 0, 1) := by decide +kernel
theorem dX1_init_5 : decode cX1_init 5 = .ok (.bipush 8, 2) := by decide +kernel
theorem dX1_init_7 : decode cX1_init 7 = .ok (.newarray .int, 2) := by decide +kernel
theorem dX1_init_9 : decode cX1_init 9 = .ok (.putfield 9, 3) := by decide +kernel
theorem dX1_init_12 : decode cX1_init 12 = .ok (.aload_n 0, 1) := by decide +kernel
theorem dX1_init_13 : decode cX1_init 13 = .ok (.iconst 0, 1) := by decide +kernel
theorem dX1_init_14 : decode cX1_init 14 = .ok (.putfield 15, 3) := by decide +kernel
theorem dX1_init_17 : decode cX1_init 17 = .ok (.iconst 0, 1) := by decide +kernel
theorem dX1_init_18 : decode cX1_init 18 = .ok (.istore_n 1, 1) := by decide +kernel
theorem dX1_init_19 : decode cX1_init 19 = .ok (.iload_n 1, 1) := by decide +kernel
theorem dX1_init_20 : decode cX1_init 20 = .ok (.bipush 8, 2) := by decide +kernel
theorem dX1_init_22 : decode cX1_init 22 = .ok (.if_icmp .ge 17, 3) := by decide +kernel
theorem dX1_init_25 : decode cX1_init 25 = .ok (.aload_n 0, 1) := by decide +kernel
theorem dX1_init_26 : decode cX1_init 26 = .ok (.getfield 9, 3) := by decide +kernel
theorem dX1_init_29 : decode cX1_init 29 = .ok (.iload_n 1, 1) := by decide +kernel
theorem dX1_init_30 : decode cX1_init 30 = .ok (.bipush (-9), 2) := by decide +kernel
theorem dX1_init_32 : decode cX1_init 32 = .ok (.iastore, 1) := by decide +kernel
theorem dX1_init_33 : decode cX1_init 33 = .ok (.iinc 1 1, 3) := by decide +kernel
theorem dX1_init_36 : decode cX1_init 36 = .ok (.goto (-17), 3) := by decide +kernel
theorem dX1_init_39 : decode cX1_init 39 = .ok (.return_, 1) := by decide +kernel
theorem dX1_spotAt_0 : decode cX1_spotAt 0 = .ok (.iload_n 0, 1) := by decide +kernel
theorem dX1_spotAt_1 : decode cX1_spotAt 1 = .ok (.bipush 32, 2) := by decide +kernel
theorem dX1_spotAt_3 : decode cX1_spotAt 3 = .ok (.imul, 1) := by decide +kernel
theorem dX1_spotAt_4 : decode cX1_spotAt 4 = .ok (.iload_n 1, 1) := by decide +kernel
theorem dX1_spotAt_5 : decode cX1_spotAt 5 = .ok (.iconst 2, 1) := by decide +kernel
theorem dX1_spotAt_6 : decode cX1_spotAt 6 = .ok (.imul, 1) := by decide +kernel
theorem dX1_spotAt_7 : decode cX1_spotAt 7 = .ok (.iadd, 1) := by decide +kernel
theorem dX1_spotAt_8 : decode cX1_spotAt 8 = .ok (.iload_n 2, 1) := by decide +kernel
theorem dX1_spotAt_9 : decode cX1_spotAt 9 = .ok (.ifCond .eq 7, 3) := by decide +kernel
theorem dX1_spotAt_12 : decode cX1_spotAt 12 = .ok (.iconst 1, 1) := by decide +kernel
theorem dX1_spotAt_13 : decode cX1_spotAt 13 = .ok (.goto 4, 3) := by decide +kernel
theorem dX1_spotAt_16 : decode cX1_spotAt 16 = .ok (.iconst 0, 1) := by decide +kernel
theorem dX1_spotAt_17 : decode cX1_spotAt 17 = .ok (.iadd, 1) := by decide +kernel
theorem dX1_spotAt_18 : decode cX1_spotAt 18 = .ok (.ireturn, 1) := by decide +kernel
theorem dX1_spotOnPage_0 : decode cX1_spotOnPage 0 = .ok (.iload_n 0, 1) := by decide +kernel
theorem dX1_spotOnPage_1 : decode cX1_spotOnPage 1 = .ok (.sipush 512, 3) := by decide +kernel
theorem dX1_spotOnPage_4 : decode cX1_spotOnPage 4 = .ok (.imul, 1) := by decide +kernel
theorem dX1_spotOnPage_5 : decode cX1_spotOnPage 5 = .ok (.iload_n 1, 1) := by decide +kernel
theorem dX1_spotOnPage_6 : decode cX1_spotOnPage 6 = .ok (.iadd, 1) := by decide +kernel
theorem dX1_spotOnPage_7 : decode cX1_spotOnPage 7 = .ok (.ireturn, 1) := by decide +kernel
theorem dX1_liftAll_0 : decode cX1_liftAll 0 = .ok (.iconst 0, 1) := by decide +kernel
theorem dX1_liftAll_1 : decode cX1_liftAll 1 = .ok (.istore_n 1, 1) := by decide +kernel
theorem dX1_liftAll_2 : decode cX1_liftAll 2 = .ok (.iload_n 1, 1) := by decide +kernel
theorem dX1_liftAll_3 : decode cX1_liftAll 3 = .ok (.bipush 8, 2) := by decide +kernel
theorem dX1_liftAll_5 : decode cX1_liftAll 5 = .ok (.if_icmp .ge 17, 3) := by decide +kernel
theorem dX1_liftAll_8 : decode cX1_liftAll 8 = .ok (.aload_n 0, 1) := by decide +kernel
theorem dX1_liftAll_9 : decode cX1_liftAll 9 = .ok (.getfield 9, 3) := by decide +kernel
theorem dX1_liftAll_12 : decode cX1_liftAll 12 = .ok (.iload_n 1, 1) := by decide +kernel
theorem dX1_liftAll_13 : decode cX1_liftAll 13 = .ok (.bipush (-9), 2) := by decide +kernel
theorem dX1_liftAll_15 : decode cX1_liftAll 15 = .ok (.iastore, 1) := by decide +kernel
theorem dX1_liftAll_16 : decode cX1_liftAll 16 = .ok (.iinc 1 1, 3) := by decide +kernel
theorem dX1_liftAll_19 : decode cX1_liftAll 19 = .ok (.goto (-17), 3) := by decide +kernel
theorem dX1_liftAll_22 : decode cX1_liftAll 22 = .ok (.return_, 1) := by decide +kernel
theorem dX1_isSet_0 : decode cX1_isSet 0 = .ok (.aload_n 0, 1) := by decide +kernel
theorem dX1_isSet_1 : decode cX1_isSet 1 = .ok (.getfield 9, 3) := by decide +kernel
theorem dX1_isSet_4 : decode cX1_isSet 4 = .ok (.iload_n 1, 1) := by decide +kernel
theorem dX1_isSet_5 : decode cX1_isSet 5 = .ok (.iaload, 1) := by decide +kernel
theorem dX1_isSet_6 : decode cX1_isSet 6 = .ok (.bipush (-9), 2) := by decide +kernel
theorem dX1_isSet_8 : decode cX1_isSet 8 = .ok (.if_icmp .eq 7, 3) := by decide +kernel
theorem dX1_isSet_11 : decode cX1_isSet 11 = .ok (.iconst 1, 1) := by decide +kernel
theorem dX1_isSet_12 : decode cX1_isSet 12 = .ok (.goto 4, 3) := by decide +kernel
theorem dX1_isSet_15 : decode cX1_isSet 15 = .ok (.iconst 0, 1) := by decide +kernel
theorem dX1_isSet_16 : decode cX1_isSet 16 = .ok (.ireturn, 1) := by decide +kernel
theorem dX1_pageOf_0 : decode cX1_pageOf 0 = .ok (.aload_n 0, 1) := by decide +kernel
theorem dX1_pageOf_1 : decode cX1_pageOf 1 = .ok (.getfield 9, 3) := by decide +kernel
theorem dX1_pageOf_4 : decode cX1_pageOf 4 = .ok (.iload_n 1, 1) := by decide +kernel
theorem dX1_pageOf_5 : decode cX1_pageOf 5 = .ok (.iaload, 1) := by decide +kernel
theorem dX1_pageOf_6 : decode cX1_pageOf 6 = .ok (.sipush 512, 3) := by decide +kernel
theorem dX1_pageOf_9 : decode cX1_pageOf 9 = .ok (.idiv, 1) := by decide +kernel
theorem dX1_pageOf_10 : decode cX1_pageOf 10 = .ok (.ireturn, 1) := by decide +kernel
theorem dX1_xOf_0 : decode cX1_xOf 0 = .ok (.aload_n 0, 1) := by decide +kernel
theorem dX1_xOf_1 : decode cX1_xOf 1 = .ok (.getfield 9, 3) := by decide +kernel
theorem dX1_xOf_4 : decode cX1_xOf 4 = .ok (.iload_n 1, 1) := by decide +kernel
theorem dX1_xOf_5 : decode cX1_xOf 5 = .ok (.iaload, 1) := by decide +kernel
theorem dX1_xOf_6 : decode cX1_xOf 6 = .ok (.sipush 512, 3) := by decide +kernel
theorem dX1_xOf_9 : decode cX1_xOf 9 = .ok (.irem, 1) := by decide +kernel
theorem dX1_xOf_10 : decode cX1_xOf 10 = .ok (.bipush 32, 2) := by decide +kernel
theorem dX1_xOf_12 : decode cX1_xOf 12 = .ok (.idiv, 1) := by decide +kernel
theorem dX1_xOf_13 : decode cX1_xOf 13 = .ok (.ireturn, 1) := by decide +kernel
theorem dX1_yOf_0 : decode cX1_yOf 0 = .ok (.aload_n 0, 1) := by decide +kernel
theorem dX1_yOf_1 : decode cX1_yOf 1 = .ok (.getfield 9, 3) := by decide +kernel
theorem dX1_yOf_4 : decode cX1_yOf 4 = .ok (.iload_n 1, 1) := by decide +kernel
theorem dX1_yOf_5 : decode cX1_yOf 5 = .ok (.iaload, 1) := by decide +kernel
theorem dX1_yOf_6 : decode cX1_yOf 6 = .ok (.bipush 32, 2) := by decide +kernel
theorem dX1_yOf_8 : decode cX1_yOf 8 = .ok (.irem, 1) := by decide +kernel
theorem dX1_yOf_9 : decode cX1_yOf 9 = .ok (.iconst 2, 1) := by decide +kernel
theorem dX1_yOf_10 : decode cX1_yOf 10 = .ok (.idiv, 1) := by decide +kernel
theorem dX1_yOf_11 : decode cX1_yOf 11 = .ok (.ireturn, 1) := by decide +kernel
theorem dX1_isTurned_0 : decode cX1_isTurned 0 = .ok (.aload_n 0, 1) := by decide +kernel
theorem dX1_isTurned_1 : decode cX1_isTurned 1 = .ok (.getfield 9, 3) := by decide +kernel
theorem dX1_isTurned_4 : decode cX1_isTurned 4 = .ok (.iload_n 1, 1) := by decide +kernel
theorem dX1_isTurned_5 : decode cX1_isTurned 5 = .ok (.iaload, 1) := by decide +kernel
theorem dX1_isTurned_6 : decode cX1_isTurned 6 = .ok (.iconst 2, 1) := by decide +kernel
theorem dX1_isTurned_7 : decode cX1_isTurned 7 = .ok (.irem, 1) := by decide +kernel
theorem dX1_isTurned_8 : decode cX1_isTurned 8 = .ok (.iconst 1, 1) := by decide +kernel
theorem dX1_isTurned_9 : decode cX1_isTurned 9 = .ok (.if_icmp .ne 7, 3) := by decide +kernel
theorem dX1_isTurned_12 : decode cX1_isTurned 12 = .ok (.iconst 1, 1) := by decide +kernel
theorem dX1_isTurned_13 : decode cX1_isTurned 13 = .ok (.goto 4, 3) := by decide +kernel
theorem dX1_isTurned_16 : decode cX1_isTurned 16 = .ok (.iconst 0, 1) := by decide +kernel
theorem dX1_isTurned_17 : decode cX1_isTurned 17 = .ok (.ireturn, 1) := by decide +kernel
theorem dX1_part_0 : decode cX1_part 0 = .ok (.iload_n 2, 1) := by decide +kernel
theorem dX1_part_1 : decode cX1_part 1 = .ok (.tableswitch 45 0 2 #[27, 33, 39], 27) := by decide +kernel
theorem dX1_part_28 : decode cX1_part 28 = .ok (.aload_n 0, 1) := by decide +kernel
theorem dX1_part_29 : decode cX1_part 29 = .ok (.iload_n 1, 1) := by decide +kernel
theorem dX1_part_30 : decode cX1_part 30 = .ok (.invokevirtual 19, 3) := by decide +kernel
theorem dX1_part_33 : decode cX1_part 33 = .ok (.ireturn, 1) := by decide +kernel
theorem dX1_part_34 : decode cX1_part 34 = .ok (.aload_n 0, 1) := by decide +kernel
theorem dX1_part_35 : decode cX1_part 35 = .ok (.iload_n 1, 1) := by decide +kernel
theorem dX1_part_36 : decode cX1_part 36 = .ok (.invokevirtual 23, 3) := by decide +kernel
theorem dX1_part_39 : decode cX1_part 39 = .ok (.ireturn, 1) := by decide +kernel
theorem dX1_part_40 : decode cX1_part 40 = .ok (.aload_n 0, 1) := by decide +kernel
theorem dX1_part_41 : decode cX1_part 41 = .ok (.iload_n 1, 1) := by decide +kernel
theorem dX1_part_42 : decode cX1_part 42 = .ok (.invokevirtual 26, 3) := by decide +kernel
theorem dX1_part_45 : decode cX1_part 45 = .ok (.ireturn, 1) := by decide +kernel
theorem dX1_part_46 : decode cX1_part 46 = .ok (.aload_n 0, 1) := by decide +kernel
theorem dX1_part_47 : decode cX1_part 47 = .ok (.iload_n 1, 1) := by decide +kernel
theorem dX1_part_48 : decode cX1_part 48 = .ok (.invokevirtual 29, 3) := by decide +kernel
theorem dX1_part_51 : decode cX1_part 51 = .ok (.ifCond .eq 7, 3) := by decide +kernel
theorem dX1_part_54 : decode cX1_part 54 = .ok (.iconst 1, 1) := by decide +kernel
theorem dX1_part_55 : decode cX1_part 55 = .ok (.goto 4, 3) := by decide +kernel
theorem dX1_part_58 : decode cX1_part 58 = .ok (.iconst 0, 1) := by decide +kernel
theorem dX1_part_59 : decode cX1_part 59 = .ok (.ireturn, 1) := by decide +kernel
theorem dX1_pages_0 : decode cX1_pages 0 = .ok (.iconst 0, 1) := by decide +kernel
theorem dX1_pages_1 : decode cX1_pages 1 = .ok (.istore_n 1, 1) := by decide +kernel
theorem dX1_pages_2 : decode cX1_pages 2 = .ok (.iconst 0, 1) := by decide +kernel
theorem dX1_pages_3 : decode cX1_pages 3 = .ok (.istore_n 2, 1) := by decide +kernel
theorem dX1_pages_4 : decode cX1_pages 4 = .ok (.iload_n 2, 1) := by decide +kernel
theorem dX1_pages_5 : decode cX1_pages 5 = .ok (.bipush 8, 2) := by decide +kernel
theorem dX1_pages_7 : decode cX1_pages 7 = .ok (.if_icmp .ge 29, 3) := by decide +kernel
theorem dX1_pages_10 : decode cX1_pages 10 = .ok (.aload_n 0, 1) := by decide +kernel
theorem dX1_pages_11 : decode cX1_pages 11 = .ok (.iload_n 2, 1) := by decide +kernel
theorem dX1_pages_12 : decode cX1_pages 12 = .ok (.invokevirtual 33, 3) := by decide +kernel
theorem dX1_pages_15 : decode cX1_pages 15 = .ok (.ifCond .eq 15, 3) := by decide +kernel
theorem dX1_pages_18 : decode cX1_pages 18 = .ok (.iload_n 1, 1) := by decide +kernel
theorem dX1_pages_19 : decode cX1_pages 19 = .ok (.aload_n 0, 1) := by decide +kernel
theorem dX1_pages_20 : decode cX1_pages 20 = .ok (.iload_n 2, 1) := by decide +kernel
theorem dX1_pages_21 : decode cX1_pages 21 = .ok (.invokevirtual 19, 3) := by decide +kernel
theorem dX1_pages_24 : decode cX1_pages 24 = .ok (.iconst 1, 1) := by decide +kernel
theorem dX1_pages_25 : decode cX1_pages 25 = .ok (.iadd, 1) := by decide +kernel
theorem dX1_pages_26 : decode cX1_pages 26 = .ok (.invokestatic 36, 3) := by decide +kernel
theorem dX1_pages_29 : decode cX1_pages 29 = .ok (.istore_n 1, 1) := by decide +kernel
theorem dX1_pages_30 : decode cX1_pages 30 = .ok (.iinc 2 1, 3) := by decide +kernel
theorem dX1_pages_33 : decode cX1_pages 33 = .ok (.goto (-29), 3) := by decide +kernel
theorem dX1_pages_36 : decode cX1_pages 36 = .ok (.iload_n 1, 1) := by decide +kernel
theorem dX1_pages_37 : decode cX1_pages 37 = .ok (.ireturn, 1) := by decide +kernel
theorem dX1_framesSet_0 : decode cX1_framesSet 0 = .ok (.iconst 0, 1) := by decide +kernel
theorem dX1_framesSet_1 : decode cX1_framesSet 1 = .ok (.istore_n 1, 1) := by decide +kernel
theorem dX1_framesSet_2 : decode cX1_framesSet 2 = .ok (.iconst 0, 1) := by decide +kernel
theorem dX1_framesSet_3 : decode cX1_framesSet 3 = .ok (.istore_n 2, 1) := by decide +kernel
theorem dX1_framesSet_4 : decode cX1_framesSet 4 = .ok (.iload_n 2, 1) := by decide +kernel
theorem dX1_framesSet_5 : decode cX1_framesSet 5 = .ok (.bipush 8, 2) := by decide +kernel
theorem dX1_framesSet_7 : decode cX1_framesSet 7 = .ok (.if_icmp .ge 20, 3) := by decide +kernel
theorem dX1_framesSet_10 : decode cX1_framesSet 10 = .ok (.aload_n 0, 1) := by decide +kernel
theorem dX1_framesSet_11 : decode cX1_framesSet 11 = .ok (.iload_n 2, 1) := by decide +kernel
theorem dX1_framesSet_12 : decode cX1_framesSet 12 = .ok (.invokevirtual 33, 3) := by decide +kernel
theorem dX1_framesSet_15 : decode cX1_framesSet 15 = .ok (.ifCond .eq 6, 3) := by decide +kernel
theorem dX1_framesSet_18 : decode cX1_framesSet 18 = .ok (.iinc 1 1, 3) := by decide +kernel
theorem dX1_framesSet_21 : decode cX1_framesSet 21 = .ok (.iinc 2 1, 3) := by decide +kernel
theorem dX1_framesSet_24 : decode cX1_framesSet 24 = .ok (.goto (-20), 3) := by decide +kernel
theorem dX1_framesSet_27 : decode cX1_framesSet 27 = .ok (.iload_n 1, 1) := by decide +kernel
theorem dX1_framesSet_28 : decode cX1_framesSet 28 = .ok (.ireturn, 1) := by decide +kernel
theorem dX1_framesTurned_0 : decode cX1_framesTurned 0 = .ok (.iconst 0, 1) := by decide +kernel
theorem dX1_framesTurned_1 : decode cX1_framesTurned 1 = .ok (.istore_n 1, 1) := by decide +kernel
theorem dX1_framesTurned_2 : decode cX1_framesTurned 2 = .ok (.iconst 0, 1) := by decide +kernel
theorem dX1_framesTurned_3 : decode cX1_framesTurned 3 = .ok (.istore_n 2, 1) := by decide +kernel
theorem dX1_framesTurned_4 : decode cX1_framesTurned 4 = .ok (.iload_n 2, 1) := by decide +kernel
theorem dX1_framesTurned_5 : decode cX1_framesTurned 5 = .ok (.bipush 8, 2) := by decide +kernel
theorem dX1_framesTurned_7 : decode cX1_framesTurned 7 = .ok (.if_icmp .ge 28, 3) := by decide +kernel
theorem dX1_framesTurned_10 : decode cX1_framesTurned 10 = .ok (.aload_n 0, 1) := by decide +kernel
theorem dX1_framesTurned_11 : decode cX1_framesTurned 11 = .ok (.iload_n 2, 1) := by decide +kernel
theorem dX1_framesTurned_12 : decode cX1_framesTurned 12 = .ok (.invokevirtual 33, 3) := by decide +kernel
theorem dX1_framesTurned_15 : decode cX1_framesTurned 15 = .ok (.ifCond .eq 14, 3) := by decide +kernel
theorem dX1_framesTurned_18 : decode cX1_framesTurned 18 = .ok (.aload_n 0, 1) := by decide +kernel
theorem dX1_framesTurned_19 : decode cX1_framesTurned 19 = .ok (.iload_n 2, 1) := by decide +kernel
theorem dX1_framesTurned_20 : decode cX1_framesTurned 20 = .ok (.invokevirtual 29, 3) := by decide +kernel
theorem dX1_framesTurned_23 : decode cX1_framesTurned 23 = .ok (.ifCond .eq 6, 3) := by decide +kernel
theorem dX1_framesTurned_26 : decode cX1_framesTurned 26 = .ok (.iinc 1 1, 3) := by decide +kernel
theorem dX1_framesTurned_29 : decode cX1_framesTurned 29 = .ok (.iinc 2 1, 3) := by decide +kernel
theorem dX1_framesTurned_32 : decode cX1_framesTurned 32 = .ok (.goto (-28), 3) := by decide +kernel
theorem dX1_framesTurned_35 : decode cX1_framesTurned 35 = .ok (.iload_n 1, 1) := by decide +kernel
theorem dX1_framesTurned_36 : decode cX1_framesTurned 36 = .ok (.ireturn, 1) := by decide +kernel
theorem dX2_init_0 : decode cX2_init 0 = .ok (.aload_n 0, 1) := by decide +kernel
theorem dX2_init_1 : decode cX2_init 1 = .ok (.invokespecial 3, 3) := by decide +kernel
theorem dX2_init_4 : decode cX2_init 4 = .ok (.aload_n 0, 1) := by decide +kernel
theorem dX2_init_5 : decode cX2_init 5 = .ok (.new 9, 3) := by decide +kernel
theorem dX2_init_8 : decode cX2_init 8 = .ok (.dup, 1) := by decide +kernel
theorem dX2_init_9 : decode cX2_init 9 = .ok (.invokespecial 11, 3) := by decide +kernel
theorem dX2_init_12 : decode cX2_init 12 = .ok (.putfield 12, 3) := by decide +kernel
theorem dX2_init_15 : decode cX2_init 15 = .ok (.aload_n 0, 1) := by decide +kernel
theorem dX2_init_16 : decode cX2_init 16 = .ok (.bipush 8, 2) := by decide +kernel
theorem dX2_init_18 : decode cX2_init 18 = .ok (.newarray .int, 2) := by decide +kernel
theorem dX2_init_20 : decode cX2_init 20 = .ok (.putfield 18, 3) := by decide +kernel
theorem dX2_init_23 : decode cX2_init 23 = .ok (.return_, 1) := by decide +kernel
theorem dX2_spotFor_0 : decode cX2_spotFor 0 = .ok (.aload_n 2, 1) := by decide +kernel
theorem dX2_spotFor_1 : decode cX2_spotFor 1 = .ok (.invokevirtual 22, 3) := by decide +kernel
theorem dX2_spotFor_4 : decode cX2_spotFor 4 = .ok (.istore 4, 2) := by decide +kernel
theorem dX2_spotFor_6 : decode cX2_spotFor 6 = .ok (.iconst 0, 1) := by decide +kernel
theorem dX2_spotFor_7 : decode cX2_spotFor 7 = .ok (.istore 5, 2) := by decide +kernel
theorem dX2_spotFor_9 : decode cX2_spotFor 9 = .ok (.iload 5, 2) := by decide +kernel
theorem dX2_spotFor_11 : decode cX2_spotFor 11 = .ok (.iload 4, 2) := by decide +kernel
theorem dX2_spotFor_13 : decode cX2_spotFor 13 = .ok (.if_icmp .gt 61, 3) := by decide +kernel
theorem dX2_spotFor_16 : decode cX2_spotFor 16 = .ok (.iload 5, 2) := by decide +kernel
theorem dX2_spotFor_18 : decode cX2_spotFor 18 = .ok (.bipush 8, 2) := by decide +kernel
theorem dX2_spotFor_20 : decode cX2_spotFor 20 = .ok (.if_icmp .ge 54, 3) := by decide +kernel
theorem dX2_spotFor_23 : decode cX2_spotFor 23 = .ok (.aload_n 0, 1) := by decide +kernel
theorem dX2_spotFor_24 : decode cX2_spotFor 24 = .ok (.getfield 12, 3) := by decide +kernel
theorem dX2_spotFor_27 : decode cX2_spotFor 27 = .ok (.aload_n 1, 1) := by decide +kernel
theorem dX2_spotFor_28 : decode cX2_spotFor 28 = .ok (.aload_n 2, 1) := by decide +kernel
theorem dX2_spotFor_29 : decode cX2_spotFor 29 = .ok (.iload 5, 2) := by decide +kernel
theorem dX2_spotFor_31 : decode cX2_spotFor 31 = .ok (.invokevirtual 28, 3) := by decide +kernel
theorem dX2_spotFor_34 : decode cX2_spotFor 34 = .ok (.aload_n 0, 1) := by decide +kernel
theorem dX2_spotFor_35 : decode cX2_spotFor 35 = .ok (.getfield 12, 3) := by decide +kernel
theorem dX2_spotFor_38 : decode cX2_spotFor 38 = .ok (.aload_n 1, 1) := by decide +kernel
theorem dX2_spotFor_39 : decode cX2_spotFor 39 = .ok (.getfield 32, 3) := by decide +kernel
theorem dX2_spotFor_42 : decode cX2_spotFor 42 = .ok (.iload_n 3, 1) := by decide +kernel
theorem dX2_spotFor_43 : decode cX2_spotFor 43 = .ok (.aaload, 1) := by decide +kernel
theorem dX2_spotFor_44 : decode cX2_spotFor 44 = .ok (.aload_n 2, 1) := by decide +kernel
theorem dX2_spotFor_45 : decode cX2_spotFor 45 = .ok (.getfield 38, 3) := by decide +kernel
theorem dX2_spotFor_48 : decode cX2_spotFor 48 = .ok (.invokevirtual 42, 3) := by decide +kernel
theorem dX2_spotFor_51 : decode cX2_spotFor 51 = .ok (.istore 6, 2) := by decide +kernel
theorem dX2_spotFor_53 : decode cX2_spotFor 53 = .ok (.iload 6, 2) := by decide +kernel
theorem dX2_spotFor_55 : decode cX2_spotFor 55 = .ok (.bipush (-9), 2) := by decide +kernel
theorem dX2_spotFor_57 : decode cX2_spotFor 57 = .ok (.if_icmp .eq 11, 3) := by decide +kernel
theorem dX2_spotFor_60 : decode cX2_spotFor 60 = .ok (.iload 5, 2) := by decide +kernel
theorem dX2_spotFor_62 : decode cX2_spotFor 62 = .ok (.iload 6, 2) := by decide +kernel
theorem dX2_spotFor_64 : decode cX2_spotFor 64 = .ok (.invokestatic 46, 3) := by decide +kernel
theorem dX2_spotFor_67 : decode cX2_spotFor 67 = .ok (.ireturn, 1) := by decide +kernel
theorem dX2_spotFor_68 : decode cX2_spotFor 68 = .ok (.iinc 5 1, 3) := by decide +kernel
theorem dX2_spotFor_71 : decode cX2_spotFor 71 = .ok (.goto (-62), 3) := by decide +kernel
theorem dX2_spotFor_74 : decode cX2_spotFor 74 = .ok (.bipush (-9), 2) := by decide +kernel
theorem dX2_spotFor_76 : decode cX2_spotFor 76 = .ok (.ireturn, 1) := by decide +kernel
theorem dX2_setAllAnew_0 : decode cX2_setAllAnew 0 = .ok (.aload_n 2, 1) := by decide +kernel
theorem dX2_setAllAnew_1 : decode cX2_setAllAnew 1 = .ok (.invokevirtual 50, 3) := by decide +kernel
theorem dX2_setAllAnew_4 : decode cX2_setAllAnew 4 = .ok (.aload_n 0, 1) := by decide +kernel
theorem dX2_setAllAnew_5 : decode cX2_setAllAnew 5 = .ok (.aload_n 1, 1) := by decide +kernel
theorem dX2_setAllAnew_6 : decode cX2_setAllAnew 6 = .ok (.iload_n 3, 1) := by decide +kernel
theorem dX2_setAllAnew_7 : decode cX2_setAllAnew 7 = .ok (.invokevirtual 53, 3) := by decide +kernel
theorem dX2_setAllAnew_10 : decode cX2_setAllAnew 10 = .ok (.iconst 0, 1) := by decide +kernel
theorem dX2_setAllAnew_11 : decode cX2_setAllAnew 11 = .ok (.istore 4, 2) := by decide +kernel
theorem dX2_setAllAnew_13 : decode cX2_setAllAnew 13 = .ok (.iload 4, 2) := by decide +kernel
theorem dX2_setAllAnew_15 : decode cX2_setAllAnew 15 = .ok (.aload_n 1, 1) := by decide +kernel
theorem dX2_setAllAnew_16 : decode cX2_setAllAnew 16 = .ok (.getfield 57, 3) := by decide +kernel
theorem dX2_setAllAnew_19 : decode cX2_setAllAnew 19 = .ok (.if_icmp .ge 34, 3) := by decide +kernel
theorem dX2_setAllAnew_22 : decode cX2_setAllAnew 22 = .ok (.aload_n 2, 1) := by decide +kernel
theorem dX2_setAllAnew_23 : decode cX2_setAllAnew 23 = .ok (.getfield 60, 3) := by decide +kernel
theorem dX2_setAllAnew_26 : decode cX2_setAllAnew 26 = .ok (.aload_n 0, 1) := by decide +kernel
theorem dX2_setAllAnew_27 : decode cX2_setAllAnew 27 = .ok (.getfield 18, 3) := by decide +kernel
theorem dX2_setAllAnew_30 : decode cX2_setAllAnew 30 = .ok (.iload 4, 2) := by decide +kernel
theorem dX2_setAllAnew_32 : decode cX2_setAllAnew 32 = .ok (.iaload, 1) := by decide +kernel
theorem dX2_setAllAnew_33 : decode cX2_setAllAnew 33 = .ok (.aload_n 0, 1) := by decide +kernel
theorem dX2_setAllAnew_34 : decode cX2_setAllAnew 34 = .ok (.aload_n 1, 1) := by decide +kernel
theorem dX2_setAllAnew_35 : decode cX2_setAllAnew 35 = .ok (.aload_n 2, 1) := by decide +kernel
theorem dX2_setAllAnew_36 : decode cX2_setAllAnew 36 = .ok (.aload_n 0, 1) := by decide +kernel
theorem dX2_setAllAnew_37 : decode cX2_setAllAnew 37 = .ok (.getfield 18, 3) := by decide +kernel
theorem dX2_setAllAnew_40 : decode cX2_setAllAnew 40 = .ok (.iload 4, 2) := by decide +kernel
theorem dX2_setAllAnew_42 : decode cX2_setAllAnew 42 = .ok (.iaload, 1) := by decide +kernel
theorem dX2_setAllAnew_43 : decode cX2_setAllAnew 43 = .ok (.invokevirtual 63, 3) := by decide +kernel
theorem dX2_setAllAnew_46 : decode cX2_setAllAnew 46 = .ok (.iastore, 1) := by decide +kernel
theorem dX2_setAllAnew_47 : decode cX2_setAllAnew 47 = .ok (.iinc 4 1, 3) := by decide +kernel
theorem dX2_setAllAnew_50 : decode cX2_setAllAnew 50 = .ok (.goto (-37), 3) := by decide +kernel
theorem dX2_setAllAnew_53 : decode cX2_setAllAnew 53 = .ok (.return_, 1) := by decide +kernel
theorem dX2_fillQueue_0 : decode cX2_fillQueue 0 = .ok (.iconst 0, 1) := by decide +kernel
theorem dX2_fillQueue_1 : decode cX2_fillQueue 1 = .ok (.istore_n 3, 1) := by decide +kernel
theorem dX2_fillQueue_2 : decode cX2_fillQueue 2 = .ok (.iload_n 3, 1) := by decide +kernel
theorem dX2_fillQueue_3 : decode cX2_fillQueue 3 = .ok (.aload_n 1, 1) := by decide +kernel
theorem dX2_fillQueue_4 : decode cX2_fillQueue 4 = .ok (.getfield 57, 3) := by decide +kernel
theorem dX2_fillQueue_7 : decode cX2_fillQueue 7 = .ok (.if_icmp .ge 82, 3) := by decide +kernel
theorem dX2_fillQueue_10 : decode cX2_fillQueue 10 = .ok (.aload_n 1, 1) := by decide +kernel
theorem dX2_fillQueue_11 : decode cX2_fillQueue 11 = .ok (.getfield 32, 3) := by decide +kernel
theorem dX2_fillQueue_14 : decode cX2_fillQueue 14 = .ok (.iload_n 3, 1) := by decide +kernel
theorem dX2_fillQueue_15 : decode cX2_fillQueue 15 = .ok (.aaload, 1) := by decide +kernel
theorem dX2_fillQueue_16 : decode cX2_fillQueue 16 = .ok (.iload_n 2, 1) := by decide +kernel
theorem dX2_fillQueue_17 : decode cX2_fillQueue 17 = .ok (.invokestatic 67, 3) := by decide +kernel
theorem dX2_fillQueue_20 : decode cX2_fillQueue 20 = .ok (.istore 4, 2) := by decide +kernel
theorem dX2_fillQueue_22 : decode cX2_fillQueue 22 = .ok (.iload_n 3, 1) := by decide +kernel
theorem dX2_fillQueue_23 : decode cX2_fillQueue 23 = .ok (.istore 5, 2) := by decide +kernel
theorem dX2_fillQueue_25 : decode cX2_fillQueue 25 = .ok (.iload 5, 2) := by decide +kernel
theorem dX2_fillQueue_27 : decode cX2_fillQueue 27 = .ok (.ifCond .le 48, 3) := by decide +kernel
theorem dX2_fillQueue_30 : decode cX2_fillQueue 30 = .ok (.aload_n 1, 1) := by decide +kernel
theorem dX2_fillQueue_31 : decode cX2_fillQueue 31 = .ok (.getfield 32, 3) := by decide +kernel
theorem dX2_fillQueue_34 : decode cX2_fillQueue 34 = .ok (.aload_n 0, 1) := by decide +kernel
theorem dX2_fillQueue_35 : decode cX2_fillQueue 35 = .ok (.getfield 18, 3) := by decide +kernel
theorem dX2_fillQueue_38 : decode cX2_fillQueue 38 = .ok (.iload 5, 2) := by decide +kernel
theorem dX2_fillQueue_40 : decode cX2_fillQueue 40 = .ok (.iconst 1, 1) := by decide +kernel
theorem dX2_fillQueue_41 : decode cX2_fillQueue 41 = .ok (.isub, 1) := by decide +kernel
theorem dX2_fillQueue_42 : decode cX2_fillQueue 42 = .ok (.iaload, 1) := by decide +kernel
theorem dX2_fillQueue_43 : decode cX2_fillQueue 43 = .ok (.aaload, 1) := by decide +kernel
theorem dX2_fillQueue_44 : decode cX2_fillQueue 44 = .ok (.iload_n 2, 1) := by decide +kernel
theorem dX2_fillQueue_45 : decode cX2_fillQueue 45 = .ok (.invokestatic 67, 3) := by decide +kernel
theorem dX2_fillQueue_48 : decode cX2_fillQueue 48 = .ok (.iload 4, 2) := by decide +kernel
theorem dX2_fillQueue_50 : decode cX2_fillQueue 50 = .ok (.if_icmp .ge 25, 3) := by decide +kernel
theorem dX2_fillQueue_53 : decode cX2_fillQueue 53 = .ok (.aload_n 0, 1) := by decide +kernel
theorem dX2_fillQueue_54 : decode cX2_fillQueue 54 = .ok (.getfield 18, 3) := by decide +kernel
theorem dX2_fillQueue_57 : decode cX2_fillQueue 57 = .ok (.iload 5, 2) := by decide +kernel
theorem dX2_fillQueue_59 : decode cX2_fillQueue 59 = .ok (.aload_n 0, 1) := by decide +kernel
theorem dX2_fillQueue_60 : decode cX2_fillQueue 60 = .ok (.getfield 18, 3) := by decide +kernel
theorem dX2_fillQueue_63 : decode cX2_fillQueue 63 = .ok (.iload 5, 2) := by decide +kernel
theorem dX2_fillQueue_65 : decode cX2_fillQueue 65 = .ok (.iconst 1, 1) := by decide +kernel
theorem dX2_fillQueue_66 : decode cX2_fillQueue 66 = .ok (.isub, 1) := by decide +kernel
theorem dX2_fillQueue_67 : decode cX2_fillQueue 67 = .ok (.iaload, 1) := by decide +kernel
theorem dX2_fillQueue_68 : decode cX2_fillQueue 68 = .ok (.iastore, 1) := by decide +kernel
theorem dX2_fillQueue_69 : decode cX2_fillQueue 69 = .ok (.iinc 5 (-1), 3) := by decide +kernel
theorem dX2_fillQueue_72 : decode cX2_fillQueue 72 = .ok (.goto (-47), 3) := by decide +kernel
theorem dX2_fillQueue_75 : decode cX2_fillQueue 75 = .ok (.aload_n 0, 1) := by decide +kernel
theorem dX2_fillQueue_76 : decode cX2_fillQueue 76 = .ok (.getfield 18, 3) := by decide +kernel
theorem dX2_fillQueue_79 : decode cX2_fillQueue 79 = .ok (.iload 5, 2) := by decide +kernel
theorem dX2_fillQueue_81 : decode cX2_fillQueue 81 = .ok (.iload_n 3, 1) := by decide +kernel
theorem dX2_fillQueue_82 : decode cX2_fillQueue 82 = .ok (.iastore, 1) := by decide +kernel
theorem dX2_fillQueue_83 : decode cX2_fillQueue 83 = .ok (.iinc 3 1, 3) := by decide +kernel
theorem dX2_fillQueue_86 : decode cX2_fillQueue 86 = .ok (.goto (-84), 3) := by decide +kernel
theorem dX2_fillQueue_89 : decode cX2_fillQueue 89 = .ok (.return_, 1) := by decide +kernel
theorem dX2_weightOf_0 : decode cX2_weightOf 0 = .ok (.iload_n 1, 1) := by decide +kernel
theorem dX2_weightOf_1 : decode cX2_weightOf 1 = .ok (.lookupswitch 46 #[(1, 27), (2, 32)], 27) := by decide +kernel
theorem dX2_weightOf_28 : decode cX2_weightOf 28 = .ok (.aload_n 0, 1) := by decide +kernel
theorem dX2_weightOf_29 : decode cX2_weightOf 29 = .ok (.invokevirtual 70, 3) := by decide +kernel
theorem dX2_weightOf_32 : decode cX2_weightOf 32 = .ok (.ireturn, 1) := by decide +kernel
theorem dX2_weightOf_33 : decode cX2_weightOf 33 = .ok (.aload_n 0, 1) := by decide +kernel
theorem dX2_weightOf_34 : decode cX2_weightOf 34 = .ok (.iconst 0, 1) := by decide +kernel
theorem dX2_weightOf_35 : decode cX2_weightOf 35 = .ok (.invokevirtual 75, 3) := by decide +kernel
theorem dX2_weightOf_38 : decode cX2_weightOf 38 = .ok (.aload_n 0, 1) := by decide +kernel
theorem dX2_weightOf_39 : decode cX2_weightOf 39 = .ok (.iconst 0, 1) := by decide +kernel
theorem dX2_weightOf_40 : decode cX2_weightOf 40 = .ok (.invokevirtual 79, 3) := by decide +kernel
theorem dX2_weightOf_43 : decode cX2_weightOf 43 = .ok (.invokestatic 82, 3) := by decide +kernel
theorem dX2_weightOf_46 : decode cX2_weightOf 46 = .ok (.ireturn, 1) := by decide +kernel
theorem dX2_weightOf_47 : decode cX2_weightOf 47 = .ok (.iconst 0, 1) := by decide +kernel
theorem dX2_weightOf_48 : decode cX2_weightOf 48 = .ok (.ireturn, 1) := by decide +kernel
theorem dX3_init_0 : decode cX3_init 0 = .ok (.aload_n 0, 1) := by decide +kernel
theorem dX3_init_1 : decode cX3_init 1 = .ok (.invokespecial 3, 3) := by decide +kernel
theorem dX3_init_4 : decode cX3_init 4 = .ok (.aload_n 0, 1) := by decide +kernel
theorem dX3_init_5 : decode cX3_init 5 = .ok (.new 9, 3) := by decide +kernel
theorem dX3_init_8 : decode cX3_init 8 = .ok (.dup, 1) := by decide +kernel
theorem dX3_init_9 : decode cX3_init 9 = .ok (.invokespecial 11, 3) := by decide +kernel
theorem dX3_init_12 : decode cX3_init 12 = .ok (.putfield 12, 3) := by decide +kernel
theorem dX3_init_15 : decode cX3_init 15 = .ok (.aload_n 0, 1) := by decide +kernel
theorem dX3_init_16 : decode cX3_init 16 = .ok (.iconst 0, 1) := by decide +kernel
theorem dX3_init_17 : decode cX3_init 17 = .ok (.newarray .byte, 2) := by decide +kernel
theorem dX3_init_19 : decode cX3_init 19 = .ok (.putfield 18, 3) := by decide +kernel
theorem dX3_init_22 : decode cX3_init 22 = .ok (.aload_n 0, 1) := by decide +kernel
theorem dX3_init_23 : decode cX3_init 23 = .ok (.iconst 0, 1) := by decide +kernel
theorem dX3_init_24 : decode cX3_init 24 = .ok (.putfield 22, 3) := by decide +kernel
theorem dX3_init_27 : decode cX3_init 27 = .ok (.aload_n 0, 1) := by decide +kernel
theorem dX3_init_28 : decode cX3_init 28 = .ok (.iconst 0, 1) := by decide +kernel
theorem dX3_init_29 : decode cX3_init 29 = .ok (.putfield 26, 3) := by decide +kernel
theorem dX3_init_32 : decode cX3_init 32 = .ok (.aload_n 0, 1) := by decide +kernel
theorem dX3_init_33 : decode cX3_init 33 = .ok (.iconst 0, 1) := by decide +kernel
theorem dX3_init_34 : decode cX3_init 34 = .ok (.putfield 29, 3) := by decide +kernel
theorem dX3_init_37 : decode cX3_init 37 = .ok (.aload_n 0, 1) := by decide +kernel
theorem dX3_init_38 : decode cX3_init 38 = .ok (.iconst 0, 1) := by decide +kernel
theorem dX3_init_39 : decode cX3_init 39 = .ok (.putfield 32, 3) := by decide +kernel
theorem dX3_init_42 : decode cX3_init 42 = .ok (.aload_n 0, 1) := by decide +kernel
theorem dX3_init_43 : decode cX3_init 43 = .ok (.iconst 0, 1) := by decide +kernel
theorem dX3_init_44 : decode cX3_init 44 = .ok (.putfield 35, 3) := by decide +kernel
theorem dX3_init_47 : decode cX3_init 47 = .ok (.aload_n 0, 1) := by decide +kernel
theorem dX3_init_48 : decode cX3_init 48 = .ok (.iconst 0, 1) := by decide +kernel
theorem dX3_init_49 : decode cX3_init 49 = .ok (.putfield 38, 3) := by decide +kernel
theorem dX3_init_52 : decode cX3_init 52 = .ok (.return_, 1) := by decide +kernel
theorem dX3_exchangeDraft_0 : decode cX3_exchangeDraft 0 = .ok (.aload_n 0, 1) := by decide +kernel
theorem dX3_exchangeDraft_1 : decode cX3_exchangeDraft 1 = .ok (.getfield 12, 3) := by decide +kernel
theorem dX3_exchangeDraft_4 : decode cX3_exchangeDraft 4 = .ok (.astore_n 2, 1) := by decide +kernel
theorem dX3_exchangeDraft_5 : decode cX3_exchangeDraft 5 = .ok (.aload_n 0, 1) := by decide +kernel
theorem dX3_exchangeDraft_6 : decode cX3_exchangeDraft 6 = .ok (.aload_n 1, 1) := by decide +kernel
theorem dX3_exchangeDraft_7 : decode cX3_exchangeDraft 7 = .ok (.putfield 12, 3) := by decide +kernel
theorem dX3_exchangeDraft_10 : decode cX3_exchangeDraft 10 = .ok (.aload_n 2, 1) := by decide +kernel
theorem dX3_exchangeDraft_11 : decode cX3_exchangeDraft 11 = .ok (.areturn, 1) := by decide +kernel
theorem dX3_faultOf_0 : decode cX3_faultOf 0 = .ok (.aload_n 0, 1) := by decide +kernel
theorem dX3_faultOf_1 : decode cX3_faultOf 1 = .ok (.aload_n 1, 1) := by decide +kernel
theorem dX3_faultOf_2 : decode cX3_faultOf 2 = .ok (.getfield 42, 3) := by decide +kernel
theorem dX3_faultOf_5 : decode cX3_faultOf 5 = .ok (.putfield 18, 3) := by decide +kernel
theorem dX3_faultOf_8 : decode cX3_faultOf 8 = .ok (.aload_n 0, 1) := by decide +kernel
theorem dX3_faultOf_9 : decode cX3_faultOf 9 = .ok (.aload_n 1, 1) := by decide +kernel
theorem dX3_faultOf_10 : decode cX3_faultOf 10 = .ok (.getfield 45, 3) := by decide +kernel
theorem dX3_faultOf_13 : decode cX3_faultOf 13 = .ok (.aload_n 0, 1) := by decide +kernel
theorem dX3_faultOf_14 : decode cX3_faultOf 14 = .ok (.getfield 18, 3) := by decide +kernel
theorem dX3_faultOf_17 : decode cX3_faultOf 17 = .ok (.arraylength, 1) := by decide +kernel
theorem dX3_faultOf_18 : decode cX3_faultOf 18 = .ok (.invokestatic 46, 3) := by decide +kernel
theorem dX3_faultOf_21 : decode cX3_faultOf 21 = .ok (.putfield 22, 3) := by decide +kernel
theorem dX3_faultOf_24 : decode cX3_faultOf 24 = .ok (.aload_n 0, 1) := by decide +kernel
theorem dX3_faultOf_25 : decode cX3_faultOf 25 = .ok (.iconst 0, 1) := by decide +kernel
theorem dX3_faultOf_26 : decode cX3_faultOf 26 = .ok (.putfield 32, 3) := by decide +kernel
theorem dX3_faultOf_29 : decode cX3_faultOf 29 = .ok (.aload_n 0, 1) := by decide +kernel
theorem dX3_faultOf_30 : decode cX3_faultOf 30 = .ok (.iconst 0, 1) := by decide +kernel
theorem dX3_faultOf_31 : decode cX3_faultOf 31 = .ok (.putfield 38, 3) := by decide +kernel
theorem dX3_faultOf_34 : decode cX3_faultOf 34 = .ok (.aload_n 0, 1) := by decide +kernel
theorem dX3_faultOf_35 : decode cX3_faultOf 35 = .ok (.getfield 12, 3) := by decide +kernel
theorem dX3_faultOf_38 : decode cX3_faultOf 38 = .ok (.iconst 0, 1) := by decide +kernel
theorem dX3_faultOf_39 : decode cX3_faultOf 39 = .ok (.putfield 52, 3) := by decide +kernel
theorem dX3_faultOf_42 : decode cX3_faultOf 42 = .ok (.aload_n 0, 1) := by decide +kernel
theorem dX3_faultOf_43 : decode cX3_faultOf 43 = .ok (.getfield 12, 3) := by decide +kernel
theorem dX3_faultOf_46 : decode cX3_faultOf 46 = .ok (.iconst 0, 1) := by decide +kernel
theorem dX3_faultOf_47 : decode cX3_faultOf 47 = .ok (.putfield 53, 3) := by decide +kernel
theorem dX3_faultOf_50 : decode cX3_faultOf 50 = .ok (.aload_n 0, 1) := by decide +kernel
theorem dX3_faultOf_51 : decode cX3_faultOf 51 = .ok (.invokevirtual 56, 3) := by decide +kernel
theorem dX3_faultOf_54 : decode cX3_faultOf 54 = .ok (.aload_n 0, 1) := by decide +kernel
theorem dX3_faultOf_55 : decode cX3_faultOf 55 = .ok (.invokevirtual 59, 3) := by decide +kernel
theorem dX3_faultOf_58 : decode cX3_faultOf 58 = .ok (.ifCond .ne 8, 3) := by decide +kernel
theorem dX3_faultOf_61 : decode cX3_faultOf 61 = .ok (.aload_n 0, 1) := by decide +kernel
theorem dX3_faultOf_62 : decode cX3_faultOf 62 = .ok (.getfield 29, 3) := by decide +kernel
theorem dX3_faultOf_65 : decode cX3_faultOf 65 = .ok (.ireturn, 1) := by decide +kernel
theorem dX3_faultOf_66 : decode cX3_faultOf 66 = .ok (.iconst 0, 1) := by decide +kernel
theorem dX3_faultOf_67 : decode cX3_faultOf 67 = .ok (.istore_n 2, 1) := by decide +kernel
theorem dX3_faultOf_68 : decode cX3_faultOf 68 = .ok (.iload_n 2, 1) := by decide +kernel
theorem dX3_faultOf_69 : decode cX3_faultOf 69 = .ok (.aload_n 0, 1) := by decide +kernel
theorem dX3_faultOf_70 : decode cX3_faultOf 70 = .ok (.getfield 22, 3) := by decide +kernel
theorem dX3_faultOf_73 : decode cX3_faultOf 73 = .ok (.if_icmp .ge 28, 3) := by decide +kernel
theorem dX3_faultOf_76 : decode cX3_faultOf 76 = .ok (.aload_n 0, 1) := by decide +kernel
theorem dX3_faultOf_77 : decode cX3_faultOf 77 = .ok (.getfield 26, 3) := by decide +kernel
theorem dX3_faultOf_80 : decode cX3_faultOf 80 = .ok (.ifCond .eq 21, 3) := by decide +kernel
theorem dX3_faultOf_83 : decode cX3_faultOf 83 = .ok (.aload_n 0, 1) := by decide +kernel
theorem dX3_faultOf_84 : decode cX3_faultOf 84 = .ok (.invokevirtual 63, 3) := by decide +kernel
theorem dX3_faultOf_87 : decode cX3_faultOf 87 = .ok (.ifCond .ne 8, 3) := by decide +kernel
theorem dX3_faultOf_90 : decode cX3_faultOf 90 = .ok (.aload_n 0, 1) := by decide +kernel
theorem dX3_faultOf_91 : decode cX3_faultOf 91 = .ok (.getfield 29, 3) := by decide +kernel
theorem dX3_faultOf_94 : decode cX3_faultOf 94 = .ok (.ireturn, 1) := by decide +kernel
theorem dX3_faultOf_95 : decode cX3_faultOf 95 = .ok (.iinc 2 1, 3) := by decide +kernel
theorem dX3_faultOf_98 : decode cX3_faultOf 98 = .ok (.goto (-30), 3) := by decide +kernel
theorem dX3_faultOf_101 : decode cX3_faultOf 101 = .ok (.aload_n 0, 1) := by decide +kernel
theorem dX3_faultOf_102 : decode cX3_faultOf 102 = .ok (.getfield 12, 3) := by decide +kernel
theorem dX3_faultOf_105 : decode cX3_faultOf 105 = .ok (.getfield 52, 3) := by decide +kernel
theorem dX3_faultOf_108 : decode cX3_faultOf 108 = .ok (.ifCond .ne 8, 3) := by decide +kernel
theorem dX3_faultOf_111 : decode cX3_faultOf 111 = .ok (.aload_n 0, 1) := by decide +kernel
theorem dX3_faultOf_112 : decode cX3_faultOf 112 = .ok (.getfield 29, 3) := by decide +kernel
theorem dX3_faultOf_115 : decode cX3_faultOf 115 = .ok (.ireturn, 1) := by decide +kernel
theorem dX3_faultOf_116 : decode cX3_faultOf 116 = .ok (.aload_n 0, 1) := by decide +kernel
theorem dX3_faultOf_117 : decode cX3_faultOf 117 = .ok (.getfield 12, 3) := by decide +kernel
theorem dX3_faultOf_120 : decode cX3_faultOf 120 = .ok (.invokevirtual 66, 3) := by decide +kernel
theorem dX3_faultOf_123 : decode cX3_faultOf 123 = .ok (.bipush (-9), 2) := by decide +kernel
theorem dX3_faultOf_125 : decode cX3_faultOf 125 = .ok (.ireturn, 1) := by decide +kernel
theorem dX3_readPage_0 : decode cX3_readPage 0 = .ok (.aload_n 0, 1) := by decide +kernel
theorem dX3_readPage_1 : decode cX3_readPage 1 = .ok (.ldc 69, 2) := by decide +kernel
theorem dX3_readPage_3 : decode cX3_readPage 3 = .ok (.invokevirtual 71, 3) := by decide +kernel
theorem dX3_readPage_6 : decode cX3_readPage 6 = .ok (.ifCond .ne 5, 3) := by decide +kernel
theorem dX3_readPage_9 : decode cX3_readPage 9 = .ok (.iconst 0, 1) := by decide +kernel
theorem dX3_readPage_10 : decode cX3_readPage 10 = .ok (.ireturn, 1) := by decide +kernel
theorem dX3_readPage_11 : decode cX3_readPage 11 = .ok (.aload_n 0, 1) := by decide +kernel
theorem dX3_readPage_12 : decode cX3_readPage 12 = .ok (.invokevirtual 56, 3) := by decide +kernel
theorem dX3_readPage_15 : decode cX3_readPage 15 = .ok (.aload_n 0, 1) := by decide +kernel
theorem dX3_readPage_16 : decode cX3_readPage 16 = .ok (.getfield 12, 3) := by decide +kernel
theorem dX3_readPage_19 : decode cX3_readPage 19 = .ok (.aload_n 0, 1) := by decide +kernel
theorem dX3_readPage_20 : decode cX3_readPage 20 = .ok (.iconst 4, 1) := by decide +kernel
theorem dX3_readPage_21 : decode cX3_readPage 21 = .ok (.bipush 16, 2) := by decide +kernel
theorem dX3_readPage_23 : decode cX3_readPage 23 = .ok (.invokevirtual 75, 3) := by decide +kernel
theorem dX3_readPage_26 : decode cX3_readPage 26 = .ok (.putfield 78, 3) := by decide +kernel
theorem dX3_readPage_29 : decode cX3_readPage 29 = .ok (.aload_n 0, 1) := by decide +kernel
theorem dX3_readPage_30 : decode cX3_readPage 30 = .ok (.getfield 12, 3) := by decide +kernel
theorem dX3_readPage_33 : decode cX3_readPage 33 = .ok (.getfield 78, 3) := by decide +kernel
theorem dX3_readPage_36 : decode cX3_readPage 36 = .ok (.bipush (-9), 2) := by decide +kernel
theorem dX3_readPage_38 : decode cX3_readPage 38 = .ok (.if_icmp .ne 5, 3) := by decide +kernel
theorem dX3_readPage_41 : decode cX3_readPage 41 = .ok (.iconst 0, 1) := by decide +kernel
theorem dX3_readPage_42 : decode cX3_readPage 42 = .ok (.ireturn, 1) := by decide +kernel
theorem dX3_readPage_43 : decode cX3_readPage 43 = .ok (.aload_n 0, 1) := by decide +kernel
theorem dX3_readPage_44 : decode cX3_readPage 44 = .ok (.getfield 12, 3) := by decide +kernel
theorem dX3_readPage_47 : decode cX3_readPage 47 = .ok (.aload_n 0, 1) := by decide +kernel
theorem dX3_readPage_48 : decode cX3_readPage 48 = .ok (.iconst 4, 1) := by decide +kernel
theorem dX3_readPage_49 : decode cX3_readPage 49 = .ok (.bipush 16, 2) := by decide +kernel
theorem dX3_readPage_51 : decode cX3_readPage 51 = .ok (.invokevirtual 75, 3) := by decide +kernel
theorem dX3_readPage_54 : decode cX3_readPage 54 = .ok (.putfield 81, 3) := by decide +kernel
theorem dX3_readPage_57 : decode cX3_readPage 57 = .ok (.aload_n 0, 1) := by decide +kernel
theorem dX3_readPage_58 : decode cX3_readPage 58 = .ok (.getfield 12, 3) := by decide +kernel
theorem dX3_readPage_61 : decode cX3_readPage 61 = .ok (.getfield 81, 3) := by decide +kernel
theorem dX3_readPage_64 : decode cX3_readPage 64 = .ok (.bipush (-9), 2) := by decide +kernel
theorem dX3_readPage_66 : decode cX3_readPage 66 = .ok (.if_icmp .eq 14, 3) := by decide +kernel
theorem dX3_readPage_69 : decode cX3_readPage 69 = .ok (.aload_n 0, 1) := by decide +kernel
theorem dX3_readPage_70 : decode cX3_readPage 70 = .ok (.invokevirtual 84, 3) := by decide +kernel
theorem dX3_readPage_73 : decode cX3_readPage 73 = .ok (.ifCond .eq 7, 3) := by decide +kernel
theorem dX3_readPage_76 : decode cX3_readPage 76 = .ok (.iconst 1, 1) := by decide +kernel
theorem dX3_readPage_77 : decode cX3_readPage 77 = .ok (.goto 4, 3) := by decide +kernel
theorem dX3_readPage_80 : decode cX3_readPage 80 = .ok (.iconst 0, 1) := by decide +kernel
theorem dX3_readPage_81 : decode cX3_readPage 81 = .ok (.ireturn, 1) := by decide +kernel
theorem dX3_readStatement_0 : decode cX3_readStatement 0 = .ok (.aload_n 0, 1) := by decide +kernel
theorem dX3_readStatement_1 : decode cX3_readStatement 1 = .ok (.ldc 87, 2) := by decide +kernel
theorem dX3_readStatement_3 : decode cX3_readStatement 3 = .ok (.invokevirtual 71, 3) := by decide +kernel
theorem dX3_readStatement_6 : decode cX3_readStatement 6 = .ok (.ifCond .eq 8, 3) := by decide +kernel
theorem dX3_readStatement_9 : decode cX3_readStatement 9 = .ok (.aload_n 0, 1) := by decide +kernel
theorem dX3_readStatement_10 : decode cX3_readStatement 10 = .ok (.invokevirtual 88, 3) := by decide +kernel
theorem dX3_readStatement_13 : decode cX3_readStatement 13 = .ok (.ireturn, 1) := by decide +kernel
theorem dX3_readStatement_14 : decode cX3_readStatement 14 = .ok (.aload_n 0, 1) := by decide +kernel
theorem dX3_readStatement_15 : decode cX3_readStatement 15 = .ok (.invokevirtual 91, 3) := by decide +kernel
theorem dX3_readStatement_18 : decode cX3_readStatement 18 = .ok (.istore_n 1, 1) := by decide +kernel
theorem dX3_readStatement_19 : decode cX3_readStatement 19 = .ok (.iload_n 1, 1) := by decide +kernel
theorem dX3_readStatement_20 : decode cX3_readStatement 20 = .ok (.bipush (-9), 2) := by decide +kernel
theorem dX3_readStatement_22 : decode cX3_readStatement 22 = .ok (.if_icmp .eq 15, 3) := by decide +kernel
theorem dX3_readStatement_25 : decode cX3_readStatement 25 = .ok (.aload_n 0, 1) := by decide +kernel
theorem dX3_readStatement_26 : decode cX3_readStatement 26 = .ok (.getfield 12, 3) := by decide +kernel
theorem dX3_readStatement_29 : decode cX3_readStatement 29 = .ok (.getfield 52, 3) := by decide +kernel
theorem dX3_readStatement_32 : decode cX3_readStatement 32 = .ok (.bipush 8, 2) := by decide +kernel
theorem dX3_readStatement_34 : decode cX3_readStatement 34 = .ok (.if_icmp .lt 5, 3) := by decide +kernel
theorem dX3_readStatement_37 : decode cX3_readStatement 37 = .ok (.iconst 0, 1) := by decide +kernel
theorem dX3_readStatement_38 : decode cX3_readStatement 38 = .ok (.ireturn, 1) := by decide +kernel
theorem dX3_readStatement_39 : decode cX3_readStatement 39 = .ok (.aload_n 0, 1) := by decide +kernel
theorem dX3_readStatement_40 : decode cX3_readStatement 40 = .ok (.invokevirtual 56, 3) := by decide +kernel
theorem dX3_readStatement_43 : decode cX3_readStatement 43 = .ok (.aload_n 0, 1) := by decide +kernel
theorem dX3_readStatement_44 : decode cX3_readStatement 44 = .ok (.getfield 12, 3) := by decide +kernel
theorem dX3_readStatement_47 : decode cX3_readStatement 47 = .ok (.getfield 95, 3) := by decide +kernel
theorem dX3_readStatement_50 : decode cX3_readStatement 50 = .ok (.aload_n 0, 1) := by decide +kernel
theorem dX3_readStatement_51 : decode cX3_readStatement 51 = .ok (.getfield 12, 3) := by decide +kernel
theorem dX3_readStatement_54 : decode cX3_readStatement 54 = .ok (.getfield 52, 3) := by decide +kernel
theorem dX3_readStatement_57 : decode cX3_readStatement 57 = .ok (.aaload, 1) := by decide +kernel
theorem dX3_readStatement_58 : decode cX3_readStatement 58 = .ok (.astore_n 2, 1) := by decide +kernel
theorem dX3_readStatement_59 : decode cX3_readStatement 59 = .ok (.aload_n 2, 1) := by decide +kernel
theorem dX3_readStatement_60 : decode cX3_readStatement 60 = .ok (.iload_n 1, 1) := by decide +kernel
theorem dX3_readStatement_61 : decode cX3_readStatement 61 = .ok (.putfield 99, 3) := by decide +kernel
theorem dX3_readStatement_64 : decode cX3_readStatement 64 = .ok (.aload_n 0, 1) := by decide +kernel
theorem dX3_readStatement_65 : decode cX3_readStatement 65 = .ok (.aload_n 2, 1) := by decide +kernel
theorem dX3_readStatement_66 : decode cX3_readStatement 66 = .ok (.invokevirtual 104, 3) := by decide +kernel
theorem dX3_readStatement_69 : decode cX3_readStatement 69 = .ok (.ifCond .eq 18, 3) := by decide +kernel
theorem dX3_readStatement_72 : decode cX3_readStatement 72 = .ok (.aload_n 0, 1) := by decide +kernel
theorem dX3_readStatement_73 : decode cX3_readStatement 73 = .ok (.aload_n 2, 1) := by decide +kernel
theorem dX3_readStatement_74 : decode cX3_readStatement 74 = .ok (.invokevirtual 108, 3) := by decide +kernel
theorem dX3_readStatement_77 : decode cX3_readStatement 77 = .ok (.ifCond .eq 10, 3) := by decide +kernel
theorem dX3_readStatement_80 : decode cX3_readStatement 80 = .ok (.aload_n 0, 1) := by decide +kernel
theorem dX3_readStatement_81 : decode cX3_readStatement 81 = .ok (.invokevirtual 84, 3) := by decide +kernel
theorem dX3_readStatement_84 : decode cX3_readStatement 84 = .ok (.ifCond .ne 5, 3) := by decide +kernel
theorem dX3_readStatement_87 : decode cX3_readStatement 87 = .ok (.iconst 0, 1) := by decide +kernel
theorem dX3_readStatement_88 : decode cX3_readStatement 88 = .ok (.ireturn, 1) := by decide +kernel
theorem dX3_readStatement_89 : decode cX3_readStatement 89 = .ok (.aload_n 0, 1) := by decide +kernel
theorem dX3_readStatement_90 : decode cX3_readStatement 90 = .ok (.getfield 12, 3) := by decide +kernel
theorem dX3_readStatement_93 : decode cX3_readStatement 93 = .ok (.dup, 1) := by decide +kernel
theorem dX3_readStatement_94 : decode cX3_readStatement 94 = .ok (.getfield 52, 3) := by decide +kernel
theorem dX3_readStatement_97 : decode cX3_readStatement 97 = .ok (.iconst 1, 1) := by decide +kernel
theorem dX3_readStatement_98 : decode cX3_readStatement 98 = .ok (.iadd, 1) := by decide +kernel
theorem dX3_readStatement_99 : decode cX3_readStatement 99 = .ok (.putfield 52, 3) := by decide +kernel
theorem dX3_readStatement_102 : decode cX3_readStatement 102 = .ok (.iconst 1, 1) := by decide +kernel
theorem dX3_readStatement_103 : decode cX3_readStatement 103 = .ok (.ireturn, 1) := by decide +kernel
theorem dX3_readBleed_0 : decode cX3_readBleed 0 = .ok (.aload_n 0, 1) := by decide +kernel
theorem dX3_readBleed_1 : decode cX3_readBleed 1 = .ok (.getfield 38, 3) := by decide +kernel
theorem dX3_readBleed_4 : decode cX3_readBleed 4 = .ok (.ifCond .eq 5, 3) := by decide +kernel
theorem dX3_readBleed_7 : decode cX3_readBleed 7 = .ok (.iconst 0, 1) := by decide +kernel
theorem dX3_readBleed_8 : decode cX3_readBleed 8 = .ok (.ireturn, 1) := by decide +kernel
theorem dX3_readBleed_9 : decode cX3_readBleed 9 = .ok (.aload_n 0, 1) := by decide +kernel
theorem dX3_readBleed_10 : decode cX3_readBleed 10 = .ok (.iconst 1, 1) := by decide +kernel
theorem dX3_readBleed_11 : decode cX3_readBleed 11 = .ok (.putfield 38, 3) := by decide +kernel
theorem dX3_readBleed_14 : decode cX3_readBleed 14 = .ok (.aload_n 0, 1) := by decide +kernel
theorem dX3_readBleed_15 : decode cX3_readBleed 15 = .ok (.invokevirtual 56, 3) := by decide +kernel
theorem dX3_readBleed_18 : decode cX3_readBleed 18 = .ok (.aload_n 0, 1) := by decide +kernel
theorem dX3_readBleed_19 : decode cX3_readBleed 19 = .ok (.getfield 12, 3) := by decide +kernel
theorem dX3_readBleed_22 : decode cX3_readBleed 22 = .ok (.aload_n 0, 1) := by decide +kernel
theorem dX3_readBleed_23 : decode cX3_readBleed 23 = .ok (.iconst 0, 1) := by decide +kernel
theorem dX3_readBleed_24 : decode cX3_readBleed 24 = .ok (.iconst 2, 1) := by decide +kernel
theorem dX3_readBleed_25 : decode cX3_readBleed 25 = .ok (.invokevirtual 75, 3) := by decide +kernel
theorem dX3_readBleed_28 : decode cX3_readBleed 28 = .ok (.putfield 53, 3) := by decide +kernel
theorem dX3_readBleed_31 : decode cX3_readBleed 31 = .ok (.aload_n 0, 1) := by decide +kernel
theorem dX3_readBleed_32 : decode cX3_readBleed 32 = .ok (.getfield 12, 3) := by decide +kernel
theorem dX3_readBleed_35 : decode cX3_readBleed 35 = .ok (.getfield 53, 3) := by decide +kernel
theorem dX3_readBleed_38 : decode cX3_readBleed 38 = .ok (.bipush (-9), 2) := by decide +kernel
theorem dX3_readBleed_40 : decode cX3_readBleed 40 = .ok (.if_icmp .eq 14, 3) := by decide +kernel
theorem dX3_readBleed_43 : decode cX3_readBleed 43 = .ok (.aload_n 0, 1) := by decide +kernel
theorem dX3_readBleed_44 : decode cX3_readBleed 44 = .ok (.invokevirtual 84, 3) := by decide +kernel
theorem dX3_readBleed_47 : decode cX3_readBleed 47 = .ok (.ifCond .eq 7, 3) := by decide +kernel
theorem dX3_readBleed_50 : decode cX3_readBleed 50 = .ok (.iconst 1, 1) := by decide +kernel
theorem dX3_readBleed_51 : decode cX3_readBleed 51 = .ok (.goto 4, 3) := by decide +kernel
theorem dX3_readBleed_54 : decode cX3_readBleed 54 = .ok (.iconst 0, 1) := by decide +kernel
theorem dX3_readBleed_55 : decode cX3_readBleed 55 = .ok (.ireturn, 1) := by decide +kernel
theorem dX3_readSides_0 : decode cX3_readSides 0 = .ok (.aload_n 1, 1) := by decide +kernel
theorem dX3_readSides_1 : decode cX3_readSides 1 = .ok (.aload_n 0, 1) := by decide +kernel
theorem dX3_readSides_2 : decode cX3_readSides 2 = .ok (.iconst 1, 1) := by decide +kernel
theorem dX3_readSides_3 : decode cX3_readSides 3 = .ok (.bipush 16, 2) := by decide +kernel
theorem dX3_readSides_5 : decode cX3_readSides 5 = .ok (.invokevirtual 75, 3) := by decide +kernel
theorem dX3_readSides_8 : decode cX3_readSides 8 = .ok (.putfield 111, 3) := by decide +kernel
theorem dX3_readSides_11 : decode cX3_readSides 11 = .ok (.aload_n 1, 1) := by decide +kernel
theorem dX3_readSides_12 : decode cX3_readSides 12 = .ok (.getfield 111, 3) := by decide +kernel
theorem dX3_readSides_15 : decode cX3_readSides 15 = .ok (.bipush (-9), 2) := by decide +kernel
theorem dX3_readSides_17 : decode cX3_readSides 17 = .ok (.if_icmp .ne 5, 3) := by decide +kernel
theorem dX3_readSides_20 : decode cX3_readSides 20 = .ok (.iconst 0, 1) := by decide +kernel
theorem dX3_readSides_21 : decode cX3_readSides 21 = .ok (.ireturn, 1) := by decide +kernel
theorem dX3_readSides_22 : decode cX3_readSides 22 = .ok (.aload_n 1, 1) := by decide +kernel
theorem dX3_readSides_23 : decode cX3_readSides 23 = .ok (.aload_n 0, 1) := by decide +kernel
theorem dX3_readSides_24 : decode cX3_readSides 24 = .ok (.iconst 1, 1) := by decide +kernel
theorem dX3_readSides_25 : decode cX3_readSides 25 = .ok (.bipush 16, 2) := by decide +kernel
theorem dX3_readSides_27 : decode cX3_readSides 27 = .ok (.invokevirtual 75, 3) := by decide +kernel
theorem dX3_readSides_30 : decode cX3_readSides 30 = .ok (.putfield 114, 3) := by decide +kernel
theorem dX3_readSides_33 : decode cX3_readSides 33 = .ok (.aload_n 1, 1) := by decide +kernel
theorem dX3_readSides_34 : decode cX3_readSides 34 = .ok (.getfield 114, 3) := by decide +kernel
theorem dX3_readSides_37 : decode cX3_readSides 37 = .ok (.bipush (-9), 2) := by decide +kernel
theorem dX3_readSides_39 : decode cX3_readSides 39 = .ok (.if_icmp .eq 7, 3) := by decide +kernel
theorem dX3_readSides_42 : decode cX3_readSides 42 = .ok (.iconst 1, 1) := by decide +kernel
theorem dX3_readSides_43 : decode cX3_readSides 43 = .ok (.goto 4, 3) := by decide +kernel
theorem dX3_readSides_46 : decode cX3_readSides 46 = .ok (.iconst 0, 1) := by decide +kernel
theorem dX3_readSides_47 : decode cX3_readSides 47 = .ok (.ireturn, 1) := by decide +kernel
theorem dX3_readEmpty_0 : decode cX3_readEmpty 0 = .ok (.aload_n 1, 1) := by decide +kernel
theorem dX3_readEmpty_1 : decode cX3_readEmpty 1 = .ok (.aload_n 0, 1) := by decide +kernel
theorem dX3_readEmpty_2 : decode cX3_readEmpty 2 = .ok (.iconst 0, 1) := by decide +kernel
theorem dX3_readEmpty_3 : decode cX3_readEmpty 3 = .ok (.bipush 9, 2) := by decide +kernel
theorem dX3_readEmpty_5 : decode cX3_readEmpty 5 = .ok (.invokevirtual 75, 3) := by decide +kernel
theorem dX3_readEmpty_8 : decode cX3_readEmpty 8 = .ok (.putfield 117, 3) := by decide +kernel
theorem dX3_readEmpty_11 : decode cX3_readEmpty 11 = .ok (.aload_n 1, 1) := by decide +kernel
theorem dX3_readEmpty_12 : decode cX3_readEmpty 12 = .ok (.getfield 117, 3) := by decide +kernel
theorem dX3_readEmpty_15 : decode cX3_readEmpty 15 = .ok (.bipush (-9), 2) := by decide +kernel
theorem dX3_readEmpty_17 : decode cX3_readEmpty 17 = .ok (.if_icmp .ne 5, 3) := by decide +kernel
theorem dX3_readEmpty_20 : decode cX3_readEmpty 20 = .ok (.iconst 0, 1) := by decide +kernel
theorem dX3_readEmpty_21 : decode cX3_readEmpty 21 = .ok (.ireturn, 1) := by decide +kernel
theorem dX3_readEmpty_22 : decode cX3_readEmpty 22 = .ok (.aload_n 1, 1) := by decide +kernel
theorem dX3_readEmpty_23 : decode cX3_readEmpty 23 = .ok (.aload_n 0, 1) := by decide +kernel
theorem dX3_readEmpty_24 : decode cX3_readEmpty 24 = .ok (.iconst 0, 1) := by decide +kernel
theorem dX3_readEmpty_25 : decode cX3_readEmpty 25 = .ok (.bipush 9, 2) := by decide +kernel
theorem dX3_readEmpty_27 : decode cX3_readEmpty 27 = .ok (.invokevirtual 75, 3) := by decide +kernel
theorem dX3_readEmpty_30 : decode cX3_readEmpty 30 = .ok (.putfield 120, 3) := by decide +kernel
theorem dX3_readEmpty_33 : decode cX3_readEmpty 33 = .ok (.aload_n 1, 1) := by decide +kernel
theorem dX3_readEmpty_34 : decode cX3_readEmpty 34 = .ok (.getfield 120, 3) := by decide +kernel
theorem dX3_readEmpty_37 : decode cX3_readEmpty 37 = .ok (.bipush (-9), 2) := by decide +kernel
theorem dX3_readEmpty_39 : decode cX3_readEmpty 39 = .ok (.if_icmp .ne 5, 3) := by decide +kernel
theorem dX3_readEmpty_42 : decode cX3_readEmpty 42 = .ok (.iconst 0, 1) := by decide +kernel
theorem dX3_readEmpty_43 : decode cX3_readEmpty 43 = .ok (.ireturn, 1) := by decide +kernel
theorem dX3_readEmpty_44 : decode cX3_readEmpty 44 = .ok (.aload_n 1, 1) := by decide +kernel
theorem dX3_readEmpty_45 : decode cX3_readEmpty 45 = .ok (.aload_n 0, 1) := by decide +kernel
theorem dX3_readEmpty_46 : decode cX3_readEmpty 46 = .ok (.iconst 0, 1) := by decide +kernel
theorem dX3_readEmpty_47 : decode cX3_readEmpty 47 = .ok (.bipush 9, 2) := by decide +kernel
theorem dX3_readEmpty_49 : decode cX3_readEmpty 49 = .ok (.aload_n 1, 1) := by decide +kernel
theorem dX3_readEmpty_50 : decode cX3_readEmpty 50 = .ok (.getfield 111, 3) := by decide +kernel
theorem dX3_readEmpty_53 : decode cX3_readEmpty 53 = .ok (.aload_n 1, 1) := by decide +kernel
theorem dX3_readEmpty_54 : decode cX3_readEmpty 54 = .ok (.getfield 117, 3) := by decide +kernel
theorem dX3_readEmpty_57 : decode cX3_readEmpty 57 = .ok (.isub, 1) := by decide +kernel
theorem dX3_readEmpty_58 : decode cX3_readEmpty 58 = .ok (.iconst 1, 1) := by decide +kernel
theorem dX3_readEmpty_59 : decode cX3_readEmpty 59 = .ok (.isub, 1) := by decide +kernel
theorem dX3_readEmpty_60 : decode cX3_readEmpty 60 = .ok (.invokestatic 46, 3) := by decide +kernel
theorem dX3_readEmpty_63 : decode cX3_readEmpty 63 = .ok (.invokevirtual 75, 3) := by decide +kernel
theorem dX3_readEmpty_66 : decode cX3_readEmpty 66 = .ok (.putfield 123, 3) := by decide +kernel
theorem dX3_readEmpty_69 : decode cX3_readEmpty 69 = .ok (.aload_n 1, 1) := by decide +kernel
theorem dX3_readEmpty_70 : decode cX3_readEmpty 70 = .ok (.getfield 123, 3) := by decide +kernel
theorem dX3_readEmpty_73 : decode cX3_readEmpty 73 = .ok (.bipush (-9), 2) := by decide +kernel
theorem dX3_readEmpty_75 : decode cX3_readEmpty 75 = .ok (.if_icmp .ne 5, 3) := by decide +kernel
theorem dX3_readEmpty_78 : decode cX3_readEmpty 78 = .ok (.iconst 0, 1) := by decide +kernel
theorem dX3_readEmpty_79 : decode cX3_readEmpty 79 = .ok (.ireturn, 1) := by decide +kernel
theorem dX3_readEmpty_80 : decode cX3_readEmpty 80 = .ok (.aload_n 1, 1) := by decide +kernel
theorem dX3_readEmpty_81 : decode cX3_readEmpty 81 = .ok (.aload_n 0, 1) := by decide +kernel
theorem dX3_readEmpty_82 : decode cX3_readEmpty 82 = .ok (.iconst 0, 1) := by decide +kernel
theorem dX3_readEmpty_83 : decode cX3_readEmpty 83 = .ok (.bipush 9, 2) := by decide +kernel
theorem dX3_readEmpty_85 : decode cX3_readEmpty 85 = .ok (.aload_n 1, 1) := by decide +kernel
theorem dX3_readEmpty_86 : decode cX3_readEmpty 86 = .ok (.getfield 114, 3) := by decide +kernel
theorem dX3_readEmpty_89 : decode cX3_readEmpty 89 = .ok (.aload_n 1, 1) := by decide +kernel
theorem dX3_readEmpty_90 : decode cX3_readEmpty 90 = .ok (.getfield 120, 3) := by decide +kernel
theorem dX3_readEmpty_93 : decode cX3_readEmpty 93 = .ok (.isub, 1) := by decide +kernel
theorem dX3_readEmpty_94 : decode cX3_readEmpty 94 = .ok (.iconst 1, 1) := by decide +kernel
theorem dX3_readEmpty_95 : decode cX3_readEmpty 95 = .ok (.isub, 1) := by decide +kernel
theorem dX3_readEmpty_96 : decode cX3_readEmpty 96 = .ok (.invokestatic 46, 3) := by decide +kernel
theorem dX3_readEmpty_99 : decode cX3_readEmpty 99 = .ok (.invokevirtual 75, 3) := by decide +kernel
theorem dX3_readEmpty_102 : decode cX3_readEmpty 102 = .ok (.putfield 126, 3) := by decide +kernel
theorem dX3_readEmpty_105 : decode cX3_readEmpty 105 = .ok (.aload_n 1, 1) := by decide +kernel
theorem dX3_readEmpty_106 : decode cX3_readEmpty 106 = .ok (.getfield 126, 3) := by decide +kernel
theorem dX3_readEmpty_109 : decode cX3_readEmpty 109 = .ok (.bipush (-9), 2) := by decide +kernel
theorem dX3_readEmpty_111 : decode cX3_readEmpty 111 = .ok (.if_icmp .eq 7, 3) := by decide +kernel
theorem dX3_readEmpty_114 : decode cX3_readEmpty 114 = .ok (.iconst 1, 1) := by decide +kernel
theorem dX3_readEmpty_115 : decode cX3_readEmpty 115 = .ok (.goto 4, 3) := by decide +kernel
theorem dX3_readEmpty_118 : decode cX3_readEmpty 118 = .ok (.iconst 0, 1) := by decide +kernel
theorem dX3_readEmpty_119 : decode cX3_readEmpty 119 = .ok (.ireturn, 1) := by decide +kernel
theorem dX3_takeNumber_0 : decode cX3_takeNumber 0 = .ok (.aload_n 0, 1) := by decide +kernel
theorem dX3_takeNumber_1 : decode cX3_takeNumber 1 = .ok (.getfield 26, 3) := by decide +kernel
theorem dX3_takeNumber_4 : decode cX3_takeNumber 4 = .ok (.iconst 2, 1) := by decide +kernel
theorem dX3_takeNumber_5 : decode cX3_takeNumber 5 = .ok (.if_icmp .ne 19, 3) := by decide +kernel
theorem dX3_takeNumber_8 : decode cX3_takeNumber 8 = .ok (.aload_n 0, 1) := by decide +kernel
theorem dX3_takeNumber_9 : decode cX3_takeNumber 9 = .ok (.getfield 35, 3) := by decide +kernel
theorem dX3_takeNumber_12 : decode cX3_takeNumber 12 = .ok (.iload_n 1, 1) := by decide +kernel
theorem dX3_takeNumber_13 : decode cX3_takeNumber 13 = .ok (.if_icmp .lt 11, 3) := by decide +kernel
theorem dX3_takeNumber_16 : decode cX3_takeNumber 16 = .ok (.aload_n 0, 1) := by decide +kernel
theorem dX3_takeNumber_17 : decode cX3_takeNumber 17 = .ok (.getfield 35, 3) := by decide +kernel
theorem dX3_takeNumber_20 : decode cX3_takeNumber 20 = .ok (.iload_n 2, 1) := by decide +kernel
theorem dX3_takeNumber_21 : decode cX3_takeNumber 21 = .ok (.if_icmp .le 6, 3) := by decide +kernel
theorem dX3_takeNumber_24 : decode cX3_takeNumber 24 = .ok (.bipush (-9), 2) := by decide +kernel
theorem dX3_takeNumber_26 : decode cX3_takeNumber 26 = .ok (.ireturn, 1) := by decide +kernel
theorem dX3_takeNumber_27 : decode cX3_takeNumber 27 = .ok (.aload_n 0, 1) := by decide +kernel
theorem dX3_takeNumber_28 : decode cX3_takeNumber 28 = .ok (.getfield 35, 3) := by decide +kernel
theorem dX3_takeNumber_31 : decode cX3_takeNumber 31 = .ok (.istore_n 3, 1) := by decide +kernel
theorem dX3_takeNumber_32 : decode cX3_takeNumber 32 = .ok (.aload_n 0, 1) := by decide +kernel
theorem dX3_takeNumber_33 : decode cX3_takeNumber 33 = .ok (.invokevirtual 56, 3) := by decide +kernel
theorem dX3_takeNumber_36 : decode cX3_takeNumber 36 = .ok (.iload_n 3, 1) := by decide +kernel
theorem dX3_takeNumber_37 : decode cX3_takeNumber 37 = .ok (.ireturn, 1) := by decide +kernel
theorem dX3_takeStop_0 : decode cX3_takeStop 0 = .ok (.aload_n 0, 1) := by decide +kernel
theorem dX3_takeStop_1 : decode cX3_takeStop 1 = .ok (.getfield 26, 3) := by decide +kernel
theorem dX3_takeStop_4 : decode cX3_takeStop 4 = .ok (.iconst 3, 1) := by decide +kernel
theorem dX3_takeStop_5 : decode cX3_takeStop 5 = .ok (.if_icmp .eq 5, 3) := by decide +kernel
theorem dX3_takeStop_8 : decode cX3_takeStop 8 = .ok (.iconst 0, 1) := by decide +kernel
theorem dX3_takeStop_9 : decode cX3_takeStop 9 = .ok (.ireturn, 1) := by decide +kernel
theorem dX3_takeStop_10 : decode cX3_takeStop 10 = .ok (.aload_n 0, 1) := by decide +kernel
theorem dX3_takeStop_11 : decode cX3_takeStop 11 = .ok (.invokevirtual 56, 3) := by decide +kernel
theorem dX3_takeStop_14 : decode cX3_takeStop 14 = .ok (.iconst 1, 1) := by decide +kernel
theorem dX3_takeStop_15 : decode cX3_takeStop 15 = .ok (.ireturn, 1) := by decide +kernel
theorem dX3_kindAtHand_0 : decode cX3_kindAtHand 0 = .ok (.iconst 0, 1) := by decide +kernel
theorem dX3_kindAtHand_1 : decode cX3_kindAtHand 1 = .ok (.istore_n 1, 1) := by decide +kernel
theorem dX3_kindAtHand_2 : decode cX3_kindAtHand 2 = .ok (.iload_n 1, 1) := by decide +kernel
theorem dX3_kindAtHand_3 : decode cX3_kindAtHand 3 = .ok (.iconst 4, 1) := by decide +kernel
theorem dX3_kindAtHand_4 : decode cX3_kindAtHand 4 = .ok (.if_icmp .ge 22, 3) := by decide +kernel
theorem dX3_kindAtHand_7 : decode cX3_kindAtHand 7 = .ok (.aload_n 0, 1) := by decide +kernel
theorem dX3_kindAtHand_8 : decode cX3_kindAtHand 8 = .ok (.iload_n 1, 1) := by decide +kernel
theorem dX3_kindAtHand_9 : decode cX3_kindAtHand 9 = .ok (.invokestatic 129, 3) := by decide +kernel
theorem dX3_kindAtHand_12 : decode cX3_kindAtHand 12 = .ok (.invokevirtual 71, 3) := by decide +kernel
theorem dX3_kindAtHand_15 : decode cX3_kindAtHand 15 = .ok (.ifCond .eq 5, 3) := by decide +kernel
theorem dX3_kindAtHand_18 : decode cX3_kindAtHand 18 = .ok (.iload_n 1, 1) := by decide +kernel
theorem dX3_kindAtHand_19 : decode cX3_kindAtHand 19 = .ok (.ireturn, 1) := by decide +kernel
theorem dX3_kindAtHand_20 : decode cX3_kindAtHand 20 = .ok (.iinc 1 1, 3) := by decide +kernel
theorem dX3_kindAtHand_23 : decode cX3_kindAtHand 23 = .ok (.goto (-21), 3) := by decide +kernel
theorem dX3_kindAtHand_26 : decode cX3_kindAtHand 26 = .ok (.bipush (-9), 2) := by decide +kernel
theorem dX3_kindAtHand_28 : decode cX3_kindAtHand 28 = .ok (.ireturn, 1) := by decide +kernel
theorem dX3_isAtWord_0 : decode cX3_isAtWord 0 = .ok (.aload_n 0, 1) := by decide +kernel
theorem dX3_isAtWord_1 : decode cX3_isAtWord 1 = .ok (.getfield 26, 3) := by decide +kernel
theorem dX3_isAtWord_4 : decode cX3_isAtWord 4 = .ok (.iconst 1, 1) := by decide +kernel
theorem dX3_isAtWord_5 : decode cX3_isAtWord 5 = .ok (.if_icmp .ne 19, 3) := by decide +kernel
theorem dX3_isAtWord_8 : decode cX3_isAtWord 8 = .ok (.aload_n 0, 1) := by decide +kernel
theorem dX3_isAtWord_9 : decode cX3_isAtWord 9 = .ok (.getfield 32, 3) := by decide +kernel
theorem dX3_isAtWord_12 : decode cX3_isAtWord 12 = .ok (.aload_n 0, 1) := by decide +kernel
theorem dX3_isAtWord_13 : decode cX3_isAtWord 13 = .ok (.getfield 29, 3) := by decide +kernel
theorem dX3_isAtWord_16 : decode cX3_isAtWord 16 = .ok (.isub, 1) := by decide +kernel
theorem dX3_isAtWord_17 : decode cX3_isAtWord 17 = .ok (.aload_n 1, 1) := by decide +kernel
theorem dX3_isAtWord_18 : decode cX3_isAtWord 18 = .ok (.invokevirtual 133, 3) := by decide +kernel
theorem dX3_isAtWord_21 : decode cX3_isAtWord 21 = .ok (.if_icmp .eq 5, 3) := by decide +kernel
theorem dX3_isAtWord_24 : decode cX3_isAtWord 24 = .ok (.iconst 0, 1) := by decide +kernel
theorem dX3_isAtWord_25 : decode cX3_isAtWord 25 = .ok (.ireturn, 1) := by decide +kernel
theorem dX3_isAtWord_26 : decode cX3_isAtWord 26 = .ok (.aload_n 0, 1) := by decide +kernel
theorem dX3_isAtWord_27 : decode cX3_isAtWord 27 = .ok (.getfield 29, 3) := by decide +kernel
theorem dX3_isAtWord_30 : decode cX3_isAtWord 30 = .ok (.istore_n 2, 1) := by decide +kernel
theorem dX3_isAtWord_31 : decode cX3_isAtWord 31 = .ok (.iload_n 2, 1) := by decide +kernel
theorem dX3_isAtWord_32 : decode cX3_isAtWord 32 = .ok (.aload_n 0, 1) := by decide +kernel
theorem dX3_isAtWord_33 : decode cX3_isAtWord 33 = .ok (.getfield 32, 3) := by decide +kernel
theorem dX3_isAtWord_36 : decode cX3_isAtWord 36 = .ok (.if_icmp .ge 30, 3) := by decide +kernel
theorem dX3_isAtWord_39 : decode cX3_isAtWord 39 = .ok (.aload_n 0, 1) := by decide +kernel
theorem dX3_isAtWord_40 : decode cX3_isAtWord 40 = .ok (.getfield 18, 3) := by decide +kernel
theorem dX3_isAtWord_43 : decode cX3_isAtWord 43 = .ok (.iload_n 2, 1) := by decide +kernel
theorem dX3_isAtWord_44 : decode cX3_isAtWord 44 = .ok (.baload, 1) := by decide +kernel
theorem dX3_isAtWord_45 : decode cX3_isAtWord 45 = .ok (.aload_n 1, 1) := by decide +kernel
theorem dX3_isAtWord_46 : decode cX3_isAtWord 46 = .ok (.iload_n 2, 1) := by decide +kernel
theorem dX3_isAtWord_47 : decode cX3_isAtWord 47 = .ok (.aload_n 0, 1) := by decide +kernel
theorem dX3_isAtWord_48 : decode cX3_isAtWord 48 = .ok (.getfield 29, 3) := by decide +kernel
theorem dX3_isAtWord_51 : decode cX3_isAtWord 51 = .ok (.isub, 1) := by decide +kernel
theorem dX3_isAtWord_52 : decode cX3_isAtWord 52 = .ok (.invokevirtual 138, 3) := by decide +kernel
theorem dX3_isAtWord_55 : decode cX3_isAtWord 55 = .ok (.if_icmp .eq 5, 3) := by decide +kernel
theorem dX3_isAtWord_58 : decode cX3_isAtWord 58 = .ok (.iconst 0, 1) := by decide +kernel
theorem dX3_isAtWord_59 : decode cX3_isAtWord 59 = .ok (.ireturn, 1) := by decide +kernel
theorem dX3_isAtWord_60 : decode cX3_isAtWord 60 = .ok (.iinc 2 1, 3) := by decide +kernel
theorem dX3_isAtWord_63 : decode cX3_isAtWord 63 = .ok (.goto (-32), 3) := by decide +kernel
theorem dX3_isAtWord_66 : decode cX3_isAtWord 66 = .ok (.iconst 1, 1) := by decide +kernel
theorem dX3_isAtWord_67 : decode cX3_isAtWord 67 = .ok (.ireturn, 1) := by decide +kernel
theorem dX3_advance_0 : decode cX3_advance 0 = .ok (.aload_n 0, 1) := by decide +kernel
theorem dX3_advance_1 : decode cX3_advance 1 = .ok (.getfield 32, 3) := by decide +kernel
theorem dX3_advance_4 : decode cX3_advance 4 = .ok (.istore_n 1, 1) := by decide +kernel
theorem dX3_advance_5 : decode cX3_advance 5 = .ok (.iload_n 1, 1) := by decide +kernel
theorem dX3_advance_6 : decode cX3_advance 6 = .ok (.aload_n 0, 1) := by decide +kernel
theorem dX3_advance_7 : decode cX3_advance 7 = .ok (.getfield 22, 3) := by decide +kernel
theorem dX3_advance_10 : decode cX3_advance 10 = .ok (.if_icmp .ge 20, 3) := by decide +kernel
theorem dX3_advance_13 : decode cX3_advance 13 = .ok (.aload_n 0, 1) := by decide +kernel
theorem dX3_advance_14 : decode cX3_advance 14 = .ok (.getfield 18, 3) := by decide +kernel
theorem dX3_advance_17 : decode cX3_advance 17 = .ok (.iload_n 1, 1) := by decide +kernel
theorem dX3_advance_18 : decode cX3_advance 18 = .ok (.baload, 1) := by decide +kernel
theorem dX3_advance_19 : decode cX3_advance 19 = .ok (.bipush 32, 2) := by decide +kernel
theorem dX3_advance_21 : decode cX3_advance 21 = .ok (.if_icmp .ne 9, 3) := by decide +kernel
theorem dX3_advance_24 : decode cX3_advance 24 = .ok (.iinc 1 1, 3) := by decide +kernel
theorem dX3_advance_27 : decode cX3_advance 27 = .ok (.goto (-22), 3) := by decide +kernel
theorem dX3_advance_30 : decode cX3_advance 30 = .ok (.aload_n 0, 1) := by decide +kernel
theorem dX3_advance_31 : decode cX3_advance 31 = .ok (.iload_n 1, 1) := by decide +kernel
theorem dX3_advance_32 : decode cX3_advance 32 = .ok (.putfield 29, 3) := by decide +kernel
theorem dX3_advance_35 : decode cX3_advance 35 = .ok (.iload_n 1, 1) := by decide +kernel
theorem dX3_advance_36 : decode cX3_advance 36 = .ok (.aload_n 0, 1) := by decide +kernel
theorem dX3_advance_37 : decode cX3_advance 37 = .ok (.getfield 22, 3) := by decide +kernel
theorem dX3_advance_40 : decode cX3_advance 40 = .ok (.if_icmp .lt 11, 3) := by decide +kernel
theorem dX3_advance_43 : decode cX3_advance 43 = .ok (.aload_n 0, 1) := by decide +kernel
theorem dX3_advance_44 : decode cX3_advance 44 = .ok (.iconst 0, 1) := by decide +kernel
theorem dX3_advance_45 : decode cX3_advance 45 = .ok (.putfield 26, 3) := by decide +kernel
theorem dX3_advance_48 : decode cX3_advance 48 = .ok (.goto 144, 3) := by decide +kernel
theorem dX3_advance_51 : decode cX3_advance 51 = .ok (.aload_n 0, 1) := by decide +kernel
theorem dX3_advance_52 : decode cX3_advance 52 = .ok (.getfield 18, 3) := by decide +kernel
theorem dX3_advance_55 : decode cX3_advance 55 = .ok (.iload_n 1, 1) := by decide +kernel
theorem dX3_advance_56 : decode cX3_advance 56 = .ok (.baload, 1) := by decide +kernel
theorem dX3_advance_57 : decode cX3_advance 57 = .ok (.invokestatic 142, 3) := by decide +kernel
theorem dX3_advance_60 : decode cX3_advance 60 = .ok (.ifCond .eq 34, 3) := by decide +kernel
theorem dX3_advance_63 : decode cX3_advance 63 = .ok (.aload_n 0, 1) := by decide +kernel
theorem dX3_advance_64 : decode cX3_advance 64 = .ok (.iconst 1, 1) := by decide +kernel
theorem dX3_advance_65 : decode cX3_advance 65 = .ok (.putfield 26, 3) := by decide +kernel
theorem dX3_advance_68 : decode cX3_advance 68 = .ok (.iload_n 1, 1) := by decide +kernel
theorem dX3_advance_69 : decode cX3_advance 69 = .ok (.aload_n 0, 1) := by decide +kernel
theorem dX3_advance_70 : decode cX3_advance 70 = .ok (.getfield 22, 3) := by decide +kernel
theorem dX3_advance_73 : decode cX3_advance 73 = .ok (.if_icmp .ge 119, 3) := by decide +kernel
theorem dX3_advance_76 : decode cX3_advance 76 = .ok (.aload_n 0, 1) := by decide +kernel
theorem dX3_advance_77 : decode cX3_advance 77 = .ok (.getfield 18, 3) := by decide +kernel
theorem dX3_advance_80 : decode cX3_advance 80 = .ok (.iload_n 1, 1) := by decide +kernel
theorem dX3_advance_81 : decode cX3_advance 81 = .ok (.baload, 1) := by decide +kernel
theorem dX3_advance_82 : decode cX3_advance 82 = .ok (.invokestatic 142, 3) := by decide +kernel
theorem dX3_advance_85 : decode cX3_advance 85 = .ok (.ifCond .eq 107, 3) := by decide +kernel
theorem dX3_advance_88 : decode cX3_advance 88 = .ok (.iinc 1 1, 3) := by decide +kernel
theorem dX3_advance_91 : decode cX3_advance 91 = .ok (.goto (-23), 3) := by decide +kernel
theorem dX3_advance_94 : decode cX3_advance 94 = .ok (.aload_n 0, 1) := by decide +kernel
theorem dX3_advance_95 : decode cX3_advance 95 = .ok (.getfield 18, 3) := by decide +kernel
theorem dX3_advance_98 : decode cX3_advance 98 = .ok (.iload_n 1, 1) := by decide +kernel
theorem dX3_advance_99 : decode cX3_advance 99 = .ok (.baload, 1) := by decide +kernel
theorem dX3_advance_100 : decode cX3_advance 100 = .ok (.invokestatic 146, 3) := by decide +kernel
theorem dX3_advance_103 : decode cX3_advance 103 = .ok (.ifCond .eq 66, 3) := by decide +kernel
theorem dX3_advance_106 : decode cX3_advance 106 = .ok (.aload_n 0, 1) := by decide +kernel
theorem dX3_advance_107 : decode cX3_advance 107 = .ok (.iconst 2, 1) := by decide +kernel
theorem dX3_advance_108 : decode cX3_advance 108 = .ok (.putfield 26, 3) := by decide +kernel
theorem dX3_advance_111 : decode cX3_advance 111 = .ok (.aload_n 0, 1) := by decide +kernel
theorem dX3_advance_112 : decode cX3_advance 112 = .ok (.iconst 0, 1) := by decide +kernel
theorem dX3_advance_113 : decode cX3_advance 113 = .ok (.putfield 35, 3) := by decide +kernel
theorem dX3_advance_116 : decode cX3_advance 116 = .ok (.iload_n 1, 1) := by decide +kernel
theorem dX3_advance_117 : decode cX3_advance 117 = .ok (.aload_n 0, 1) := by decide +kernel
theorem dX3_advance_118 : decode cX3_advance 118 = .ok (.getfield 22, 3) := by decide +kernel
theorem dX3_advance_121 : decode cX3_advance 121 = .ok (.if_icmp .ge 71, 3) := by decide +kernel
theorem dX3_advance_124 : decode cX3_advance 124 = .ok (.aload_n 0, 1) := by decide +kernel
theorem dX3_advance_125 : decode cX3_advance 125 = .ok (.getfield 18, 3) := by decide +kernel
theorem dX3_advance_128 : decode cX3_advance 128 = .ok (.iload_n 1, 1) := by decide +kernel
theorem dX3_advance_129 : decode cX3_advance 129 = .ok (.baload, 1) := by decide +kernel
theorem dX3_advance_130 : decode cX3_advance 130 = .ok (.invokestatic 146, 3) := by decide +kernel
theorem dX3_advance_133 : decode cX3_advance 133 = .ok (.ifCond .eq 59, 3) := by decide +kernel
theorem dX3_advance_136 : decode cX3_advance 136 = .ok (.aload_n 0, 1) := by decide +kernel
theorem dX3_advance_137 : decode cX3_advance 137 = .ok (.sipush 1000, 3) := by decide +kernel
theorem dX3_advance_140 : decode cX3_advance 140 = .ok (.bipush 10, 2) := by decide +kernel
theorem dX3_advance_142 : decode cX3_advance 142 = .ok (.aload_n 0, 1) := by decide +kernel
theorem dX3_advance_143 : decode cX3_advance 143 = .ok (.getfield 35, 3) := by decide +kernel
theorem dX3_advance_146 : decode cX3_advance 146 = .ok (.imul, 1) := by decide +kernel
theorem dX3_advance_147 : decode cX3_advance 147 = .ok (.aload_n 0, 1) := by decide +kernel
theorem dX3_advance_148 : decode cX3_advance 148 = .ok (.getfield 18, 3) := by decide +kernel
theorem dX3_advance_151 : decode cX3_advance 151 = .ok (.iload_n 1, 1) := by decide +kernel
theorem dX3_advance_152 : decode cX3_advance 152 = .ok (.baload, 1) := by decide +kernel
theorem dX3_advance_153 : decode cX3_advance 153 = .ok (.iadd, 1) := by decide +kernel
theorem dX3_advance_154 : decode cX3_advance 154 = .ok (.bipush 48, 2) := by decide +kernel
theorem dX3_advance_156 : decode cX3_advance 156 = .ok (.isub, 1) := by decide +kernel
theorem dX3_advance_157 : decode cX3_advance 157 = .ok (.invokestatic 46, 3) := by decide +kernel
theorem dX3_advance_160 : decode cX3_advance 160 = .ok (.putfield 35, 3) := by decide +kernel
theorem dX3_advance_163 : decode cX3_advance 163 = .ok (.iinc 1 1, 3) := by decide +kernel
theorem dX3_advance_166 : decode cX3_advance 166 = .ok (.goto (-50), 3) := by decide +kernel
theorem dX3_advance_169 : decode cX3_advance 169 = .ok (.aload_n 0, 1) := by decide +kernel
theorem dX3_advance_170 : decode cX3_advance 170 = .ok (.aload_n 0, 1) := by decide +kernel
theorem dX3_advance_171 : decode cX3_advance 171 = .ok (.getfield 18, 3) := by decide +kernel
theorem dX3_advance_174 : decode cX3_advance 174 = .ok (.iload_n 1, 1) := by decide +kernel
theorem dX3_advance_175 : decode cX3_advance 175 = .ok (.baload, 1) := by decide +kernel
theorem dX3_advance_176 : decode cX3_advance 176 = .ok (.bipush 59, 2) := by decide +kernel
theorem dX3_advance_178 : decode cX3_advance 178 = .ok (.if_icmp .ne 7, 3) := by decide +kernel
theorem dX3_advance_181 : decode cX3_advance 181 = .ok (.iconst 3, 1) := by decide +kernel
theorem dX3_advance_182 : decode cX3_advance 182 = .ok (.goto 4, 3) := by decide +kernel
theorem dX3_advance_185 : decode cX3_advance 185 = .ok (.iconst 4, 1) := by decide +kernel
theorem dX3_advance_186 : decode cX3_advance 186 = .ok (.putfield 26, 3) := by decide +kernel
theorem dX3_advance_189 : decode cX3_advance 189 = .ok (.iinc 1 1, 3) := by decide +kernel
theorem dX3_advance_192 : decode cX3_advance 192 = .ok (.aload_n 0, 1) := by decide +kernel
theorem dX3_advance_193 : decode cX3_advance 193 = .ok (.iload_n 1, 1) := by decide +kernel
theorem dX3_advance_194 : decode cX3_advance 194 = .ok (.putfield 32, 3) := by decide +kernel
theorem dX3_advance_197 : decode cX3_advance 197 = .ok (.return_, 1) := by decide +kernel
theorem dX3_isLetter_0 : decode cX3_isLetter 0 = .ok (.iload_n 0, 1) := by decide +kernel
theorem dX3_isLetter_1 : decode cX3_isLetter 1 = .ok (.bipush 97, 2) := by decide +kernel
theorem dX3_isLetter_3 : decode cX3_isLetter 3 = .ok (.if_icmp .lt 13, 3) := by decide +kernel
theorem dX3_isLetter_6 : decode cX3_isLetter 6 = .ok (.iload_n 0, 1) := by decide +kernel
theorem dX3_isLetter_7 : decode cX3_isLetter 7 = .ok (.bipush 122, 2) := by decide +kernel
theorem dX3_isLetter_9 : decode cX3_isLetter 9 = .ok (.if_icmp .gt 7, 3) := by decide +kernel
theorem dX3_isLetter_12 : decode cX3_isLetter 12 = .ok (.iconst 1, 1) := by decide +kernel
theorem dX3_isLetter_13 : decode cX3_isLetter 13 = .ok (.goto 4, 3) := by decide +kernel
theorem dX3_isLetter_16 : decode cX3_isLetter 16 = .ok (.iconst 0, 1) := by decide +kernel
theorem dX3_isLetter_17 : decode cX3_isLetter 17 = .ok (.ireturn, 1) := by decide +kernel
theorem dX3_isFigure_0 : decode cX3_isFigure 0 = .ok (.iload_n 0, 1) := by decide +kernel
theorem dX3_isFigure_1 : decode cX3_isFigure 1 = .ok (.bipush 48, 2) := by decide +kernel
theorem dX3_isFigure_3 : decode cX3_isFigure 3 = .ok (.if_icmp .lt 13, 3) := by decide +kernel
theorem dX3_isFigure_6 : decode cX3_isFigure 6 = .ok (.iload_n 0, 1) := by decide +kernel
theorem dX3_isFigure_7 : decode cX3_isFigure 7 = .ok (.bipush 57, 2) := by decide +kernel
theorem dX3_isFigure_9 : decode cX3_isFigure 9 = .ok (.if_icmp .gt 7, 3) := by decide +kernel
theorem dX3_isFigure_12 : decode cX3_isFigure 12 = .ok (.iconst 1, 1) := by decide +kernel
theorem dX3_isFigure_13 : decode cX3_isFigure 13 = .ok (.goto 4, 3) := by decide +kernel
theorem dX3_isFigure_16 : decode cX3_isFigure 16 = .ok (.iconst 0, 1) := by decide +kernel
theorem dX3_isFigure_17 : decode cX3_isFigure 17 = .ok (.ireturn, 1) := by decide +kernel
theorem dX4_init_0 : decode cX4_init 0 = .ok (.aload_n 0, 1) := by decide +kernel
theorem dX4_init_1 : decode cX4_init 1 = .ok (.invokespecial 3, 3) := by decide +kernel
theorem dX4_init_4 : decode cX4_init 4 = .ok (.aload_n 0, 1) := by decide +kernel
theorem dX4_init_5 : decode cX4_init 5 = .ok (.bipush 16, 2) := by decide +kernel
theorem dX4_init_7 : decode cX4_init 7 = .ok (.newarray .int, 2) := by decide +kernel
theorem dX4_init_9 : decode cX4_init 9 = .ok (.putfield 9, 3) := by decide +kernel
theorem dX4_init_12 : decode cX4_init 12 = .ok (.aload_n 0, 1) := by decide +kernel
theorem dX4_init_13 : decode cX4_init 13 = .ok (.sipush 729, 3) := by decide +kernel
theorem dX4_init_16 : decode cX4_init 16 = .ok (.newarray .int, 2) := by decide +kernel
theorem dX4_init_18 : decode cX4_init 18 = .ok (.putfield 15, 3) := by decide +kernel
theorem dX4_init_21 : decode cX4_init 21 = .ok (.aload_n 0, 1) := by decide +kernel
theorem dX4_init_22 : decode cX4_init 22 = .ok (.iconst 0, 1) := by decide +kernel
theorem dX4_init_23 : decode cX4_init 23 = .ok (.putfield 18, 3) := by decide +kernel
theorem dX4_init_26 : decode cX4_init 26 = .ok (.aload_n 0, 1) := by decide +kernel
theorem dX4_init_27 : decode cX4_init 27 = .ok (.iconst 0, 1) := by decide +kernel
theorem dX4_init_28 : decode cX4_init 28 = .ok (.putfield 22, 3) := by decide +kernel
theorem dX4_init_31 : decode cX4_init 31 = .ok (.aload_n 0, 1) := by decide +kernel
theorem dX4_init_32 : decode cX4_init 32 = .ok (.iconst 0, 1) := by decide +kernel
theorem dX4_init_33 : decode cX4_init 33 = .ok (.putfield 25, 3) := by decide +kernel
theorem dX4_init_36 : decode cX4_init 36 = .ok (.return_, 1) := by decide +kernel
theorem dX4_look_0 : decode cX4_look 0 = .ok (.aload_n 0, 1) := by decide +kernel
theorem dX4_look_1 : decode cX4_look 1 = .ok (.aload_n 1, 1) := by decide +kernel
theorem dX4_look_2 : decode cX4_look 2 = .ok (.getfield 28, 3) := by decide +kernel
theorem dX4_look_5 : decode cX4_look 5 = .ok (.bipush 16, 2) := by decide +kernel
theorem dX4_look_7 : decode cX4_look 7 = .ok (.invokestatic 31, 3) := by decide +kernel
theorem dX4_look_10 : decode cX4_look 10 = .ok (.putfield 18, 3) := by decide +kernel
theorem dX4_look_13 : decode cX4_look 13 = .ok (.aload_n 0, 1) := by decide +kernel
theorem dX4_look_14 : decode cX4_look 14 = .ok (.aload_n 1, 1) := by decide +kernel
theorem dX4_look_15 : decode cX4_look 15 = .ok (.getfield 37, 3) := by decide +kernel
theorem dX4_look_18 : decode cX4_look 18 = .ok (.bipush 16, 2) := by decide +kernel
theorem dX4_look_20 : decode cX4_look 20 = .ok (.invokestatic 31, 3) := by decide +kernel
theorem dX4_look_23 : decode cX4_look 23 = .ok (.putfield 22, 3) := by decide +kernel
theorem dX4_look_26 : decode cX4_look 26 = .ok (.iconst 0, 1) := by decide +kernel
theorem dX4_look_27 : decode cX4_look 27 = .ok (.istore 4, 2) := by decide +kernel
theorem dX4_look_29 : decode cX4_look 29 = .ok (.iload 4, 2) := by decide +kernel
theorem dX4_look_31 : decode cX4_look 31 = .ok (.aload_n 0, 1) := by decide +kernel
theorem dX4_look_32 : decode cX4_look 32 = .ok (.getfield 22, 3) := by decide +kernel
theorem dX4_look_35 : decode cX4_look 35 = .ok (.if_icmp .ge 17, 3) := by decide +kernel
theorem dX4_look_38 : decode cX4_look 38 = .ok (.aload_n 0, 1) := by decide +kernel
theorem dX4_look_39 : decode cX4_look 39 = .ok (.getfield 9, 3) := by decide +kernel
theorem dX4_look_42 : decode cX4_look 42 = .ok (.iload 4, 2) := by decide +kernel
theorem dX4_look_44 : decode cX4_look 44 = .ok (.iconst 0, 1) := by decide +kernel
theorem dX4_look_45 : decode cX4_look 45 = .ok (.iastore, 1) := by decide +kernel
theorem dX4_look_46 : decode cX4_look 46 = .ok (.iinc 4 1, 3) := by decide +kernel
theorem dX4_look_49 : decode cX4_look 49 = .ok (.goto (-20), 3) := by decide +kernel
theorem dX4_look_52 : decode cX4_look 52 = .ok (.iconst 0, 1) := by decide +kernel
theorem dX4_look_53 : decode cX4_look 53 = .ok (.istore 4, 2) := by decide +kernel
theorem dX4_look_55 : decode cX4_look 55 = .ok (.iload 4, 2) := by decide +kernel
theorem dX4_look_57 : decode cX4_look 57 = .ok (.aload_n 1, 1) := by decide +kernel
theorem dX4_look_58 : decode cX4_look 58 = .ok (.getfield 38, 3) := by decide +kernel
theorem dX4_look_61 : decode cX4_look 61 = .ok (.if_icmp .ge 42, 3) := by decide +kernel
theorem dX4_look_64 : decode cX4_look 64 = .ok (.aload_n 2, 1) := by decide +kernel
theorem dX4_look_65 : decode cX4_look 65 = .ok (.iload 4, 2) := by decide +kernel
theorem dX4_look_67 : decode cX4_look 67 = .ok (.invokevirtual 39, 3) := by decide +kernel
theorem dX4_look_70 : decode cX4_look 70 = .ok (.ifCond .eq 27, 3) := by decide +kernel
theorem dX4_look_73 : decode cX4_look 73 = .ok (.aload_n 2, 1) := by decide +kernel
theorem dX4_look_74 : decode cX4_look 74 = .ok (.iload 4, 2) := by decide +kernel
theorem dX4_look_76 : decode cX4_look 76 = .ok (.invokevirtual 45, 3) := by decide +kernel
theorem dX4_look_79 : decode cX4_look 79 = .ok (.iload_n 3, 1) := by decide +kernel
theorem dX4_look_80 : decode cX4_look 80 = .ok (.if_icmp .ne 17, 3) := by decide +kernel
theorem dX4_look_83 : decode cX4_look 83 = .ok (.aload_n 0, 1) := by decide +kernel
theorem dX4_look_84 : decode cX4_look 84 = .ok (.aload_n 1, 1) := by decide +kernel
theorem dX4_look_85 : decode cX4_look 85 = .ok (.getfield 49, 3) := by decide +kernel
theorem dX4_look_88 : decode cX4_look 88 = .ok (.iload 4, 2) := by decide +kernel
theorem dX4_look_90 : decode cX4_look 90 = .ok (.aaload, 1) := by decide +kernel
theorem dX4_look_91 : decode cX4_look 91 = .ok (.aload_n 2, 1) := by decide +kernel
theorem dX4_look_92 : decode cX4_look 92 = .ok (.iload 4, 2) := by decide +kernel
theorem dX4_look_94 : decode cX4_look 94 = .ok (.invokevirtual 53, 3) := by decide +kernel
theorem dX4_look_97 : decode cX4_look 97 = .ok (.iinc 4 1, 3) := by decide +kernel
theorem dX4_look_100 : decode cX4_look 100 = .ok (.goto (-45), 3) := by decide +kernel
theorem dX4_look_103 : decode cX4_look 103 = .ok (.aload_n 0, 1) := by decide +kernel
theorem dX4_look_104 : decode cX4_look 104 = .ok (.invokevirtual 57, 3) := by decide +kernel
theorem dX4_look_107 : decode cX4_look 107 = .ok (.return_, 1) := by decide +kernel
theorem dX4_cover_0 : decode cX4_cover 0 = .ok (.aload_n 2, 1) := by decide +kernel
theorem dX4_cover_1 : decode cX4_cover 1 = .ok (.iload_n 3, 1) := by decide +kernel
theorem dX4_cover_2 : decode cX4_cover 2 = .ok (.invokevirtual 60, 3) := by decide +kernel
theorem dX4_cover_5 : decode cX4_cover 5 = .ok (.istore 4, 2) := by decide +kernel
theorem dX4_cover_7 : decode cX4_cover 7 = .ok (.aload_n 2, 1) := by decide +kernel
theorem dX4_cover_8 : decode cX4_cover 8 = .ok (.iload_n 3, 1) := by decide +kernel
theorem dX4_cover_9 : decode cX4_cover 9 = .ok (.invokevirtual 63, 3) := by decide +kernel
theorem dX4_cover_12 : decode cX4_cover 12 = .ok (.aload_n 1, 1) := by decide +kernel
theorem dX4_cover_13 : decode cX4_cover 13 = .ok (.iload 4, 2) := by decide +kernel
theorem dX4_cover_15 : decode cX4_cover 15 = .ok (.invokevirtual 66, 3) := by decide +kernel
theorem dX4_cover_18 : decode cX4_cover 18 = .ok (.invokestatic 72, 3) := by decide +kernel
theorem dX4_cover_21 : decode cX4_cover 21 = .ok (.istore 5, 2) := by decide +kernel
theorem dX4_cover_23 : decode cX4_cover 23 = .ok (.aload_n 2, 1) := by decide +kernel
theorem dX4_cover_24 : decode cX4_cover 24 = .ok (.iload_n 3, 1) := by decide +kernel
theorem dX4_cover_25 : decode cX4_cover 25 = .ok (.invokevirtual 75, 3) := by decide +kernel
theorem dX4_cover_28 : decode cX4_cover 28 = .ok (.istore 6, 2) := by decide +kernel
theorem dX4_cover_30 : decode cX4_cover 30 = .ok (.aload_n 0, 1) := by decide +kernel
theorem dX4_cover_31 : decode cX4_cover 31 = .ok (.getfield 22, 3) := by decide +kernel
theorem dX4_cover_34 : decode cX4_cover 34 = .ok (.iload 6, 2) := by decide +kernel
theorem dX4_cover_36 : decode cX4_cover 36 = .ok (.aload_n 1, 1) := by decide +kernel
theorem dX4_cover_37 : decode cX4_cover 37 = .ok (.iload 4, 2) := by decide +kernel
theorem dX4_cover_39 : decode cX4_cover 39 = .ok (.invokevirtual 78, 3) := by decide +kernel
theorem dX4_cover_42 : decode cX4_cover 42 = .ok (.iadd, 1) := by decide +kernel
theorem dX4_cover_43 : decode cX4_cover 43 = .ok (.invokestatic 31, 3) := by decide +kernel
theorem dX4_cover_46 : decode cX4_cover 46 = .ok (.istore 7, 2) := by decide +kernel
theorem dX4_cover_48 : decode cX4_cover 48 = .ok (.iload 6, 2) := by decide +kernel
theorem dX4_cover_50 : decode cX4_cover 50 = .ok (.istore 8, 2) := by decide +kernel
theorem dX4_cover_52 : decode cX4_cover 52 = .ok (.iload 8, 2) := by decide +kernel
theorem dX4_cover_54 : decode cX4_cover 54 = .ok (.iload 7, 2) := by decide +kernel
theorem dX4_cover_56 : decode cX4_cover 56 = .ok (.if_icmp .ge 21, 3) := by decide +kernel
theorem dX4_cover_59 : decode cX4_cover 59 = .ok (.aload_n 0, 1) := by decide +kernel
theorem dX4_cover_60 : decode cX4_cover 60 = .ok (.getfield 9, 3) := by decide +kernel
theorem dX4_cover_63 : decode cX4_cover 63 = .ok (.iload 8, 2) := by decide +kernel
theorem dX4_cover_65 : decode cX4_cover 65 = .ok (.dup2, 1) := by decide +kernel
theorem dX4_cover_66 : decode cX4_cover 66 = .ok (.iaload, 1) := by decide +kernel
theorem dX4_cover_67 : decode cX4_cover 67 = .ok (.iload 5, 2) := by decide +kernel
theorem dX4_cover_69 : decode cX4_cover 69 = .ok (.ior, 1) := by decide +kernel
theorem dX4_cover_70 : decode cX4_cover 70 = .ok (.iastore, 1) := by decide +kernel
theorem dX4_cover_71 : decode cX4_cover 71 = .ok (.iinc 8 1, 3) := by decide +kernel
theorem dX4_cover_74 : decode cX4_cover 74 = .ok (.goto (-22), 3) := by decide +kernel
theorem dX4_cover_77 : decode cX4_cover 77 = .ok (.return_, 1) := by decide +kernel
theorem dX4_span_0 : decode cX4_span 0 = .ok (.iconst 1, 1) := by decide +kernel
theorem dX4_span_1 : decode cX4_span 1 = .ok (.iload_n 0, 1) := by decide +kernel
theorem dX4_span_2 : decode cX4_span 2 = .ok (.iload_n 1, 1) := by decide +kernel
theorem dX4_span_3 : decode cX4_span 3 = .ok (.iadd, 1) := by decide +kernel
theorem dX4_span_4 : decode cX4_span 4 = .ok (.ishl, 1) := by decide +kernel
theorem dX4_span_5 : decode cX4_span 5 = .ok (.iconst 1, 1) := by decide +kernel
theorem dX4_span_6 : decode cX4_span 6 = .ok (.iload_n 0, 1) := by decide +kernel
theorem dX4_span_7 : decode cX4_span 7 = .ok (.ishl, 1) := by decide +kernel
theorem dX4_span_8 : decode cX4_span 8 = .ok (.isub, 1) := by decide +kernel
theorem dX4_span_9 : decode cX4_span 9 = .ok (.ireturn, 1) := by decide +kernel
theorem dX4_findFree_0 : decode cX4_findFree 0 = .ok (.aload_n 0, 1) := by decide +kernel
theorem dX4_findFree_1 : decode cX4_findFree 1 = .ok (.iconst 0, 1) := by decide +kernel
theorem dX4_findFree_2 : decode cX4_findFree 2 = .ok (.putfield 25, 3) := by decide +kernel
theorem dX4_findFree_5 : decode cX4_findFree 5 = .ok (.iconst 0, 1) := by decide +kernel
theorem dX4_findFree_6 : decode cX4_findFree 6 = .ok (.aload_n 0, 1) := by decide +kernel
theorem dX4_findFree_7 : decode cX4_findFree 7 = .ok (.getfield 18, 3) := by decide +kernel
theorem dX4_findFree_10 : decode cX4_findFree 10 = .ok (.invokestatic 72, 3) := by decide +kernel
theorem dX4_findFree_13 : decode cX4_findFree 13 = .ok (.istore_n 1, 1) := by decide +kernel
theorem dX4_findFree_14 : decode cX4_findFree 14 = .ok (.iconst 0, 1) := by decide +kernel
theorem dX4_findFree_15 : decode cX4_findFree 15 = .ok (.istore_n 2, 1) := by decide +kernel
theorem dX4_findFree_16 : decode cX4_findFree 16 = .ok (.iload_n 2, 1) := by decide +kernel
theorem dX4_findFree_17 : decode cX4_findFree 17 = .ok (.aload_n 0, 1) := by decide +kernel
theorem dX4_findFree_18 : decode cX4_findFree 18 = .ok (.getfield 22, 3) := by decide +kernel
theorem dX4_findFree_21 : decode cX4_findFree 21 = .ok (.if_icmp .ge 122, 3) := by decide +kernel
theorem dX4_findFree_24 : decode cX4_findFree 24 = .ok (.iload_n 2, 1) := by decide +kernel
theorem dX4_findFree_25 : decode cX4_findFree 25 = .ok (.ifCond .ne 7, 3) := by decide +kernel
theorem dX4_findFree_28 : decode cX4_findFree 28 = .ok (.iload_n 1, 1) := by decide +kernel
theorem dX4_findFree_29 : decode cX4_findFree 29 = .ok (.goto 11, 3) := by decide +kernel
theorem dX4_findFree_32 : decode cX4_findFree 32 = .ok (.aload_n 0, 1) := by decide +kernel
theorem dX4_findFree_33 : decode cX4_findFree 33 = .ok (.getfield 9, 3) := by decide +kernel
theorem dX4_findFree_36 : decode cX4_findFree 36 = .ok (.iload_n 2, 1) := by decide +kernel
theorem dX4_findFree_37 : decode cX4_findFree 37 = .ok (.iconst 1, 1) := by decide +kernel
theorem dX4_findFree_38 : decode cX4_findFree 38 = .ok (.isub, 1) := by decide +kernel
theorem dX4_findFree_39 : decode cX4_findFree 39 = .ok (.iaload, 1) := by decide +kernel
theorem dX4_findFree_40 : decode cX4_findFree 40 = .ok (.istore_n 3, 1) := by decide +kernel
theorem dX4_findFree_41 : decode cX4_findFree 41 = .ok (.iload_n 1, 1) := by decide +kernel
theorem dX4_findFree_42 : decode cX4_findFree 42 = .ok (.aload_n 0, 1) := by decide +kernel
theorem dX4_findFree_43 : decode cX4_findFree 43 = .ok (.getfield 9, 3) := by decide +kernel
theorem dX4_findFree_46 : decode cX4_findFree 46 = .ok (.iload_n 2, 1) := by decide +kernel
theorem dX4_findFree_47 : decode cX4_findFree 47 = .ok (.iaload, 1) := by decide +kernel
theorem dX4_findFree_48 : decode cX4_findFree 48 = .ok (.iconst (-1), 1) := by decide +kernel
theorem dX4_findFree_49 : decode cX4_findFree 49 = .ok (.ixor, 1) := by decide +kernel
theorem dX4_findFree_50 : decode cX4_findFree 50 = .ok (.iand, 1) := by decide +kernel
theorem dX4_findFree_51 : decode cX4_findFree 51 = .ok (.istore 4, 2) := by decide +kernel
theorem dX4_findFree_53 : decode cX4_findFree 53 = .ok (.iload_n 2, 1) := by decide +kernel
theorem dX4_findFree_54 : decode cX4_findFree 54 = .ok (.istore 5, 2) := by decide +kernel
theorem dX4_findFree_56 : decode cX4_findFree 56 = .ok (.iload 5, 2) := by decide +kernel
theorem dX4_findFree_58 : decode cX4_findFree 58 = .ok (.aload_n 0, 1) := by decide +kernel
theorem dX4_findFree_59 : decode cX4_findFree 59 = .ok (.getfield 22, 3) := by decide +kernel
theorem dX4_findFree_62 : decode cX4_findFree 62 = .ok (.if_icmp .ge 75, 3) := by decide +kernel
theorem dX4_findFree_65 : decode cX4_findFree 65 = .ok (.iload 4, 2) := by decide +kernel
theorem dX4_findFree_67 : decode cX4_findFree 67 = .ok (.iload_n 3, 1) := by decide +kernel
theorem dX4_findFree_68 : decode cX4_findFree 68 = .ok (.iand, 1) := by decide +kernel
theorem dX4_findFree_69 : decode cX4_findFree 69 = .ok (.ifCond .eq 68, 3) := by decide +kernel
theorem dX4_findFree_72 : decode cX4_findFree 72 = .ok (.iload 5, 2) := by decide +kernel
theorem dX4_findFree_74 : decode cX4_findFree 74 = .ok (.aload_n 0, 1) := by decide +kernel
theorem dX4_findFree_75 : decode cX4_findFree 75 = .ok (.getfield 22, 3) := by decide +kernel
theorem dX4_findFree_78 : decode cX4_findFree 78 = .ok (.iconst 1, 1) := by decide +kernel
theorem dX4_findFree_79 : decode cX4_findFree 79 = .ok (.isub, 1) := by decide +kernel
theorem dX4_findFree_80 : decode cX4_findFree 80 = .ok (.if_icmp .ne 7, 3) := by decide +kernel
theorem dX4_findFree_83 : decode cX4_findFree 83 = .ok (.iload_n 1, 1) := by decide +kernel
theorem dX4_findFree_84 : decode cX4_findFree 84 = .ok (.goto 12, 3) := by decide +kernel
theorem dX4_findFree_87 : decode cX4_findFree 87 = .ok (.aload_n 0, 1) := by decide +kernel
theorem dX4_findFree_88 : decode cX4_findFree 88 = .ok (.getfield 9, 3) := by decide +kernel
theorem dX4_findFree_91 : decode cX4_findFree 91 = .ok (.iload 5, 2) := by decide +kernel
theorem dX4_findFree_93 : decode cX4_findFree 93 = .ok (.iconst 1, 1) := by decide +kernel
theorem dX4_findFree_94 : decode cX4_findFree 94 = .ok (.iadd, 1) := by decide +kernel
theorem dX4_findFree_95 : decode cX4_findFree 95 = .ok (.iaload, 1) := by decide +kernel
theorem dX4_findFree_96 : decode cX4_findFree 96 = .ok (.istore 6, 2) := by decide +kernel
theorem dX4_findFree_98 : decode cX4_findFree 98 = .ok (.iload 4, 2) := by decide +kernel
theorem dX4_findFree_100 : decode cX4_findFree 100 = .ok (.iload 6, 2) := by decide +kernel
theorem dX4_findFree_102 : decode cX4_findFree 102 = .ok (.iand, 1) := by decide +kernel
theorem dX4_findFree_103 : decode cX4_findFree 103 = .ok (.ifCond .eq 19, 3) := by decide +kernel
theorem dX4_findFree_106 : decode cX4_findFree 106 = .ok (.aload_n 0, 1) := by decide +kernel
theorem dX4_findFree_107 : decode cX4_findFree 107 = .ok (.iload 4, 2) := by decide +kernel
theorem dX4_findFree_109 : decode cX4_findFree 109 = .ok (.iload_n 3, 1) := by decide +kernel
theorem dX4_findFree_110 : decode cX4_findFree 110 = .ok (.iload 6, 2) := by decide +kernel
theorem dX4_findFree_112 : decode cX4_findFree 112 = .ok (.iload_n 2, 1) := by decide +kernel
theorem dX4_findFree_113 : decode cX4_findFree 113 = .ok (.iload 5, 2) := by decide +kernel
theorem dX4_findFree_115 : decode cX4_findFree 115 = .ok (.iload_n 2, 1) := by decide +kernel
theorem dX4_findFree_116 : decode cX4_findFree 116 = .ok (.isub, 1) := by decide +kernel
theorem dX4_findFree_117 : decode cX4_findFree 117 = .ok (.iconst 1, 1) := by decide +kernel
theorem dX4_findFree_118 : decode cX4_findFree 118 = .ok (.iadd, 1) := by decide +kernel
theorem dX4_findFree_119 : decode cX4_findFree 119 = .ok (.invokevirtual 81, 3) := by decide +kernel
theorem dX4_findFree_122 : decode cX4_findFree 122 = .ok (.iload 4, 2) := by decide +kernel
theorem dX4_findFree_124 : decode cX4_findFree 124 = .ok (.iload 6, 2) := by decide +kernel
theorem dX4_findFree_126 : decode cX4_findFree 126 = .ok (.iconst (-1), 1) := by decide +kernel
theorem dX4_findFree_127 : decode cX4_findFree 127 = .ok (.ixor, 1) := by decide +kernel
theorem dX4_findFree_128 : decode cX4_findFree 128 = .ok (.iand, 1) := by decide +kernel
theorem dX4_findFree_129 : decode cX4_findFree 129 = .ok (.istore 4, 2) := by decide +kernel
theorem dX4_findFree_131 : decode cX4_findFree 131 = .ok (.iinc 5 1, 3) := by decide +kernel
theorem dX4_findFree_134 : decode cX4_findFree 134 = .ok (.goto (-78), 3) := by decide +kernel
theorem dX4_findFree_137 : decode cX4_findFree 137 = .ok (.iinc 2 1, 3) := by decide +kernel
theorem dX4_findFree_140 : decode cX4_findFree 140 = .ok (.goto (-124), 3) := by decide +kernel
theorem dX4_findFree_143 : decode cX4_findFree 143 = .ok (.return_, 1) := by decide +kernel
theorem dX4_addRuns_0 : decode cX4_addRuns 0 = .ok (.iconst 0, 1) := by decide +kernel
theorem dX4_addRuns_1 : decode cX4_addRuns 1 = .ok (.istore 6, 2) := by decide +kernel
theorem dX4_addRuns_3 : decode cX4_addRuns 3 = .ok (.iload 6, 2) := by decide +kernel
theorem dX4_addRuns_5 : decode cX4_addRuns 5 = .ok (.aload_n 0, 1) := by decide +kernel
theorem dX4_addRuns_6 : decode cX4_addRuns 6 = .ok (.getfield 18, 3) := by decide +kernel
theorem dX4_addRuns_9 : decode cX4_addRuns 9 = .ok (.if_icmp .ge 93, 3) := by decide +kernel
theorem dX4_addRuns_12 : decode cX4_addRuns 12 = .ok (.iload 6, 2) := by decide +kernel
theorem dX4_addRuns_14 : decode cX4_addRuns 14 = .ok (.istore 7, 2) := by decide +kernel
theorem dX4_addRuns_16 : decode cX4_addRuns 16 = .ok (.iload 7, 2) := by decide +kernel
theorem dX4_addRuns_18 : decode cX4_addRuns 18 = .ok (.aload_n 0, 1) := by decide +kernel
theorem dX4_addRuns_19 : decode cX4_addRuns 19 = .ok (.getfield 18, 3) := by decide +kernel
theorem dX4_addRuns_22 : decode cX4_addRuns 22 = .ok (.if_icmp .ge 18, 3) := by decide +kernel
theorem dX4_addRuns_25 : decode cX4_addRuns 25 = .ok (.iload_n 1, 1) := by decide +kernel
theorem dX4_addRuns_26 : decode cX4_addRuns 26 = .ok (.iload 7, 2) := by decide +kernel
theorem dX4_addRuns_28 : decode cX4_addRuns 28 = .ok (.ishr, 1) := by decide +kernel
theorem dX4_addRuns_29 : decode cX4_addRuns 29 = .ok (.iconst 1, 1) := by decide +kernel
theorem dX4_addRuns_30 : decode cX4_addRuns 30 = .ok (.iand, 1) := by decide +kernel
theorem dX4_addRuns_31 : decode cX4_addRuns 31 = .ok (.ifCond .eq 9, 3) := by decide +kernel
theorem dX4_addRuns_34 : decode cX4_addRuns 34 = .ok (.iinc 7 1, 3) := by decide +kernel
theorem dX4_addRuns_37 : decode cX4_addRuns 37 = .ok (.goto (-21), 3) := by decide +kernel
theorem dX4_addRuns_40 : decode cX4_addRuns 40 = .ok (.iload 6, 2) := by decide +kernel
theorem dX4_addRuns_42 : decode cX4_addRuns 42 = .ok (.iload 7, 2) := by decide +kernel
theorem dX4_addRuns_44 : decode cX4_addRuns 44 = .ok (.iload 6, 2) := by decide +kernel
theorem dX4_addRuns_46 : decode cX4_addRuns 46 = .ok (.isub, 1) := by decide +kernel
theorem dX4_addRuns_47 : decode cX4_addRuns 47 = .ok (.invokestatic 72, 3) := by decide +kernel
theorem dX4_addRuns_50 : decode cX4_addRuns 50 = .ok (.istore 8, 2) := by decide +kernel
theorem dX4_addRuns_52 : decode cX4_addRuns 52 = .ok (.iload 8, 2) := by decide +kernel
theorem dX4_addRuns_54 : decode cX4_addRuns 54 = .ok (.iload_n 2, 1) := by decide +kernel
theorem dX4_addRuns_55 : decode cX4_addRuns 55 = .ok (.iand, 1) := by decide +kernel
theorem dX4_addRuns_56 : decode cX4_addRuns 56 = .ok (.ifCond .eq 37, 3) := by decide +kernel
theorem dX4_addRuns_59 : decode cX4_addRuns 59 = .ok (.iload 8, 2) := by decide +kernel
theorem dX4_addRuns_61 : decode cX4_addRuns 61 = .ok (.iload_n 3, 1) := by decide +kernel
theorem dX4_addRuns_62 : decode cX4_addRuns 62 = .ok (.iand, 1) := by decide +kernel
theorem dX4_addRuns_63 : decode cX4_addRuns 63 = .ok (.ifCond .eq 30, 3) := by decide +kernel
theorem dX4_addRuns_66 : decode cX4_addRuns 66 = .ok (.aload_n 0, 1) := by decide +kernel
theorem dX4_addRuns_67 : decode cX4_addRuns 67 = .ok (.iload 4, 2) := by decide +kernel
theorem dX4_addRuns_69 : decode cX4_addRuns 69 = .ok (.bipush 32, 2) := by decide +kernel
theorem dX4_addRuns_71 : decode cX4_addRuns 71 = .ok (.imul, 1) := by decide +kernel
theorem dX4_addRuns_72 : decode cX4_addRuns 72 = .ok (.iload 6, 2) := by decide +kernel
theorem dX4_addRuns_74 : decode cX4_addRuns 74 = .ok (.iadd, 1) := by decide +kernel
theorem dX4_addRuns_75 : decode cX4_addRuns 75 = .ok (.bipush 32, 2) := by decide +kernel
theorem dX4_addRuns_77 : decode cX4_addRuns 77 = .ok (.imul, 1) := by decide +kernel
theorem dX4_addRuns_78 : decode cX4_addRuns 78 = .ok (.iload 7, 2) := by decide +kernel
theorem dX4_addRuns_80 : decode cX4_addRuns 80 = .ok (.iadd, 1) := by decide +kernel
theorem dX4_addRuns_81 : decode cX4_addRuns 81 = .ok (.iload 6, 2) := by decide +kernel
theorem dX4_addRuns_83 : decode cX4_addRuns 83 = .ok (.isub, 1) := by decide +kernel
theorem dX4_addRuns_84 : decode cX4_addRuns 84 = .ok (.bipush 32, 2) := by decide +kernel
theorem dX4_addRuns_86 : decode cX4_addRuns 86 = .ok (.imul, 1) := by decide +kernel
theorem dX4_addRuns_87 : decode cX4_addRuns 87 = .ok (.iload 5, 2) := by decide +kernel
theorem dX4_addRuns_89 : decode cX4_addRuns 89 = .ok (.iadd, 1) := by decide +kernel
theorem dX4_addRuns_90 : decode cX4_addRuns 90 = .ok (.invokevirtual 85, 3) := by decide +kernel
theorem dX4_addRuns_93 : decode cX4_addRuns 93 = .ok (.iload 7, 2) := by decide +kernel
theorem dX4_addRuns_95 : decode cX4_addRuns 95 = .ok (.iconst 1, 1) := by decide +kernel
theorem dX4_addRuns_96 : decode cX4_addRuns 96 = .ok (.iadd, 1) := by decide +kernel
theorem dX4_addRuns_97 : decode cX4_addRuns 97 = .ok (.istore 6, 2) := by decide +kernel
theorem dX4_addRuns_99 : decode cX4_addRuns 99 = .ok (.goto (-96), 3) := by decide +kernel
theorem dX4_addRuns_102 : decode cX4_addRuns 102 = .ok (.return_, 1) := by decide +kernel
theorem dX4_insert_0 : decode cX4_insert 0 = .ok (.aload_n 0, 1) := by decide +kernel
theorem dX4_insert_1 : decode cX4_insert 1 = .ok (.getfield 25, 3) := by decide +kernel
theorem dX4_insert_4 : decode cX4_insert 4 = .ok (.sipush 729, 3) := by decide +kernel
theorem dX4_insert_7 : decode cX4_insert 7 = .ok (.if_icmp .lt 4, 3) := by decide +kernel
theorem dX4_insert_10 : decode cX4_insert 10 = .ok (.return_, 1) := by decide +kernel
theorem dX4_insert_11 : decode cX4_insert 11 = .ok (.aload_n 0, 1) := by decide +kernel
theorem dX4_insert_12 : decode cX4_insert 12 = .ok (.getfield 25, 3) := by decide +kernel
theorem dX4_insert_15 : decode cX4_insert 15 = .ok (.istore_n 2, 1) := by decide +kernel
theorem dX4_insert_16 : decode cX4_insert 16 = .ok (.iload_n 2, 1) := by decide +kernel
theorem dX4_insert_17 : decode cX4_insert 17 = .ok (.ifCond .le 35, 3) := by decide +kernel
theorem dX4_insert_20 : decode cX4_insert 20 = .ok (.aload_n 0, 1) := by decide +kernel
theorem dX4_insert_21 : decode cX4_insert 21 = .ok (.getfield 15, 3) := by decide +kernel
theorem dX4_insert_24 : decode cX4_insert 24 = .ok (.iload_n 2, 1) := by decide +kernel
theorem dX4_insert_25 : decode cX4_insert 25 = .ok (.iconst 1, 1) := by decide +kernel
theorem dX4_insert_26 : decode cX4_insert 26 = .ok (.isub, 1) := by decide +kernel
theorem dX4_insert_27 : decode cX4_insert 27 = .ok (.iaload, 1) := by decide +kernel
theorem dX4_insert_28 : decode cX4_insert 28 = .ok (.iload_n 1, 1) := by decide +kernel
theorem dX4_insert_29 : decode cX4_insert 29 = .ok (.if_icmp .le 23, 3) := by decide +kernel
theorem dX4_insert_32 : decode cX4_insert 32 = .ok (.aload_n 0, 1) := by decide +kernel
theorem dX4_insert_33 : decode cX4_insert 33 = .ok (.getfield 15, 3) := by decide +kernel
theorem dX4_insert_36 : decode cX4_insert 36 = .ok (.iload_n 2, 1) := by decide +kernel
theorem dX4_insert_37 : decode cX4_insert 37 = .ok (.aload_n 0, 1) := by decide +kernel
theorem dX4_insert_38 : decode cX4_insert 38 = .ok (.getfield 15, 3) := by decide +kernel
theorem dX4_insert_41 : decode cX4_insert 41 = .ok (.iload_n 2, 1) := by decide +kernel
theorem dX4_insert_42 : decode cX4_insert 42 = .ok (.iconst 1, 1) := by decide +kernel
theorem dX4_insert_43 : decode cX4_insert 43 = .ok (.isub, 1) := by decide +kernel
theorem dX4_insert_44 : decode cX4_insert 44 = .ok (.iaload, 1) := by decide +kernel
theorem dX4_insert_45 : decode cX4_insert 45 = .ok (.iastore, 1) := by decide +kernel
theorem dX4_insert_46 : decode cX4_insert 46 = .ok (.iinc 2 (-1), 3) := by decide +kernel
theorem dX4_insert_49 : decode cX4_insert 49 = .ok (.goto (-33), 3) := by decide +kernel
theorem dX4_insert_52 : decode cX4_insert 52 = .ok (.aload_n 0, 1) := by decide +kernel
theorem dX4_insert_53 : decode cX4_insert 53 = .ok (.getfield 15, 3) := by decide +kernel
theorem dX4_insert_56 : decode cX4_insert 56 = .ok (.iload_n 2, 1) := by decide +kernel
theorem dX4_insert_57 : decode cX4_insert 57 = .ok (.iload_n 1, 1) := by decide +kernel
theorem dX4_insert_58 : decode cX4_insert 58 = .ok (.iastore, 1) := by decide +kernel
theorem dX4_insert_59 : decode cX4_insert 59 = .ok (.aload_n 0, 1) := by decide +kernel
theorem dX4_insert_60 : decode cX4_insert 60 = .ok (.dup, 1) := by decide +kernel
theorem dX4_insert_61 : decode cX4_insert 61 = .ok (.getfield 25, 3) := by decide +kernel
theorem dX4_insert_64 : decode cX4_insert 64 = .ok (.iconst 1, 1) := by decide +kernel
theorem dX4_insert_65 : decode cX4_insert 65 = .ok (.iadd, 1) := by decide +kernel
theorem dX4_insert_66 : decode cX4_insert 66 = .ok (.putfield 25, 3) := by decide +kernel
theorem dX4_insert_69 : decode cX4_insert 69 = .ok (.return_, 1) := by decide +kernel
theorem dX4_part_0 : decode cX4_part 0 = .ok (.iload_n 2, 1) := by decide +kernel
theorem dX4_part_1 : decode cX4_part 1 = .ok (.tableswitch 57 0 2 #[27, 37, 47], 27) := by decide +kernel
theorem dX4_part_28 : decode cX4_part 28 = .ok (.aload_n 0, 1) := by decide +kernel
theorem dX4_part_29 : decode cX4_part 29 = .ok (.getfield 15, 3) := by decide +kernel
theorem dX4_part_32 : decode cX4_part 32 = .ok (.iload_n 1, 1) := by decide +kernel
theorem dX4_part_33 : decode cX4_part 33 = .ok (.iaload, 1) := by decide +kernel
theorem dX4_part_34 : decode cX4_part 34 = .ok (.invokestatic 89, 3) := by decide +kernel
theorem dX4_part_37 : decode cX4_part 37 = .ok (.ireturn, 1) := by decide +kernel
theorem dX4_part_38 : decode cX4_part 38 = .ok (.aload_n 0, 1) := by decide +kernel
theorem dX4_part_39 : decode cX4_part 39 = .ok (.getfield 15, 3) := by decide +kernel
theorem dX4_part_42 : decode cX4_part 42 = .ok (.iload_n 1, 1) := by decide +kernel
theorem dX4_part_43 : decode cX4_part 43 = .ok (.iaload, 1) := by decide +kernel
theorem dX4_part_44 : decode cX4_part 44 = .ok (.invokestatic 90, 3) := by decide +kernel
theorem dX4_part_47 : decode cX4_part 47 = .ok (.ireturn, 1) := by decide +kernel
theorem dX4_part_48 : decode cX4_part 48 = .ok (.aload_n 0, 1) := by decide +kernel
theorem dX4_part_49 : decode cX4_part 49 = .ok (.getfield 15, 3) := by decide +kernel
theorem dX4_part_52 : decode cX4_part 52 = .ok (.iload_n 1, 1) := by decide +kernel
theorem dX4_part_53 : decode cX4_part 53 = .ok (.iaload, 1) := by decide +kernel
theorem dX4_part_54 : decode cX4_part 54 = .ok (.invokestatic 91, 3) := by decide +kernel
theorem dX4_part_57 : decode cX4_part 57 = .ok (.ireturn, 1) := by decide +kernel
theorem dX4_part_58 : decode cX4_part 58 = .ok (.aload_n 0, 1) := by decide +kernel
theorem dX4_part_59 : decode cX4_part 59 = .ok (.getfield 15, 3) := by decide +kernel
theorem dX4_part_62 : decode cX4_part 62 = .ok (.iload_n 1, 1) := by decide +kernel
theorem dX4_part_63 : decode cX4_part 63 = .ok (.iaload, 1) := by decide +kernel
theorem dX4_part_64 : decode cX4_part 64 = .ok (.invokestatic 94, 3) := by decide +kernel
theorem dX4_part_67 : decode cX4_part 67 = .ok (.ireturn, 1) := by decide +kernel
theorem dX4_yOf_0 : decode cX4_yOf 0 = .ok (.iload_n 0, 1) := by decide +kernel
theorem dX4_yOf_1 : decode cX4_yOf 1 = .ok (.ldc 97, 2) := by decide +kernel
theorem dX4_yOf_3 : decode cX4_yOf 3 = .ok (.idiv, 1) := by decide +kernel
theorem dX4_yOf_4 : decode cX4_yOf 4 = .ok (.ireturn, 1) := by decide +kernel
theorem dX4_xOf_0 : decode cX4_xOf 0 = .ok (.iload_n 0, 1) := by decide +kernel
theorem dX4_xOf_1 : decode cX4_xOf 1 = .ok (.sipush 1024, 3) := by decide +kernel
theorem dX4_xOf_4 : decode cX4_xOf 4 = .ok (.idiv, 1) := by decide +kernel
theorem dX4_xOf_5 : decode cX4_xOf 5 = .ok (.bipush 32, 2) := by decide +kernel
theorem dX4_xOf_7 : decode cX4_xOf 7 = .ok (.irem, 1) := by decide +kernel
theorem dX4_xOf_8 : decode cX4_xOf 8 = .ok (.ireturn, 1) := by decide +kernel
theorem dX4_acrossOf_0 : decode cX4_acrossOf 0 = .ok (.iload_n 0, 1) := by decide +kernel
theorem dX4_acrossOf_1 : decode cX4_acrossOf 1 = .ok (.bipush 32, 2) := by decide +kernel
theorem dX4_acrossOf_3 : decode cX4_acrossOf 3 = .ok (.idiv, 1) := by decide +kernel
theorem dX4_acrossOf_4 : decode cX4_acrossOf 4 = .ok (.bipush 32, 2) := by decide +kernel
theorem dX4_acrossOf_6 : decode cX4_acrossOf 6 = .ok (.irem, 1) := by decide +kernel
theorem dX4_acrossOf_7 : decode cX4_acrossOf 7 = .ok (.ireturn, 1) := by decide +kernel
theorem dX4_downOf_0 : decode cX4_downOf 0 = .ok (.iload_n 0, 1) := by decide +kernel
theorem dX4_downOf_1 : decode cX4_downOf 1 = .ok (.bipush 32, 2) := by decide +kernel
theorem dX4_downOf_3 : decode cX4_downOf 3 = .ok (.irem, 1) := by decide +kernel
theorem dX4_downOf_4 : decode cX4_downOf 4 = .ok (.ireturn, 1) := by decide +kernel
theorem dX4_greatest_0 : decode cX4_greatest 0 = .ok (.iconst 0, 1) := by decide +kernel
theorem dX4_greatest_1 : decode cX4_greatest 1 = .ok (.istore_n 1, 1) := by decide +kernel
theorem dX4_greatest_2 : decode cX4_greatest 2 = .ok (.iconst 0, 1) := by decide +kernel
theorem dX4_greatest_3 : decode cX4_greatest 3 = .ok (.istore_n 2, 1) := by decide +kernel
theorem dX4_greatest_4 : decode cX4_greatest 4 = .ok (.iload_n 2, 1) := by decide +kernel
theorem dX4_greatest_5 : decode cX4_greatest 5 = .ok (.aload_n 0, 1) := by decide +kernel
theorem dX4_greatest_6 : decode cX4_greatest 6 = .ok (.getfield 25, 3) := by decide +kernel
theorem dX4_greatest_9 : decode cX4_greatest 9 = .ok (.if_icmp .ge 33, 3) := by decide +kernel
theorem dX4_greatest_12 : decode cX4_greatest 12 = .ok (.iload_n 1, 1) := by decide +kernel
theorem dX4_greatest_13 : decode cX4_greatest 13 = .ok (.aload_n 0, 1) := by decide +kernel
theorem dX4_greatest_14 : decode cX4_greatest 14 = .ok (.getfield 15, 3) := by decide +kernel
theorem dX4_greatest_17 : decode cX4_greatest 17 = .ok (.iload_n 2, 1) := by decide +kernel
theorem dX4_greatest_18 : decode cX4_greatest 18 = .ok (.iaload, 1) := by decide +kernel
theorem dX4_greatest_19 : decode cX4_greatest 19 = .ok (.invokestatic 91, 3) := by decide +kernel
theorem dX4_greatest_22 : decode cX4_greatest 22 = .ok (.aload_n 0, 1) := by decide +kernel
theorem dX4_greatest_23 : decode cX4_greatest 23 = .ok (.getfield 15, 3) := by decide +kernel
theorem dX4_greatest_26 : decode cX4_greatest 26 = .ok (.iload_n 2, 1) := by decide +kernel
theorem dX4_greatest_27 : decode cX4_greatest 27 = .ok (.iaload, 1) := by decide +kernel
theorem dX4_greatest_28 : decode cX4_greatest 28 = .ok (.invokestatic 94, 3) := by decide +kernel
theorem dX4_greatest_31 : decode cX4_greatest 31 = .ok (.imul, 1) := by decide +kernel
theorem dX4_greatest_32 : decode cX4_greatest 32 = .ok (.invokestatic 98, 3) := by decide +kernel
theorem dX4_greatest_35 : decode cX4_greatest 35 = .ok (.istore_n 1, 1) := by decide +kernel
theorem dX4_greatest_36 : decode cX4_greatest 36 = .ok (.iinc 2 1, 3) := by decide +kernel
theorem dX4_greatest_39 : decode cX4_greatest 39 = .ok (.goto (-35), 3) := by decide +kernel
theorem dX4_greatest_42 : decode cX4_greatest 42 = .ok (.iload_n 1, 1) := by decide +kernel
theorem dX4_greatest_43 : decode cX4_greatest 43 = .ok (.ireturn, 1) := by decide +kernel
theorem dX4_bestSpot_0 : decode cX4_bestSpot 0 = .ok (.bipush (-9), 2) := by decide +kernel
theorem dX4_bestSpot_2 : decode cX4_bestSpot 2 = .ok (.istore_n 3, 1) := by decide +kernel
theorem dX4_bestSpot_3 : decode cX4_bestSpot 3 = .ok (.iconst 0, 1) := by decide +kernel
theorem dX4_bestSpot_4 : decode cX4_bestSpot 4 = .ok (.istore 4, 2) := by decide +kernel
theorem dX4_bestSpot_6 : decode cX4_bestSpot 6 = .ok (.aload_n 1, 1) := by decide +kernel
theorem dX4_bestSpot_7 : decode cX4_bestSpot 7 = .ok (.invokevirtual 101, 3) := by decide +kernel
theorem dX4_bestSpot_10 : decode cX4_bestSpot 10 = .ok (.ifCond .eq 7, 3) := by decide +kernel
theorem dX4_bestSpot_13 : decode cX4_bestSpot 13 = .ok (.iconst 2, 1) := by decide +kernel
theorem dX4_bestSpot_14 : decode cX4_bestSpot 14 = .ok (.goto 4, 3) := by decide +kernel
theorem dX4_bestSpot_17 : decode cX4_bestSpot 17 = .ok (.iconst 1, 1) := by decide +kernel
theorem dX4_bestSpot_18 : decode cX4_bestSpot 18 = .ok (.istore 5, 2) := by decide +kernel
theorem dX4_bestSpot_20 : decode cX4_bestSpot 20 = .ok (.iconst 0, 1) := by decide +kernel
theorem dX4_bestSpot_21 : decode cX4_bestSpot 21 = .ok (.istore 6, 2) := by decide +kernel
theorem dX4_bestSpot_23 : decode cX4_bestSpot 23 = .ok (.iload 6, 2) := by decide +kernel
theorem dX4_bestSpot_25 : decode cX4_bestSpot 25 = .ok (.aload_n 0, 1) := by decide +kernel
theorem dX4_bestSpot_26 : decode cX4_bestSpot 26 = .ok (.getfield 25, 3) := by decide +kernel
theorem dX4_bestSpot_29 : decode cX4_bestSpot 29 = .ok (.if_icmp .ge 147, 3) := by decide +kernel
theorem dX4_bestSpot_32 : decode cX4_bestSpot 32 = .ok (.iconst 0, 1) := by decide +kernel
theorem dX4_bestSpot_33 : decode cX4_bestSpot 33 = .ok (.istore 7, 2) := by decide +kernel
theorem dX4_bestSpot_35 : decode cX4_bestSpot 35 = .ok (.iload 7, 2) := by decide +kernel
theorem dX4_bestSpot_37 : decode cX4_bestSpot 37 = .ok (.iload 5, 2) := by decide +kernel
theorem dX4_bestSpot_39 : decode cX4_bestSpot 39 = .ok (.if_icmp .ge 131, 3) := by decide +kernel
theorem dX4_bestSpot_42 : decode cX4_bestSpot 42 = .ok (.iload 7, 2) := by decide +kernel
theorem dX4_bestSpot_44 : decode cX4_bestSpot 44 = .ok (.iconst 1, 1) := by decide +kernel
theorem dX4_bestSpot_45 : decode cX4_bestSpot 45 = .ok (.if_icmp .ne 7, 3) := by decide +kernel
theorem dX4_bestSpot_48 : decode cX4_bestSpot 48 = .ok (.iconst 1, 1) := by decide +kernel
theorem dX4_bestSpot_49 : decode cX4_bestSpot 49 = .ok (.goto 4, 3) := by decide +kernel
theorem dX4_bestSpot_52 : decode cX4_bestSpot 52 = .ok (.iconst 0, 1) := by decide +kernel
theorem dX4_bestSpot_53 : decode cX4_bestSpot 53 = .ok (.istore 8, 2) := by decide +kernel
theorem dX4_bestSpot_55 : decode cX4_bestSpot 55 = .ok (.aload_n 1, 1) := by decide +kernel
theorem dX4_bestSpot_56 : decode cX4_bestSpot 56 = .ok (.iload 8, 2) := by decide +kernel
theorem dX4_bestSpot_58 : decode cX4_bestSpot 58 = .ok (.invokevirtual 66, 3) := by decide +kernel
theorem dX4_bestSpot_61 : decode cX4_bestSpot 61 = .ok (.istore 9, 2) := by decide +kernel
theorem dX4_bestSpot_63 : decode cX4_bestSpot 63 = .ok (.aload_n 1, 1) := by decide +kernel
theorem dX4_bestSpot_64 : decode cX4_bestSpot 64 = .ok (.iload 8, 2) := by decide +kernel
theorem dX4_bestSpot_66 : decode cX4_bestSpot 66 = .ok (.invokevirtual 78, 3) := by decide +kernel
theorem dX4_bestSpot_69 : decode cX4_bestSpot 69 = .ok (.istore 10, 2) := by decide +kernel
theorem dX4_bestSpot_71 : decode cX4_bestSpot 71 = .ok (.iload 9, 2) := by decide +kernel
theorem dX4_bestSpot_73 : decode cX4_bestSpot 73 = .ok (.aload_n 0, 1) := by decide +kernel
theorem dX4_bestSpot_74 : decode cX4_bestSpot 74 = .ok (.getfield 15, 3) := by decide +kernel
theorem dX4_bestSpot_77 : decode cX4_bestSpot 77 = .ok (.iload 6, 2) := by decide +kernel
theorem dX4_bestSpot_79 : decode cX4_bestSpot 79 = .ok (.iaload, 1) := by decide +kernel
theorem dX4_bestSpot_80 : decode cX4_bestSpot 80 = .ok (.invokestatic 91, 3) := by decide +kernel
theorem dX4_bestSpot_83 : decode cX4_bestSpot 83 = .ok (.if_icmp .gt 81, 3) := by decide +kernel
theorem dX4_bestSpot_86 : decode cX4_bestSpot 86 = .ok (.iload 10, 2) := by decide +kernel
theorem dX4_bestSpot_88 : decode cX4_bestSpot 88 = .ok (.aload_n 0, 1) := by decide +kernel
theorem dX4_bestSpot_89 : decode cX4_bestSpot 89 = .ok (.getfield 15, 3) := by decide +kernel
theorem dX4_bestSpot_92 : decode cX4_bestSpot 92 = .ok (.iload 6, 2) := by decide +kernel
theorem dX4_bestSpot_94 : decode cX4_bestSpot 94 = .ok (.iaload, 1) := by decide +kernel
theorem dX4_bestSpot_95 : decode cX4_bestSpot 95 = .ok (.invokestatic 94, 3) := by decide +kernel
theorem dX4_bestSpot_98 : decode cX4_bestSpot 98 = .ok (.if_icmp .le 6, 3) := by decide +kernel
theorem dX4_bestSpot_101 : decode cX4_bestSpot 101 = .ok (.goto 63, 3) := by decide +kernel
theorem dX4_bestSpot_104 : decode cX4_bestSpot 104 = .ok (.iload_n 2, 1) := by decide +kernel
theorem dX4_bestSpot_105 : decode cX4_bestSpot 105 = .ok (.aload_n 0, 1) := by decide +kernel
theorem dX4_bestSpot_106 : decode cX4_bestSpot 106 = .ok (.getfield 15, 3) := by decide +kernel
theorem dX4_bestSpot_109 : decode cX4_bestSpot 109 = .ok (.iload 6, 2) := by decide +kernel
theorem dX4_bestSpot_111 : decode cX4_bestSpot 111 = .ok (.iaload, 1) := by decide +kernel
theorem dX4_bestSpot_112 : decode cX4_bestSpot 112 = .ok (.iload 9, 2) := by decide +kernel
theorem dX4_bestSpot_114 : decode cX4_bestSpot 114 = .ok (.iload 10, 2) := by decide +kernel
theorem dX4_bestSpot_116 : decode cX4_bestSpot 116 = .ok (.invokestatic 105, 3) := by decide +kernel
theorem dX4_bestSpot_119 : decode cX4_bestSpot 119 = .ok (.istore 11, 2) := by decide +kernel
theorem dX4_bestSpot_121 : decode cX4_bestSpot 121 = .ok (.iload_n 3, 1) := by decide +kernel
theorem dX4_bestSpot_122 : decode cX4_bestSpot 122 = .ok (.bipush (-9), 2) := by decide +kernel
theorem dX4_bestSpot_124 : decode cX4_bestSpot 124 = .ok (.if_icmp .eq 10, 3) := by decide +kernel
theorem dX4_bestSpot_127 : decode cX4_bestSpot 127 = .ok (.iload 11, 2) := by decide +kernel
theorem dX4_bestSpot_129 : decode cX4_bestSpot 129 = .ok (.iload 4, 2) := by decide +kernel
theorem dX4_bestSpot_131 : decode cX4_bestSpot 131 = .ok (.if_icmp .ge 33, 3) := by decide +kernel
theorem dX4_bestSpot_134 : decode cX4_bestSpot 134 = .ok (.iload 11, 2) := by decide +kernel
theorem dX4_bestSpot_136 : decode cX4_bestSpot 136 = .ok (.istore 4, 2) := by decide +kernel
theorem dX4_bestSpot_138 : decode cX4_bestSpot 138 = .ok (.aload_n 0, 1) := by decide +kernel
theorem dX4_bestSpot_139 : decode cX4_bestSpot 139 = .ok (.getfield 15, 3) := by decide +kernel
theorem dX4_bestSpot_142 : decode cX4_bestSpot 142 = .ok (.iload 6, 2) := by decide +kernel
theorem dX4_bestSpot_144 : decode cX4_bestSpot 144 = .ok (.iaload, 1) := by decide +kernel
theorem dX4_bestSpot_145 : decode cX4_bestSpot 145 = .ok (.invokestatic 89, 3) := by decide +kernel
theorem dX4_bestSpot_148 : decode cX4_bestSpot 148 = .ok (.aload_n 0, 1) := by decide +kernel
theorem dX4_bestSpot_149 : decode cX4_bestSpot 149 = .ok (.getfield 15, 3) := by decide +kernel
theorem dX4_bestSpot_152 : decode cX4_bestSpot 152 = .ok (.iload 6, 2) := by decide +kernel
theorem dX4_bestSpot_154 : decode cX4_bestSpot 154 = .ok (.iaload, 1) := by decide +kernel
theorem dX4_bestSpot_155 : decode cX4_bestSpot 155 = .ok (.invokestatic 90, 3) := by decide +kernel
theorem dX4_bestSpot_158 : decode cX4_bestSpot 158 = .ok (.iload 8, 2) := by decide +kernel
theorem dX4_bestSpot_160 : decode cX4_bestSpot 160 = .ok (.invokestatic 109, 3) := by decide +kernel
theorem dX4_bestSpot_163 : decode cX4_bestSpot 163 = .ok (.istore_n 3, 1) := by decide +kernel
theorem dX4_bestSpot_164 : decode cX4_bestSpot 164 = .ok (.iinc 7 1, 3) := by decide +kernel
theorem dX4_bestSpot_167 : decode cX4_bestSpot 167 = .ok (.goto (-132), 3) := by decide +kernel
theorem dX4_bestSpot_170 : decode cX4_bestSpot 170 = .ok (.iinc 6 1, 3) := by decide +kernel
theorem dX4_bestSpot_173 : decode cX4_bestSpot 173 = .ok (.goto (-150), 3) := by decide +kernel
theorem dX4_bestSpot_176 : decode cX4_bestSpot 176 = .ok (.iload_n 3, 1) := by decide +kernel
