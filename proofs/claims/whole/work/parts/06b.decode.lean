theorem dX7_refuses_73 : decode cX7_refuses 73 = .ok (.iconst 0, 1) := by decide +kernel
theorem dX7_refuses_74 : decode cX7_refuses 74 = .ok (.ireturn, 1) := by decide +kernel
theorem dX7_minutesInBox_0 : decode cX7_minutesInBox 0 = .ok (.aload_n 0, 1) := by decide +kernel
theorem dX7_minutesInBox_1 : decode cX7_minutesInBox 1 = .ok (.aload_n 1, 1) := by decide +kernel
theorem dX7_minutesInBox_2 : decode cX7_minutesInBox 2 = .ok (.iload_n 2, 1) := by decide +kernel
theorem dX7_minutesInBox_3 : decode cX7_minutesInBox 3 = .ok (.iconst 1, 1) := by decide +kernel
theorem dX7_minutesInBox_4 : decode cX7_minutesInBox 4 = .ok (.invokevirtual 49, 3) := by decide +kernel
theorem dX7_minutesInBox_7 : decode cX7_minutesInBox 7 = .ok (.istore_n 3, 1) := by decide +kernel
theorem dX7_minutesInBox_8 : decode cX7_minutesInBox 8 = .ok (.iload_n 3, 1) := by decide +kernel
theorem dX7_minutesInBox_9 : decode cX7_minutesInBox 9 = .ok (.ifCond .le 7, 3) := by decide +kernel
theorem dX7_minutesInBox_12 : decode cX7_minutesInBox 12 = .ok (.iload_n 3, 1) := by decide +kernel
theorem dX7_minutesInBox_13 : decode cX7_minutesInBox 13 = .ok (.goto 10, 3) := by decide +kernel
theorem dX7_minutesInBox_16 : decode cX7_minutesInBox 16 = .ok (.aload_n 0, 1) := by decide +kernel
theorem dX7_minutesInBox_17 : decode cX7_minutesInBox 17 = .ok (.aload_n 1, 1) := by decide +kernel
theorem dX7_minutesInBox_18 : decode cX7_minutesInBox 18 = .ok (.iload_n 2, 1) := by decide +kernel
theorem dX7_minutesInBox_19 : decode cX7_minutesInBox 19 = .ok (.iconst 0, 1) := by decide +kernel
theorem dX7_minutesInBox_20 : decode cX7_minutesInBox 20 = .ok (.invokevirtual 49, 3) := by decide +kernel
theorem dX7_minutesInBox_23 : decode cX7_minutesInBox 23 = .ok (.ireturn, 1) := by decide +kernel
theorem dX7_minutesBelow_0 : decode cX7_minutesBelow 0 = .ok (.iconst 0, 1) := by decide +kernel
theorem dX7_minutesBelow_1 : decode cX7_minutesBelow 1 = .ok (.istore 4, 2) := by decide +kernel
theorem dX7_minutesBelow_3 : decode cX7_minutesBelow 3 = .ok (.iconst 0, 1) := by decide +kernel
theorem dX7_minutesBelow_4 : decode cX7_minutesBelow 4 = .ok (.istore 5, 2) := by decide +kernel
theorem dX7_minutesBelow_6 : decode cX7_minutesBelow 6 = .ok (.iload 5, 2) := by decide +kernel
theorem dX7_minutesBelow_8 : decode cX7_minutesBelow 8 = .ok (.aload_n 1, 1) := by decide +kernel
theorem dX7_minutesBelow_9 : decode cX7_minutesBelow 9 = .ok (.getfield 53, 3) := by decide +kernel
theorem dX7_minutesBelow_12 : decode cX7_minutesBelow 12 = .ok (.if_icmp .ge 64, 3) := by decide +kernel
theorem dX7_minutesBelow_15 : decode cX7_minutesBelow 15 = .ok (.aload_n 1, 1) := by decide +kernel
theorem dX7_minutesBelow_16 : decode cX7_minutesBelow 16 = .ok (.iload 5, 2) := by decide +kernel
theorem dX7_minutesBelow_18 : decode cX7_minutesBelow 18 = .ok (.invokevirtual 54, 3) := by decide +kernel
theorem dX7_minutesBelow_21 : decode cX7_minutesBelow 21 = .ok (.astore 6, 2) := by decide +kernel
theorem dX7_minutesBelow_23 : decode cX7_minutesBelow 23 = .ok (.aload 6, 2) := by decide +kernel
theorem dX7_minutesBelow_25 : decode cX7_minutesBelow 25 = .ok (.ifnull 45, 3) := by decide +kernel
theorem dX7_minutesBelow_28 : decode cX7_minutesBelow 28 = .ok (.iload_n 3, 1) := by decide +kernel
theorem dX7_minutesBelow_29 : decode cX7_minutesBelow 29 = .ok (.ifCond .ne 11, 3) := by decide +kernel
theorem dX7_minutesBelow_32 : decode cX7_minutesBelow 32 = .ok (.aload 6, 2) := by decide +kernel
theorem dX7_minutesBelow_34 : decode cX7_minutesBelow 34 = .ok (.getfield 58, 3) := by decide +kernel
theorem dX7_minutesBelow_37 : decode cX7_minutesBelow 37 = .ok (.ifCond .ne 33, 3) := by decide +kernel
theorem dX7_minutesBelow_40 : decode cX7_minutesBelow 40 = .ok (.aload_n 0, 1) := by decide +kernel
theorem dX7_minutesBelow_41 : decode cX7_minutesBelow 41 = .ok (.aload 6, 2) := by decide +kernel
theorem dX7_minutesBelow_43 : decode cX7_minutesBelow 43 = .ok (.invokevirtual 61, 3) := by decide +kernel
theorem dX7_minutesBelow_46 : decode cX7_minutesBelow 46 = .ok (.ifCond .ne 24, 3) := by decide +kernel
theorem dX7_minutesBelow_49 : decode cX7_minutesBelow 49 = .ok (.aload 6, 2) := by decide +kernel
theorem dX7_minutesBelow_51 : decode cX7_minutesBelow 51 = .ok (.getfield 41, 3) := by decide +kernel
theorem dX7_minutesBelow_54 : decode cX7_minutesBelow 54 = .ok (.iload_n 2, 1) := by decide +kernel
theorem dX7_minutesBelow_55 : decode cX7_minutesBelow 55 = .ok (.if_icmp .lt 5, 3) := by decide +kernel
theorem dX7_minutesBelow_58 : decode cX7_minutesBelow 58 = .ok (.iconst 0, 1) := by decide +kernel
theorem dX7_minutesBelow_59 : decode cX7_minutesBelow 59 = .ok (.ireturn, 1) := by decide +kernel
theorem dX7_minutesBelow_60 : decode cX7_minutesBelow 60 = .ok (.iload 4, 2) := by decide +kernel
theorem dX7_minutesBelow_62 : decode cX7_minutesBelow 62 = .ok (.aload 6, 2) := by decide +kernel
theorem dX7_minutesBelow_64 : decode cX7_minutesBelow 64 = .ok (.getfield 65, 3) := by decide +kernel
theorem dX7_minutesBelow_67 : decode cX7_minutesBelow 67 = .ok (.iadd, 1) := by decide +kernel
theorem dX7_minutesBelow_68 : decode cX7_minutesBelow 68 = .ok (.istore 4, 2) := by decide +kernel
theorem dX7_minutesBelow_70 : decode cX7_minutesBelow 70 = .ok (.iinc 5 1, 3) := by decide +kernel
theorem dX7_minutesBelow_73 : decode cX7_minutesBelow 73 = .ok (.goto (-67), 3) := by decide +kernel
theorem dX7_minutesBelow_76 : decode cX7_minutesBelow 76 = .ok (.iload 4, 2) := by decide +kernel
theorem dX7_minutesBelow_78 : decode cX7_minutesBelow 78 = .ok (.ireturn, 1) := by decide +kernel
theorem dX8_init_0 : decode cX8_init 0 = .ok (.aload_n 0, 1) := by decide +kernel
theorem dX8_init_1 : decode cX8_init 1 = .ok (.invokespecial 3, 3) := by decide +kernel
theorem dX8_init_4 : decode cX8_init 4 = .ok (.aload_n 0, 1) := by decide +kernel
theorem dX8_init_5 : decode cX8_init 5 = .ok (.sipush 240, 3) := by decide +kernel
theorem dX8_init_8 : decode cX8_init 8 = .ok (.newarray .int, 2) := by decide +kernel
theorem dX8_init_10 : decode cX8_init 10 = .ok (.putfield 9, 3) := by decide +kernel
theorem dX8_init_13 : decode cX8_init 13 = .ok (.aload_n 0, 1) := by decide +kernel
theorem dX8_init_14 : decode cX8_init 14 = .ok (.sipush 240, 3) := by decide +kernel
theorem dX8_init_17 : decode cX8_init 17 = .ok (.newarray .int, 2) := by decide +kernel
theorem dX8_init_19 : decode cX8_init 19 = .ok (.putfield 15, 3) := by decide +kernel
theorem dX8_init_22 : decode cX8_init 22 = .ok (.aload_n 0, 1) := by decide +kernel
theorem dX8_init_23 : decode cX8_init 23 = .ok (.bipush 6, 2) := by decide +kernel
theorem dX8_init_25 : decode cX8_init 25 = .ok (.newarray .int, 2) := by decide +kernel
theorem dX8_init_27 : decode cX8_init 27 = .ok (.putfield 18, 3) := by decide +kernel
theorem dX8_init_30 : decode cX8_init 30 = .ok (.aload_n 0, 1) := by decide +kernel
theorem dX8_init_31 : decode cX8_init 31 = .ok (.getfield 9, 3) := by decide +kernel
theorem dX8_init_34 : decode cX8_init 34 = .ok (.bipush 9, 2) := by decide +kernel
theorem dX8_init_36 : decode cX8_init 36 = .ok (.invokestatic 21, 3) := by decide +kernel
theorem dX8_init_39 : decode cX8_init 39 = .ok (.aload_n 0, 1) := by decide +kernel
theorem dX8_init_40 : decode cX8_init 40 = .ok (.getfield 15, 3) := by decide +kernel
theorem dX8_init_43 : decode cX8_init 43 = .ok (.sipush 240, 3) := by decide +kernel
theorem dX8_init_46 : decode cX8_init 46 = .ok (.invokestatic 21, 3) := by decide +kernel
theorem dX8_init_49 : decode cX8_init 49 = .ok (.return_, 1) := by decide +kernel
theorem dX8_learn_0 : decode cX8_learn 0 = .ok (.aload_n 0, 1) := by decide +kernel
theorem dX8_learn_1 : decode cX8_learn 1 = .ok (.getfield 9, 3) := by decide +kernel
theorem dX8_learn_4 : decode cX8_learn 4 = .ok (.iconst (-1), 1) := by decide +kernel
theorem dX8_learn_5 : decode cX8_learn 5 = .ok (.invokestatic 21, 3) := by decide +kernel
theorem dX8_learn_8 : decode cX8_learn 8 = .ok (.aload_n 0, 1) := by decide +kernel
theorem dX8_learn_9 : decode cX8_learn 9 = .ok (.getfield 18, 3) := by decide +kernel
theorem dX8_learn_12 : decode cX8_learn 12 = .ok (.iconst 0, 1) := by decide +kernel
theorem dX8_learn_13 : decode cX8_learn 13 = .ok (.invokestatic 21, 3) := by decide +kernel
theorem dX8_learn_16 : decode cX8_learn 16 = .ok (.aload_n 0, 1) := by decide +kernel
theorem dX8_learn_17 : decode cX8_learn 17 = .ok (.getfield 15, 3) := by decide +kernel
theorem dX8_learn_20 : decode cX8_learn 20 = .ok (.sipush 240, 3) := by decide +kernel
theorem dX8_learn_23 : decode cX8_learn 23 = .ok (.invokestatic 21, 3) := by decide +kernel
theorem dX8_learn_26 : decode cX8_learn 26 = .ok (.iconst 0, 1) := by decide +kernel
theorem dX8_learn_27 : decode cX8_learn 27 = .ok (.istore_n 3, 1) := by decide +kernel
theorem dX8_learn_28 : decode cX8_learn 28 = .ok (.iload_n 3, 1) := by decide +kernel
theorem dX8_learn_29 : decode cX8_learn 29 = .ok (.iload_n 2, 1) := by decide +kernel
theorem dX8_learn_30 : decode cX8_learn 30 = .ok (.if_icmp .ge 40, 3) := by decide +kernel
theorem dX8_learn_33 : decode cX8_learn 33 = .ok (.iload_n 3, 1) := by decide +kernel
theorem dX8_learn_34 : decode cX8_learn 34 = .ok (.aload_n 1, 1) := by decide +kernel
theorem dX8_learn_35 : decode cX8_learn 35 = .ok (.getfield 27, 3) := by decide +kernel
theorem dX8_learn_38 : decode cX8_learn 38 = .ok (.arraylength, 1) := by decide +kernel
theorem dX8_learn_39 : decode cX8_learn 39 = .ok (.if_icmp .ge 31, 3) := by decide +kernel
theorem dX8_learn_42 : decode cX8_learn 42 = .ok (.aload_n 0, 1) := by decide +kernel
theorem dX8_learn_43 : decode cX8_learn 43 = .ok (.aload_n 1, 1) := by decide +kernel
theorem dX8_learn_44 : decode cX8_learn 44 = .ok (.getfield 27, 3) := by decide +kernel
theorem dX8_learn_47 : decode cX8_learn 47 = .ok (.iload_n 3, 1) := by decide +kernel
theorem dX8_learn_48 : decode cX8_learn 48 = .ok (.iaload, 1) := by decide +kernel
theorem dX8_learn_49 : decode cX8_learn 49 = .ok (.aload_n 1, 1) := by decide +kernel
theorem dX8_learn_50 : decode cX8_learn 50 = .ok (.getfield 32, 3) := by decide +kernel
theorem dX8_learn_53 : decode cX8_learn 53 = .ok (.iload_n 3, 1) := by decide +kernel
theorem dX8_learn_54 : decode cX8_learn 54 = .ok (.iaload, 1) := by decide +kernel
theorem dX8_learn_55 : decode cX8_learn 55 = .ok (.aload_n 1, 1) := by decide +kernel
theorem dX8_learn_56 : decode cX8_learn 56 = .ok (.getfield 35, 3) := by decide +kernel
theorem dX8_learn_59 : decode cX8_learn 59 = .ok (.iload_n 3, 1) := by decide +kernel
theorem dX8_learn_60 : decode cX8_learn 60 = .ok (.iaload, 1) := by decide +kernel
theorem dX8_learn_61 : decode cX8_learn 61 = .ok (.invokevirtual 38, 3) := by decide +kernel
theorem dX8_learn_64 : decode cX8_learn 64 = .ok (.iinc 3 1, 3) := by decide +kernel
theorem dX8_learn_67 : decode cX8_learn 67 = .ok (.goto (-39), 3) := by decide +kernel
theorem dX8_learn_70 : decode cX8_learn 70 = .ok (.aload_n 0, 1) := by decide +kernel
theorem dX8_learn_71 : decode cX8_learn 71 = .ok (.invokevirtual 42, 3) := by decide +kernel
theorem dX8_learn_74 : decode cX8_learn 74 = .ok (.aload_n 0, 1) := by decide +kernel
theorem dX8_learn_75 : decode cX8_learn 75 = .ok (.invokevirtual 45, 3) := by decide +kernel
theorem dX8_learn_78 : decode cX8_learn 78 = .ok (.return_, 1) := by decide +kernel
theorem dX8_learnOne_0 : decode cX8_learnOne 0 = .ok (.iload_n 1, 1) := by decide +kernel
theorem dX8_learnOne_1 : decode cX8_learnOne 1 = .ok (.ifCond .ne 24, 3) := by decide +kernel
theorem dX8_learnOne_4 : decode cX8_learnOne 4 = .ok (.iload_n 2, 1) := by decide +kernel
theorem dX8_learnOne_5 : decode cX8_learnOne 5 = .ok (.ifCond .lt 20, 3) := by decide +kernel
theorem dX8_learnOne_8 : decode cX8_learnOne 8 = .ok (.iload_n 2, 1) := by decide +kernel
theorem dX8_learnOne_9 : decode cX8_learnOne 9 = .ok (.sipush 240, 3) := by decide +kernel
theorem dX8_learnOne_12 : decode cX8_learnOne 12 = .ok (.if_icmp .ge 13, 3) := by decide +kernel
theorem dX8_learnOne_15 : decode cX8_learnOne 15 = .ok (.aload_n 0, 1) := by decide +kernel
theorem dX8_learnOne_16 : decode cX8_learnOne 16 = .ok (.getfield 9, 3) := by decide +kernel
theorem dX8_learnOne_19 : decode cX8_learnOne 19 = .ok (.iload_n 2, 1) := by decide +kernel
theorem dX8_learnOne_20 : decode cX8_learnOne 20 = .ok (.iload_n 3, 1) := by decide +kernel
theorem dX8_learnOne_21 : decode cX8_learnOne 21 = .ok (.iastore, 1) := by decide +kernel
theorem dX8_learnOne_22 : decode cX8_learnOne 22 = .ok (.goto 68, 3) := by decide +kernel
theorem dX8_learnOne_25 : decode cX8_learnOne 25 = .ok (.iload_n 1, 1) := by decide +kernel
theorem dX8_learnOne_26 : decode cX8_learnOne 26 = .ok (.iconst 2, 1) := by decide +kernel
theorem dX8_learnOne_27 : decode cX8_learnOne 27 = .ok (.if_icmp .ne 23, 3) := by decide +kernel
theorem dX8_learnOne_30 : decode cX8_learnOne 30 = .ok (.iload_n 2, 1) := by decide +kernel
theorem dX8_learnOne_31 : decode cX8_learnOne 31 = .ok (.ifCond .lt 19, 3) := by decide +kernel
theorem dX8_learnOne_34 : decode cX8_learnOne 34 = .ok (.iload_n 2, 1) := by decide +kernel
theorem dX8_learnOne_35 : decode cX8_learnOne 35 = .ok (.bipush 6, 2) := by decide +kernel
theorem dX8_learnOne_37 : decode cX8_learnOne 37 = .ok (.if_icmp .ge 13, 3) := by decide +kernel
theorem dX8_learnOne_40 : decode cX8_learnOne 40 = .ok (.aload_n 0, 1) := by decide +kernel
theorem dX8_learnOne_41 : decode cX8_learnOne 41 = .ok (.getfield 18, 3) := by decide +kernel
theorem dX8_learnOne_44 : decode cX8_learnOne 44 = .ok (.iload_n 2, 1) := by decide +kernel
theorem dX8_learnOne_45 : decode cX8_learnOne 45 = .ok (.iload_n 3, 1) := by decide +kernel
theorem dX8_learnOne_46 : decode cX8_learnOne 46 = .ok (.iastore, 1) := by decide +kernel
theorem dX8_learnOne_47 : decode cX8_learnOne 47 = .ok (.goto 43, 3) := by decide +kernel
theorem dX8_learnOne_50 : decode cX8_learnOne 50 = .ok (.iload_n 1, 1) := by decide +kernel
theorem dX8_learnOne_51 : decode cX8_learnOne 51 = .ok (.iconst 1, 1) := by decide +kernel
theorem dX8_learnOne_52 : decode cX8_learnOne 52 = .ok (.if_icmp .ne 38, 3) := by decide +kernel
theorem dX8_learnOne_55 : decode cX8_learnOne 55 = .ok (.iload_n 2, 1) := by decide +kernel
theorem dX8_learnOne_56 : decode cX8_learnOne 56 = .ok (.ifCond .lt 34, 3) := by decide +kernel
theorem dX8_learnOne_59 : decode cX8_learnOne 59 = .ok (.iload_n 3, 1) := by decide +kernel
theorem dX8_learnOne_60 : decode cX8_learnOne 60 = .ok (.sipush 240, 3) := by decide +kernel
theorem dX8_learnOne_63 : decode cX8_learnOne 63 = .ok (.if_icmp .gt 27, 3) := by decide +kernel
theorem dX8_learnOne_66 : decode cX8_learnOne 66 = .ok (.iload_n 2, 1) := by decide +kernel
theorem dX8_learnOne_67 : decode cX8_learnOne 67 = .ok (.istore 4, 2) := by decide +kernel
theorem dX8_learnOne_69 : decode cX8_learnOne 69 = .ok (.iload 4, 2) := by decide +kernel
theorem dX8_learnOne_71 : decode cX8_learnOne 71 = .ok (.iload_n 3, 1) := by decide +kernel
theorem dX8_learnOne_72 : decode cX8_learnOne 72 = .ok (.if_icmp .ge 18, 3) := by decide +kernel
theorem dX8_learnOne_75 : decode cX8_learnOne 75 = .ok (.aload_n 0, 1) := by decide +kernel
theorem dX8_learnOne_76 : decode cX8_learnOne 76 = .ok (.getfield 15, 3) := by decide +kernel
theorem dX8_learnOne_79 : decode cX8_learnOne 79 = .ok (.iload 4, 2) := by decide +kernel
theorem dX8_learnOne_81 : decode cX8_learnOne 81 = .ok (.iload 4, 2) := by decide +kernel
theorem dX8_learnOne_83 : decode cX8_learnOne 83 = .ok (.iastore, 1) := by decide +kernel
theorem dX8_learnOne_84 : decode cX8_learnOne 84 = .ok (.iinc 4 1, 3) := by decide +kernel
theorem dX8_learnOne_87 : decode cX8_learnOne 87 = .ok (.goto (-18), 3) := by decide +kernel
theorem dX8_learnOne_90 : decode cX8_learnOne 90 = .ok (.return_, 1) := by decide +kernel
theorem dX8_carryBaseOn_0 : decode cX8_carryBaseOn 0 = .ok (.bipush 9, 2) := by decide +kernel
theorem dX8_carryBaseOn_2 : decode cX8_carryBaseOn 2 = .ok (.istore_n 1, 1) := by decide +kernel
theorem dX8_carryBaseOn_3 : decode cX8_carryBaseOn 3 = .ok (.iconst 0, 1) := by decide +kernel
theorem dX8_carryBaseOn_4 : decode cX8_carryBaseOn 4 = .ok (.istore_n 2, 1) := by decide +kernel
theorem dX8_carryBaseOn_5 : decode cX8_carryBaseOn 5 = .ok (.iload_n 2, 1) := by decide +kernel
theorem dX8_carryBaseOn_6 : decode cX8_carryBaseOn 6 = .ok (.sipush 240, 3) := by decide +kernel
theorem dX8_carryBaseOn_9 : decode cX8_carryBaseOn 9 = .ok (.if_icmp .ge 33, 3) := by decide +kernel
theorem dX8_carryBaseOn_12 : decode cX8_carryBaseOn 12 = .ok (.aload_n 0, 1) := by decide +kernel
theorem dX8_carryBaseOn_13 : decode cX8_carryBaseOn 13 = .ok (.getfield 9, 3) := by decide +kernel
theorem dX8_carryBaseOn_16 : decode cX8_carryBaseOn 16 = .ok (.iload_n 2, 1) := by decide +kernel
theorem dX8_carryBaseOn_17 : decode cX8_carryBaseOn 17 = .ok (.iaload, 1) := by decide +kernel
theorem dX8_carryBaseOn_18 : decode cX8_carryBaseOn 18 = .ok (.iconst (-1), 1) := by decide +kernel
theorem dX8_carryBaseOn_19 : decode cX8_carryBaseOn 19 = .ok (.if_icmp .ne 10, 3) := by decide +kernel
theorem dX8_carryBaseOn_22 : decode cX8_carryBaseOn 22 = .ok (.aload_n 0, 1) := by decide +kernel
theorem dX8_carryBaseOn_23 : decode cX8_carryBaseOn 23 = .ok (.getfield 9, 3) := by decide +kernel
theorem dX8_carryBaseOn_26 : decode cX8_carryBaseOn 26 = .ok (.iload_n 2, 1) := by decide +kernel
theorem dX8_carryBaseOn_27 : decode cX8_carryBaseOn 27 = .ok (.iload_n 1, 1) := by decide +kernel
theorem dX8_carryBaseOn_28 : decode cX8_carryBaseOn 28 = .ok (.iastore, 1) := by decide +kernel
theorem dX8_carryBaseOn_29 : decode cX8_carryBaseOn 29 = .ok (.aload_n 0, 1) := by decide +kernel
theorem dX8_carryBaseOn_30 : decode cX8_carryBaseOn 30 = .ok (.getfield 9, 3) := by decide +kernel
theorem dX8_carryBaseOn_33 : decode cX8_carryBaseOn 33 = .ok (.iload_n 2, 1) := by decide +kernel
theorem dX8_carryBaseOn_34 : decode cX8_carryBaseOn 34 = .ok (.iaload, 1) := by decide +kernel
theorem dX8_carryBaseOn_35 : decode cX8_carryBaseOn 35 = .ok (.istore_n 1, 1) := by decide +kernel
theorem dX8_carryBaseOn_36 : decode cX8_carryBaseOn 36 = .ok (.iinc 2 1, 3) := by decide +kernel
theorem dX8_carryBaseOn_39 : decode cX8_carryBaseOn 39 = .ok (.goto (-34), 3) := by decide +kernel
theorem dX8_carryBaseOn_42 : decode cX8_carryBaseOn 42 = .ok (.return_, 1) := by decide +kernel
theorem dX8_lookAhead_0 : decode cX8_lookAhead 0 = .ok (.sipush 238, 3) := by decide +kernel
theorem dX8_lookAhead_3 : decode cX8_lookAhead 3 = .ok (.istore_n 1, 1) := by decide +kernel
theorem dX8_lookAhead_4 : decode cX8_lookAhead 4 = .ok (.iload_n 1, 1) := by decide +kernel
theorem dX8_lookAhead_5 : decode cX8_lookAhead 5 = .ok (.ifCond .lt 32, 3) := by decide +kernel
theorem dX8_lookAhead_8 : decode cX8_lookAhead 8 = .ok (.aload_n 0, 1) := by decide +kernel
theorem dX8_lookAhead_9 : decode cX8_lookAhead 9 = .ok (.getfield 15, 3) := by decide +kernel
theorem dX8_lookAhead_12 : decode cX8_lookAhead 12 = .ok (.iload_n 1, 1) := by decide +kernel
theorem dX8_lookAhead_13 : decode cX8_lookAhead 13 = .ok (.aload_n 0, 1) := by decide +kernel
theorem dX8_lookAhead_14 : decode cX8_lookAhead 14 = .ok (.getfield 15, 3) := by decide +kernel
theorem dX8_lookAhead_17 : decode cX8_lookAhead 17 = .ok (.iload_n 1, 1) := by decide +kernel
theorem dX8_lookAhead_18 : decode cX8_lookAhead 18 = .ok (.iaload, 1) := by decide +kernel
theorem dX8_lookAhead_19 : decode cX8_lookAhead 19 = .ok (.aload_n 0, 1) := by decide +kernel
theorem dX8_lookAhead_20 : decode cX8_lookAhead 20 = .ok (.getfield 15, 3) := by decide +kernel
theorem dX8_lookAhead_23 : decode cX8_lookAhead 23 = .ok (.iload_n 1, 1) := by decide +kernel
theorem dX8_lookAhead_24 : decode cX8_lookAhead 24 = .ok (.iconst 1, 1) := by decide +kernel
theorem dX8_lookAhead_25 : decode cX8_lookAhead 25 = .ok (.iadd, 1) := by decide +kernel
theorem dX8_lookAhead_26 : decode cX8_lookAhead 26 = .ok (.iaload, 1) := by decide +kernel
theorem dX8_lookAhead_27 : decode cX8_lookAhead 27 = .ok (.invokestatic 48, 3) := by decide +kernel
theorem dX8_lookAhead_30 : decode cX8_lookAhead 30 = .ok (.iastore, 1) := by decide +kernel
theorem dX8_lookAhead_31 : decode cX8_lookAhead 31 = .ok (.iinc 1 (-1), 3) := by decide +kernel
theorem dX8_lookAhead_34 : decode cX8_lookAhead 34 = .ok (.goto (-30), 3) := by decide +kernel
theorem dX8_lookAhead_37 : decode cX8_lookAhead 37 = .ok (.return_, 1) := by decide +kernel
theorem dX9_init_0 : decode cX9_init 0 = .ok (.aload_n 0, 1) := by decide +kernel
theorem dX9_init_1 : decode cX9_init 1 = .ok (.invokespecial 1, 3) := by decide +kernel
theorem dX9_init_4 : decode cX9_init 4 = .ok (.aload_n 0, 1) := by decide +kernel
theorem dX9_init_5 : decode cX9_init 5 = .ok (.sipush 2000, 3) := by decide +kernel
theorem dX9_init_8 : decode cX9_init 8 = .ok (.newarray .byte, 2) := by decide +kernel
theorem dX9_init_10 : decode cX9_init 10 = .ok (.putfield 9, 3) := by decide +kernel
theorem dX9_init_13 : decode cX9_init 13 = .ok (.aload_n 0, 1) := by decide +kernel
theorem dX9_init_14 : decode cX9_init 14 = .ok (.iconst 0, 1) := by decide +kernel
theorem dX9_init_15 : decode cX9_init 15 = .ok (.putfield 13, 3) := by decide +kernel
theorem dX9_init_18 : decode cX9_init 18 = .ok (.return_, 1) := by decide +kernel
theorem dX9_hasRoomFor_0 : decode cX9_hasRoomFor 0 = .ok (.aload_n 0, 1) := by decide +kernel
theorem dX9_hasRoomFor_1 : decode cX9_hasRoomFor 1 = .ok (.getfield 13, 3) := by decide +kernel
theorem dX9_hasRoomFor_4 : decode cX9_hasRoomFor 4 = .ok (.iload_n 1, 1) := by decide +kernel
theorem dX9_hasRoomFor_5 : decode cX9_hasRoomFor 5 = .ok (.iadd, 1) := by decide +kernel
theorem dX9_hasRoomFor_6 : decode cX9_hasRoomFor 6 = .ok (.sipush 2000, 3) := by decide +kernel
theorem dX9_hasRoomFor_9 : decode cX9_hasRoomFor 9 = .ok (.if_icmp .gt 7, 3) := by decide +kernel
theorem dX9_hasRoomFor_12 : decode cX9_hasRoomFor 12 = .ok (.iconst 1, 1) := by decide +kernel
theorem dX9_hasRoomFor_13 : decode cX9_hasRoomFor 13 = .ok (.goto 4, 3) := by decide +kernel
theorem dX9_hasRoomFor_16 : decode cX9_hasRoomFor 16 = .ok (.iconst 0, 1) := by decide +kernel
theorem dX9_hasRoomFor_17 : decode cX9_hasRoomFor 17 = .ok (.ireturn, 1) := by decide +kernel
theorem dX9_append_0 : decode cX9_append 0 = .ok (.bipush 24, 2) := by decide +kernel
theorem dX9_append_2 : decode cX9_append 2 = .ok (.istore_n 2, 1) := by decide +kernel
theorem dX9_append_3 : decode cX9_append 3 = .ok (.iload_n 2, 1) := by decide +kernel
theorem dX9_append_4 : decode cX9_append 4 = .ok (.ifCond .lt 42, 3) := by decide +kernel
theorem dX9_append_7 : decode cX9_append 7 = .ok (.aload_n 0, 1) := by decide +kernel
theorem dX9_append_8 : decode cX9_append 8 = .ok (.getfield 13, 3) := by decide +kernel
theorem dX9_append_11 : decode cX9_append 11 = .ok (.sipush 2000, 3) := by decide +kernel
theorem dX9_append_14 : decode cX9_append 14 = .ok (.if_icmp .ge 32, 3) := by decide +kernel
theorem dX9_append_17 : decode cX9_append 17 = .ok (.aload_n 0, 1) := by decide +kernel
theorem dX9_append_18 : decode cX9_append 18 = .ok (.getfield 9, 3) := by decide +kernel
theorem dX9_append_21 : decode cX9_append 21 = .ok (.aload_n 0, 1) := by decide +kernel
theorem dX9_append_22 : decode cX9_append 22 = .ok (.getfield 13, 3) := by decide +kernel
theorem dX9_append_25 : decode cX9_append 25 = .ok (.iload_n 1, 1) := by decide +kernel
theorem dX9_append_26 : decode cX9_append 26 = .ok (.iload_n 2, 1) := by decide +kernel
theorem dX9_append_27 : decode cX9_append 27 = .ok (.ishr, 1) := by decide +kernel
theorem dX9_append_28 : decode cX9_append 28 = .ok (.i2b, 1) := by decide +kernel
theorem dX9_append_29 : decode cX9_append 29 = .ok (.bastore, 1) := by decide +kernel
theorem dX9_append_30 : decode cX9_append 30 = .ok (.aload_n 0, 1) := by decide +kernel
theorem dX9_append_31 : decode cX9_append 31 = .ok (.dup, 1) := by decide +kernel
theorem dX9_append_32 : decode cX9_append 32 = .ok (.getfield 13, 3) := by decide +kernel
theorem dX9_append_35 : decode cX9_append 35 = .ok (.iconst 1, 1) := by decide +kernel
theorem dX9_append_36 : decode cX9_append 36 = .ok (.iadd, 1) := by decide +kernel
theorem dX9_append_37 : decode cX9_append 37 = .ok (.putfield 13, 3) := by decide +kernel
theorem dX9_append_40 : decode cX9_append 40 = .ok (.iinc 2 (-8), 3) := by decide +kernel
theorem dX9_append_43 : decode cX9_append 43 = .ok (.goto (-40), 3) := by decide +kernel
theorem dX9_append_46 : decode cX9_append 46 = .ok (.return_, 1) := by decide +kernel
theorem dX9_byteAt_0 : decode cX9_byteAt 0 = .ok (.iload_n 1, 1) := by decide +kernel
theorem dX9_byteAt_1 : decode cX9_byteAt 1 = .ok (.ifCond .lt 27, 3) := by decide +kernel
theorem dX9_byteAt_4 : decode cX9_byteAt 4 = .ok (.iload_n 1, 1) := by decide +kernel
theorem dX9_byteAt_5 : decode cX9_byteAt 5 = .ok (.aload_n 0, 1) := by decide +kernel
theorem dX9_byteAt_6 : decode cX9_byteAt 6 = .ok (.getfield 13, 3) := by decide +kernel
theorem dX9_byteAt_9 : decode cX9_byteAt 9 = .ok (.if_icmp .ge 19, 3) := by decide +kernel
theorem dX9_byteAt_12 : decode cX9_byteAt 12 = .ok (.iload_n 1, 1) := by decide +kernel
theorem dX9_byteAt_13 : decode cX9_byteAt 13 = .ok (.sipush 2000, 3) := by decide +kernel
theorem dX9_byteAt_16 : decode cX9_byteAt 16 = .ok (.if_icmp .ge 12, 3) := by decide +kernel
theorem dX9_byteAt_19 : decode cX9_byteAt 19 = .ok (.aload_n 0, 1) := by decide +kernel
theorem dX9_byteAt_20 : decode cX9_byteAt 20 = .ok (.getfield 9, 3) := by decide +kernel
theorem dX9_byteAt_23 : decode cX9_byteAt 23 = .ok (.iload_n 1, 1) := by decide +kernel
theorem dX9_byteAt_24 : decode cX9_byteAt 24 = .ok (.baload, 1) := by decide +kernel
theorem dX9_byteAt_25 : decode cX9_byteAt 25 = .ok (.goto 4, 3) := by decide +kernel
theorem dX9_byteAt_28 : decode cX9_byteAt 28 = .ok (.iconst 0, 1) := by decide +kernel
theorem dX9_byteAt_29 : decode cX9_byteAt 29 = .ok (.ireturn, 1) := by decide +kernel
theorem dX10_init_0 : decode cX10_init 0 = .ok (.aload_n 0, 1) := by decide +kernel
theorem dX10_init_1 : decode cX10_init 1 = .ok (.invokespecial 5, 3) := by decide +kernel
theorem dX10_init_4 : decode cX10_init 4 = .ok (.aload_n 0, 1) := by decide +kernel
theorem dX10_init_5 : decode cX10_init 5 = .ok (.bipush 16, 2) := by decide +kernel
theorem dX10_init_7 : decode cX10_init 7 = .ok (.newarray .int, 2) := by decide +kernel
theorem dX10_init_9 : decode cX10_init 9 = .ok (.putfield 13, 3) := by decide +kernel
theorem dX10_init_12 : decode cX10_init 12 = .ok (.aload_n 0, 1) := by decide +kernel
theorem dX10_init_13 : decode cX10_init 13 = .ok (.bipush 16, 2) := by decide +kernel
theorem dX10_init_15 : decode cX10_init 15 = .ok (.newarray .int, 2) := by decide +kernel
theorem dX10_init_17 : decode cX10_init 17 = .ok (.putfield 17, 3) := by decide +kernel
theorem dX10_init_20 : decode cX10_init 20 = .ok (.aload_n 0, 1) := by decide +kernel
theorem dX10_init_21 : decode cX10_init 21 = .ok (.bipush 16, 2) := by decide +kernel
theorem dX10_init_23 : decode cX10_init 23 = .ok (.newarray .int, 2) := by decide +kernel
theorem dX10_init_25 : decode cX10_init 25 = .ok (.putfield 20, 3) := by decide +kernel
theorem dX10_init_28 : decode cX10_init 28 = .ok (.aload_n 0, 1) := by decide +kernel
theorem dX10_init_29 : decode cX10_init 29 = .ok (.bipush 16, 2) := by decide +kernel
theorem dX10_init_31 : decode cX10_init 31 = .ok (.newarray .int, 2) := by decide +kernel
theorem dX10_init_33 : decode cX10_init 33 = .ok (.putfield 23, 3) := by decide +kernel
theorem dX10_init_36 : decode cX10_init 36 = .ok (.aload_n 0, 1) := by decide +kernel
theorem dX10_init_37 : decode cX10_init 37 = .ok (.sipush 400, 3) := by decide +kernel
theorem dX10_init_40 : decode cX10_init 40 = .ok (.newarray .int, 2) := by decide +kernel
theorem dX10_init_42 : decode cX10_init 42 = .ok (.putfield 26, 3) := by decide +kernel
theorem dX10_init_45 : decode cX10_init 45 = .ok (.aload_n 0, 1) := by decide +kernel
theorem dX10_init_46 : decode cX10_init 46 = .ok (.bipush 32, 2) := by decide +kernel
theorem dX10_init_48 : decode cX10_init 48 = .ok (.newarray .int, 2) := by decide +kernel
theorem dX10_init_50 : decode cX10_init 50 = .ok (.putfield 29, 3) := by decide +kernel
theorem dX10_init_53 : decode cX10_init 53 = .ok (.aload_n 0, 1) := by decide +kernel
theorem dX10_init_54 : decode cX10_init 54 = .ok (.iconst 0, 1) := by decide +kernel
theorem dX10_init_55 : decode cX10_init 55 = .ok (.putfield 32, 3) := by decide +kernel
theorem dX10_init_58 : decode cX10_init 58 = .ok (.aload_n 0, 1) := by decide +kernel
theorem dX10_init_59 : decode cX10_init 59 = .ok (.iconst 0, 1) := by decide +kernel
theorem dX10_init_60 : decode cX10_init 60 = .ok (.putfield 36, 3) := by decide +kernel
theorem dX10_init_63 : decode cX10_init 63 = .ok (.return_, 1) := by decide +kernel
theorem dX10_clear_0 : decode cX10_clear 0 = .ok (.aload_n 0, 1) := by decide +kernel
theorem dX10_clear_1 : decode cX10_clear 1 = .ok (.iconst 0, 1) := by decide +kernel
theorem dX10_clear_2 : decode cX10_clear 2 = .ok (.putfield 32, 3) := by decide +kernel
theorem dX10_clear_5 : decode cX10_clear 5 = .ok (.aload_n 0, 1) := by decide +kernel
theorem dX10_clear_6 : decode cX10_clear 6 = .ok (.iconst 0, 1) := by decide +kernel
theorem dX10_clear_7 : decode cX10_clear 7 = .ok (.putfield 36, 3) := by decide +kernel
theorem dX10_clear_10 : decode cX10_clear 10 = .ok (.return_, 1) := by decide +kernel
theorem dX10_isFull_0 : decode cX10_isFull 0 = .ok (.aload_n 0, 1) := by decide +kernel
theorem dX10_isFull_1 : decode cX10_isFull 1 = .ok (.getfield 36, 3) := by decide +kernel
theorem dX10_isFull_4 : decode cX10_isFull 4 = .ok (.bipush 16, 2) := by decide +kernel
theorem dX10_isFull_6 : decode cX10_isFull 6 = .ok (.if_icmp .lt 7, 3) := by decide +kernel
theorem dX10_isFull_9 : decode cX10_isFull 9 = .ok (.iconst 1, 1) := by decide +kernel
theorem dX10_isFull_10 : decode cX10_isFull 10 = .ok (.goto 4, 3) := by decide +kernel
theorem dX10_isFull_13 : decode cX10_isFull 13 = .ok (.iconst 0, 1) := by decide +kernel
theorem dX10_isFull_14 : decode cX10_isFull 14 = .ok (.ireturn, 1) := by decide +kernel
theorem dX10_openRule_0 : decode cX10_openRule 0 = .ok (.aload_n 0, 1) := by decide +kernel
theorem dX10_openRule_1 : decode cX10_openRule 1 = .ok (.getfield 36, 3) := by decide +kernel
theorem dX10_openRule_4 : decode cX10_openRule 4 = .ok (.bipush 16, 2) := by decide +kernel
theorem dX10_openRule_6 : decode cX10_openRule 6 = .ok (.if_icmp .ge 47, 3) := by decide +kernel
theorem dX10_openRule_9 : decode cX10_openRule 9 = .ok (.aload_n 0, 1) := by decide +kernel
theorem dX10_openRule_10 : decode cX10_openRule 10 = .ok (.getfield 13, 3) := by decide +kernel
theorem dX10_openRule_13 : decode cX10_openRule 13 = .ok (.aload_n 0, 1) := by decide +kernel
theorem dX10_openRule_14 : decode cX10_openRule 14 = .ok (.getfield 36, 3) := by decide +kernel
theorem dX10_openRule_17 : decode cX10_openRule 17 = .ok (.iload_n 1, 1) := by decide +kernel
theorem dX10_openRule_18 : decode cX10_openRule 18 = .ok (.iastore, 1) := by decide +kernel
theorem dX10_openRule_19 : decode cX10_openRule 19 = .ok (.aload_n 0, 1) := by decide +kernel
theorem dX10_openRule_20 : decode cX10_openRule 20 = .ok (.getfield 17, 3) := by decide +kernel
theorem dX10_openRule_23 : decode cX10_openRule 23 = .ok (.aload_n 0, 1) := by decide +kernel
theorem dX10_openRule_24 : decode cX10_openRule 24 = .ok (.getfield 36, 3) := by decide +kernel
theorem dX10_openRule_27 : decode cX10_openRule 27 = .ok (.aload_n 0, 1) := by decide +kernel
theorem dX10_openRule_28 : decode cX10_openRule 28 = .ok (.getfield 32, 3) := by decide +kernel
theorem dX10_openRule_31 : decode cX10_openRule 31 = .ok (.iastore, 1) := by decide +kernel
theorem dX10_openRule_32 : decode cX10_openRule 32 = .ok (.aload_n 0, 1) := by decide +kernel
theorem dX10_openRule_33 : decode cX10_openRule 33 = .ok (.getfield 20, 3) := by decide +kernel
theorem dX10_openRule_36 : decode cX10_openRule 36 = .ok (.aload_n 0, 1) := by decide +kernel
theorem dX10_openRule_37 : decode cX10_openRule 37 = .ok (.getfield 36, 3) := by decide +kernel
theorem dX10_openRule_40 : decode cX10_openRule 40 = .ok (.iload_n 1, 1) := by decide +kernel
theorem dX10_openRule_41 : decode cX10_openRule 41 = .ok (.ifCond .ne 10, 3) := by decide +kernel
theorem dX10_openRule_44 : decode cX10_openRule 44 = .ok (.aload_n 0, 1) := by decide +kernel
theorem dX10_openRule_45 : decode cX10_openRule 45 = .ok (.getfield 32, 3) := by decide +kernel
theorem dX10_openRule_48 : decode cX10_openRule 48 = .ok (.goto 4, 3) := by decide +kernel
theorem dX10_openRule_51 : decode cX10_openRule 51 = .ok (.iconst (-1), 1) := by decide +kernel
theorem dX10_openRule_52 : decode cX10_openRule 52 = .ok (.iastore, 1) := by decide +kernel
theorem dX10_openRule_53 : decode cX10_openRule 53 = .ok (.return_, 1) := by decide +kernel
theorem dX10_openCondition_0 : decode cX10_openCondition 0 = .ok (.aload_n 0, 1) := by decide +kernel
theorem dX10_openCondition_1 : decode cX10_openCondition 1 = .ok (.getfield 36, 3) := by decide +kernel
theorem dX10_openCondition_4 : decode cX10_openCondition 4 = .ok (.bipush 16, 2) := by decide +kernel
theorem dX10_openCondition_6 : decode cX10_openCondition 6 = .ok (.if_icmp .ge 16, 3) := by decide +kernel
theorem dX10_openCondition_9 : decode cX10_openCondition 9 = .ok (.aload_n 0, 1) := by decide +kernel
theorem dX10_openCondition_10 : decode cX10_openCondition 10 = .ok (.getfield 20, 3) := by decide +kernel
theorem dX10_openCondition_13 : decode cX10_openCondition 13 = .ok (.aload_n 0, 1) := by decide +kernel
theorem dX10_openCondition_14 : decode cX10_openCondition 14 = .ok (.getfield 36, 3) := by decide +kernel
theorem dX10_openCondition_17 : decode cX10_openCondition 17 = .ok (.aload_n 0, 1) := by decide +kernel
theorem dX10_openCondition_18 : decode cX10_openCondition 18 = .ok (.getfield 32, 3) := by decide +kernel
theorem dX10_openCondition_21 : decode cX10_openCondition 21 = .ok (.iastore, 1) := by decide +kernel
theorem dX10_openCondition_22 : decode cX10_openCondition 22 = .ok (.return_, 1) := by decide +kernel
theorem dX10_closeRule_0 : decode cX10_closeRule 0 = .ok (.aload_n 0, 1) := by decide +kernel
theorem dX10_closeRule_1 : decode cX10_closeRule 1 = .ok (.getfield 36, 3) := by decide +kernel
theorem dX10_closeRule_4 : decode cX10_closeRule 4 = .ok (.bipush 16, 2) := by decide +kernel
theorem dX10_closeRule_6 : decode cX10_closeRule 6 = .ok (.if_icmp .ge 52, 3) := by decide +kernel
theorem dX10_closeRule_9 : decode cX10_closeRule 9 = .ok (.aload_n 0, 1) := by decide +kernel
theorem dX10_closeRule_10 : decode cX10_closeRule 10 = .ok (.getfield 23, 3) := by decide +kernel
theorem dX10_closeRule_13 : decode cX10_closeRule 13 = .ok (.aload_n 0, 1) := by decide +kernel
theorem dX10_closeRule_14 : decode cX10_closeRule 14 = .ok (.getfield 36, 3) := by decide +kernel
theorem dX10_closeRule_17 : decode cX10_closeRule 17 = .ok (.aload_n 0, 1) := by decide +kernel
theorem dX10_closeRule_18 : decode cX10_closeRule 18 = .ok (.getfield 32, 3) := by decide +kernel
theorem dX10_closeRule_21 : decode cX10_closeRule 21 = .ok (.iastore, 1) := by decide +kernel
theorem dX10_closeRule_22 : decode cX10_closeRule 22 = .ok (.aload_n 0, 1) := by decide +kernel
theorem dX10_closeRule_23 : decode cX10_closeRule 23 = .ok (.getfield 20, 3) := by decide +kernel
theorem dX10_closeRule_26 : decode cX10_closeRule 26 = .ok (.aload_n 0, 1) := by decide +kernel
theorem dX10_closeRule_27 : decode cX10_closeRule 27 = .ok (.getfield 36, 3) := by decide +kernel
theorem dX10_closeRule_30 : decode cX10_closeRule 30 = .ok (.iaload, 1) := by decide +kernel
theorem dX10_closeRule_31 : decode cX10_closeRule 31 = .ok (.iconst (-1), 1) := by decide +kernel
theorem dX10_closeRule_32 : decode cX10_closeRule 32 = .ok (.if_icmp .ne 16, 3) := by decide +kernel
theorem dX10_closeRule_35 : decode cX10_closeRule 35 = .ok (.aload_n 0, 1) := by decide +kernel
theorem dX10_closeRule_36 : decode cX10_closeRule 36 = .ok (.getfield 20, 3) := by decide +kernel
theorem dX10_closeRule_39 : decode cX10_closeRule 39 = .ok (.aload_n 0, 1) := by decide +kernel
theorem dX10_closeRule_40 : decode cX10_closeRule 40 = .ok (.getfield 36, 3) := by decide +kernel
theorem dX10_closeRule_43 : decode cX10_closeRule 43 = .ok (.aload_n 0, 1) := by decide +kernel
theorem dX10_closeRule_44 : decode cX10_closeRule 44 = .ok (.getfield 32, 3) := by decide +kernel
theorem dX10_closeRule_47 : decode cX10_closeRule 47 = .ok (.iastore, 1) := by decide +kernel
theorem dX10_closeRule_48 : decode cX10_closeRule 48 = .ok (.aload_n 0, 1) := by decide +kernel
theorem dX10_closeRule_49 : decode cX10_closeRule 49 = .ok (.dup, 1) := by decide +kernel
theorem dX10_closeRule_50 : decode cX10_closeRule 50 = .ok (.getfield 36, 3) := by decide +kernel
theorem dX10_closeRule_53 : decode cX10_closeRule 53 = .ok (.iconst 1, 1) := by decide +kernel
theorem dX10_closeRule_54 : decode cX10_closeRule 54 = .ok (.iadd, 1) := by decide +kernel
theorem dX10_closeRule_55 : decode cX10_closeRule 55 = .ok (.putfield 36, 3) := by decide +kernel
theorem dX10_closeRule_58 : decode cX10_closeRule 58 = .ok (.return_, 1) := by decide +kernel
theorem dX10_emit_0 : decode cX10_emit 0 = .ok (.aload_n 0, 1) := by decide +kernel
theorem dX10_emit_1 : decode cX10_emit 1 = .ok (.getfield 32, 3) := by decide +kernel
theorem dX10_emit_4 : decode cX10_emit 4 = .ok (.sipush 400, 3) := by decide +kernel
theorem dX10_emit_7 : decode cX10_emit 7 = .ok (.if_icmp .ge 27, 3) := by decide +kernel
theorem dX10_emit_10 : decode cX10_emit 10 = .ok (.aload_n 0, 1) := by decide +kernel
theorem dX10_emit_11 : decode cX10_emit 11 = .ok (.getfield 26, 3) := by decide +kernel
theorem dX10_emit_14 : decode cX10_emit 14 = .ok (.aload_n 0, 1) := by decide +kernel
theorem dX10_emit_15 : decode cX10_emit 15 = .ok (.getfield 32, 3) := by decide +kernel
theorem dX10_emit_18 : decode cX10_emit 18 = .ok (.iload_n 2, 1) := by decide +kernel
theorem dX10_emit_19 : decode cX10_emit 19 = .ok (.iconst 5, 1) := by decide +kernel
theorem dX10_emit_20 : decode cX10_emit 20 = .ok (.ishl, 1) := by decide +kernel
theorem dX10_emit_21 : decode cX10_emit 21 = .ok (.iload_n 1, 1) := by decide +kernel
theorem dX10_emit_22 : decode cX10_emit 22 = .ok (.ior, 1) := by decide +kernel
theorem dX10_emit_23 : decode cX10_emit 23 = .ok (.iastore, 1) := by decide +kernel
theorem dX10_emit_24 : decode cX10_emit 24 = .ok (.aload_n 0, 1) := by decide +kernel
theorem dX10_emit_25 : decode cX10_emit 25 = .ok (.dup, 1) := by decide +kernel
theorem dX10_emit_26 : decode cX10_emit 26 = .ok (.getfield 32, 3) := by decide +kernel
theorem dX10_emit_29 : decode cX10_emit 29 = .ok (.iconst 1, 1) := by decide +kernel
theorem dX10_emit_30 : decode cX10_emit 30 = .ok (.iadd, 1) := by decide +kernel
theorem dX10_emit_31 : decode cX10_emit 31 = .ok (.putfield 32, 3) := by decide +kernel
theorem dX10_emit_34 : decode cX10_emit 34 = .ok (.return_, 1) := by decide +kernel
theorem dX10_amountOf_0 : decode cX10_amountOf 0 = .ok (.iload_n 1, 1) := by decide +kernel
theorem dX10_amountOf_1 : decode cX10_amountOf 1 = .ok (.ifCond .lt 17, 3) := by decide +kernel
theorem dX10_amountOf_4 : decode cX10_amountOf 4 = .ok (.iload_n 1, 1) := by decide +kernel
theorem dX10_amountOf_5 : decode cX10_amountOf 5 = .ok (.aload_n 0, 1) := by decide +kernel
theorem dX10_amountOf_6 : decode cX10_amountOf 6 = .ok (.getfield 36, 3) := by decide +kernel
theorem dX10_amountOf_9 : decode cX10_amountOf 9 = .ok (.if_icmp .ge 9, 3) := by decide +kernel
theorem dX10_amountOf_12 : decode cX10_amountOf 12 = .ok (.iload_n 1, 1) := by decide +kernel
theorem dX10_amountOf_13 : decode cX10_amountOf 13 = .ok (.bipush 16, 2) := by decide +kernel
theorem dX10_amountOf_15 : decode cX10_amountOf 15 = .ok (.if_icmp .lt 5, 3) := by decide +kernel
theorem dX10_amountOf_18 : decode cX10_amountOf 18 = .ok (.iconst 0, 1) := by decide +kernel
theorem dX10_amountOf_19 : decode cX10_amountOf 19 = .ok (.ireturn, 1) := by decide +kernel
theorem dX10_amountOf_20 : decode cX10_amountOf 20 = .ok (.iconst 0, 1) := by decide +kernel
theorem dX10_amountOf_21 : decode cX10_amountOf 21 = .ok (.bipush 30, 2) := by decide +kernel
theorem dX10_amountOf_23 : decode cX10_amountOf 23 = .ok (.aload_n 0, 1) := by decide +kernel
theorem dX10_amountOf_24 : decode cX10_amountOf 24 = .ok (.aload_n 0, 1) := by decide +kernel
theorem dX10_amountOf_25 : decode cX10_amountOf 25 = .ok (.getfield 17, 3) := by decide +kernel
theorem dX10_amountOf_28 : decode cX10_amountOf 28 = .ok (.iload_n 1, 1) := by decide +kernel
theorem dX10_amountOf_29 : decode cX10_amountOf 29 = .ok (.iaload, 1) := by decide +kernel
theorem dX10_amountOf_30 : decode cX10_amountOf 30 = .ok (.aload_n 0, 1) := by decide +kernel
theorem dX10_amountOf_31 : decode cX10_amountOf 31 = .ok (.getfield 20, 3) := by decide +kernel
theorem dX10_amountOf_34 : decode cX10_amountOf 34 = .ok (.iload_n 1, 1) := by decide +kernel
theorem dX10_amountOf_35 : decode cX10_amountOf 35 = .ok (.iaload, 1) := by decide +kernel
theorem dX10_amountOf_36 : decode cX10_amountOf 36 = .ok (.aload_n 2, 1) := by decide +kernel
theorem dX10_amountOf_37 : decode cX10_amountOf 37 = .ok (.invokevirtual 39, 3) := by decide +kernel
theorem dX10_amountOf_40 : decode cX10_amountOf 40 = .ok (.invokestatic 43, 3) := by decide +kernel
theorem dX10_amountOf_43 : decode cX10_amountOf 43 = .ok (.invokestatic 49, 3) := by decide +kernel
theorem dX10_amountOf_46 : decode cX10_amountOf 46 = .ok (.ireturn, 1) := by decide +kernel
theorem dX10_firstThatHolds_0 : decode cX10_firstThatHolds 0 = .ok (.iconst 0, 1) := by decide +kernel
theorem dX10_firstThatHolds_1 : decode cX10_firstThatHolds 1 = .ok (.istore_n 3, 1) := by decide +kernel
theorem dX10_firstThatHolds_2 : decode cX10_firstThatHolds 2 = .ok (.iload_n 3, 1) := by decide +kernel
theorem dX10_firstThatHolds_3 : decode cX10_firstThatHolds 3 = .ok (.aload_n 0, 1) := by decide +kernel
theorem dX10_firstThatHolds_4 : decode cX10_firstThatHolds 4 = .ok (.getfield 36, 3) := by decide +kernel
theorem dX10_firstThatHolds_7 : decode cX10_firstThatHolds 7 = .ok (.if_icmp .ge 74, 3) := by decide +kernel
theorem dX10_firstThatHolds_10 : decode cX10_firstThatHolds 10 = .ok (.iload_n 3, 1) := by decide +kernel
theorem dX10_firstThatHolds_11 : decode cX10_firstThatHolds 11 = .ok (.bipush 16, 2) := by decide +kernel
theorem dX10_firstThatHolds_13 : decode cX10_firstThatHolds 13 = .ok (.if_icmp .ge 68, 3) := by decide +kernel
theorem dX10_firstThatHolds_16 : decode cX10_firstThatHolds 16 = .ok (.aload_n 0, 1) := by decide +kernel
theorem dX10_firstThatHolds_17 : decode cX10_firstThatHolds 17 = .ok (.getfield 13, 3) := by decide +kernel
theorem dX10_firstThatHolds_20 : decode cX10_firstThatHolds 20 = .ok (.iload_n 3, 1) := by decide +kernel
theorem dX10_firstThatHolds_21 : decode cX10_firstThatHolds 21 = .ok (.iaload, 1) := by decide +kernel
theorem dX10_firstThatHolds_22 : decode cX10_firstThatHolds 22 = .ok (.iload_n 1, 1) := by decide +kernel
theorem dX10_firstThatHolds_23 : decode cX10_firstThatHolds 23 = .ok (.if_icmp .ne 52, 3) := by decide +kernel
theorem dX10_firstThatHolds_26 : decode cX10_firstThatHolds 26 = .ok (.aload_n 0, 1) := by decide +kernel
theorem dX10_firstThatHolds_27 : decode cX10_firstThatHolds 27 = .ok (.getfield 20, 3) := by decide +kernel
theorem dX10_firstThatHolds_30 : decode cX10_firstThatHolds 30 = .ok (.iload_n 3, 1) := by decide +kernel
theorem dX10_firstThatHolds_31 : decode cX10_firstThatHolds 31 = .ok (.iaload, 1) := by decide +kernel
theorem dX10_firstThatHolds_32 : decode cX10_firstThatHolds 32 = .ok (.aload_n 0, 1) := by decide +kernel
theorem dX10_firstThatHolds_33 : decode cX10_firstThatHolds 33 = .ok (.getfield 23, 3) := by decide +kernel
theorem dX10_firstThatHolds_36 : decode cX10_firstThatHolds 36 = .ok (.iload_n 3, 1) := by decide +kernel
theorem dX10_firstThatHolds_37 : decode cX10_firstThatHolds 37 = .ok (.iaload, 1) := by decide +kernel
theorem dX10_firstThatHolds_38 : decode cX10_firstThatHolds 38 = .ok (.if_icmp .ne 7, 3) := by decide +kernel
theorem dX10_firstThatHolds_41 : decode cX10_firstThatHolds 41 = .ok (.iconst 1, 1) := by decide +kernel
theorem dX10_firstThatHolds_42 : decode cX10_firstThatHolds 42 = .ok (.goto 4, 3) := by decide +kernel
theorem dX10_firstThatHolds_45 : decode cX10_firstThatHolds 45 = .ok (.iconst 0, 1) := by decide +kernel
theorem dX10_firstThatHolds_46 : decode cX10_firstThatHolds 46 = .ok (.istore 4, 2) := by decide +kernel
theorem dX10_firstThatHolds_48 : decode cX10_firstThatHolds 48 = .ok (.iload 4, 2) := by decide +kernel
theorem dX10_firstThatHolds_50 : decode cX10_firstThatHolds 50 = .ok (.ifCond .ne 23, 3) := by decide +kernel
theorem dX10_firstThatHolds_53 : decode cX10_firstThatHolds 53 = .ok (.aload_n 0, 1) := by decide +kernel
theorem dX10_firstThatHolds_54 : decode cX10_firstThatHolds 54 = .ok (.aload_n 0, 1) := by decide +kernel
theorem dX10_firstThatHolds_55 : decode cX10_firstThatHolds 55 = .ok (.getfield 20, 3) := by decide +kernel
theorem dX10_firstThatHolds_58 : decode cX10_firstThatHolds 58 = .ok (.iload_n 3, 1) := by decide +kernel
theorem dX10_firstThatHolds_59 : decode cX10_firstThatHolds 59 = .ok (.iaload, 1) := by decide +kernel
theorem dX10_firstThatHolds_60 : decode cX10_firstThatHolds 60 = .ok (.aload_n 0, 1) := by decide +kernel
theorem dX10_firstThatHolds_61 : decode cX10_firstThatHolds 61 = .ok (.getfield 23, 3) := by decide +kernel
theorem dX10_firstThatHolds_64 : decode cX10_firstThatHolds 64 = .ok (.iload_n 3, 1) := by decide +kernel
theorem dX10_firstThatHolds_65 : decode cX10_firstThatHolds 65 = .ok (.iaload, 1) := by decide +kernel
theorem dX10_firstThatHolds_66 : decode cX10_firstThatHolds 66 = .ok (.aload_n 2, 1) := by decide +kernel
theorem dX10_firstThatHolds_67 : decode cX10_firstThatHolds 67 = .ok (.invokevirtual 39, 3) := by decide +kernel
theorem dX10_firstThatHolds_70 : decode cX10_firstThatHolds 70 = .ok (.ifCond .eq 5, 3) := by decide +kernel
theorem dX10_firstThatHolds_73 : decode cX10_firstThatHolds 73 = .ok (.iload_n 3, 1) := by decide +kernel
theorem dX10_firstThatHolds_74 : decode cX10_firstThatHolds 74 = .ok (.ireturn, 1) := by decide +kernel
theorem dX10_firstThatHolds_75 : decode cX10_firstThatHolds 75 = .ok (.iinc 3 1, 3) := by decide +kernel
theorem dX10_firstThatHolds_78 : decode cX10_firstThatHolds 78 = .ok (.goto (-76), 3) := by decide +kernel
theorem dX10_firstThatHolds_81 : decode cX10_firstThatHolds 81 = .ok (.iconst (-1), 1) := by decide +kernel
theorem dX10_firstThatHolds_82 : decode cX10_firstThatHolds 82 = .ok (.ireturn, 1) := by decide +kernel
theorem dX10_work_0 : decode cX10_work 0 = .ok (.iconst 0, 1) := by decide +kernel
theorem dX10_work_1 : decode cX10_work 1 = .ok (.istore 4, 2) := by decide +kernel
theorem dX10_work_3 : decode cX10_work 3 = .ok (.iconst 0, 1) := by decide +kernel
theorem dX10_work_4 : decode cX10_work 4 = .ok (.iload_n 1, 1) := by decide +kernel
theorem dX10_work_5 : decode cX10_work 5 = .ok (.invokestatic 49, 3) := by decide +kernel
theorem dX10_work_8 : decode cX10_work 8 = .ok (.istore 5, 2) := by decide +kernel
theorem dX10_work_10 : decode cX10_work 10 = .ok (.iload 5, 2) := by decide +kernel
theorem dX10_work_12 : decode cX10_work 12 = .ok (.iload_n 2, 1) := by decide +kernel
theorem dX10_work_13 : decode cX10_work 13 = .ok (.if_icmp .ge 154, 3) := by decide +kernel
theorem dX10_work_16 : decode cX10_work 16 = .ok (.iload 5, 2) := by decide +kernel
theorem dX10_work_18 : decode cX10_work 18 = .ok (.sipush 400, 3) := by decide +kernel
theorem dX10_work_21 : decode cX10_work 21 = .ok (.if_icmp .ge 146, 3) := by decide +kernel
theorem dX10_work_24 : decode cX10_work 24 = .ok (.aload_n 0, 1) := by decide +kernel
theorem dX10_work_25 : decode cX10_work 25 = .ok (.getfield 26, 3) := by decide +kernel
theorem dX10_work_28 : decode cX10_work 28 = .ok (.iload 5, 2) := by decide +kernel
theorem dX10_work_30 : decode cX10_work 30 = .ok (.iaload, 1) := by decide +kernel
theorem dX10_work_31 : decode cX10_work 31 = .ok (.bipush 31, 2) := by decide +kernel
theorem dX10_work_33 : decode cX10_work 33 = .ok (.iand, 1) := by decide +kernel
theorem dX10_work_34 : decode cX10_work 34 = .ok (.istore 6, 2) := by decide +kernel
theorem dX10_work_36 : decode cX10_work 36 = .ok (.iload 6, 2) := by decide +kernel
theorem dX10_work_38 : decode cX10_work 38 = .ok (.bipush 6, 2) := by decide +kernel
theorem dX10_work_40 : decode cX10_work 40 = .ok (.isub, 1) := by decide +kernel
theorem dX10_work_41 : decode cX10_work 41 = .ok (.istore 7, 2) := by decide +kernel
theorem dX10_work_43 : decode cX10_work 43 = .ok (.iload 6, 2) := by decide +kernel
theorem dX10_work_45 : decode cX10_work 45 = .ok (.bipush 25, 2) := by decide +kernel
theorem dX10_work_47 : decode cX10_work 47 = .ok (.if_icmp .ne 32, 3) := by decide +kernel
theorem dX10_work_50 : decode cX10_work 50 = .ok (.iload 4, 2) := by decide +kernel
theorem dX10_work_52 : decode cX10_work 52 = .ok (.bipush 32, 2) := by decide +kernel
theorem dX10_work_54 : decode cX10_work 54 = .ok (.if_icmp .ge 25, 3) := by decide +kernel
theorem dX10_work_57 : decode cX10_work 57 = .ok (.aload_n 0, 1) := by decide +kernel
theorem dX10_work_58 : decode cX10_work 58 = .ok (.getfield 29, 3) := by decide +kernel
theorem dX10_work_61 : decode cX10_work 61 = .ok (.iload 4, 2) := by decide +kernel
theorem dX10_work_63 : decode cX10_work 63 = .ok (.aload_n 0, 1) := by decide +kernel
theorem dX10_work_64 : decode cX10_work 64 = .ok (.getfield 26, 3) := by decide +kernel
theorem dX10_work_67 : decode cX10_work 67 = .ok (.iload 5, 2) := by decide +kernel
theorem dX10_work_69 : decode cX10_work 69 = .ok (.iaload, 1) := by decide +kernel
theorem dX10_work_70 : decode cX10_work 70 = .ok (.iconst 5, 1) := by decide +kernel
theorem dX10_work_71 : decode cX10_work 71 = .ok (.ishr, 1) := by decide +kernel
theorem dX10_work_72 : decode cX10_work 72 = .ok (.iastore, 1) := by decide +kernel
theorem dX10_work_73 : decode cX10_work 73 = .ok (.iinc 4 1, 3) := by decide +kernel
theorem dX10_work_76 : decode cX10_work 76 = .ok (.goto 85, 3) := by decide +kernel
theorem dX10_work_79 : decode cX10_work 79 = .ok (.iload 7, 2) := by decide +kernel
theorem dX10_work_81 : decode cX10_work 81 = .ok (.ifCond .lt 41, 3) := by decide +kernel
theorem dX10_work_84 : decode cX10_work 84 = .ok (.iload 7, 2) := by decide +kernel
theorem dX10_work_86 : decode cX10_work 86 = .ok (.bipush 9, 2) := by decide +kernel
theorem dX10_work_88 : decode cX10_work 88 = .ok (.if_icmp .ge 34, 3) := by decide +kernel
theorem dX10_work_91 : decode cX10_work 91 = .ok (.iload 7, 2) := by decide +kernel
theorem dX10_work_93 : decode cX10_work 93 = .ok (.aload_n 3, 1) := by decide +kernel
theorem dX10_work_94 : decode cX10_work 94 = .ok (.arraylength, 1) := by decide +kernel
theorem dX10_work_95 : decode cX10_work 95 = .ok (.if_icmp .ge 27, 3) := by decide +kernel
theorem dX10_work_98 : decode cX10_work 98 = .ok (.iload 4, 2) := by decide +kernel
theorem dX10_work_100 : decode cX10_work 100 = .ok (.bipush 32, 2) := by decide +kernel
theorem dX10_work_102 : decode cX10_work 102 = .ok (.if_icmp .ge 20, 3) := by decide +kernel
theorem dX10_work_105 : decode cX10_work 105 = .ok (.aload_n 0, 1) := by decide +kernel
theorem dX10_work_106 : decode cX10_work 106 = .ok (.getfield 29, 3) := by decide +kernel
theorem dX10_work_109 : decode cX10_work 109 = .ok (.iload 4, 2) := by decide +kernel
theorem dX10_work_111 : decode cX10_work 111 = .ok (.aload_n 3, 1) := by decide +kernel
theorem dX10_work_112 : decode cX10_work 112 = .ok (.iload 7, 2) := by decide +kernel
theorem dX10_work_114 : decode cX10_work 114 = .ok (.iaload, 1) := by decide +kernel
theorem dX10_work_115 : decode cX10_work 115 = .ok (.iastore, 1) := by decide +kernel
theorem dX10_work_116 : decode cX10_work 116 = .ok (.iinc 4 1, 3) := by decide +kernel
theorem dX10_work_119 : decode cX10_work 119 = .ok (.goto 42, 3) := by decide +kernel
theorem dX10_work_122 : decode cX10_work 122 = .ok (.iload 4, 2) := by decide +kernel
theorem dX10_work_124 : decode cX10_work 124 = .ok (.iconst 2, 1) := by decide +kernel
theorem dX10_work_125 : decode cX10_work 125 = .ok (.if_icmp .lt 36, 3) := by decide +kernel
theorem dX10_work_128 : decode cX10_work 128 = .ok (.iinc 4 (-1), 3) := by decide +kernel
theorem dX10_work_131 : decode cX10_work 131 = .ok (.aload_n 0, 1) := by decide +kernel
theorem dX10_work_132 : decode cX10_work 132 = .ok (.getfield 29, 3) := by decide +kernel
theorem dX10_work_135 : decode cX10_work 135 = .ok (.iload 4, 2) := by decide +kernel
theorem dX10_work_137 : decode cX10_work 137 = .ok (.iconst 1, 1) := by decide +kernel
theorem dX10_work_138 : decode cX10_work 138 = .ok (.isub, 1) := by decide +kernel
theorem dX10_work_139 : decode cX10_work 139 = .ok (.iload 6, 2) := by decide +kernel
theorem dX10_work_141 : decode cX10_work 141 = .ok (.aload_n 0, 1) := by decide +kernel
theorem dX10_work_142 : decode cX10_work 142 = .ok (.getfield 29, 3) := by decide +kernel
theorem dX10_work_145 : decode cX10_work 145 = .ok (.iload 4, 2) := by decide +kernel
theorem dX10_work_147 : decode cX10_work 147 = .ok (.iconst 1, 1) := by decide +kernel
theorem dX10_work_148 : decode cX10_work 148 = .ok (.isub, 1) := by decide +kernel
theorem dX10_work_149 : decode cX10_work 149 = .ok (.iaload, 1) := by decide +kernel
theorem dX10_work_150 : decode cX10_work 150 = .ok (.aload_n 0, 1) := by decide +kernel
theorem dX10_work_151 : decode cX10_work 151 = .ok (.getfield 29, 3) := by decide +kernel
theorem dX10_work_154 : decode cX10_work 154 = .ok (.iload 4, 2) := by decide +kernel
theorem dX10_work_156 : decode cX10_work 156 = .ok (.iaload, 1) := by decide +kernel
theorem dX10_work_157 : decode cX10_work 157 = .ok (.invokestatic 52, 3) := by decide +kernel
theorem dX10_work_160 : decode cX10_work 160 = .ok (.iastore, 1) := by decide +kernel
theorem dX10_work_161 : decode cX10_work 161 = .ok (.iinc 5 1, 3) := by decide +kernel
theorem dX10_work_164 : decode cX10_work 164 = .ok (.goto (-154), 3) := by decide +kernel
theorem dX10_work_167 : decode cX10_work 167 = .ok (.aload_n 0, 1) := by decide +kernel
theorem dX10_work_168 : decode cX10_work 168 = .ok (.getfield 29, 3) := by decide +kernel
theorem dX10_work_171 : decode cX10_work 171 = .ok (.iconst 0, 1) := by decide +kernel
theorem dX10_work_172 : decode cX10_work 172 = .ok (.iaload, 1) := by decide +kernel
theorem dX10_work_173 : decode cX10_work 173 = .ok (.ireturn, 1) := by decide +kernel
theorem dX10_join_0 : decode cX10_join 0 = .ok (.iload_n 0, 1) := by decide +kernel
theorem dX10_join_1 : decode cX10_join 1 = .ok (.tableswitch 147 5 22 #[143, 147, 147, 147, 147, 147, 147, 147, 147, 147, 147, 87, 91, 95, 99, 110, 121, 132], 87) := by decide +kernel
theorem dX10_join_88 : decode cX10_join 88 = .ok (.iload_n 1, 1) := by decide +kernel
theorem dX10_join_89 : decode cX10_join 89 = .ok (.iload_n 2, 1) := by decide +kernel
theorem dX10_join_90 : decode cX10_join 90 = .ok (.iadd, 1) := by decide +kernel
theorem dX10_join_91 : decode cX10_join 91 = .ok (.ireturn, 1) := by decide +kernel
theorem dX10_join_92 : decode cX10_join 92 = .ok (.iload_n 1, 1) := by decide +kernel
theorem dX10_join_93 : decode cX10_join 93 = .ok (.iload_n 2, 1) := by decide +kernel
theorem dX10_join_94 : decode cX10_join 94 = .ok (.isub, 1) := by decide +kernel
theorem dX10_join_95 : decode cX10_join 95 = .ok (.ireturn, 1) := by decide +kernel
theorem dX10_join_96 : decode cX10_join 96 = .ok (.iload_n 1, 1) := by decide +kernel
theorem dX10_join_97 : decode cX10_join 97 = .ok (.iload_n 2, 1) := by decide +kernel
theorem dX10_join_98 : decode cX10_join 98 = .ok (.imul, 1) := by decide +kernel
theorem dX10_join_99 : decode cX10_join 99 = .ok (.ireturn, 1) := by decide +kernel
theorem dX10_join_100 : decode cX10_join 100 = .ok (.iload_n 1, 1) := by decide +kernel
theorem dX10_join_101 : decode cX10_join 101 = .ok (.iload_n 2, 1) := by decide +kernel
theorem dX10_join_102 : decode cX10_join 102 = .ok (.if_icmp .ne 7, 3) := by decide +kernel
theorem dX10_join_105 : decode cX10_join 105 = .ok (.iconst 1, 1) := by decide +kernel
theorem dX10_join_106 : decode cX10_join 106 = .ok (.goto 4, 3) := by decide +kernel
theorem dX10_join_109 : decode cX10_join 109 = .ok (.iconst 0, 1) := by decide +kernel
theorem dX10_join_110 : decode cX10_join 110 = .ok (.ireturn, 1) := by decide +kernel
theorem dX10_join_111 : decode cX10_join 111 = .ok (.iload_n 1, 1) := by decide +kernel
theorem dX10_join_112 : decode cX10_join 112 = .ok (.iload_n 2, 1) := by decide +kernel
theorem dX10_join_113 : decode cX10_join 113 = .ok (.if_icmp .eq 7, 3) := by decide +kernel
theorem dX10_join_116 : decode cX10_join 116 = .ok (.iconst 1, 1) := by decide +kernel
theorem dX10_join_117 : decode cX10_join 117 = .ok (.goto 4, 3) := by decide +kernel
theorem dX10_join_120 : decode cX10_join 120 = .ok (.iconst 0, 1) := by decide +kernel
theorem dX10_join_121 : decode cX10_join 121 = .ok (.ireturn, 1) := by decide +kernel
theorem dX10_join_122 : decode cX10_join 122 = .ok (.iload_n 1, 1) := by decide +kernel
theorem dX10_join_123 : decode cX10_join 123 = .ok (.iload_n 2, 1) := by decide +kernel
theorem dX10_join_124 : decode cX10_join 124 = .ok (.if_icmp .ge 7, 3) := by decide +kernel
theorem dX10_join_127 : decode cX10_join 127 = .ok (.iconst 1, 1) := by decide +kernel
theorem dX10_join_128 : decode cX10_join 128 = .ok (.goto 4, 3) := by decide +kernel
theorem dX10_join_131 : decode cX10_join 131 = .ok (.iconst 0, 1) := by decide +kernel
theorem dX10_join_132 : decode cX10_join 132 = .ok (.ireturn, 1) := by decide +kernel
theorem dX10_join_133 : decode cX10_join 133 = .ok (.iload_n 1, 1) := by decide +kernel
theorem dX10_join_134 : decode cX10_join 134 = .ok (.iload_n 2, 1) := by decide +kernel
theorem dX10_join_135 : decode cX10_join 135 = .ok (.if_icmp .gt 7, 3) := by decide +kernel
theorem dX10_join_138 : decode cX10_join 138 = .ok (.iconst 1, 1) := by decide +kernel
theorem dX10_join_139 : decode cX10_join 139 = .ok (.goto 4, 3) := by decide +kernel
theorem dX10_join_142 : decode cX10_join 142 = .ok (.iconst 0, 1) := by decide +kernel
theorem dX10_join_143 : decode cX10_join 143 = .ok (.ireturn, 1) := by decide +kernel
theorem dX10_join_144 : decode cX10_join 144 = .ok (.iload_n 1, 1) := by decide +kernel
theorem dX10_join_145 : decode cX10_join 145 = .ok (.iload_n 2, 1) := by decide +kernel
theorem dX10_join_146 : decode cX10_join 146 = .ok (.iand, 1) := by decide +kernel
theorem dX10_join_147 : decode cX10_join 147 = .ok (.ireturn, 1) := by decide +kernel
theorem dX10_join_148 : decode cX10_join 148 = .ok (.iload_n 1, 1) := by decide +kernel
theorem dX10_join_149 : decode cX10_join 149 = .ok (.iload_n 2, 1) := by decide +kernel
theorem dX10_join_150 : decode cX10_join 150 = .ok (.ior, 1) := by decide +kernel
theorem dX10_join_151 : decode cX10_join 151 = .ok (.ireturn, 1) := by decide +kernel
theorem dX11_init_0 : decode cX11_init 0 = .ok (.aload_n 0, 1) := by decide +kernel
theorem dX11_init_1 : decode cX11_init 1 = .ok (.invokespecial 1, 3) := by decide +kernel
theorem dX11_init_4 : decode cX11_init 4 = .ok (.aload_n 0, 1) := by decide +kernel
theorem dX11_init_5 : decode cX11_init 5 = .ok (.new 7, 3) := by decide +kernel
theorem dX11_init_8 : decode cX11_init 8 = .ok (.dup, 1) := by decide +kernel
theorem dX11_init_9 : decode cX11_init 9 = .ok (.invokespecial 9, 3) := by decide +kernel
theorem dX11_init_12 : decode cX11_init 12 = .ok (.putfield 10, 3) := by decide +kernel
theorem dX11_init_15 : decode cX11_init 15 = .ok (.aload_n 0, 1) := by decide +kernel
theorem dX11_init_16 : decode cX11_init 16 = .ok (.new 16, 3) := by decide +kernel
theorem dX11_init_19 : decode cX11_init 19 = .ok (.dup, 1) := by decide +kernel
theorem dX11_init_20 : decode cX11_init 20 = .ok (.aload_n 0, 1) := by decide +kernel
theorem dX11_init_21 : decode cX11_init 21 = .ok (.getfield 10, 3) := by decide +kernel
theorem dX11_init_24 : decode cX11_init 24 = .ok (.invokespecial 18, 3) := by decide +kernel
theorem dX11_init_27 : decode cX11_init 27 = .ok (.putfield 21, 3) := by decide +kernel
theorem dX11_init_30 : decode cX11_init 30 = .ok (.aload_n 0, 1) := by decide +kernel
theorem dX11_init_31 : decode cX11_init 31 = .ok (.new 25, 3) := by decide +kernel
theorem dX11_init_34 : decode cX11_init 34 = .ok (.dup, 1) := by decide +kernel
theorem dX11_init_35 : decode cX11_init 35 = .ok (.invokespecial 27, 3) := by decide +kernel
theorem dX11_init_38 : decode cX11_init 38 = .ok (.putfield 28, 3) := by decide +kernel
theorem dX11_init_41 : decode cX11_init 41 = .ok (.aload_n 0, 1) := by decide +kernel
theorem dX11_init_42 : decode cX11_init 42 = .ok (.new 32, 3) := by decide +kernel
theorem dX11_init_45 : decode cX11_init 45 = .ok (.dup, 1) := by decide +kernel
theorem dX11_init_46 : decode cX11_init 46 = .ok (.invokespecial 34, 3) := by decide +kernel
theorem dX11_init_49 : decode cX11_init 49 = .ok (.putfield 35, 3) := by decide +kernel
theorem dX11_init_52 : decode cX11_init 52 = .ok (.aload_n 0, 1) := by decide +kernel
theorem dX11_init_53 : decode cX11_init 53 = .ok (.new 39, 3) := by decide +kernel
theorem dX11_init_56 : decode cX11_init 56 = .ok (.dup, 1) := by decide +kernel
theorem dX11_init_57 : decode cX11_init 57 = .ok (.invokespecial 41, 3) := by decide +kernel
theorem dX11_init_60 : decode cX11_init 60 = .ok (.putfield 42, 3) := by decide +kernel
theorem dX11_init_63 : decode cX11_init 63 = .ok (.aload_n 0, 1) := by decide +kernel
theorem dX11_init_64 : decode cX11_init 64 = .ok (.new 46, 3) := by decide +kernel
theorem dX11_init_67 : decode cX11_init 67 = .ok (.dup, 1) := by decide +kernel
theorem dX11_init_68 : decode cX11_init 68 = .ok (.invokespecial 48, 3) := by decide +kernel
theorem dX11_init_71 : decode cX11_init 71 = .ok (.putfield 49, 3) := by decide +kernel
theorem dX11_init_74 : decode cX11_init 74 = .ok (.aload_n 0, 1) := by decide +kernel
theorem dX11_init_75 : decode cX11_init 75 = .ok (.new 46, 3) := by decide +kernel
theorem dX11_init_78 : decode cX11_init 78 = .ok (.dup, 1) := by decide +kernel
theorem dX11_init_79 : decode cX11_init 79 = .ok (.invokespecial 48, 3) := by decide +kernel
theorem dX11_init_82 : decode cX11_init 82 = .ok (.putfield 53, 3) := by decide +kernel
theorem dX11_init_85 : decode cX11_init 85 = .ok (.aload_n 0, 1) := by decide +kernel
theorem dX11_init_86 : decode cX11_init 86 = .ok (.new 56, 3) := by decide +kernel
theorem dX11_init_89 : decode cX11_init 89 = .ok (.dup, 1) := by decide +kernel
theorem dX11_init_90 : decode cX11_init 90 = .ok (.aload_n 0, 1) := by decide +kernel
theorem dX11_init_91 : decode cX11_init 91 = .ok (.getfield 28, 3) := by decide +kernel
theorem dX11_init_94 : decode cX11_init 94 = .ok (.aload_n 0, 1) := by decide +kernel
theorem dX11_init_95 : decode cX11_init 95 = .ok (.getfield 42, 3) := by decide +kernel
theorem dX11_init_98 : decode cX11_init 98 = .ok (.aload_n 0, 1) := by decide +kernel
theorem dX11_init_99 : decode cX11_init 99 = .ok (.getfield 49, 3) := by decide +kernel
theorem dX11_init_102 : decode cX11_init 102 = .ok (.invokespecial 58, 3) := by decide +kernel
theorem dX11_init_105 : decode cX11_init 105 = .ok (.putfield 61, 3) := by decide +kernel
theorem dX11_init_108 : decode cX11_init 108 = .ok (.aload_n 0, 1) := by decide +kernel
theorem dX11_init_109 : decode cX11_init 109 = .ok (.new 65, 3) := by decide +kernel
theorem dX11_init_112 : decode cX11_init 112 = .ok (.dup, 1) := by decide +kernel
theorem dX11_init_113 : decode cX11_init 113 = .ok (.invokespecial 67, 3) := by decide +kernel
theorem dX11_init_116 : decode cX11_init 116 = .ok (.putfield 68, 3) := by decide +kernel
theorem dX11_init_119 : decode cX11_init 119 = .ok (.aload_n 0, 1) := by decide +kernel
theorem dX11_init_120 : decode cX11_init 120 = .ok (.iconst 0, 1) := by decide +kernel
theorem dX11_init_121 : decode cX11_init 121 = .ok (.putfield 72, 3) := by decide +kernel
theorem dX11_init_124 : decode cX11_init 124 = .ok (.aload_n 0, 1) := by decide +kernel
theorem dX11_init_125 : decode cX11_init 125 = .ok (.iconst (-1), 1) := by decide +kernel
theorem dX11_init_126 : decode cX11_init 126 = .ok (.putfield 76, 3) := by decide +kernel
theorem dX11_init_129 : decode cX11_init 129 = .ok (.return_, 1) := by decide +kernel
theorem dX11_feed_0 : decode cX11_feed 0 = .ok (.aload_n 0, 1) := by decide +kernel
theorem dX11_feed_1 : decode cX11_feed 1 = .ok (.getfield 10, 3) := by decide +kernel
theorem dX11_feed_4 : decode cX11_feed 4 = .ok (.bipush 20, 2) := by decide +kernel
theorem dX11_feed_6 : decode cX11_feed 6 = .ok (.invokevirtual 80, 3) := by decide +kernel
theorem dX11_feed_9 : decode cX11_feed 9 = .ok (.ifCond .ne 5, 3) := by decide +kernel
theorem dX11_feed_12 : decode cX11_feed 12 = .ok (.iconst (-1), 1) := by decide +kernel
theorem dX11_feed_13 : decode cX11_feed 13 = .ok (.ireturn, 1) := by decide +kernel
theorem dX11_feed_14 : decode cX11_feed 14 = .ok (.aload_n 0, 1) := by decide +kernel
theorem dX11_feed_15 : decode cX11_feed 15 = .ok (.getfield 10, 3) := by decide +kernel
theorem dX11_feed_18 : decode cX11_feed 18 = .ok (.iload_n 1, 1) := by decide +kernel
theorem dX11_feed_19 : decode cX11_feed 19 = .ok (.invokevirtual 84, 3) := by decide +kernel
theorem dX11_feed_22 : decode cX11_feed 22 = .ok (.aload_n 0, 1) := by decide +kernel
theorem dX11_feed_23 : decode cX11_feed 23 = .ok (.getfield 10, 3) := by decide +kernel
theorem dX11_feed_26 : decode cX11_feed 26 = .ok (.iload_n 2, 1) := by decide +kernel
theorem dX11_feed_27 : decode cX11_feed 27 = .ok (.invokevirtual 84, 3) := by decide +kernel
theorem dX11_feed_30 : decode cX11_feed 30 = .ok (.aload_n 0, 1) := by decide +kernel
theorem dX11_feed_31 : decode cX11_feed 31 = .ok (.getfield 10, 3) := by decide +kernel
theorem dX11_feed_34 : decode cX11_feed 34 = .ok (.iload_n 3, 1) := by decide +kernel
theorem dX11_feed_35 : decode cX11_feed 35 = .ok (.invokevirtual 84, 3) := by decide +kernel
theorem dX11_feed_38 : decode cX11_feed 38 = .ok (.aload_n 0, 1) := by decide +kernel
theorem dX11_feed_39 : decode cX11_feed 39 = .ok (.getfield 10, 3) := by decide +kernel
theorem dX11_feed_42 : decode cX11_feed 42 = .ok (.iload 4, 2) := by decide +kernel
theorem dX11_feed_44 : decode cX11_feed 44 = .ok (.invokevirtual 84, 3) := by decide +kernel
theorem dX11_feed_47 : decode cX11_feed 47 = .ok (.aload_n 0, 1) := by decide +kernel
theorem dX11_feed_48 : decode cX11_feed 48 = .ok (.getfield 10, 3) := by decide +kernel
theorem dX11_feed_51 : decode cX11_feed 51 = .ok (.iload 5, 2) := by decide +kernel
theorem dX11_feed_53 : decode cX11_feed 53 = .ok (.invokevirtual 84, 3) := by decide +kernel
theorem dX11_feed_56 : decode cX11_feed 56 = .ok (.aload_n 0, 1) := by decide +kernel
theorem dX11_feed_57 : decode cX11_feed 57 = .ok (.getfield 10, 3) := by decide +kernel
theorem dX11_feed_60 : decode cX11_feed 60 = .ok (.getfield 88, 3) := by decide +kernel
theorem dX11_feed_63 : decode cX11_feed 63 = .ok (.ireturn, 1) := by decide +kernel
theorem dX11_back_0 : decode cX11_back 0 = .ok (.iload_n 1, 1) := by decide +kernel
theorem dX11_back_1 : decode cX11_back 1 = .ok (.iconst 0, 1) := by decide +kernel
theorem dX11_back_2 : decode cX11_back 2 = .ok (.aload_n 0, 1) := by decide +kernel
theorem dX11_back_3 : decode cX11_back 3 = .ok (.getfield 10, 3) := by decide +kernel
theorem dX11_back_6 : decode cX11_back 6 = .ok (.getfield 88, 3) := by decide +kernel
theorem dX11_back_9 : decode cX11_back 9 = .ok (.invokestatic 91, 3) := by decide +kernel
theorem dX11_back_12 : decode cX11_back 12 = .ok (.ifCond .ne 5, 3) := by decide +kernel
theorem dX11_back_15 : decode cX11_back 15 = .ok (.iconst (-1), 1) := by decide +kernel
theorem dX11_back_16 : decode cX11_back 16 = .ok (.ireturn, 1) := by decide +kernel
theorem dX11_back_17 : decode cX11_back 17 = .ok (.aload_n 0, 1) := by decide +kernel
theorem dX11_back_18 : decode cX11_back 18 = .ok (.getfield 10, 3) := by decide +kernel
theorem dX11_back_21 : decode cX11_back 21 = .ok (.dup, 1) := by decide +kernel
theorem dX11_back_22 : decode cX11_back 22 = .ok (.getfield 88, 3) := by decide +kernel
theorem dX11_back_25 : decode cX11_back 25 = .ok (.iload_n 1, 1) := by decide +kernel
theorem dX11_back_26 : decode cX11_back 26 = .ok (.isub, 1) := by decide +kernel
theorem dX11_back_27 : decode cX11_back 27 = .ok (.putfield 88, 3) := by decide +kernel
theorem dX11_back_30 : decode cX11_back 30 = .ok (.aload_n 0, 1) := by decide +kernel
theorem dX11_back_31 : decode cX11_back 31 = .ok (.getfield 10, 3) := by decide +kernel
theorem dX11_back_34 : decode cX11_back 34 = .ok (.getfield 88, 3) := by decide +kernel
theorem dX11_back_37 : decode cX11_back 37 = .ok (.ireturn, 1) := by decide +kernel
theorem dX11_read_0 : decode cX11_read 0 = .ok (.aload_n 0, 1) := by decide +kernel
theorem dX11_read_1 : decode cX11_read 1 = .ok (.getfield 21, 3) := by decide +kernel
theorem dX11_read_4 : decode cX11_read 4 = .ok (.aload_n 0, 1) := by decide +kernel
theorem dX11_read_5 : decode cX11_read 5 = .ok (.getfield 53, 3) := by decide +kernel
theorem dX11_read_8 : decode cX11_read 8 = .ok (.invokevirtual 95, 3) := by decide +kernel
theorem dX11_read_11 : decode cX11_read 11 = .ok (.istore_n 1, 1) := by decide +kernel
theorem dX11_read_12 : decode cX11_read 12 = .ok (.aload_n 0, 1) := by decide +kernel
theorem dX11_read_13 : decode cX11_read 13 = .ok (.iload_n 1, 1) := by decide +kernel
theorem dX11_read_14 : decode cX11_read 14 = .ok (.ifCond .ne 7, 3) := by decide +kernel
theorem dX11_read_17 : decode cX11_read 17 = .ok (.iconst (-1), 1) := by decide +kernel
theorem dX11_read_18 : decode cX11_read 18 = .ok (.goto 10, 3) := by decide +kernel
theorem dX11_read_21 : decode cX11_read 21 = .ok (.aload_n 0, 1) := by decide +kernel
theorem dX11_read_22 : decode cX11_read 22 = .ok (.getfield 21, 3) := by decide +kernel
theorem dX11_read_25 : decode cX11_read 25 = .ok (.invokevirtual 99, 3) := by decide +kernel
theorem dX11_read_28 : decode cX11_read 28 = .ok (.putfield 76, 3) := by decide +kernel
theorem dX11_read_31 : decode cX11_read 31 = .ok (.aload_n 0, 1) := by decide +kernel
theorem dX11_read_32 : decode cX11_read 32 = .ok (.getfield 10, 3) := by decide +kernel
theorem dX11_read_35 : decode cX11_read 35 = .ok (.iconst 0, 1) := by decide +kernel
theorem dX11_read_36 : decode cX11_read 36 = .ok (.putfield 88, 3) := by decide +kernel
theorem dX11_read_39 : decode cX11_read 39 = .ok (.iload_n 1, 1) := by decide +kernel
theorem dX11_read_40 : decode cX11_read 40 = .ok (.ifCond .ne 21, 3) := by decide +kernel
theorem dX11_read_43 : decode cX11_read 43 = .ok (.aload_n 0, 1) := by decide +kernel
theorem dX11_read_44 : decode cX11_read 44 = .ok (.getfield 49, 3) := by decide +kernel
theorem dX11_read_47 : decode cX11_read 47 = .ok (.astore_n 2, 1) := by decide +kernel
theorem dX11_read_48 : decode cX11_read 48 = .ok (.aload_n 0, 1) := by decide +kernel
theorem dX11_read_49 : decode cX11_read 49 = .ok (.aload_n 0, 1) := by decide +kernel
theorem dX11_read_50 : decode cX11_read 50 = .ok (.getfield 53, 3) := by decide +kernel
theorem dX11_read_53 : decode cX11_read 53 = .ok (.putfield 49, 3) := by decide +kernel
theorem dX11_read_56 : decode cX11_read 56 = .ok (.aload_n 0, 1) := by decide +kernel
theorem dX11_read_57 : decode cX11_read 57 = .ok (.aload_n 2, 1) := by decide +kernel
theorem dX11_read_58 : decode cX11_read 58 = .ok (.putfield 53, 3) := by decide +kernel
theorem dX11_read_61 : decode cX11_read 61 = .ok (.iload_n 1, 1) := by decide +kernel
theorem dX11_read_62 : decode cX11_read 62 = .ok (.ireturn, 1) := by decide +kernel
theorem dX11_place_0 : decode cX11_place 0 = .ok (.aload_n 0, 1) := by decide +kernel
theorem dX11_place_1 : decode cX11_place 1 = .ok (.getfield 76, 3) := by decide +kernel
theorem dX11_place_4 : decode cX11_place 4 = .ok (.ireturn, 1) := by decide +kernel
theorem dX11_act_0 : decode cX11_act 0 = .ok (.iload_n 1, 1) := by decide +kernel
theorem dX11_act_1 : decode cX11_act 1 = .ok (.iconst 0, 1) := by decide +kernel
theorem dX11_act_2 : decode cX11_act 2 = .ok (.iconst 3, 1) := by decide +kernel
theorem dX11_act_3 : decode cX11_act 3 = .ok (.invokestatic 91, 3) := by decide +kernel
theorem dX11_act_6 : decode cX11_act 6 = .ok (.ifCond .eq 27, 3) := by decide +kernel
theorem dX11_act_9 : decode cX11_act 9 = .ok (.iload_n 2, 1) := by decide +kernel
theorem dX11_act_10 : decode cX11_act 10 = .ok (.iconst 0, 1) := by decide +kernel
theorem dX11_act_11 : decode cX11_act 11 = .ok (.bipush 7, 2) := by decide +kernel
theorem dX11_act_13 : decode cX11_act 13 = .ok (.invokestatic 91, 3) := by decide +kernel
theorem dX11_act_16 : decode cX11_act 16 = .ok (.ifCond .eq 17, 3) := by decide +kernel
theorem dX11_act_19 : decode cX11_act 19 = .ok (.iload_n 3, 1) := by decide +kernel
theorem dX11_act_20 : decode cX11_act 20 = .ok (.iconst 0, 1) := by decide +kernel
theorem dX11_act_21 : decode cX11_act 21 = .ok (.bipush 100, 2) := by decide +kernel
theorem dX11_act_23 : decode cX11_act 23 = .ok (.invokestatic 91, 3) := by decide +kernel
theorem dX11_act_26 : decode cX11_act 26 = .ok (.ifCond .eq 7, 3) := by decide +kernel
theorem dX11_act_29 : decode cX11_act 29 = .ok (.iconst 1, 1) := by decide +kernel
theorem dX11_act_30 : decode cX11_act 30 = .ok (.goto 4, 3) := by decide +kernel
theorem dX11_act_33 : decode cX11_act 33 = .ok (.iconst 0, 1) := by decide +kernel
theorem dX11_act_34 : decode cX11_act 34 = .ok (.istore 7, 2) := by decide +kernel
theorem dX11_act_36 : decode cX11_act 36 = .ok (.iload 4, 2) := by decide +kernel
theorem dX11_act_38 : decode cX11_act 38 = .ok (.iconst 1, 1) := by decide +kernel
theorem dX11_act_39 : decode cX11_act 39 = .ok (.bipush 20, 2) := by decide +kernel
theorem dX11_act_41 : decode cX11_act 41 = .ok (.invokestatic 91, 3) := by decide +kernel
theorem dX11_act_44 : decode cX11_act 44 = .ok (.ifCond .eq 29, 3) := by decide +kernel
theorem dX11_act_47 : decode cX11_act 47 = .ok (.iload 5, 2) := by decide +kernel
theorem dX11_act_49 : decode cX11_act 49 = .ok (.iconst 1, 1) := by decide +kernel
theorem dX11_act_50 : decode cX11_act 50 = .ok (.bipush 20, 2) := by decide +kernel
theorem dX11_act_52 : decode cX11_act 52 = .ok (.invokestatic 91, 3) := by decide +kernel
theorem dX11_act_55 : decode cX11_act 55 = .ok (.ifCond .eq 18, 3) := by decide +kernel
theorem dX11_act_58 : decode cX11_act 58 = .ok (.iload 6, 2) := by decide +kernel
theorem dX11_act_60 : decode cX11_act 60 = .ok (.iconst 1, 1) := by decide +kernel
theorem dX11_act_61 : decode cX11_act 61 = .ok (.bipush 120, 2) := by decide +kernel
theorem dX11_act_63 : decode cX11_act 63 = .ok (.invokestatic 91, 3) := by decide +kernel
theorem dX11_act_66 : decode cX11_act 66 = .ok (.ifCond .eq 7, 3) := by decide +kernel
theorem dX11_act_69 : decode cX11_act 69 = .ok (.iconst 1, 1) := by decide +kernel
theorem dX11_act_70 : decode cX11_act 70 = .ok (.goto 4, 3) := by decide +kernel
theorem dX11_act_73 : decode cX11_act 73 = .ok (.iconst 0, 1) := by decide +kernel
theorem dX11_act_74 : decode cX11_act 74 = .ok (.istore 8, 2) := by decide +kernel
theorem dX11_act_76 : decode cX11_act 76 = .ok (.iload 7, 2) := by decide +kernel
theorem dX11_act_78 : decode cX11_act 78 = .ok (.ifCond .eq 20, 3) := by decide +kernel
theorem dX11_act_81 : decode cX11_act 81 = .ok (.iload 8, 2) := by decide +kernel
theorem dX11_act_83 : decode cX11_act 83 = .ok (.ifCond .eq 15, 3) := by decide +kernel
theorem dX11_act_86 : decode cX11_act 86 = .ok (.aload_n 0, 1) := by decide +kernel
theorem dX11_act_87 : decode cX11_act 87 = .ok (.getfield 28, 3) := by decide +kernel
theorem dX11_act_90 : decode cX11_act 90 = .ok (.getfield 103, 3) := by decide +kernel
theorem dX11_act_93 : decode cX11_act 93 = .ok (.bipush 6, 2) := by decide +kernel
theorem dX11_act_95 : decode cX11_act 95 = .ok (.if_icmp .lt 5, 3) := by decide +kernel
theorem dX11_act_98 : decode cX11_act 98 = .ok (.iconst (-1), 1) := by decide +kernel
theorem dX11_act_99 : decode cX11_act 99 = .ok (.ireturn, 1) := by decide +kernel
theorem dX11_act_100 : decode cX11_act 100 = .ok (.aload_n 0, 1) := by decide +kernel
theorem dX11_act_101 : decode cX11_act 101 = .ok (.getfield 28, 3) := by decide +kernel
theorem dX11_act_104 : decode cX11_act 104 = .ok (.new 104, 3) := by decide +kernel
theorem dX11_act_107 : decode cX11_act 107 = .ok (.dup, 1) := by decide +kernel
theorem dX11_act_108 : decode cX11_act 108 = .ok (.iload_n 1, 1) := by decide +kernel
theorem dX11_act_109 : decode cX11_act 109 = .ok (.iload_n 2, 1) := by decide +kernel
theorem dX11_act_110 : decode cX11_act 110 = .ok (.iload_n 3, 1) := by decide +kernel
theorem dX11_act_111 : decode cX11_act 111 = .ok (.iload 4, 2) := by decide +kernel
theorem dX11_act_113 : decode cX11_act 113 = .ok (.iload 5, 2) := by decide +kernel
theorem dX11_act_115 : decode cX11_act 115 = .ok (.iload 6, 2) := by decide +kernel
theorem dX11_act_117 : decode cX11_act 117 = .ok (.invokespecial 106, 3) := by decide +kernel
theorem dX11_act_120 : decode cX11_act 120 = .ok (.invokevirtual 109, 3) := by decide +kernel
theorem dX11_act_123 : decode cX11_act 123 = .ok (.ireturn, 1) := by decide +kernel
theorem dX11_figure_0 : decode cX11_figure 0 = .ok (.aload_n 0, 1) := by decide +kernel
theorem dX11_figure_1 : decode cX11_figure 1 = .ok (.getfield 28, 3) := by decide +kernel
theorem dX11_figure_4 : decode cX11_figure 4 = .ok (.iload_n 1, 1) := by decide +kernel
theorem dX11_figure_5 : decode cX11_figure 5 = .ok (.invokevirtual 113, 3) := by decide +kernel
theorem dX11_figure_8 : decode cX11_figure 8 = .ok (.astore 6, 2) := by decide +kernel
theorem dX11_figure_10 : decode cX11_figure 10 = .ok (.aload 6, 2) := by decide +kernel
theorem dX11_figure_12 : decode cX11_figure 12 = .ok (.ifnull 13, 3) := by decide +kernel
theorem dX11_figure_15 : decode cX11_figure 15 = .ok (.aload 6, 2) := by decide +kernel
theorem dX11_figure_17 : decode cX11_figure 17 = .ok (.getfield 117, 3) := by decide +kernel
theorem dX11_figure_20 : decode cX11_figure 20 = .ok (.bipush 6, 2) := by decide +kernel
theorem dX11_figure_22 : decode cX11_figure 22 = .ok (.if_icmp .lt 5, 3) := by decide +kernel
theorem dX11_figure_25 : decode cX11_figure 25 = .ok (.iconst (-1), 1) := by decide +kernel
theorem dX11_figure_26 : decode cX11_figure 26 = .ok (.ireturn, 1) := by decide +kernel
theorem dX11_figure_27 : decode cX11_figure 27 = .ok (.iload_n 2, 1) := by decide +kernel
theorem dX11_figure_28 : decode cX11_figure 28 = .ok (.iconst 1, 1) := by decide +kernel
theorem dX11_figure_29 : decode cX11_figure 29 = .ok (.bipush 9, 2) := by decide +kernel
theorem dX11_figure_31 : decode cX11_figure 31 = .ok (.invokestatic 91, 3) := by decide +kernel
theorem dX11_figure_34 : decode cX11_figure 34 = .ok (.ifCond .eq 24, 3) := by decide +kernel
theorem dX11_figure_37 : decode cX11_figure 37 = .ok (.iload_n 3, 1) := by decide +kernel
theorem dX11_figure_38 : decode cX11_figure 38 = .ok (.iconst 0, 1) := by decide +kernel
theorem dX11_figure_39 : decode cX11_figure 39 = .ok (.bipush 20, 2) := by decide +kernel
theorem dX11_figure_41 : decode cX11_figure 41 = .ok (.invokestatic 91, 3) := by decide +kernel
theorem dX11_figure_44 : decode cX11_figure 44 = .ok (.ifCond .eq 14, 3) := by decide +kernel
theorem dX11_figure_47 : decode cX11_figure 47 = .ok (.iload 4, 2) := by decide +kernel
theorem dX11_figure_49 : decode cX11_figure 49 = .ok (.iconst 0, 1) := by decide +kernel
theorem dX11_figure_50 : decode cX11_figure 50 = .ok (.bipush 9, 2) := by decide +kernel
theorem dX11_figure_52 : decode cX11_figure 52 = .ok (.invokestatic 91, 3) := by decide +kernel
theorem dX11_figure_55 : decode cX11_figure 55 = .ok (.ifCond .ne 5, 3) := by decide +kernel
theorem dX11_figure_58 : decode cX11_figure 58 = .ok (.iconst (-1), 1) := by decide +kernel
theorem dX11_figure_59 : decode cX11_figure 59 = .ok (.ireturn, 1) := by decide +kernel
theorem dX11_figure_60 : decode cX11_figure 60 = .ok (.aload 6, 2) := by decide +kernel
theorem dX11_figure_62 : decode cX11_figure 62 = .ok (.new 118, 3) := by decide +kernel
theorem dX11_figure_65 : decode cX11_figure 65 = .ok (.dup, 1) := by decide +kernel
theorem dX11_figure_66 : decode cX11_figure 66 = .ok (.iload_n 2, 1) := by decide +kernel
theorem dX11_figure_67 : decode cX11_figure 67 = .ok (.iload_n 3, 1) := by decide +kernel
theorem dX11_figure_68 : decode cX11_figure 68 = .ok (.iload 4, 2) := by decide +kernel
theorem dX11_figure_70 : decode cX11_figure 70 = .ok (.iload 5, 2) := by decide +kernel
theorem dX11_figure_72 : decode cX11_figure 72 = .ok (.invokespecial 120, 3) := by decide +kernel
theorem dX11_figure_75 : decode cX11_figure 75 = .ok (.invokevirtual 123, 3) := by decide +kernel
theorem dX11_figure_78 : decode cX11_figure 78 = .ok (.ireturn, 1) := by decide +kernel
theorem dX11_falls_0 : decode cX11_falls 0 = .ok (.iload_n 1, 1) := by decide +kernel
theorem dX11_falls_1 : decode cX11_falls 1 = .ok (.bipush 10, 2) := by decide +kernel
theorem dX11_falls_3 : decode cX11_falls 3 = .ok (.if_icmp .eq 10, 3) := by decide +kernel
theorem dX11_falls_6 : decode cX11_falls 6 = .ok (.iload_n 1, 1) := by decide +kernel
theorem dX11_falls_7 : decode cX11_falls 7 = .ok (.iconst (-1), 1) := by decide +kernel
theorem dX11_falls_8 : decode cX11_falls 8 = .ok (.if_icmp .eq 5, 3) := by decide +kernel
theorem dX11_falls_11 : decode cX11_falls 11 = .ok (.iconst 0, 1) := by decide +kernel
theorem dX11_falls_12 : decode cX11_falls 12 = .ok (.ireturn, 1) := by decide +kernel
theorem dX11_falls_13 : decode cX11_falls 13 = .ok (.aload_n 0, 1) := by decide +kernel
theorem dX11_falls_14 : decode cX11_falls 14 = .ok (.getfield 28, 3) := by decide +kernel
theorem dX11_falls_17 : decode cX11_falls 17 = .ok (.iload_n 1, 1) := by decide +kernel
theorem dX11_falls_18 : decode cX11_falls 18 = .ok (.iconst (-1), 1) := by decide +kernel
theorem dX11_falls_19 : decode cX11_falls 19 = .ok (.if_icmp .ne 7, 3) := by decide +kernel
theorem dX11_falls_22 : decode cX11_falls 22 = .ok (.iconst 1, 1) := by decide +kernel
theorem dX11_falls_23 : decode cX11_falls 23 = .ok (.goto 4, 3) := by decide +kernel
theorem dX11_falls_26 : decode cX11_falls 26 = .ok (.iconst 0, 1) := by decide +kernel
theorem dX11_falls_27 : decode cX11_falls 27 = .ok (.invokevirtual 126, 3) := by decide +kernel
theorem dX11_falls_30 : decode cX11_falls 30 = .ok (.iconst 1, 1) := by decide +kernel
theorem dX11_falls_31 : decode cX11_falls 31 = .ok (.ireturn, 1) := by decide +kernel
theorem dX11_cell_0 : decode cX11_cell 0 = .ok (.aload_n 0, 1) := by decide +kernel
theorem dX11_cell_1 : decode cX11_cell 1 = .ok (.getfield 28, 3) := by decide +kernel
theorem dX11_cell_4 : decode cX11_cell 4 = .ok (.getfield 130, 3) := by decide +kernel
theorem dX11_cell_7 : decode cX11_cell 7 = .ok (.ifCond .ne 23, 3) := by decide +kernel
theorem dX11_cell_10 : decode cX11_cell 10 = .ok (.iload_n 1, 1) := by decide +kernel
theorem dX11_cell_11 : decode cX11_cell 11 = .ok (.iconst 0, 1) := by decide +kernel
theorem dX11_cell_12 : decode cX11_cell 12 = .ok (.bipush 9, 2) := by decide +kernel
theorem dX11_cell_14 : decode cX11_cell 14 = .ok (.invokestatic 91, 3) := by decide +kernel
theorem dX11_cell_17 : decode cX11_cell 17 = .ok (.ifCond .eq 13, 3) := by decide +kernel
theorem dX11_cell_20 : decode cX11_cell 20 = .ok (.iload_n 2, 1) := by decide +kernel
theorem dX11_cell_21 : decode cX11_cell 21 = .ok (.iconst 0, 1) := by decide +kernel
theorem dX11_cell_22 : decode cX11_cell 22 = .ok (.bipush 99, 2) := by decide +kernel
theorem dX11_cell_24 : decode cX11_cell 24 = .ok (.invokestatic 91, 3) := by decide +kernel
theorem dX11_cell_27 : decode cX11_cell 27 = .ok (.ifCond .ne 5, 3) := by decide +kernel
theorem dX11_cell_30 : decode cX11_cell 30 = .ok (.iconst 0, 1) := by decide +kernel
theorem dX11_cell_31 : decode cX11_cell 31 = .ok (.ireturn, 1) := by decide +kernel
theorem dX11_cell_32 : decode cX11_cell 32 = .ok (.aload_n 0, 1) := by decide +kernel
theorem dX11_cell_33 : decode cX11_cell 33 = .ok (.getfield 28, 3) := by decide +kernel
theorem dX11_cell_36 : decode cX11_cell 36 = .ok (.getfield 133, 3) := by decide +kernel
theorem dX11_cell_39 : decode cX11_cell 39 = .ok (.iload_n 1, 1) := by decide +kernel
theorem dX11_cell_40 : decode cX11_cell 40 = .ok (.iload_n 2, 1) := by decide +kernel
theorem dX11_cell_41 : decode cX11_cell 41 = .ok (.iastore, 1) := by decide +kernel
theorem dX11_cell_42 : decode cX11_cell 42 = .ok (.iconst 1, 1) := by decide +kernel
theorem dX11_cell_43 : decode cX11_cell 43 = .ok (.ireturn, 1) := by decide +kernel
theorem dX11_ground_0 : decode cX11_ground 0 = .ok (.iload_n 1, 1) := by decide +kernel
theorem dX11_ground_1 : decode cX11_ground 1 = .ok (.iconst 0, 1) := by decide +kernel
theorem dX11_ground_2 : decode cX11_ground 2 = .ok (.bipush 50, 2) := by decide +kernel
theorem dX11_ground_4 : decode cX11_ground 4 = .ok (.invokestatic 91, 3) := by decide +kernel
theorem dX11_ground_7 : decode cX11_ground 7 = .ok (.ifCond .eq 14, 3) := by decide +kernel
theorem dX11_ground_10 : decode cX11_ground 10 = .ok (.iload_n 2, 1) := by decide +kernel
theorem dX11_ground_11 : decode cX11_ground 11 = .ok (.iconst 0, 1) := by decide +kernel
theorem dX11_ground_12 : decode cX11_ground 12 = .ok (.sipush 300, 3) := by decide +kernel
theorem dX11_ground_15 : decode cX11_ground 15 = .ok (.invokestatic 91, 3) := by decide +kernel
theorem dX11_ground_18 : decode cX11_ground 18 = .ok (.ifCond .ne 5, 3) := by decide +kernel
theorem dX11_ground_21 : decode cX11_ground 21 = .ok (.iconst 0, 1) := by decide +kernel
theorem dX11_ground_22 : decode cX11_ground 22 = .ok (.ireturn, 1) := by decide +kernel
theorem dX11_ground_23 : decode cX11_ground 23 = .ok (.aload_n 0, 1) := by decide +kernel
theorem dX11_ground_24 : decode cX11_ground 24 = .ok (.getfield 28, 3) := by decide +kernel
theorem dX11_ground_27 : decode cX11_ground 27 = .ok (.iload_n 1, 1) := by decide +kernel
theorem dX11_ground_28 : decode cX11_ground 28 = .ok (.putfield 137, 3) := by decide +kernel
theorem dX11_ground_31 : decode cX11_ground 31 = .ok (.aload_n 0, 1) := by decide +kernel
theorem dX11_ground_32 : decode cX11_ground 32 = .ok (.getfield 28, 3) := by decide +kernel
theorem dX11_ground_35 : decode cX11_ground 35 = .ok (.iload_n 2, 1) := by decide +kernel
theorem dX11_ground_36 : decode cX11_ground 36 = .ok (.putfield 140, 3) := by decide +kernel
theorem dX11_ground_39 : decode cX11_ground 39 = .ok (.iconst 1, 1) := by decide +kernel
theorem dX11_ground_40 : decode cX11_ground 40 = .ok (.ireturn, 1) := by decide +kernel
theorem dX11_base_0 : decode cX11_base 0 = .ok (.iload_n 1, 1) := by decide +kernel
theorem dX11_base_1 : decode cX11_base 1 = .ok (.invokestatic 143, 3) := by decide +kernel
theorem dX11_base_4 : decode cX11_base 4 = .ok (.ifCond .eq 10, 3) := by decide +kernel
theorem dX11_base_7 : decode cX11_base 7 = .ok (.iload_n 2, 1) := by decide +kernel
theorem dX11_base_8 : decode cX11_base 8 = .ok (.invokestatic 146, 3) := by decide +kernel
theorem dX11_base_11 : decode cX11_base 11 = .ok (.ifCond .ne 5, 3) := by decide +kernel
theorem dX11_base_14 : decode cX11_base 14 = .ok (.iconst (-1), 1) := by decide +kernel
theorem dX11_base_15 : decode cX11_base 15 = .ok (.ireturn, 1) := by decide +kernel
theorem dX11_base_16 : decode cX11_base 16 = .ok (.aload_n 0, 1) := by decide +kernel
theorem dX11_base_17 : decode cX11_base 17 = .ok (.getfield 35, 3) := by decide +kernel
theorem dX11_base_20 : decode cX11_base 20 = .ok (.iconst 0, 1) := by decide +kernel
theorem dX11_base_21 : decode cX11_base 21 = .ok (.iload_n 1, 1) := by decide +kernel
theorem dX11_base_22 : decode cX11_base 22 = .ok (.iload_n 2, 1) := by decide +kernel
theorem dX11_base_23 : decode cX11_base 23 = .ok (.invokevirtual 149, 3) := by decide +kernel
theorem dX11_base_26 : decode cX11_base 26 = .ok (.ireturn, 1) := by decide +kernel
theorem dX11_birds_0 : decode cX11_birds 0 = .ok (.aload_n 0, 1) := by decide +kernel
theorem dX11_birds_1 : decode cX11_birds 1 = .ok (.iload_n 1, 1) := by decide +kernel
theorem dX11_birds_2 : decode cX11_birds 2 = .ok (.iload_n 2, 1) := by decide +kernel
theorem dX11_birds_3 : decode cX11_birds 3 = .ok (.invokevirtual 152, 3) := by decide +kernel
theorem dX11_birds_6 : decode cX11_birds 6 = .ok (.ireturn, 1) := by decide +kernel
theorem dX11_ready_0 : decode cX11_ready 0 = .ok (.aload_n 0, 1) := by decide +kernel
theorem dX11_ready_1 : decode cX11_ready 1 = .ok (.getfield 28, 3) := by decide +kernel
theorem dX11_ready_4 : decode cX11_ready 4 = .ok (.iload_n 1, 1) := by decide +kernel
theorem dX11_ready_5 : decode cX11_ready 5 = .ok (.invokevirtual 113, 3) := by decide +kernel
theorem dX11_ready_8 : decode cX11_ready 8 = .ok (.ifnull 10, 3) := by decide +kernel
theorem dX11_ready_11 : decode cX11_ready 11 = .ok (.iload_n 2, 1) := by decide +kernel
theorem dX11_ready_12 : decode cX11_ready 12 = .ok (.invokestatic 143, 3) := by decide +kernel
theorem dX11_ready_15 : decode cX11_ready 15 = .ok (.ifCond .ne 5, 3) := by decide +kernel
theorem dX11_ready_18 : decode cX11_ready 18 = .ok (.iconst (-1), 1) := by decide +kernel
theorem dX11_ready_19 : decode cX11_ready 19 = .ok (.ireturn, 1) := by decide +kernel
theorem dX11_ready_20 : decode cX11_ready 20 = .ok (.aload_n 0, 1) := by decide +kernel
theorem dX11_ready_21 : decode cX11_ready 21 = .ok (.getfield 35, 3) := by decide +kernel
theorem dX11_ready_24 : decode cX11_ready 24 = .ok (.iconst 2, 1) := by decide +kernel
theorem dX11_ready_25 : decode cX11_ready 25 = .ok (.iload_n 1, 1) := by decide +kernel
theorem dX11_ready_26 : decode cX11_ready 26 = .ok (.iload_n 2, 1) := by decide +kernel
theorem dX11_ready_27 : decode cX11_ready 27 = .ok (.invokevirtual 149, 3) := by decide +kernel
theorem dX11_ready_30 : decode cX11_ready 30 = .ok (.ireturn, 1) := by decide +kernel
theorem dX11_away_0 : decode cX11_away 0 = .ok (.aload_n 0, 1) := by decide +kernel
theorem dX11_away_1 : decode cX11_away 1 = .ok (.iload_n 1, 1) := by decide +kernel
theorem dX11_away_2 : decode cX11_away 2 = .ok (.iload_n 2, 1) := by decide +kernel
theorem dX11_away_3 : decode cX11_away 3 = .ok (.invokevirtual 152, 3) := by decide +kernel
theorem dX11_away_6 : decode cX11_away 6 = .ok (.ireturn, 1) := by decide +kernel
theorem dX11_refused_0 : decode cX11_refused 0 = .ok (.aload_n 0, 1) := by decide +kernel
theorem dX11_refused_1 : decode cX11_refused 1 = .ok (.getfield 28, 3) := by decide +kernel
theorem dX11_refused_4 : decode cX11_refused 4 = .ok (.iload_n 1, 1) := by decide +kernel
theorem dX11_refused_5 : decode cX11_refused 5 = .ok (.invokevirtual 113, 3) := by decide +kernel
theorem dX11_refused_8 : decode cX11_refused 8 = .ok (.astore_n 3, 1) := by decide +kernel
theorem dX11_refused_9 : decode cX11_refused 9 = .ok (.aload_n 3, 1) := by decide +kernel
theorem dX11_refused_10 : decode cX11_refused 10 = .ok (.ifnonnull 7, 3) := by decide +kernel
theorem dX11_refused_13 : decode cX11_refused 13 = .ok (.aconst_null, 1) := by decide +kernel
theorem dX11_refused_14 : decode cX11_refused 14 = .ok (.goto 8, 3) := by decide +kernel
theorem dX11_refused_17 : decode cX11_refused 17 = .ok (.aload_n 3, 1) := by decide +kernel
theorem dX11_refused_18 : decode cX11_refused 18 = .ok (.iload_n 2, 1) := by decide +kernel
theorem dX11_refused_19 : decode cX11_refused 19 = .ok (.invokevirtual 156, 3) := by decide +kernel
theorem dX11_refused_22 : decode cX11_refused 22 = .ok (.astore 4, 2) := by decide +kernel
theorem dX11_refused_24 : decode cX11_refused 24 = .ok (.aload 4, 2) := by decide +kernel
theorem dX11_refused_26 : decode cX11_refused 26 = .ok (.ifnonnull 5, 3) := by decide +kernel
theorem dX11_refused_29 : decode cX11_refused 29 = .ok (.iconst (-1), 1) := by decide +kernel
theorem dX11_refused_30 : decode cX11_refused 30 = .ok (.ireturn, 1) := by decide +kernel
theorem dX11_refused_31 : decode cX11_refused 31 = .ok (.aload_n 0, 1) := by decide +kernel
theorem dX11_refused_32 : decode cX11_refused 32 = .ok (.getfield 28, 3) := by decide +kernel
theorem dX11_refused_35 : decode cX11_refused 35 = .ok (.aload 4, 2) := by decide +kernel
theorem dX11_refused_37 : decode cX11_refused 37 = .ok (.invokevirtual 160, 3) := by decide +kernel
theorem dX11_refused_40 : decode cX11_refused 40 = .ok (.ifCond .eq 7, 3) := by decide +kernel
theorem dX11_refused_43 : decode cX11_refused 43 = .ok (.iconst 1, 1) := by decide +kernel
theorem dX11_refused_44 : decode cX11_refused 44 = .ok (.goto 4, 3) := by decide +kernel
theorem dX11_refused_47 : decode cX11_refused 47 = .ok (.iconst 0, 1) := by decide +kernel
theorem dX11_refused_48 : decode cX11_refused 48 = .ok (.ireturn, 1) := by decide +kernel
theorem dX11_length_0 : decode cX11_length 0 = .ok (.aload_n 0, 1) := by decide +kernel
theorem dX11_length_1 : decode cX11_length 1 = .ok (.getfield 28, 3) := by decide +kernel
theorem dX11_length_4 : decode cX11_length 4 = .ok (.iload_n 1, 1) := by decide +kernel
theorem dX11_length_5 : decode cX11_length 5 = .ok (.invokevirtual 113, 3) := by decide +kernel
theorem dX11_length_8 : decode cX11_length 8 = .ok (.astore_n 3, 1) := by decide +kernel
theorem dX11_length_9 : decode cX11_length 9 = .ok (.aload_n 3, 1) := by decide +kernel
theorem dX11_length_10 : decode cX11_length 10 = .ok (.ifnull 10, 3) := by decide +kernel
theorem dX11_length_13 : decode cX11_length 13 = .ok (.iload_n 2, 1) := by decide +kernel
theorem dX11_length_14 : decode cX11_length 14 = .ok (.invokestatic 146, 3) := by decide +kernel
theorem dX11_length_17 : decode cX11_length 17 = .ok (.ifCond .ne 5, 3) := by decide +kernel
theorem dX11_length_20 : decode cX11_length 20 = .ok (.iconst (-1), 1) := by decide +kernel
theorem dX11_length_21 : decode cX11_length 21 = .ok (.ireturn, 1) := by decide +kernel
theorem dX11_length_22 : decode cX11_length 22 = .ok (.aload_n 0, 1) := by decide +kernel
theorem dX11_length_23 : decode cX11_length 23 = .ok (.getfield 28, 3) := by decide +kernel
theorem dX11_length_26 : decode cX11_length 26 = .ok (.aload_n 3, 1) := by decide +kernel
theorem dX11_length_27 : decode cX11_length 27 = .ok (.iload_n 2, 1) := by decide +kernel
theorem dX11_length_28 : decode cX11_length 28 = .ok (.invokevirtual 164, 3) := by decide +kernel
theorem dX11_length_31 : decode cX11_length 31 = .ok (.ireturn, 1) := by decide +kernel
theorem dX11_baseIn_0 : decode cX11_baseIn 0 = .ok (.iload_n 1, 1) := by decide +kernel
theorem dX11_baseIn_1 : decode cX11_baseIn 1 = .ok (.invokestatic 143, 3) := by decide +kernel
theorem dX11_baseIn_4 : decode cX11_baseIn 4 = .ok (.ifCond .eq 14, 3) := by decide +kernel
theorem dX11_baseIn_7 : decode cX11_baseIn 7 = .ok (.aload_n 0, 1) := by decide +kernel
theorem dX11_baseIn_8 : decode cX11_baseIn 8 = .ok (.getfield 35, 3) := by decide +kernel
theorem dX11_baseIn_11 : decode cX11_baseIn 11 = .ok (.iload_n 2, 1) := by decide +kernel
theorem dX11_baseIn_12 : decode cX11_baseIn 12 = .ok (.invokevirtual 168, 3) := by decide +kernel
theorem dX11_baseIn_15 : decode cX11_baseIn 15 = .ok (.ifCond .ne 5, 3) := by decide +kernel
theorem dX11_baseIn_18 : decode cX11_baseIn 18 = .ok (.iconst (-1), 1) := by decide +kernel
theorem dX11_baseIn_19 : decode cX11_baseIn 19 = .ok (.ireturn, 1) := by decide +kernel
theorem dX11_baseIn_20 : decode cX11_baseIn 20 = .ok (.aload_n 0, 1) := by decide +kernel
theorem dX11_baseIn_21 : decode cX11_baseIn 21 = .ok (.getfield 42, 3) := by decide +kernel
theorem dX11_baseIn_24 : decode cX11_baseIn 24 = .ok (.aload_n 0, 1) := by decide +kernel
theorem dX11_baseIn_25 : decode cX11_baseIn 25 = .ok (.getfield 35, 3) := by decide +kernel
theorem dX11_baseIn_28 : decode cX11_baseIn 28 = .ok (.iload_n 2, 1) := by decide +kernel
theorem dX11_baseIn_29 : decode cX11_baseIn 29 = .ok (.invokevirtual 171, 3) := by decide +kernel
theorem dX11_baseIn_32 : decode cX11_baseIn 32 = .ok (.aload_n 0, 1) := by decide +kernel
theorem dX11_baseIn_33 : decode cX11_baseIn 33 = .ok (.getfield 42, 3) := by decide +kernel
theorem dX11_baseIn_36 : decode cX11_baseIn 36 = .ok (.getfield 175, 3) := by decide +kernel
theorem dX11_baseIn_39 : decode cX11_baseIn 39 = .ok (.iload_n 1, 1) := by decide +kernel
theorem dX11_baseIn_40 : decode cX11_baseIn 40 = .ok (.iaload, 1) := by decide +kernel
theorem dX11_baseIn_41 : decode cX11_baseIn 41 = .ok (.ireturn, 1) := by decide +kernel
theorem dX11_plan_0 : decode cX11_plan 0 = .ok (.aload_n 0, 1) := by decide +kernel
theorem dX11_plan_1 : decode cX11_plan 1 = .ok (.getfield 35, 3) := by decide +kernel
theorem dX11_plan_4 : decode cX11_plan 4 = .ok (.iload_n 1, 1) := by decide +kernel
theorem dX11_plan_5 : decode cX11_plan 5 = .ok (.invokevirtual 168, 3) := by decide +kernel
theorem dX11_plan_8 : decode cX11_plan 8 = .ok (.ifCond .ne 5, 3) := by decide +kernel
theorem dX11_plan_11 : decode cX11_plan 11 = .ok (.iconst (-1), 1) := by decide +kernel
theorem dX11_plan_12 : decode cX11_plan 12 = .ok (.ireturn, 1) := by decide +kernel
theorem dX11_plan_13 : decode cX11_plan 13 = .ok (.aload_n 0, 1) := by decide +kernel
theorem dX11_plan_14 : decode cX11_plan 14 = .ok (.getfield 68, 3) := by decide +kernel
theorem dX11_plan_17 : decode cX11_plan 17 = .ok (.invokevirtual 178, 3) := by decide +kernel
theorem dX11_plan_20 : decode cX11_plan 20 = .ok (.aload_n 0, 1) := by decide +kernel
theorem dX11_plan_21 : decode cX11_plan 21 = .ok (.iconst 1, 1) := by decide +kernel
theorem dX11_plan_22 : decode cX11_plan 22 = .ok (.putfield 72, 3) := by decide +kernel
theorem dX11_plan_25 : decode cX11_plan 25 = .ok (.aload_n 0, 1) := by decide +kernel
theorem dX11_plan_26 : decode cX11_plan 26 = .ok (.iload_n 1, 1) := by decide +kernel
theorem dX11_plan_27 : decode cX11_plan 27 = .ok (.invokevirtual 181, 3) := by decide +kernel
theorem dX11_plan_30 : decode cX11_plan 30 = .ok (.aload_n 0, 1) := by decide +kernel
theorem dX11_plan_31 : decode cX11_plan 31 = .ok (.getfield 61, 3) := by decide +kernel
theorem dX11_plan_34 : decode cX11_plan 34 = .ok (.aload_n 0, 1) := by decide +kernel
theorem dX11_plan_35 : decode cX11_plan 35 = .ok (.getfield 68, 3) := by decide +kernel
theorem dX11_plan_38 : decode cX11_plan 38 = .ok (.invokevirtual 184, 3) := by decide +kernel
theorem dX11_plan_41 : decode cX11_plan 41 = .ok (.ireturn, 1) := by decide +kernel
theorem dX11_mend_0 : decode cX11_mend 0 = .ok (.aload_n 0, 1) := by decide +kernel
theorem dX11_mend_1 : decode cX11_mend 1 = .ok (.getfield 72, 3) := by decide +kernel
theorem dX11_mend_4 : decode cX11_mend 4 = .ok (.ifCond .eq 14, 3) := by decide +kernel
theorem dX11_mend_7 : decode cX11_mend 7 = .ok (.aload_n 0, 1) := by decide +kernel
theorem dX11_mend_8 : decode cX11_mend 8 = .ok (.getfield 35, 3) := by decide +kernel
theorem dX11_mend_11 : decode cX11_mend 11 = .ok (.iload_n 1, 1) := by decide +kernel
theorem dX11_mend_12 : decode cX11_mend 12 = .ok (.invokevirtual 168, 3) := by decide +kernel
theorem dX11_mend_15 : decode cX11_mend 15 = .ok (.ifCond .ne 5, 3) := by decide +kernel
theorem dX11_mend_18 : decode cX11_mend 18 = .ok (.iconst (-1), 1) := by decide +kernel
theorem dX11_mend_19 : decode cX11_mend 19 = .ok (.ireturn, 1) := by decide +kernel
theorem dX11_mend_20 : decode cX11_mend 20 = .ok (.aload_n 0, 1) := by decide +kernel
theorem dX11_mend_21 : decode cX11_mend 21 = .ok (.iload_n 1, 1) := by decide +kernel
theorem dX11_mend_22 : decode cX11_mend 22 = .ok (.invokevirtual 181, 3) := by decide +kernel
theorem dX11_mend_25 : decode cX11_mend 25 = .ok (.aload_n 0, 1) := by decide +kernel
theorem dX11_mend_26 : decode cX11_mend 26 = .ok (.getfield 61, 3) := by decide +kernel
theorem dX11_mend_29 : decode cX11_mend 29 = .ok (.aload_n 0, 1) := by decide +kernel
theorem dX11_mend_30 : decode cX11_mend 30 = .ok (.getfield 68, 3) := by decide +kernel
theorem dX11_mend_33 : decode cX11_mend 33 = .ok (.invokevirtual 184, 3) := by decide +kernel
theorem dX11_mend_36 : decode cX11_mend 36 = .ok (.ireturn, 1) := by decide +kernel
theorem dX11_order_0 : decode cX11_order 0 = .ok (.iload_n 1, 1) := by decide +kernel
theorem dX11_order_1 : decode cX11_order 1 = .ok (.iconst 0, 1) := by decide +kernel
theorem dX11_order_2 : decode cX11_order 2 = .ok (.aload_n 0, 1) := by decide +kernel
theorem dX11_order_3 : decode cX11_order 3 = .ok (.getfield 68, 3) := by decide +kernel
theorem dX11_order_6 : decode cX11_order 6 = .ok (.getfield 188, 3) := by decide +kernel
theorem dX11_order_9 : decode cX11_order 9 = .ok (.iconst 1, 1) := by decide +kernel
theorem dX11_order_10 : decode cX11_order 10 = .ok (.isub, 1) := by decide +kernel
theorem dX11_order_11 : decode cX11_order 11 = .ok (.invokestatic 91, 3) := by decide +kernel
theorem dX11_order_14 : decode cX11_order 14 = .ok (.ifCond .eq 15, 3) := by decide +kernel
theorem dX11_order_17 : decode cX11_order 17 = .ok (.aload_n 0, 1) := by decide +kernel
theorem dX11_order_18 : decode cX11_order 18 = .ok (.getfield 68, 3) := by decide +kernel
theorem dX11_order_21 : decode cX11_order 21 = .ok (.getfield 189, 3) := by decide +kernel
theorem dX11_order_24 : decode cX11_order 24 = .ok (.iload_n 1, 1) := by decide +kernel
theorem dX11_order_25 : decode cX11_order 25 = .ok (.iaload, 1) := by decide +kernel
theorem dX11_order_26 : decode cX11_order 26 = .ok (.goto 4, 3) := by decide +kernel
theorem dX11_order_29 : decode cX11_order 29 = .ok (.iconst (-1), 1) := by decide +kernel
theorem dX11_order_30 : decode cX11_order 30 = .ok (.ireturn, 1) := by decide +kernel
theorem dX11_told_0 : decode cX11_told 0 = .ok (.aload_n 0, 1) := by decide +kernel
theorem dX11_told_1 : decode cX11_told 1 = .ok (.getfield 68, 3) := by decide +kernel
theorem dX11_told_4 : decode cX11_told 4 = .ok (.iload_n 1, 1) := by decide +kernel
theorem dX11_told_5 : decode cX11_told 5 = .ok (.invokevirtual 192, 3) := by decide +kernel
theorem dX11_told_8 : decode cX11_told 8 = .ok (.ifCond .ne 5, 3) := by decide +kernel
theorem dX11_told_11 : decode cX11_told 11 = .ok (.iconst (-1), 1) := by decide +kernel
theorem dX11_told_12 : decode cX11_told 12 = .ok (.ireturn, 1) := by decide +kernel
theorem dX11_told_13 : decode cX11_told 13 = .ok (.iload_n 2, 1) := by decide +kernel
theorem dX11_told_14 : decode cX11_told 14 = .ok (.tableswitch 94 0 4 #[34, 44, 54, 74, 84], 34) := by decide +kernel
theorem dX11_told_48 : decode cX11_told 48 = .ok (.aload_n 0, 1) := by decide +kernel
theorem dX11_told_49 : decode cX11_told 49 = .ok (.getfield 68, 3) := by decide +kernel
theorem dX11_told_52 : decode cX11_told 52 = .ok (.getfield 193, 3) := by decide +kernel
theorem dX11_told_55 : decode cX11_told 55 = .ok (.iload_n 1, 1) := by decide +kernel
theorem dX11_told_56 : decode cX11_told 56 = .ok (.iaload, 1) := by decide +kernel
theorem dX11_told_57 : decode cX11_told 57 = .ok (.ireturn, 1) := by decide +kernel
theorem dX11_told_58 : decode cX11_told 58 = .ok (.aload_n 0, 1) := by decide +kernel
theorem dX11_told_59 : decode cX11_told 59 = .ok (.getfield 68, 3) := by decide +kernel
theorem dX11_told_62 : decode cX11_told 62 = .ok (.getfield 196, 3) := by decide +kernel
theorem dX11_told_65 : decode cX11_told 65 = .ok (.iload_n 1, 1) := by decide +kernel
theorem dX11_told_66 : decode cX11_told 66 = .ok (.iaload, 1) := by decide +kernel
theorem dX11_told_67 : decode cX11_told 67 = .ok (.ireturn, 1) := by decide +kernel
theorem dX11_told_68 : decode cX11_told 68 = .ok (.aload_n 0, 1) := by decide +kernel
theorem dX11_told_69 : decode cX11_told 69 = .ok (.getfield 68, 3) := by decide +kernel
theorem dX11_told_72 : decode cX11_told 72 = .ok (.getfield 196, 3) := by decide +kernel
theorem dX11_told_75 : decode cX11_told 75 = .ok (.iload_n 1, 1) := by decide +kernel
theorem dX11_told_76 : decode cX11_told 76 = .ok (.iaload, 1) := by decide +kernel
theorem dX11_told_77 : decode cX11_told 77 = .ok (.aload_n 0, 1) := by decide +kernel
theorem dX11_told_78 : decode cX11_told 78 = .ok (.getfield 68, 3) := by decide +kernel
theorem dX11_told_81 : decode cX11_told 81 = .ok (.getfield 199, 3) := by decide +kernel
theorem dX11_told_84 : decode cX11_told 84 = .ok (.iload_n 1, 1) := by decide +kernel
theorem dX11_told_85 : decode cX11_told 85 = .ok (.iaload, 1) := by decide +kernel
theorem dX11_told_86 : decode cX11_told 86 = .ok (.iadd, 1) := by decide +kernel
theorem dX11_told_87 : decode cX11_told 87 = .ok (.ireturn, 1) := by decide +kernel
theorem dX11_told_88 : decode cX11_told 88 = .ok (.aload_n 0, 1) := by decide +kernel
theorem dX11_told_89 : decode cX11_told 89 = .ok (.getfield 68, 3) := by decide +kernel
theorem dX11_told_92 : decode cX11_told 92 = .ok (.getfield 202, 3) := by decide +kernel
theorem dX11_told_95 : decode cX11_told 95 = .ok (.iload_n 1, 1) := by decide +kernel
theorem dX11_told_96 : decode cX11_told 96 = .ok (.iaload, 1) := by decide +kernel
theorem dX11_told_97 : decode cX11_told 97 = .ok (.ireturn, 1) := by decide +kernel
theorem dX11_told_98 : decode cX11_told 98 = .ok (.aload_n 0, 1) := by decide +kernel
theorem dX11_told_99 : decode cX11_told 99 = .ok (.getfield 68, 3) := by decide +kernel
theorem dX11_told_102 : decode cX11_told 102 = .ok (.getfield 199, 3) := by decide +kernel
theorem dX11_told_105 : decode cX11_told 105 = .ok (.iload_n 1, 1) := by decide +kernel
theorem dX11_told_106 : decode cX11_told 106 = .ok (.iaload, 1) := by decide +kernel
theorem dX11_told_107 : decode cX11_told 107 = .ok (.ireturn, 1) := by decide +kernel
theorem dX11_told_108 : decode cX11_told 108 = .ok (.iconst (-1), 1) := by decide +kernel
theorem dX11_told_109 : decode cX11_told 109 = .ok (.ireturn, 1) := by decide +kernel
theorem dX11_out_0 : decode cX11_out 0 = .ok (.aload_n 0, 1) := by decide +kernel
theorem dX11_out_1 : decode cX11_out 1 = .ok (.getfield 28, 3) := by decide +kernel
theorem dX11_out_4 : decode cX11_out 4 = .ok (.iload_n 1, 1) := by decide +kernel
theorem dX11_out_5 : decode cX11_out 5 = .ok (.invokevirtual 113, 3) := by decide +kernel
theorem dX11_out_8 : decode cX11_out 8 = .ok (.ifnull 21, 3) := by decide +kernel
theorem dX11_out_11 : decode cX11_out 11 = .ok (.iload_n 2, 1) := by decide +kernel
theorem dX11_out_12 : decode cX11_out 12 = .ok (.invokestatic 143, 3) := by decide +kernel
theorem dX11_out_15 : decode cX11_out 15 = .ok (.ifCond .eq 14, 3) := by decide +kernel
theorem dX11_out_18 : decode cX11_out 18 = .ok (.aload_n 0, 1) := by decide +kernel
theorem dX11_out_19 : decode cX11_out 19 = .ok (.getfield 35, 3) := by decide +kernel
theorem dX11_out_22 : decode cX11_out 22 = .ok (.iload_n 3, 1) := by decide +kernel
theorem dX11_out_23 : decode cX11_out 23 = .ok (.invokevirtual 168, 3) := by decide +kernel
theorem dX11_out_26 : decode cX11_out 26 = .ok (.ifCond .ne 5, 3) := by decide +kernel
theorem dX11_out_29 : decode cX11_out 29 = .ok (.iconst (-1), 1) := by decide +kernel
theorem dX11_out_30 : decode cX11_out 30 = .ok (.ireturn, 1) := by decide +kernel
theorem dX11_out_31 : decode cX11_out 31 = .ok (.aload_n 0, 1) := by decide +kernel
theorem dX11_out_32 : decode cX11_out 32 = .ok (.iload_n 3, 1) := by decide +kernel
theorem dX11_out_33 : decode cX11_out 33 = .ok (.invokevirtual 181, 3) := by decide +kernel
theorem dX11_out_36 : decode cX11_out 36 = .ok (.aload_n 0, 1) := by decide +kernel
theorem dX11_out_37 : decode cX11_out 37 = .ok (.getfield 61, 3) := by decide +kernel
theorem dX11_out_40 : decode cX11_out 40 = .ok (.iload_n 1, 1) := by decide +kernel
theorem dX11_out_41 : decode cX11_out 41 = .ok (.iload_n 2, 1) := by decide +kernel
theorem dX11_out_42 : decode cX11_out 42 = .ok (.invokevirtual 205, 3) := by decide +kernel
theorem dX11_out_45 : decode cX11_out 45 = .ok (.ireturn, 1) := by decide +kernel
theorem dX11_can_0 : decode cX11_can 0 = .ok (.aload_n 0, 1) := by decide +kernel
theorem dX11_can_1 : decode cX11_can 1 = .ok (.iload_n 1, 1) := by decide +kernel
theorem dX11_can_2 : decode cX11_can 2 = .ok (.iload_n 2, 1) := by decide +kernel
theorem dX11_can_3 : decode cX11_can 3 = .ok (.iload_n 3, 1) := by decide +kernel
theorem dX11_can_4 : decode cX11_can 4 = .ok (.iload 4, 2) := by decide +kernel
theorem dX11_can_6 : decode cX11_can 6 = .ok (.invokevirtual 208, 3) := by decide +kernel
theorem dX11_can_9 : decode cX11_can 9 = .ok (.ifCond .eq 15, 3) := by decide +kernel
theorem dX11_can_12 : decode cX11_can 12 = .ok (.aload_n 0, 1) := by decide +kernel
theorem dX11_can_13 : decode cX11_can 13 = .ok (.getfield 35, 3) := by decide +kernel
theorem dX11_can_16 : decode cX11_can 16 = .ok (.iload 5, 2) := by decide +kernel
theorem dX11_can_18 : decode cX11_can 18 = .ok (.invokevirtual 168, 3) := by decide +kernel
theorem dX11_can_21 : decode cX11_can 21 = .ok (.ifCond .ne 5, 3) := by decide +kernel
theorem dX11_can_24 : decode cX11_can 24 = .ok (.iconst (-1), 1) := by decide +kernel
theorem dX11_can_25 : decode cX11_can 25 = .ok (.ireturn, 1) := by decide +kernel
theorem dX11_can_26 : decode cX11_can 26 = .ok (.aload_n 0, 1) := by decide +kernel
theorem dX11_can_27 : decode cX11_can 27 = .ok (.iload 5, 2) := by decide +kernel
theorem dX11_can_29 : decode cX11_can 29 = .ok (.invokevirtual 181, 3) := by decide +kernel
theorem dX11_can_32 : decode cX11_can 32 = .ok (.aload_n 0, 1) := by decide +kernel
theorem dX11_can_33 : decode cX11_can 33 = .ok (.getfield 61, 3) := by decide +kernel
theorem dX11_can_36 : decode cX11_can 36 = .ok (.iload_n 1, 1) := by decide +kernel
theorem dX11_can_37 : decode cX11_can 37 = .ok (.invokevirtual 212, 3) := by decide +kernel
theorem dX11_can_40 : decode cX11_can 40 = .ok (.ifCond .eq 57, 3) := by decide +kernel
theorem dX11_can_43 : decode cX11_can 43 = .ok (.iload_n 2, 1) := by decide +kernel
theorem dX11_can_44 : decode cX11_can 44 = .ok (.iconst (-1), 1) := by decide +kernel
theorem dX11_can_45 : decode cX11_can 45 = .ok (.if_icmp .eq 14, 3) := by decide +kernel
theorem dX11_can_48 : decode cX11_can 48 = .ok (.aload_n 0, 1) := by decide +kernel
theorem dX11_can_49 : decode cX11_can 49 = .ok (.getfield 61, 3) := by decide +kernel
theorem dX11_can_52 : decode cX11_can 52 = .ok (.iload_n 2, 1) := by decide +kernel
theorem dX11_can_53 : decode cX11_can 53 = .ok (.invokevirtual 212, 3) := by decide +kernel
theorem dX11_can_56 : decode cX11_can 56 = .ok (.ifCond .eq 41, 3) := by decide +kernel
theorem dX11_can_59 : decode cX11_can 59 = .ok (.iload_n 3, 1) := by decide +kernel
theorem dX11_can_60 : decode cX11_can 60 = .ok (.iconst (-1), 1) := by decide +kernel
theorem dX11_can_61 : decode cX11_can 61 = .ok (.if_icmp .eq 14, 3) := by decide +kernel
theorem dX11_can_64 : decode cX11_can 64 = .ok (.aload_n 0, 1) := by decide +kernel
theorem dX11_can_65 : decode cX11_can 65 = .ok (.getfield 61, 3) := by decide +kernel
theorem dX11_can_68 : decode cX11_can 68 = .ok (.iload_n 3, 1) := by decide +kernel
theorem dX11_can_69 : decode cX11_can 69 = .ok (.invokevirtual 212, 3) := by decide +kernel
theorem dX11_can_72 : decode cX11_can 72 = .ok (.ifCond .eq 25, 3) := by decide +kernel
theorem dX11_can_75 : decode cX11_can 75 = .ok (.iload 4, 2) := by decide +kernel
theorem dX11_can_77 : decode cX11_can 77 = .ok (.iconst (-1), 1) := by decide +kernel
theorem dX11_can_78 : decode cX11_can 78 = .ok (.if_icmp .eq 15, 3) := by decide +kernel
theorem dX11_can_81 : decode cX11_can 81 = .ok (.aload_n 0, 1) := by decide +kernel
theorem dX11_can_82 : decode cX11_can 82 = .ok (.getfield 61, 3) := by decide +kernel
theorem dX11_can_85 : decode cX11_can 85 = .ok (.iload 4, 2) := by decide +kernel
theorem dX11_can_87 : decode cX11_can 87 = .ok (.invokevirtual 212, 3) := by decide +kernel
theorem dX11_can_90 : decode cX11_can 90 = .ok (.ifCond .eq 7, 3) := by decide +kernel
theorem dX11_can_93 : decode cX11_can 93 = .ok (.iconst 1, 1) := by decide +kernel
theorem dX11_can_94 : decode cX11_can 94 = .ok (.goto 4, 3) := by decide +kernel
theorem dX11_can_97 : decode cX11_can 97 = .ok (.iconst 0, 1) := by decide +kernel
theorem dX11_can_98 : decode cX11_can 98 = .ok (.istore 6, 2) := by decide +kernel
theorem dX11_can_100 : decode cX11_can 100 = .ok (.iload 6, 2) := by decide +kernel
theorem dX11_can_102 : decode cX11_can 102 = .ok (.ifCond .eq 16, 3) := by decide +kernel
theorem dX11_can_105 : decode cX11_can 105 = .ok (.aload_n 0, 1) := by decide +kernel
theorem dX11_can_106 : decode cX11_can 106 = .ok (.getfield 61, 3) := by decide +kernel
theorem dX11_can_109 : decode cX11_can 109 = .ok (.getfield 215, 3) := by decide +kernel
theorem dX11_can_112 : decode cX11_can 112 = .ok (.getfield 218, 3) := by decide +kernel
theorem dX11_can_115 : decode cX11_can 115 = .ok (.goto 5, 3) := by decide +kernel
theorem dX11_can_118 : decode cX11_can 118 = .ok (.bipush (-2), 2) := by decide +kernel
theorem dX11_can_120 : decode cX11_can 120 = .ok (.ireturn, 1) := by decide +kernel
theorem dX11_runway_0 : decode cX11_runway 0 = .ok (.iload_n 1, 1) := by decide +kernel
theorem dX11_runway_1 : decode cX11_runway 1 = .ok (.invokestatic 143, 3) := by decide +kernel
theorem dX11_runway_4 : decode cX11_runway 4 = .ok (.ifCond .ne 5, 3) := by decide +kernel
theorem dX11_runway_7 : decode cX11_runway 7 = .ok (.iconst (-1), 1) := by decide +kernel
theorem dX11_runway_8 : decode cX11_runway 8 = .ok (.ireturn, 1) := by decide +kernel
theorem dX11_runway_9 : decode cX11_runway 9 = .ok (.iconst 0, 1) := by decide +kernel
theorem dX11_runway_10 : decode cX11_runway 10 = .ok (.istore_n 2, 1) := by decide +kernel
theorem dX11_runway_11 : decode cX11_runway 11 = .ok (.iload_n 2, 1) := by decide +kernel
theorem dX11_runway_12 : decode cX11_runway 12 = .ok (.bipush 6, 2) := by decide +kernel
theorem dX11_runway_14 : decode cX11_runway 14 = .ok (.if_icmp .ge 42, 3) := by decide +kernel
theorem dX11_runway_17 : decode cX11_runway 17 = .ok (.aload_n 0, 1) := by decide +kernel
theorem dX11_runway_18 : decode cX11_runway 18 = .ok (.getfield 68, 3) := by decide +kernel
theorem dX11_runway_21 : decode cX11_runway 21 = .ok (.getfield 193, 3) := by decide +kernel
theorem dX11_runway_24 : decode cX11_runway 24 = .ok (.iload_n 2, 1) := by decide +kernel
theorem dX11_runway_25 : decode cX11_runway 25 = .ok (.iaload, 1) := by decide +kernel
theorem dX11_runway_26 : decode cX11_runway 26 = .ok (.iload_n 1, 1) := by decide +kernel
theorem dX11_runway_27 : decode cX11_runway 27 = .ok (.if_icmp .ne 5, 3) := by decide +kernel
theorem dX11_runway_30 : decode cX11_runway 30 = .ok (.iload_n 2, 1) := by decide +kernel
theorem dX11_runway_31 : decode cX11_runway 31 = .ok (.ireturn, 1) := by decide +kernel
theorem dX11_runway_32 : decode cX11_runway 32 = .ok (.aload_n 0, 1) := by decide +kernel
theorem dX11_runway_33 : decode cX11_runway 33 = .ok (.getfield 68, 3) := by decide +kernel
theorem dX11_runway_36 : decode cX11_runway 36 = .ok (.getfield 202, 3) := by decide +kernel
theorem dX11_runway_39 : decode cX11_runway 39 = .ok (.iload_n 2, 1) := by decide +kernel
theorem dX11_runway_40 : decode cX11_runway 40 = .ok (.iaload, 1) := by decide +kernel
theorem dX11_runway_41 : decode cX11_runway 41 = .ok (.iload_n 1, 1) := by decide +kernel
theorem dX11_runway_42 : decode cX11_runway 42 = .ok (.if_icmp .ne 8, 3) := by decide +kernel
theorem dX11_runway_45 : decode cX11_runway 45 = .ok (.bipush 100, 2) := by decide +kernel
theorem dX11_runway_47 : decode cX11_runway 47 = .ok (.iload_n 2, 1) := by decide +kernel
theorem dX11_runway_48 : decode cX11_runway 48 = .ok (.iadd, 1) := by decide +kernel
theorem dX11_runway_49 : decode cX11_runway 49 = .ok (.ireturn, 1) := by decide +kernel
theorem dX11_runway_50 : decode cX11_runway 50 = .ok (.iinc 2 1, 3) := by decide +kernel
theorem dX11_runway_53 : decode cX11_runway 53 = .ok (.goto (-42), 3) := by decide +kernel
theorem dX11_runway_56 : decode cX11_runway 56 = .ok (.iconst (-1), 1) := by decide +kernel
theorem dX11_runway_57 : decode cX11_runway 57 = .ok (.ireturn, 1) := by decide +kernel
theorem dX11_count_0 : decode cX11_count 0 = .ok (.iload_n 1, 1) := by decide +kernel
theorem dX11_count_1 : decode cX11_count 1 = .ok (.tableswitch 122 0 7 #[47, 55, 63, 71, 90, 98, 106, 114], 47) := by decide +kernel
theorem dX11_count_48 : decode cX11_count 48 = .ok (.aload_n 0, 1) := by decide +kernel
theorem dX11_count_49 : decode cX11_count 49 = .ok (.getfield 28, 3) := by decide +kernel
theorem dX11_count_52 : decode cX11_count 52 = .ok (.getfield 103, 3) := by decide +kernel
theorem dX11_count_55 : decode cX11_count 55 = .ok (.ireturn, 1) := by decide +kernel
theorem dX11_count_56 : decode cX11_count 56 = .ok (.aload_n 0, 1) := by decide +kernel
theorem dX11_count_57 : decode cX11_count 57 = .ok (.getfield 35, 3) := by decide +kernel
theorem dX11_count_60 : decode cX11_count 60 = .ok (.getfield 221, 3) := by decide +kernel
theorem dX11_count_63 : decode cX11_count 63 = .ok (.ireturn, 1) := by decide +kernel
theorem dX11_count_64 : decode cX11_count 64 = .ok (.aload_n 0, 1) := by decide +kernel
theorem dX11_count_65 : decode cX11_count 65 = .ok (.getfield 49, 3) := by decide +kernel
theorem dX11_count_68 : decode cX11_count 68 = .ok (.getfield 222, 3) := by decide +kernel
theorem dX11_count_71 : decode cX11_count 71 = .ok (.ireturn, 1) := by decide +kernel
theorem dX11_count_72 : decode cX11_count 72 = .ok (.aload_n 0, 1) := by decide +kernel
theorem dX11_count_73 : decode cX11_count 73 = .ok (.getfield 72, 3) := by decide +kernel
theorem dX11_count_76 : decode cX11_count 76 = .ok (.ifCond .eq 13, 3) := by decide +kernel
theorem dX11_count_79 : decode cX11_count 79 = .ok (.aload_n 0, 1) := by decide +kernel
theorem dX11_count_80 : decode cX11_count 80 = .ok (.getfield 68, 3) := by decide +kernel
theorem dX11_count_83 : decode cX11_count 83 = .ok (.getfield 188, 3) := by decide +kernel
theorem dX11_count_86 : decode cX11_count 86 = .ok (.goto 4, 3) := by decide +kernel
theorem dX11_count_89 : decode cX11_count 89 = .ok (.iconst (-1), 1) := by decide +kernel
theorem dX11_count_90 : decode cX11_count 90 = .ok (.ireturn, 1) := by decide +kernel
theorem dX11_count_91 : decode cX11_count 91 = .ok (.aload_n 0, 1) := by decide +kernel
theorem dX11_count_92 : decode cX11_count 92 = .ok (.getfield 68, 3) := by decide +kernel
theorem dX11_count_95 : decode cX11_count 95 = .ok (.invokevirtual 223, 3) := by decide +kernel
theorem dX11_count_98 : decode cX11_count 98 = .ok (.ireturn, 1) := by decide +kernel
theorem dX11_count_99 : decode cX11_count 99 = .ok (.aload_n 0, 1) := by decide +kernel
theorem dX11_count_100 : decode cX11_count 100 = .ok (.getfield 10, 3) := by decide +kernel
theorem dX11_count_103 : decode cX11_count 103 = .ok (.getfield 88, 3) := by decide +kernel
theorem dX11_count_106 : decode cX11_count 106 = .ok (.ireturn, 1) := by decide +kernel
theorem dX11_count_107 : decode cX11_count 107 = .ok (.aload_n 0, 1) := by decide +kernel
theorem dX11_count_108 : decode cX11_count 108 = .ok (.getfield 28, 3) := by decide +kernel
theorem dX11_count_111 : decode cX11_count 111 = .ok (.getfield 137, 3) := by decide +kernel
theorem dX11_count_114 : decode cX11_count 114 = .ok (.ireturn, 1) := by decide +kernel
theorem dX11_count_115 : decode cX11_count 115 = .ok (.aload_n 0, 1) := by decide +kernel
theorem dX11_count_116 : decode cX11_count 116 = .ok (.getfield 28, 3) := by decide +kernel
theorem dX11_count_119 : decode cX11_count 119 = .ok (.getfield 140, 3) := by decide +kernel
theorem dX11_count_122 : decode cX11_count 122 = .ok (.ireturn, 1) := by decide +kernel
theorem dX11_count_123 : decode cX11_count 123 = .ok (.iconst (-1), 1) := by decide +kernel
theorem dX11_count_124 : decode cX11_count 124 = .ok (.ireturn, 1) := by decide +kernel
theorem dX11_isWithin_0 : decode cX11_isWithin 0 = .ok (.iload_n 0, 1) := by decide +kernel
theorem dX11_isWithin_1 : decode cX11_isWithin 1 = .ok (.iload_n 1, 1) := by decide +kernel
theorem dX11_isWithin_2 : decode cX11_isWithin 2 = .ok (.if_icmp .lt 12, 3) := by decide +kernel
theorem dX11_isWithin_5 : decode cX11_isWithin 5 = .ok (.iload_n 0, 1) := by decide +kernel
theorem dX11_isWithin_6 : decode cX11_isWithin 6 = .ok (.iload_n 2, 1) := by decide +kernel
theorem dX11_isWithin_7 : decode cX11_isWithin 7 = .ok (.if_icmp .gt 7, 3) := by decide +kernel
theorem dX11_isWithin_10 : decode cX11_isWithin 10 = .ok (.iconst 1, 1) := by decide +kernel
theorem dX11_isWithin_11 : decode cX11_isWithin 11 = .ok (.goto 4, 3) := by decide +kernel
theorem dX11_isWithin_14 : decode cX11_isWithin 14 = .ok (.iconst 0, 1) := by decide +kernel
theorem dX11_isWithin_15 : decode cX11_isWithin 15 = .ok (.ireturn, 1) := by decide +kernel
theorem dX11_isMinute_0 : decode cX11_isMinute 0 = .ok (.iload_n 0, 1) := by decide +kernel
theorem dX11_isMinute_1 : decode cX11_isMinute 1 = .ok (.iconst 0, 1) := by decide +kernel
theorem dX11_isMinute_2 : decode cX11_isMinute 2 = .ok (.sipush 239, 3) := by decide +kernel
theorem dX11_isMinute_5 : decode cX11_isMinute 5 = .ok (.invokestatic 91, 3) := by decide +kernel
theorem dX11_isMinute_8 : decode cX11_isMinute 8 = .ok (.ireturn, 1) := by decide +kernel
theorem dX11_isBase_0 : decode cX11_isBase 0 = .ok (.iload_n 0, 1) := by decide +kernel
theorem dX11_isBase_1 : decode cX11_isBase 1 = .ok (.iconst 0, 1) := by decide +kernel
theorem dX11_isBase_2 : decode cX11_isBase 2 = .ok (.bipush 9, 2) := by decide +kernel
theorem dX11_isBase_4 : decode cX11_isBase 4 = .ok (.invokestatic 91, 3) := by decide +kernel
theorem dX11_isBase_7 : decode cX11_isBase 7 = .ok (.ireturn, 1) := by decide +kernel
theorem dX11_closeBox_0 : decode cX11_closeBox 0 = .ok (.iload_n 1, 1) := by decide +kernel
theorem dX11_closeBox_1 : decode cX11_closeBox 1 = .ok (.ifCond .lt 15, 3) := by decide +kernel
theorem dX11_closeBox_4 : decode cX11_closeBox 4 = .ok (.iload_n 1, 1) := by decide +kernel
theorem dX11_closeBox_5 : decode cX11_closeBox 5 = .ok (.iload_n 2, 1) := by decide +kernel
theorem dX11_closeBox_6 : decode cX11_closeBox 6 = .ok (.if_icmp .ge 10, 3) := by decide +kernel
theorem dX11_closeBox_9 : decode cX11_closeBox 9 = .ok (.iload_n 2, 1) := by decide +kernel
theorem dX11_closeBox_10 : decode cX11_closeBox 10 = .ok (.sipush 240, 3) := by decide +kernel
theorem dX11_closeBox_13 : decode cX11_closeBox 13 = .ok (.if_icmp .le 5, 3) := by decide +kernel
theorem dX11_closeBox_16 : decode cX11_closeBox 16 = .ok (.iconst (-1), 1) := by decide +kernel
theorem dX11_closeBox_17 : decode cX11_closeBox 17 = .ok (.ireturn, 1) := by decide +kernel
theorem dX11_closeBox_18 : decode cX11_closeBox 18 = .ok (.aload_n 0, 1) := by decide +kernel
theorem dX11_closeBox_19 : decode cX11_closeBox 19 = .ok (.getfield 35, 3) := by decide +kernel
theorem dX11_closeBox_22 : decode cX11_closeBox 22 = .ok (.iconst 1, 1) := by decide +kernel
theorem dX11_closeBox_23 : decode cX11_closeBox 23 = .ok (.iload_n 1, 1) := by decide +kernel
theorem dX11_closeBox_24 : decode cX11_closeBox 24 = .ok (.iload_n 2, 1) := by decide +kernel
theorem dX11_closeBox_25 : decode cX11_closeBox 25 = .ok (.invokevirtual 149, 3) := by decide +kernel
theorem dX11_closeBox_28 : decode cX11_closeBox 28 = .ok (.ireturn, 1) := by decide +kernel
theorem dX11_isOrder_0 : decode cX11_isOrder 0 = .ok (.aload_n 0, 1) := by decide +kernel
theorem dX11_isOrder_1 : decode cX11_isOrder 1 = .ok (.getfield 28, 3) := by decide +kernel
theorem dX11_isOrder_4 : decode cX11_isOrder 4 = .ok (.iload_n 1, 1) := by decide +kernel
theorem dX11_isOrder_5 : decode cX11_isOrder 5 = .ok (.invokevirtual 113, 3) := by decide +kernel
theorem dX11_isOrder_8 : decode cX11_isOrder 8 = .ok (.ifnull 28, 3) := by decide +kernel
theorem dX11_isOrder_11 : decode cX11_isOrder 11 = .ok (.aload_n 0, 1) := by decide +kernel
theorem dX11_isOrder_12 : decode cX11_isOrder 12 = .ok (.iload_n 2, 1) := by decide +kernel
theorem dX11_isOrder_13 : decode cX11_isOrder 13 = .ok (.invokevirtual 226, 3) := by decide +kernel
theorem dX11_isOrder_16 : decode cX11_isOrder 16 = .ok (.ifCond .eq 20, 3) := by decide +kernel
theorem dX11_isOrder_19 : decode cX11_isOrder 19 = .ok (.aload_n 0, 1) := by decide +kernel
theorem dX11_isOrder_20 : decode cX11_isOrder 20 = .ok (.iload_n 3, 1) := by decide +kernel
theorem dX11_isOrder_21 : decode cX11_isOrder 21 = .ok (.invokevirtual 226, 3) := by decide +kernel
theorem dX11_isOrder_24 : decode cX11_isOrder 24 = .ok (.ifCond .eq 12, 3) := by decide +kernel
theorem dX11_isOrder_27 : decode cX11_isOrder 27 = .ok (.aload_n 0, 1) := by decide +kernel
theorem dX11_isOrder_28 : decode cX11_isOrder 28 = .ok (.iload 4, 2) := by decide +kernel
theorem dX11_isOrder_30 : decode cX11_isOrder 30 = .ok (.invokevirtual 226, 3) := by decide +kernel
theorem dX11_isOrder_33 : decode cX11_isOrder 33 = .ok (.ifCond .ne 5, 3) := by decide +kernel
theorem dX11_isOrder_36 : decode cX11_isOrder 36 = .ok (.iconst 0, 1) := by decide +kernel
theorem dX11_isOrder_37 : decode cX11_isOrder 37 = .ok (.ireturn, 1) := by decide +kernel
theorem dX11_isOrder_38 : decode cX11_isOrder 38 = .ok (.iload_n 2, 1) := by decide +kernel
theorem dX11_isOrder_39 : decode cX11_isOrder 39 = .ok (.iconst (-1), 1) := by decide +kernel
theorem dX11_isOrder_40 : decode cX11_isOrder 40 = .ok (.if_icmp .ne 8, 3) := by decide +kernel
theorem dX11_isOrder_43 : decode cX11_isOrder 43 = .ok (.iload_n 3, 1) := by decide +kernel
theorem dX11_isOrder_44 : decode cX11_isOrder 44 = .ok (.iconst (-1), 1) := by decide +kernel
theorem dX11_isOrder_45 : decode cX11_isOrder 45 = .ok (.if_icmp .ne 14, 3) := by decide +kernel
theorem dX11_isOrder_48 : decode cX11_isOrder 48 = .ok (.iload_n 3, 1) := by decide +kernel
theorem dX11_isOrder_49 : decode cX11_isOrder 49 = .ok (.iconst (-1), 1) := by decide +kernel
theorem dX11_isOrder_50 : decode cX11_isOrder 50 = .ok (.if_icmp .ne 11, 3) := by decide +kernel
theorem dX11_isOrder_53 : decode cX11_isOrder 53 = .ok (.iload 4, 2) := by decide +kernel
theorem dX11_isOrder_55 : decode cX11_isOrder 55 = .ok (.iconst (-1), 1) := by decide +kernel
theorem dX11_isOrder_56 : decode cX11_isOrder 56 = .ok (.if_icmp .eq 5, 3) := by decide +kernel
theorem dX11_isOrder_59 : decode cX11_isOrder 59 = .ok (.iconst 0, 1) := by decide +kernel
theorem dX11_isOrder_60 : decode cX11_isOrder 60 = .ok (.ireturn, 1) := by decide +kernel
theorem dX11_isOrder_61 : decode cX11_isOrder 61 = .ok (.iload_n 1, 1) := by decide +kernel
theorem dX11_isOrder_62 : decode cX11_isOrder 62 = .ok (.iload_n 2, 1) := by decide +kernel
theorem dX11_isOrder_63 : decode cX11_isOrder 63 = .ok (.if_icmp .eq 44, 3) := by decide +kernel
theorem dX11_isOrder_66 : decode cX11_isOrder 66 = .ok (.iload_n 1, 1) := by decide +kernel
theorem dX11_isOrder_67 : decode cX11_isOrder 67 = .ok (.iload_n 3, 1) := by decide +kernel
theorem dX11_isOrder_68 : decode cX11_isOrder 68 = .ok (.if_icmp .eq 39, 3) := by decide +kernel
theorem dX11_isOrder_71 : decode cX11_isOrder 71 = .ok (.iload_n 1, 1) := by decide +kernel
theorem dX11_isOrder_72 : decode cX11_isOrder 72 = .ok (.iload 4, 2) := by decide +kernel
theorem dX11_isOrder_74 : decode cX11_isOrder 74 = .ok (.if_icmp .eq 33, 3) := by decide +kernel
theorem dX11_isOrder_77 : decode cX11_isOrder 77 = .ok (.iload_n 2, 1) := by decide +kernel
theorem dX11_isOrder_78 : decode cX11_isOrder 78 = .ok (.iload_n 3, 1) := by decide +kernel
theorem dX11_isOrder_79 : decode cX11_isOrder 79 = .ok (.invokestatic 229, 3) := by decide +kernel
theorem dX11_isOrder_82 : decode cX11_isOrder 82 = .ok (.ifCond .ne 25, 3) := by decide +kernel
theorem dX11_isOrder_85 : decode cX11_isOrder 85 = .ok (.iload_n 2, 1) := by decide +kernel
theorem dX11_isOrder_86 : decode cX11_isOrder 86 = .ok (.iload 4, 2) := by decide +kernel
theorem dX11_isOrder_88 : decode cX11_isOrder 88 = .ok (.invokestatic 229, 3) := by decide +kernel
theorem dX11_isOrder_91 : decode cX11_isOrder 91 = .ok (.ifCond .ne 16, 3) := by decide +kernel
theorem dX11_isOrder_94 : decode cX11_isOrder 94 = .ok (.iload_n 3, 1) := by decide +kernel
theorem dX11_isOrder_95 : decode cX11_isOrder 95 = .ok (.iload 4, 2) := by decide +kernel
theorem dX11_isOrder_97 : decode cX11_isOrder 97 = .ok (.invokestatic 229, 3) := by decide +kernel
theorem dX11_isOrder_100 : decode cX11_isOrder 100 = .ok (.ifCond .ne 7, 3) := by decide +kernel
theorem dX11_isOrder_103 : decode cX11_isOrder 103 = .ok (.iconst 1, 1) := by decide +kernel
theorem dX11_isOrder_104 : decode cX11_isOrder 104 = .ok (.goto 4, 3) := by decide +kernel
theorem dX11_isOrder_107 : decode cX11_isOrder 107 = .ok (.iconst 0, 1) := by decide +kernel
theorem dX11_isOrder_108 : decode cX11_isOrder 108 = .ok (.ireturn, 1) := by decide +kernel
theorem dX11_isActOrNone_0 : decode cX11_isActOrNone 0 = .ok (.iload_n 1, 1) := by decide +kernel
theorem dX11_isActOrNone_1 : decode cX11_isActOrNone 1 = .ok (.iconst (-1), 1) := by decide +kernel
theorem dX11_isActOrNone_2 : decode cX11_isActOrNone 2 = .ok (.if_icmp .eq 14, 3) := by decide +kernel
theorem dX11_isActOrNone_5 : decode cX11_isActOrNone 5 = .ok (.aload_n 0, 1) := by decide +kernel
theorem dX11_isActOrNone_6 : decode cX11_isActOrNone 6 = .ok (.getfield 28, 3) := by decide +kernel
theorem dX11_isActOrNone_9 : decode cX11_isActOrNone 9 = .ok (.iload_n 1, 1) := by decide +kernel
theorem dX11_isActOrNone_10 : decode cX11_isActOrNone 10 = .ok (.invokevirtual 113, 3) := by decide +kernel
theorem dX11_isActOrNone_13 : decode cX11_isActOrNone 13 = .ok (.ifnull 7, 3) := by decide +kernel
theorem dX11_isActOrNone_16 : decode cX11_isActOrNone 16 = .ok (.iconst 1, 1) := by decide +kernel
theorem dX11_isActOrNone_17 : decode cX11_isActOrNone 17 = .ok (.goto 4, 3) := by decide +kernel
theorem dX11_isActOrNone_20 : decode cX11_isActOrNone 20 = .ok (.iconst 0, 1) := by decide +kernel
theorem dX11_isActOrNone_21 : decode cX11_isActOrNone 21 = .ok (.ireturn, 1) := by decide +kernel
theorem dX11_isTwice_0 : decode cX11_isTwice 0 = .ok (.iload_n 0, 1) := by decide +kernel
theorem dX11_isTwice_1 : decode cX11_isTwice 1 = .ok (.iload_n 1, 1) := by decide +kernel
theorem dX11_isTwice_2 : decode cX11_isTwice 2 = .ok (.if_icmp .ne 12, 3) := by decide +kernel
theorem dX11_isTwice_5 : decode cX11_isTwice 5 = .ok (.iload_n 0, 1) := by decide +kernel
theorem dX11_isTwice_6 : decode cX11_isTwice 6 = .ok (.iconst (-1), 1) := by decide +kernel
theorem dX11_isTwice_7 : decode cX11_isTwice 7 = .ok (.if_icmp .eq 7, 3) := by decide +kernel
theorem dX11_isTwice_10 : decode cX11_isTwice 10 = .ok (.iconst 1, 1) := by decide +kernel
theorem dX11_isTwice_11 : decode cX11_isTwice 11 = .ok (.goto 4, 3) := by decide +kernel
theorem dX11_isTwice_14 : decode cX11_isTwice 14 = .ok (.iconst 0, 1) := by decide +kernel
theorem dX11_isTwice_15 : decode cX11_isTwice 15 = .ok (.ireturn, 1) := by decide +kernel
theorem dX11_prepare_0 : decode cX11_prepare 0 = .ok (.aload_n 0, 1) := by decide +kernel
theorem dX11_prepare_1 : decode cX11_prepare 1 = .ok (.getfield 42, 3) := by decide +kernel
theorem dX11_prepare_4 : decode cX11_prepare 4 = .ok (.aload_n 0, 1) := by decide +kernel
theorem dX11_prepare_5 : decode cX11_prepare 5 = .ok (.getfield 35, 3) := by decide +kernel
theorem dX11_prepare_8 : decode cX11_prepare 8 = .ok (.iload_n 1, 1) := by decide +kernel
theorem dX11_prepare_9 : decode cX11_prepare 9 = .ok (.invokevirtual 171, 3) := by decide +kernel
theorem dX11_prepare_12 : decode cX11_prepare 12 = .ok (.aload_n 0, 1) := by decide +kernel
theorem dX11_prepare_13 : decode cX11_prepare 13 = .ok (.getfield 61, 3) := by decide +kernel
theorem dX11_prepare_16 : decode cX11_prepare 16 = .ok (.aload_n 0, 1) := by decide +kernel
theorem dX11_prepare_17 : decode cX11_prepare 17 = .ok (.getfield 49, 3) := by decide +kernel
theorem dX11_prepare_20 : decode cX11_prepare 20 = .ok (.invokevirtual 233, 3) := by decide +kernel
theorem dX11_prepare_23 : decode cX11_prepare 23 = .ok (.return_, 1) := by decide +kernel
theorem dX12_init_0 : decode cX12_init 0 = .ok (.aload_n 0, 1) := by decide +kernel
theorem dX12_init_1 : decode cX12_init 1 = .ok (.invokespecial 7, 3) := by decide +kernel
theorem dX12_init_4 : decode cX12_init 4 = .ok (.aload_n 0, 1) := by decide +kernel
theorem dX12_init_5 : decode cX12_init 5 = .ok (.sipush 2000, 3) := by decide +kernel
theorem dX12_init_8 : decode cX12_init 8 = .ok (.newarray .byte, 2) := by decide +kernel
theorem dX12_init_10 : decode cX12_init 10 = .ok (.putfield 13, 3) := by decide +kernel
theorem dX12_init_13 : decode cX12_init 13 = .ok (.aload_n 0, 1) := by decide +kernel
theorem dX12_init_14 : decode cX12_init 14 = .ok (.sipush 2000, 3) := by decide +kernel
theorem dX12_init_17 : decode cX12_init 17 = .ok (.newarray .byte, 2) := by decide +kernel
theorem dX12_init_19 : decode cX12_init 19 = .ok (.putfield 17, 3) := by decide +kernel
theorem dX12_init_22 : decode cX12_init 22 = .ok (.aload_n 0, 1) := by decide +kernel
theorem dX12_init_23 : decode cX12_init 23 = .ok (.sipush 403, 3) := by decide +kernel
theorem dX12_init_26 : decode cX12_init 26 = .ok (.newarray .int, 2) := by decide +kernel
theorem dX12_init_28 : decode cX12_init 28 = .ok (.putfield 20, 3) := by decide +kernel
theorem dX12_init_31 : decode cX12_init 31 = .ok (.aload_n 0, 1) := by decide +kernel
theorem dX12_init_32 : decode cX12_init 32 = .ok (.sipush 403, 3) := by decide +kernel
theorem dX12_init_35 : decode cX12_init 35 = .ok (.newarray .int, 2) := by decide +kernel
theorem dX12_init_37 : decode cX12_init 37 = .ok (.putfield 24, 3) := by decide +kernel
theorem dX12_init_40 : decode cX12_init 40 = .ok (.aload_n 0, 1) := by decide +kernel
theorem dX12_init_41 : decode cX12_init 41 = .ok (.sipush 403, 3) := by decide +kernel
theorem dX12_init_44 : decode cX12_init 44 = .ok (.newarray .int, 2) := by decide +kernel
theorem dX12_init_46 : decode cX12_init 46 = .ok (.putfield 27, 3) := by decide +kernel
theorem dX12_init_49 : decode cX12_init 49 = .ok (.aload_n 0, 1) := by decide +kernel
theorem dX12_init_50 : decode cX12_init 50 = .ok (.sipush 403, 3) := by decide +kernel
theorem dX12_init_53 : decode cX12_init 53 = .ok (.newarray .long, 2) := by decide +kernel
theorem dX12_init_55 : decode cX12_init 55 = .ok (.putfield 30, 3) := by decide +kernel
theorem dX12_init_58 : decode cX12_init 58 = .ok (.aload_n 0, 1) := by decide +kernel
theorem dX12_init_59 : decode cX12_init 59 = .ok (.bipush 15, 2) := by decide +kernel
theorem dX12_init_61 : decode cX12_init 61 = .ok (.newarray .long, 2) := by decide +kernel
theorem dX12_init_63 : decode cX12_init 63 = .ok (.putfield 34, 3) := by decide +kernel
theorem dX12_init_66 : decode cX12_init 66 = .ok (.aload_n 0, 1) := by decide +kernel
theorem dX12_init_67 : decode cX12_init 67 = .ok (.iconst (-1), 1) := by decide +kernel
theorem dX12_init_68 : decode cX12_init 68 = .ok (.putfield 37, 3) := by decide +kernel
theorem dX12_init_71 : decode cX12_init 71 = .ok (.aload_n 0, 1) := by decide +kernel
theorem dX12_init_72 : decode cX12_init 72 = .ok (.iconst 2, 1) := by decide +kernel
theorem dX12_init_73 : decode cX12_init 73 = .ok (.newarray .int, 2) := by decide +kernel
theorem dX12_init_75 : decode cX12_init 75 = .ok (.putfield 40, 3) := by decide +kernel
theorem dX12_init_78 : decode cX12_init 78 = .ok (.aload_n 0, 1) := by decide +kernel
theorem dX12_init_79 : decode cX12_init 79 = .ok (.bipush 32, 2) := by decide +kernel
theorem dX12_init_81 : decode cX12_init 81 = .ok (.newarray .int, 2) := by decide +kernel
theorem dX12_init_83 : decode cX12_init 83 = .ok (.putfield 43, 3) := by decide +kernel
theorem dX12_init_86 : decode cX12_init 86 = .ok (.aload_n 0, 1) := by decide +kernel
theorem dX12_init_87 : decode cX12_init 87 = .ok (.bipush 32, 2) := by decide +kernel
theorem dX12_init_89 : decode cX12_init 89 = .ok (.newarray .int, 2) := by decide +kernel
theorem dX12_init_91 : decode cX12_init 91 = .ok (.putfield 46, 3) := by decide +kernel
theorem dX12_init_94 : decode cX12_init 94 = .ok (.aload_n 0, 1) := by decide +kernel
theorem dX12_init_95 : decode cX12_init 95 = .ok (.bipush 32, 2) := by decide +kernel
theorem dX12_init_97 : decode cX12_init 97 = .ok (.newarray .int, 2) := by decide +kernel
theorem dX12_init_99 : decode cX12_init 99 = .ok (.putfield 49, 3) := by decide +kernel
theorem dX12_init_102 : decode cX12_init 102 = .ok (.aload_n 0, 1) := by decide +kernel
theorem dX12_init_103 : decode cX12_init 103 = .ok (.bipush 32, 2) := by decide +kernel
theorem dX12_init_105 : decode cX12_init 105 = .ok (.newarray .int, 2) := by decide +kernel
theorem dX12_init_107 : decode cX12_init 107 = .ok (.putfield 52, 3) := by decide +kernel
theorem dX12_init_110 : decode cX12_init 110 = .ok (.aload_n 0, 1) := by decide +kernel
theorem dX12_init_111 : decode cX12_init 111 = .ok (.bipush 32, 2) := by decide +kernel
theorem dX12_init_113 : decode cX12_init 113 = .ok (.newarray .int, 2) := by decide +kernel
theorem dX12_init_115 : decode cX12_init 115 = .ok (.putfield 55, 3) := by decide +kernel
theorem dX12_init_118 : decode cX12_init 118 = .ok (.aload_n 0, 1) := by decide +kernel
theorem dX12_init_119 : decode cX12_init 119 = .ok (.iconst 2, 1) := by decide +kernel
theorem dX12_init_120 : decode cX12_init 120 = .ok (.newarray .int, 2) := by decide +kernel
theorem dX12_init_122 : decode cX12_init 122 = .ok (.putfield 58, 3) := by decide +kernel
theorem dX12_init_125 : decode cX12_init 125 = .ok (.aload_n 0, 1) := by decide +kernel
theorem dX12_init_126 : decode cX12_init 126 = .ok (.sipush 400, 3) := by decide +kernel
theorem dX12_init_129 : decode cX12_init 129 = .ok (.newarray .int, 2) := by decide +kernel
theorem dX12_init_131 : decode cX12_init 131 = .ok (.putfield 61, 3) := by decide +kernel
theorem dX12_init_134 : decode cX12_init 134 = .ok (.aload_n 0, 1) := by decide +kernel
theorem dX12_init_135 : decode cX12_init 135 = .ok (.sipush 400, 3) := by decide +kernel
theorem dX12_init_138 : decode cX12_init 138 = .ok (.newarray .int, 2) := by decide +kernel
theorem dX12_init_140 : decode cX12_init 140 = .ok (.putfield 64, 3) := by decide +kernel
theorem dX12_init_143 : decode cX12_init 143 = .ok (.aload_n 0, 1) := by decide +kernel
theorem dX12_init_144 : decode cX12_init 144 = .ok (.sipush 400, 3) := by decide +kernel
theorem dX12_init_147 : decode cX12_init 147 = .ok (.newarray .int, 2) := by decide +kernel
theorem dX12_init_149 : decode cX12_init 149 = .ok (.putfield 67, 3) := by decide +kernel
theorem dX12_init_152 : decode cX12_init 152 = .ok (.aload_n 0, 1) := by decide +kernel
theorem dX12_init_153 : decode cX12_init 153 = .ok (.sipush 400, 3) := by decide +kernel
theorem dX12_init_156 : decode cX12_init 156 = .ok (.newarray .int, 2) := by decide +kernel
theorem dX12_init_158 : decode cX12_init 158 = .ok (.putfield 70, 3) := by decide +kernel
theorem dX12_init_161 : decode cX12_init 161 = .ok (.aload_n 0, 1) := by decide +kernel
theorem dX12_init_162 : decode cX12_init 162 = .ok (.sipush 400, 3) := by decide +kernel
theorem dX12_init_165 : decode cX12_init 165 = .ok (.newarray .boolean, 2) := by decide +kernel
theorem dX12_init_167 : decode cX12_init 167 = .ok (.putfield 73, 3) := by decide +kernel
theorem dX12_init_170 : decode cX12_init 170 = .ok (.aload_n 0, 1) := by decide +kernel
theorem dX12_init_171 : decode cX12_init 171 = .ok (.sipush 1000, 3) := by decide +kernel
theorem dX12_init_174 : decode cX12_init 174 = .ok (.newarray .int, 2) := by decide +kernel
theorem dX12_init_176 : decode cX12_init 176 = .ok (.putfield 77, 3) := by decide +kernel
theorem dX12_init_179 : decode cX12_init 179 = .ok (.aload_n 0, 1) := by decide +kernel
theorem dX12_init_180 : decode cX12_init 180 = .ok (.sipush 1000, 3) := by decide +kernel
theorem dX12_init_183 : decode cX12_init 183 = .ok (.newarray .int, 2) := by decide +kernel
theorem dX12_init_185 : decode cX12_init 185 = .ok (.putfield 80, 3) := by decide +kernel
theorem dX12_init_188 : decode cX12_init 188 = .ok (.aload_n 0, 1) := by decide +kernel
theorem dX12_init_189 : decode cX12_init 189 = .ok (.bipush 48, 2) := by decide +kernel
theorem dX12_init_191 : decode cX12_init 191 = .ok (.newarray .int, 2) := by decide +kernel
theorem dX12_init_193 : decode cX12_init 193 = .ok (.putfield 83, 3) := by decide +kernel
theorem dX12_init_196 : decode cX12_init 196 = .ok (.aload_n 0, 1) := by decide +kernel
theorem dX12_init_197 : decode cX12_init 197 = .ok (.bipush 6, 2) := by decide +kernel
theorem dX12_init_199 : decode cX12_init 199 = .ok (.newarray .int, 2) := by decide +kernel
theorem dX12_init_201 : decode cX12_init 201 = .ok (.putfield 86, 3) := by decide +kernel
theorem dX12_init_204 : decode cX12_init 204 = .ok (.aload_n 0, 1) := by decide +kernel
theorem dX12_init_205 : decode cX12_init 205 = .ok (.bipush 6, 2) := by decide +kernel
theorem dX12_init_207 : decode cX12_init 207 = .ok (.newarray .int, 2) := by decide +kernel
theorem dX12_init_209 : decode cX12_init 209 = .ok (.putfield 89, 3) := by decide +kernel
theorem dX12_init_212 : decode cX12_init 212 = .ok (.aload_n 0, 1) := by decide +kernel
theorem dX12_init_213 : decode cX12_init 213 = .ok (.bipush 6, 2) := by decide +kernel
theorem dX12_init_215 : decode cX12_init 215 = .ok (.newarray .int, 2) := by decide +kernel
theorem dX12_init_217 : decode cX12_init 217 = .ok (.putfield 92, 3) := by decide +kernel
theorem dX12_init_220 : decode cX12_init 220 = .ok (.aload_n 0, 1) := by decide +kernel
theorem dX12_init_221 : decode cX12_init 221 = .ok (.bipush 6, 2) := by decide +kernel
theorem dX12_init_223 : decode cX12_init 223 = .ok (.newarray .int, 2) := by decide +kernel
theorem dX12_init_225 : decode cX12_init 225 = .ok (.putfield 95, 3) := by decide +kernel
theorem dX12_init_228 : decode cX12_init 228 = .ok (.aload_n 0, 1) := by decide +kernel
theorem dX12_init_229 : decode cX12_init 229 = .ok (.bipush 6, 2) := by decide +kernel
theorem dX12_init_231 : decode cX12_init 231 = .ok (.newarray .int, 2) := by decide +kernel
theorem dX12_init_233 : decode cX12_init 233 = .ok (.putfield 98, 3) := by decide +kernel
theorem dX12_init_236 : decode cX12_init 236 = .ok (.aload_n 0, 1) := by decide +kernel
theorem dX12_init_237 : decode cX12_init 237 = .ok (.bipush 6, 2) := by decide +kernel
theorem dX12_init_239 : decode cX12_init 239 = .ok (.newarray .int, 2) := by decide +kernel
theorem dX12_init_241 : decode cX12_init 241 = .ok (.putfield 101, 3) := by decide +kernel
theorem dX12_init_244 : decode cX12_init 244 = .ok (.aload_n 0, 1) := by decide +kernel
theorem dX12_init_245 : decode cX12_init 245 = .ok (.bipush 6, 2) := by decide +kernel
theorem dX12_init_247 : decode cX12_init 247 = .ok (.newarray .int, 2) := by decide +kernel
theorem dX12_init_249 : decode cX12_init 249 = .ok (.putfield 104, 3) := by decide +kernel
theorem dX12_init_252 : decode cX12_init 252 = .ok (.aload_n 0, 1) := by decide +kernel
theorem dX12_init_253 : decode cX12_init 253 = .ok (.bipush 36, 2) := by decide +kernel
theorem dX12_init_255 : decode cX12_init 255 = .ok (.newarray .int, 2) := by decide +kernel
theorem dX12_init_257 : decode cX12_init 257 = .ok (.putfield 107, 3) := by decide +kernel
theorem dX12_init_260 : decode cX12_init 260 = .ok (.aload_n 0, 1) := by decide +kernel
theorem dX12_init_261 : decode cX12_init 261 = .ok (.bipush 36, 2) := by decide +kernel
theorem dX12_init_263 : decode cX12_init 263 = .ok (.newarray .int, 2) := by decide +kernel
theorem dX12_init_265 : decode cX12_init 265 = .ok (.putfield 110, 3) := by decide +kernel
theorem dX12_init_268 : decode cX12_init 268 = .ok (.aload_n 0, 1) := by decide +kernel
theorem dX12_init_269 : decode cX12_init 269 = .ok (.bipush 36, 2) := by decide +kernel
theorem dX12_init_271 : decode cX12_init 271 = .ok (.newarray .int, 2) := by decide +kernel
theorem dX12_init_273 : decode cX12_init 273 = .ok (.putfield 113, 3) := by decide +kernel
theorem dX12_init_276 : decode cX12_init 276 = .ok (.aload_n 0, 1) := by decide +kernel
theorem dX12_init_277 : decode cX12_init 277 = .ok (.bipush 36, 2) := by decide +kernel
theorem dX12_init_279 : decode cX12_init 279 = .ok (.newarray .boolean, 2) := by decide +kernel
theorem dX12_init_281 : decode cX12_init 281 = .ok (.putfield 116, 3) := by decide +kernel
theorem dX12_init_284 : decode cX12_init 284 = .ok (.aload_n 0, 1) := by decide +kernel
theorem dX12_init_285 : decode cX12_init 285 = .ok (.bipush 10, 2) := by decide +kernel
theorem dX12_init_287 : decode cX12_init 287 = .ok (.newarray .int, 2) := by decide +kernel
theorem dX12_init_289 : decode cX12_init 289 = .ok (.putfield 119, 3) := by decide +kernel
theorem dX12_init_292 : decode cX12_init 292 = .ok (.aload_n 0, 1) := by decide +kernel
theorem dX12_init_293 : decode cX12_init 293 = .ok (.bipush 100, 2) := by decide +kernel
theorem dX12_init_295 : decode cX12_init 295 = .ok (.newarray .int, 2) := by decide +kernel
theorem dX12_init_297 : decode cX12_init 297 = .ok (.putfield 122, 3) := by decide +kernel
theorem dX12_init_300 : decode cX12_init 300 = .ok (.aload_n 0, 1) := by decide +kernel
theorem dX12_init_301 : decode cX12_init 301 = .ok (.bipush 100, 2) := by decide +kernel
theorem dX12_init_303 : decode cX12_init 303 = .ok (.newarray .int, 2) := by decide +kernel
theorem dX12_init_305 : decode cX12_init 305 = .ok (.putfield 125, 3) := by decide +kernel
theorem dX12_init_308 : decode cX12_init 308 = .ok (.aload_n 0, 1) := by decide +kernel
theorem dX12_init_309 : decode cX12_init 309 = .ok (.bipush 100, 2) := by decide +kernel
theorem dX12_init_311 : decode cX12_init 311 = .ok (.newarray .int, 2) := by decide +kernel
theorem dX12_init_313 : decode cX12_init 313 = .ok (.putfield 128, 3) := by decide +kernel
theorem dX12_init_316 : decode cX12_init 316 = .ok (.aload_n 0, 1) := by decide +kernel
theorem dX12_init_317 : decode cX12_init 317 = .ok (.sipush 240, 3) := by decide +kernel
theorem dX12_init_320 : decode cX12_init 320 = .ok (.newarray .int, 2) := by decide +kernel
theorem dX12_init_322 : decode cX12_init 322 = .ok (.putfield 131, 3) := by decide +kernel
theorem dX12_init_325 : decode cX12_init 325 = .ok (.aload_n 0, 1) := by decide +kernel
theorem dX12_init_326 : decode cX12_init 326 = .ok (.sipush 240, 3) := by decide +kernel
theorem dX12_init_329 : decode cX12_init 329 = .ok (.newarray .boolean, 2) := by decide +kernel
theorem dX12_init_331 : decode cX12_init 331 = .ok (.putfield 134, 3) := by decide +kernel
theorem dX12_init_334 : decode cX12_init 334 = .ok (.aload_n 0, 1) := by decide +kernel
theorem dX12_init_335 : decode cX12_init 335 = .ok (.bipush 6, 2) := by decide +kernel
theorem dX12_init_337 : decode cX12_init 337 = .ok (.newarray .int, 2) := by decide +kernel
theorem dX12_init_339 : decode cX12_init 339 = .ok (.putfield 137, 3) := by decide +kernel
theorem dX12_init_342 : decode cX12_init 342 = .ok (.aload_n 0, 1) := by decide +kernel
theorem dX12_init_343 : decode cX12_init 343 = .ok (.bipush 9, 2) := by decide +kernel
theorem dX12_init_345 : decode cX12_init 345 = .ok (.newarray .int, 2) := by decide +kernel
theorem dX12_init_347 : decode cX12_init 347 = .ok (.putfield 140, 3) := by decide +kernel
theorem dX12_init_350 : decode cX12_init 350 = .ok (.aload_n 0, 1) := by decide +kernel
theorem dX12_init_351 : decode cX12_init 351 = .ok (.sipush 500, 3) := by decide +kernel
theorem dX12_init_354 : decode cX12_init 354 = .ok (.newarray .int, 2) := by decide +kernel
theorem dX12_init_356 : decode cX12_init 356 = .ok (.putfield 143, 3) := by decide +kernel
theorem dX12_init_359 : decode cX12_init 359 = .ok (.aload_n 0, 1) := by decide +kernel
theorem dX12_init_360 : decode cX12_init 360 = .ok (.bipush 6, 2) := by decide +kernel
theorem dX12_init_362 : decode cX12_init 362 = .ok (.newarray .int, 2) := by decide +kernel
theorem dX12_init_364 : decode cX12_init 364 = .ok (.putfield 146, 3) := by decide +kernel
theorem dX12_init_367 : decode cX12_init 367 = .ok (.aload_n 0, 1) := by decide +kernel
theorem dX12_init_368 : decode cX12_init 368 = .ok (.bipush 6, 2) := by decide +kernel
theorem dX12_init_370 : decode cX12_init 370 = .ok (.newarray .int, 2) := by decide +kernel
theorem dX12_init_372 : decode cX12_init 372 = .ok (.putfield 149, 3) := by decide +kernel
theorem dX12_init_375 : decode cX12_init 375 = .ok (.aload_n 0, 1) := by decide +kernel
theorem dX12_init_376 : decode cX12_init 376 = .ok (.bipush 6, 2) := by decide +kernel
theorem dX12_init_378 : decode cX12_init 378 = .ok (.newarray .int, 2) := by decide +kernel
theorem dX12_init_380 : decode cX12_init 380 = .ok (.putfield 152, 3) := by decide +kernel
theorem dX12_init_383 : decode cX12_init 383 = .ok (.aload_n 0, 1) := by decide +kernel
theorem dX12_init_384 : decode cX12_init 384 = .ok (.bipush 6, 2) := by decide +kernel
theorem dX12_init_386 : decode cX12_init 386 = .ok (.newarray .int, 2) := by decide +kernel
theorem dX12_init_388 : decode cX12_init 388 = .ok (.putfield 155, 3) := by decide +kernel
theorem dX12_init_391 : decode cX12_init 391 = .ok (.aload_n 0, 1) := by decide +kernel
theorem dX12_init_392 : decode cX12_init 392 = .ok (.bipush 6, 2) := by decide +kernel
theorem dX12_init_394 : decode cX12_init 394 = .ok (.newarray .int, 2) := by decide +kernel
theorem dX12_init_396 : decode cX12_init 396 = .ok (.putfield 158, 3) := by decide +kernel
theorem dX12_init_399 : decode cX12_init 399 = .ok (.aload_n 0, 1) := by decide +kernel
theorem dX12_init_400 : decode cX12_init 400 = .ok (.bipush 6, 2) := by decide +kernel
theorem dX12_init_402 : decode cX12_init 402 = .ok (.newarray .int, 2) := by decide +kernel
theorem dX12_init_404 : decode cX12_init 404 = .ok (.putfield 161, 3) := by decide +kernel
theorem dX12_init_407 : decode cX12_init 407 = .ok (.aload_n 0, 1) := by decide +kernel
theorem dX12_init_408 : decode cX12_init 408 = .ok (.bipush 6, 2) := by decide +kernel
theorem dX12_init_410 : decode cX12_init 410 = .ok (.newarray .int, 2) := by decide +kernel
theorem dX12_init_412 : decode cX12_init 412 = .ok (.putfield 164, 3) := by decide +kernel
theorem dX12_init_415 : decode cX12_init 415 = .ok (.aload_n 0, 1) := by decide +kernel
theorem dX12_init_416 : decode cX12_init 416 = .ok (.bipush 6, 2) := by decide +kernel
theorem dX12_init_418 : decode cX12_init 418 = .ok (.newarray .int, 2) := by decide +kernel
theorem dX12_init_420 : decode cX12_init 420 = .ok (.putfield 167, 3) := by decide +kernel
theorem dX12_init_423 : decode cX12_init 423 = .ok (.aload_n 0, 1) := by decide +kernel
theorem dX12_init_424 : decode cX12_init 424 = .ok (.bipush 6, 2) := by decide +kernel
theorem dX12_init_426 : decode cX12_init 426 = .ok (.newarray .int, 2) := by decide +kernel
theorem dX12_init_428 : decode cX12_init 428 = .ok (.putfield 170, 3) := by decide +kernel
theorem dX12_init_431 : decode cX12_init 431 = .ok (.aload_n 0, 1) := by decide +kernel
theorem dX12_init_432 : decode cX12_init 432 = .ok (.bipush 6, 2) := by decide +kernel
theorem dX12_init_434 : decode cX12_init 434 = .ok (.newarray .int, 2) := by decide +kernel
theorem dX12_init_436 : decode cX12_init 436 = .ok (.putfield 173, 3) := by decide +kernel
theorem dX12_init_439 : decode cX12_init 439 = .ok (.aload_n 0, 1) := by decide +kernel
theorem dX12_init_440 : decode cX12_init 440 = .ok (.bipush 6, 2) := by decide +kernel
theorem dX12_init_442 : decode cX12_init 442 = .ok (.newarray .int, 2) := by decide +kernel
theorem dX12_init_444 : decode cX12_init 444 = .ok (.putfield 176, 3) := by decide +kernel
theorem dX12_init_447 : decode cX12_init 447 = .ok (.aload_n 0, 1) := by decide +kernel
theorem dX12_init_448 : decode cX12_init 448 = .ok (.bipush 6, 2) := by decide +kernel
theorem dX12_init_450 : decode cX12_init 450 = .ok (.newarray .int, 2) := by decide +kernel
theorem dX12_init_452 : decode cX12_init 452 = .ok (.putfield 179, 3) := by decide +kernel
theorem dX12_init_455 : decode cX12_init 455 = .ok (.aload_n 0, 1) := by decide +kernel
theorem dX12_init_456 : decode cX12_init 456 = .ok (.bipush 6, 2) := by decide +kernel
theorem dX12_init_458 : decode cX12_init 458 = .ok (.newarray .int, 2) := by decide +kernel
theorem dX12_init_460 : decode cX12_init 460 = .ok (.putfield 182, 3) := by decide +kernel
theorem dX12_init_463 : decode cX12_init 463 = .ok (.aload_n 0, 1) := by decide +kernel
theorem dX12_init_464 : decode cX12_init 464 = .ok (.bipush 6, 2) := by decide +kernel
theorem dX12_init_466 : decode cX12_init 466 = .ok (.newarray .int, 2) := by decide +kernel
theorem dX12_init_468 : decode cX12_init 468 = .ok (.putfield 185, 3) := by decide +kernel
theorem dX12_init_471 : decode cX12_init 471 = .ok (.aload_n 0, 1) := by decide +kernel
theorem dX12_init_472 : decode cX12_init 472 = .ok (.bipush 6, 2) := by decide +kernel
theorem dX12_init_474 : decode cX12_init 474 = .ok (.newarray .int, 2) := by decide +kernel
theorem dX12_init_476 : decode cX12_init 476 = .ok (.putfield 188, 3) := by decide +kernel
theorem dX12_init_479 : decode cX12_init 479 = .ok (.aload_n 0, 1) := by decide +kernel
theorem dX12_init_480 : decode cX12_init 480 = .ok (.bipush 7, 2) := by decide +kernel
theorem dX12_init_482 : decode cX12_init 482 = .ok (.newarray .int, 2) := by decide +kernel
theorem dX12_init_484 : decode cX12_init 484 = .ok (.putfield 191, 3) := by decide +kernel
theorem dX12_init_487 : decode cX12_init 487 = .ok (.aload_n 0, 1) := by decide +kernel
theorem dX12_init_488 : decode cX12_init 488 = .ok (.getfield 34, 3) := by decide +kernel
theorem dX12_init_491 : decode cX12_init 491 = .ok (.iconst 0, 1) := by decide +kernel
theorem dX12_init_492 : decode cX12_init 492 = .ok (.bipush 111, 2) := by decide +kernel
theorem dX12_init_494 : decode cX12_init 494 = .ok (.bipush 117, 2) := by decide +kernel
theorem dX12_init_496 : decode cX12_init 496 = .ok (.bipush 116, 2) := by decide +kernel
theorem dX12_init_498 : decode cX12_init 498 = .ok (.iconst 0, 1) := by decide +kernel
theorem dX12_init_499 : decode cX12_init 499 = .ok (.iconst 0, 1) := by decide +kernel
theorem dX12_init_500 : decode cX12_init 500 = .ok (.iconst 0, 1) := by decide +kernel
theorem dX12_init_501 : decode cX12_init 501 = .ok (.iconst 0, 1) := by decide +kernel
theorem dX12_init_502 : decode cX12_init 502 = .ok (.invokestatic 194, 3) := by decide +kernel
theorem dX12_init_505 : decode cX12_init 505 = .ok (.lastore, 1) := by decide +kernel
theorem dX12_init_506 : decode cX12_init 506 = .ok (.aload_n 0, 1) := by decide +kernel
theorem dX12_init_507 : decode cX12_init 507 = .ok (.getfield 34, 3) := by decide +kernel
theorem dX12_init_510 : decode cX12_init 510 = .ok (.iconst 1, 1) := by decide +kernel
theorem dX12_init_511 : decode cX12_init 511 = .ok (.bipush 105, 2) := by decide +kernel
theorem dX12_init_513 : decode cX12_init 513 = .ok (.bipush 102, 2) := by decide +kernel
theorem dX12_init_515 : decode cX12_init 515 = .ok (.iconst 0, 1) := by decide +kernel
theorem dX12_init_516 : decode cX12_init 516 = .ok (.iconst 0, 1) := by decide +kernel
theorem dX12_init_517 : decode cX12_init 517 = .ok (.iconst 0, 1) := by decide +kernel
theorem dX12_init_518 : decode cX12_init 518 = .ok (.iconst 0, 1) := by decide +kernel
theorem dX12_init_519 : decode cX12_init 519 = .ok (.iconst 0, 1) := by decide +kernel
theorem dX12_init_520 : decode cX12_init 520 = .ok (.invokestatic 194, 3) := by decide +kernel
theorem dX12_init_523 : decode cX12_init 523 = .ok (.lastore, 1) := by decide +kernel
theorem dX12_init_524 : decode cX12_init 524 = .ok (.aload_n 0, 1) := by decide +kernel
theorem dX12_init_525 : decode cX12_init 525 = .ok (.getfield 34, 3) := by decide +kernel
theorem dX12_init_528 : decode cX12_init 528 = .ok (.iconst 2, 1) := by decide +kernel
theorem dX12_init_529 : decode cX12_init 529 = .ok (.bipush 103, 2) := by decide +kernel
theorem dX12_init_531 : decode cX12_init 531 = .ok (.bipush 97, 2) := by decide +kernel
theorem dX12_init_533 : decode cX12_init 533 = .ok (.bipush 112, 2) := by decide +kernel
theorem dX12_init_535 : decode cX12_init 535 = .ok (.iconst 0, 1) := by decide +kernel
theorem dX12_init_536 : decode cX12_init 536 = .ok (.iconst 0, 1) := by decide +kernel
theorem dX12_init_537 : decode cX12_init 537 = .ok (.iconst 0, 1) := by decide +kernel
theorem dX12_init_538 : decode cX12_init 538 = .ok (.iconst 0, 1) := by decide +kernel
theorem dX12_init_539 : decode cX12_init 539 = .ok (.invokestatic 194, 3) := by decide +kernel
theorem dX12_init_542 : decode cX12_init 542 = .ok (.lastore, 1) := by decide +kernel
theorem dX12_init_543 : decode cX12_init 543 = .ok (.aload_n 0, 1) := by decide +kernel
theorem dX12_init_544 : decode cX12_init 544 = .ok (.getfield 34, 3) := by decide +kernel
theorem dX12_init_547 : decode cX12_init 547 = .ok (.iconst 3, 1) := by decide +kernel
theorem dX12_init_548 : decode cX12_init 548 = .ok (.bipush 115, 2) := by decide +kernel
theorem dX12_init_550 : decode cX12_init 550 = .ok (.bipush 112, 2) := by decide +kernel
theorem dX12_init_552 : decode cX12_init 552 = .ok (.bipush 97, 2) := by decide +kernel
theorem dX12_init_554 : decode cX12_init 554 = .ok (.bipush 114, 2) := by decide +kernel
theorem dX12_init_556 : decode cX12_init 556 = .ok (.bipush 101, 2) := by decide +kernel
theorem dX12_init_558 : decode cX12_init 558 = .ok (.iconst 0, 1) := by decide +kernel
theorem dX12_init_559 : decode cX12_init 559 = .ok (.iconst 0, 1) := by decide +kernel
theorem dX12_init_560 : decode cX12_init 560 = .ok (.invokestatic 194, 3) := by decide +kernel
theorem dX12_init_563 : decode cX12_init 563 = .ok (.lastore, 1) := by decide +kernel
theorem dX12_init_564 : decode cX12_init 564 = .ok (.aload_n 0, 1) := by decide +kernel
theorem dX12_init_565 : decode cX12_init 565 = .ok (.getfield 34, 3) := by decide +kernel
theorem dX12_init_568 : decode cX12_init 568 = .ok (.iconst 4, 1) := by decide +kernel
theorem dX12_init_569 : decode cX12_init 569 = .ok (.bipush 111, 2) := by decide +kernel
theorem dX12_init_571 : decode cX12_init 571 = .ok (.bipush 114, 2) := by decide +kernel
theorem dX12_init_573 : decode cX12_init 573 = .ok (.iconst 0, 1) := by decide +kernel
theorem dX12_init_574 : decode cX12_init 574 = .ok (.iconst 0, 1) := by decide +kernel
theorem dX12_init_575 : decode cX12_init 575 = .ok (.iconst 0, 1) := by decide +kernel
theorem dX12_init_576 : decode cX12_init 576 = .ok (.iconst 0, 1) := by decide +kernel
theorem dX12_init_577 : decode cX12_init 577 = .ok (.iconst 0, 1) := by decide +kernel
theorem dX12_init_578 : decode cX12_init 578 = .ok (.invokestatic 194, 3) := by decide +kernel
theorem dX12_init_581 : decode cX12_init 581 = .ok (.lastore, 1) := by decide +kernel
theorem dX12_init_582 : decode cX12_init 582 = .ok (.aload_n 0, 1) := by decide +kernel
theorem dX12_init_583 : decode cX12_init 583 = .ok (.getfield 34, 3) := by decide +kernel
theorem dX12_init_586 : decode cX12_init 586 = .ok (.iconst 5, 1) := by decide +kernel
theorem dX12_init_587 : decode cX12_init 587 = .ok (.bipush 97, 2) := by decide +kernel
theorem dX12_init_589 : decode cX12_init 589 = .ok (.bipush 110, 2) := by decide +kernel
theorem dX12_init_591 : decode cX12_init 591 = .ok (.bipush 100, 2) := by decide +kernel
theorem dX12_init_593 : decode cX12_init 593 = .ok (.iconst 0, 1) := by decide +kernel
theorem dX12_init_594 : decode cX12_init 594 = .ok (.iconst 0, 1) := by decide +kernel
theorem dX12_init_595 : decode cX12_init 595 = .ok (.iconst 0, 1) := by decide +kernel
theorem dX12_init_596 : decode cX12_init 596 = .ok (.iconst 0, 1) := by decide +kernel
theorem dX12_init_597 : decode cX12_init 597 = .ok (.invokestatic 194, 3) := by decide +kernel
theorem dX12_init_600 : decode cX12_init 600 = .ok (.lastore, 1) := by decide +kernel
theorem dX12_init_601 : decode cX12_init 601 = .ok (.aload_n 0, 1) := by decide +kernel
theorem dX12_init_602 : decode cX12_init 602 = .ok (.getfield 34, 3) := by decide +kernel
theorem dX12_init_605 : decode cX12_init 605 = .ok (.bipush 6, 2) := by decide +kernel
theorem dX12_init_607 : decode cX12_init 607 = .ok (.bipush 97, 2) := by decide +kernel
theorem dX12_init_609 : decode cX12_init 609 = .ok (.bipush 99, 2) := by decide +kernel
theorem dX12_init_611 : decode cX12_init 611 = .ok (.bipush 116, 2) := by decide +kernel
theorem dX12_init_613 : decode cX12_init 613 = .ok (.iconst 0, 1) := by decide +kernel
theorem dX12_init_614 : decode cX12_init 614 = .ok (.iconst 0, 1) := by decide +kernel
theorem dX12_init_615 : decode cX12_init 615 = .ok (.iconst 0, 1) := by decide +kernel
theorem dX12_init_616 : decode cX12_init 616 = .ok (.iconst 0, 1) := by decide +kernel
theorem dX12_init_617 : decode cX12_init 617 = .ok (.invokestatic 194, 3) := by decide +kernel
theorem dX12_init_620 : decode cX12_init 620 = .ok (.lastore, 1) := by decide +kernel
theorem dX12_init_621 : decode cX12_init 621 = .ok (.aload_n 0, 1) := by decide +kernel
theorem dX12_init_622 : decode cX12_init 622 = .ok (.getfield 34, 3) := by decide +kernel
theorem dX12_init_625 : decode cX12_init 625 = .ok (.bipush 7, 2) := by decide +kernel
theorem dX12_init_627 : decode cX12_init 627 = .ok (.bipush 107, 2) := by decide +kernel
theorem dX12_init_629 : decode cX12_init 629 = .ok (.bipush 105, 2) := by decide +kernel
theorem dX12_init_631 : decode cX12_init 631 = .ok (.bipush 110, 2) := by decide +kernel
theorem dX12_init_633 : decode cX12_init 633 = .ok (.bipush 100, 2) := by decide +kernel
theorem dX12_init_635 : decode cX12_init 635 = .ok (.iconst 0, 1) := by decide +kernel
theorem dX12_init_636 : decode cX12_init 636 = .ok (.iconst 0, 1) := by decide +kernel
theorem dX12_init_637 : decode cX12_init 637 = .ok (.iconst 0, 1) := by decide +kernel
theorem dX12_init_638 : decode cX12_init 638 = .ok (.invokestatic 194, 3) := by decide +kernel
theorem dX12_init_641 : decode cX12_init 641 = .ok (.lastore, 1) := by decide +kernel
theorem dX12_init_642 : decode cX12_init 642 = .ok (.aload_n 0, 1) := by decide +kernel
theorem dX12_init_643 : decode cX12_init 643 = .ok (.getfield 34, 3) := by decide +kernel
theorem dX12_init_646 : decode cX12_init 646 = .ok (.bipush 8, 2) := by decide +kernel
theorem dX12_init_648 : decode cX12_init 648 = .ok (.bipush 97, 2) := by decide +kernel
theorem dX12_init_650 : decode cX12_init 650 = .ok (.bipush 104, 2) := by decide +kernel
theorem dX12_init_652 : decode cX12_init 652 = .ok (.bipush 101, 2) := by decide +kernel
theorem dX12_init_654 : decode cX12_init 654 = .ok (.bipush 97, 2) := by decide +kernel
theorem dX12_init_656 : decode cX12_init 656 = .ok (.bipush 100, 2) := by decide +kernel
theorem dX12_init_658 : decode cX12_init 658 = .ok (.iconst 0, 1) := by decide +kernel
theorem dX12_init_659 : decode cX12_init 659 = .ok (.iconst 0, 1) := by decide +kernel
theorem dX12_init_660 : decode cX12_init 660 = .ok (.invokestatic 194, 3) := by decide +kernel
theorem dX12_init_663 : decode cX12_init 663 = .ok (.lastore, 1) := by decide +kernel
theorem dX12_init_664 : decode cX12_init 664 = .ok (.aload_n 0, 1) := by decide +kernel
theorem dX12_init_665 : decode cX12_init 665 = .ok (.getfield 34, 3) := by decide +kernel
theorem dX12_init_668 : decode cX12_init 668 = .ok (.bipush 9, 2) := by decide +kernel
theorem dX12_init_670 : decode cX12_init 670 = .ok (.bipush 115, 2) := by decide +kernel
theorem dX12_init_672 : decode cX12_init 672 = .ok (.bipush 97, 2) := by decide +kernel
theorem dX12_init_674 : decode cX12_init 674 = .ok (.bipush 109, 2) := by decide +kernel
theorem dX12_init_676 : decode cX12_init 676 = .ok (.bipush 101, 2) := by decide +kernel
theorem dX12_init_678 : decode cX12_init 678 = .ok (.iconst 0, 1) := by decide +kernel
theorem dX12_init_679 : decode cX12_init 679 = .ok (.iconst 0, 1) := by decide +kernel
theorem dX12_init_680 : decode cX12_init 680 = .ok (.iconst 0, 1) := by decide +kernel
theorem dX12_init_681 : decode cX12_init 681 = .ok (.invokestatic 194, 3) := by decide +kernel
theorem dX12_init_684 : decode cX12_init 684 = .ok (.lastore, 1) := by decide +kernel
theorem dX12_init_685 : decode cX12_init 685 = .ok (.aload_n 0, 1) := by decide +kernel
theorem dX12_init_686 : decode cX12_init 686 = .ok (.getfield 34, 3) := by decide +kernel
theorem dX12_init_689 : decode cX12_init 689 = .ok (.bipush 10, 2) := by decide +kernel
theorem dX12_init_691 : decode cX12_init 691 = .ok (.bipush 98, 2) := by decide +kernel
theorem dX12_init_693 : decode cX12_init 693 = .ok (.bipush 97, 2) := by decide +kernel
theorem dX12_init_695 : decode cX12_init 695 = .ok (.bipush 115, 2) := by decide +kernel
theorem dX12_init_697 : decode cX12_init 697 = .ok (.bipush 101, 2) := by decide +kernel
theorem dX12_init_699 : decode cX12_init 699 = .ok (.iconst 0, 1) := by decide +kernel
theorem dX12_init_700 : decode cX12_init 700 = .ok (.iconst 0, 1) := by decide +kernel
theorem dX12_init_701 : decode cX12_init 701 = .ok (.iconst 0, 1) := by decide +kernel
theorem dX12_init_702 : decode cX12_init 702 = .ok (.invokestatic 194, 3) := by decide +kernel
theorem dX12_init_705 : decode cX12_init 705 = .ok (.lastore, 1) := by decide +kernel
theorem dX12_init_706 : decode cX12_init 706 = .ok (.aload_n 0, 1) := by decide +kernel
theorem dX12_init_707 : decode cX12_init 707 = .ok (.getfield 34, 3) := by decide +kernel
theorem dX12_init_710 : decode cX12_init 710 = .ok (.bipush 11, 2) := by decide +kernel
theorem dX12_init_712 : decode cX12_init 712 = .ok (.bipush 109, 2) := by decide +kernel
theorem dX12_init_714 : decode cX12_init 714 = .ok (.bipush 105, 2) := by decide +kernel
theorem dX12_init_716 : decode cX12_init 716 = .ok (.bipush 110, 2) := by decide +kernel
theorem dX12_init_718 : decode cX12_init 718 = .ok (.bipush 117, 2) := by decide +kernel
theorem dX12_init_720 : decode cX12_init 720 = .ok (.bipush 116, 2) := by decide +kernel
theorem dX12_init_722 : decode cX12_init 722 = .ok (.bipush 101, 2) := by decide +kernel
theorem dX12_init_724 : decode cX12_init 724 = .ok (.iconst 0, 1) := by decide +kernel
theorem dX12_init_725 : decode cX12_init 725 = .ok (.invokestatic 194, 3) := by decide +kernel
theorem dX12_init_728 : decode cX12_init 728 = .ok (.lastore, 1) := by decide +kernel
theorem dX12_init_729 : decode cX12_init 729 = .ok (.aload_n 0, 1) := by decide +kernel
theorem dX12_init_730 : decode cX12_init 730 = .ok (.getfield 34, 3) := by decide +kernel
theorem dX12_init_733 : decode cX12_init 733 = .ok (.bipush 12, 2) := by decide +kernel
theorem dX12_init_735 : decode cX12_init 735 = .ok (.bipush 119, 2) := by decide +kernel
theorem dX12_init_737 : decode cX12_init 737 = .ok (.bipush 105, 2) := by decide +kernel
theorem dX12_init_739 : decode cX12_init 739 = .ok (.bipush 110, 2) := by decide +kernel
theorem dX12_init_741 : decode cX12_init 741 = .ok (.bipush 100, 2) := by decide +kernel
theorem dX12_init_743 : decode cX12_init 743 = .ok (.iconst 0, 1) := by decide +kernel
theorem dX12_init_744 : decode cX12_init 744 = .ok (.iconst 0, 1) := by decide +kernel
theorem dX12_init_745 : decode cX12_init 745 = .ok (.iconst 0, 1) := by decide +kernel
theorem dX12_init_746 : decode cX12_init 746 = .ok (.invokestatic 194, 3) := by decide +kernel
theorem dX12_init_749 : decode cX12_init 749 = .ok (.lastore, 1) := by decide +kernel
theorem dX12_init_750 : decode cX12_init 750 = .ok (.aload_n 0, 1) := by decide +kernel
theorem dX12_init_751 : decode cX12_init 751 = .ok (.getfield 34, 3) := by decide +kernel
theorem dX12_init_754 : decode cX12_init 754 = .ok (.bipush 13, 2) := by decide +kernel
theorem dX12_init_756 : decode cX12_init 756 = .ok (.bipush 108, 2) := by decide +kernel
theorem dX12_init_758 : decode cX12_init 758 = .ok (.bipush 101, 2) := by decide +kernel
theorem dX12_init_760 : decode cX12_init 760 = .ok (.bipush 110, 2) := by decide +kernel
theorem dX12_init_762 : decode cX12_init 762 = .ok (.bipush 103, 2) := by decide +kernel
theorem dX12_init_764 : decode cX12_init 764 = .ok (.bipush 116, 2) := by decide +kernel
theorem dX12_init_766 : decode cX12_init 766 = .ok (.bipush 104, 2) := by decide +kernel
theorem dX12_init_768 : decode cX12_init 768 = .ok (.iconst 0, 1) := by decide +kernel
theorem dX12_init_769 : decode cX12_init 769 = .ok (.invokestatic 194, 3) := by decide +kernel
theorem dX12_init_772 : decode cX12_init 772 = .ok (.lastore, 1) := by decide +kernel
theorem dX12_init_773 : decode cX12_init 773 = .ok (.aload_n 0, 1) := by decide +kernel
theorem dX12_init_774 : decode cX12_init 774 = .ok (.getfield 34, 3) := by decide +kernel
theorem dX12_init_777 : decode cX12_init 777 = .ok (.bipush 14, 2) := by decide +kernel
theorem dX12_init_779 : decode cX12_init 779 = .ok (.bipush 119, 2) := by decide +kernel
theorem dX12_init_781 : decode cX12_init 781 = .ok (.bipush 111, 2) := by decide +kernel
theorem dX12_init_783 : decode cX12_init 783 = .ok (.bipush 114, 2) := by decide +kernel
theorem dX12_init_785 : decode cX12_init 785 = .ok (.bipush 116, 2) := by decide +kernel
theorem dX12_init_787 : decode cX12_init 787 = .ok (.bipush 104, 2) := by decide +kernel
theorem dX12_init_789 : decode cX12_init 789 = .ok (.iconst 0, 1) := by decide +kernel
theorem dX12_init_790 : decode cX12_init 790 = .ok (.iconst 0, 1) := by decide +kernel
theorem dX12_init_791 : decode cX12_init 791 = .ok (.invokestatic 194, 3) := by decide +kernel
theorem dX12_init_794 : decode cX12_init 794 = .ok (.lastore, 1) := by decide +kernel
theorem dX12_init_795 : decode cX12_init 795 = .ok (.aload_n 0, 1) := by decide +kernel
theorem dX12_init_796 : decode cX12_init 796 = .ok (.bipush 100, 2) := by decide +kernel
theorem dX12_init_798 : decode cX12_init 798 = .ok (.putfield 198, 3) := by decide +kernel
theorem dX12_init_801 : decode cX12_init 801 = .ok (.aload_n 0, 1) := by decide +kernel
theorem dX12_init_802 : decode cX12_init 802 = .ok (.iconst (-1), 1) := by decide +kernel
theorem dX12_init_803 : decode cX12_init 803 = .ok (.putfield 201, 3) := by decide +kernel
theorem dX12_init_806 : decode cX12_init 806 = .ok (.return_, 1) := by decide +kernel
theorem dX12_feed_0 : decode cX12_feed 0 = .ok (.aload_n 0, 1) := by decide +kernel
theorem dX12_feed_1 : decode cX12_feed 1 = .ok (.getfield 204, 3) := by decide +kernel
theorem dX12_feed_4 : decode cX12_feed 4 = .ok (.bipush 20, 2) := by decide +kernel
theorem dX12_feed_6 : decode cX12_feed 6 = .ok (.iadd, 1) := by decide +kernel
theorem dX12_feed_7 : decode cX12_feed 7 = .ok (.sipush 2000, 3) := by decide +kernel
theorem dX12_feed_10 : decode cX12_feed 10 = .ok (.if_icmp .le 5, 3) := by decide +kernel
theorem dX12_feed_13 : decode cX12_feed 13 = .ok (.iconst (-1), 1) := by decide +kernel
theorem dX12_feed_14 : decode cX12_feed 14 = .ok (.ireturn, 1) := by decide +kernel
theorem dX12_feed_15 : decode cX12_feed 15 = .ok (.aload_n 0, 1) := by decide +kernel
theorem dX12_feed_16 : decode cX12_feed 16 = .ok (.iload_n 1, 1) := by decide +kernel
theorem dX12_feed_17 : decode cX12_feed 17 = .ok (.invokevirtual 207, 3) := by decide +kernel
theorem dX12_feed_20 : decode cX12_feed 20 = .ok (.aload_n 0, 1) := by decide +kernel
theorem dX12_feed_21 : decode cX12_feed 21 = .ok (.iload_n 2, 1) := by decide +kernel
theorem dX12_feed_22 : decode cX12_feed 22 = .ok (.invokevirtual 207, 3) := by decide +kernel
theorem dX12_feed_25 : decode cX12_feed 25 = .ok (.aload_n 0, 1) := by decide +kernel
theorem dX12_feed_26 : decode cX12_feed 26 = .ok (.iload_n 3, 1) := by decide +kernel
theorem dX12_feed_27 : decode cX12_feed 27 = .ok (.invokevirtual 207, 3) := by decide +kernel
theorem dX12_feed_30 : decode cX12_feed 30 = .ok (.aload_n 0, 1) := by decide +kernel
theorem dX12_feed_31 : decode cX12_feed 31 = .ok (.iload 4, 2) := by decide +kernel
theorem dX12_feed_33 : decode cX12_feed 33 = .ok (.invokevirtual 207, 3) := by decide +kernel
theorem dX12_feed_36 : decode cX12_feed 36 = .ok (.aload_n 0, 1) := by decide +kernel
theorem dX12_feed_37 : decode cX12_feed 37 = .ok (.iload 5, 2) := by decide +kernel
theorem dX12_feed_39 : decode cX12_feed 39 = .ok (.invokevirtual 207, 3) := by decide +kernel
theorem dX12_feed_42 : decode cX12_feed 42 = .ok (.aload_n 0, 1) := by decide +kernel
theorem dX12_feed_43 : decode cX12_feed 43 = .ok (.getfield 204, 3) := by decide +kernel
theorem dX12_feed_46 : decode cX12_feed 46 = .ok (.ireturn, 1) := by decide +kernel
theorem dX12_put_0 : decode cX12_put 0 = .ok (.bipush 24, 2) := by decide +kernel
theorem dX12_put_2 : decode cX12_put 2 = .ok (.istore_n 2, 1) := by decide +kernel
theorem dX12_put_3 : decode cX12_put 3 = .ok (.iload_n 2, 1) := by decide +kernel
theorem dX12_put_4 : decode cX12_put 4 = .ok (.ifCond .lt 32, 3) := by decide +kernel
theorem dX12_put_7 : decode cX12_put 7 = .ok (.aload_n 0, 1) := by decide +kernel
theorem dX12_put_8 : decode cX12_put 8 = .ok (.getfield 13, 3) := by decide +kernel
theorem dX12_put_11 : decode cX12_put 11 = .ok (.aload_n 0, 1) := by decide +kernel
theorem dX12_put_12 : decode cX12_put 12 = .ok (.getfield 204, 3) := by decide +kernel
theorem dX12_put_15 : decode cX12_put 15 = .ok (.iload_n 1, 1) := by decide +kernel
theorem dX12_put_16 : decode cX12_put 16 = .ok (.iload_n 2, 1) := by decide +kernel
theorem dX12_put_17 : decode cX12_put 17 = .ok (.ishr, 1) := by decide +kernel
theorem dX12_put_18 : decode cX12_put 18 = .ok (.i2b, 1) := by decide +kernel
theorem dX12_put_19 : decode cX12_put 19 = .ok (.bastore, 1) := by decide +kernel
theorem dX12_put_20 : decode cX12_put 20 = .ok (.aload_n 0, 1) := by decide +kernel
theorem dX12_put_21 : decode cX12_put 21 = .ok (.dup, 1) := by decide +kernel
theorem dX12_put_22 : decode cX12_put 22 = .ok (.getfield 204, 3) := by decide +kernel
theorem dX12_put_25 : decode cX12_put 25 = .ok (.iconst 1, 1) := by decide +kernel
theorem dX12_put_26 : decode cX12_put 26 = .ok (.iadd, 1) := by decide +kernel
theorem dX12_put_27 : decode cX12_put 27 = .ok (.putfield 204, 3) := by decide +kernel
theorem dX12_put_30 : decode cX12_put 30 = .ok (.iinc 2 (-8), 3) := by decide +kernel
theorem dX12_put_33 : decode cX12_put 33 = .ok (.goto (-30), 3) := by decide +kernel
theorem dX12_put_36 : decode cX12_put 36 = .ok (.return_, 1) := by decide +kernel
theorem dX12_back_0 : decode cX12_back 0 = .ok (.iload_n 1, 1) := by decide +kernel
theorem dX12_back_1 : decode cX12_back 1 = .ok (.ifCond .lt 11, 3) := by decide +kernel
theorem dX12_back_4 : decode cX12_back 4 = .ok (.iload_n 1, 1) := by decide +kernel
theorem dX12_back_5 : decode cX12_back 5 = .ok (.aload_n 0, 1) := by decide +kernel
theorem dX12_back_6 : decode cX12_back 6 = .ok (.getfield 204, 3) := by decide +kernel
theorem dX12_back_9 : decode cX12_back 9 = .ok (.if_icmp .le 5, 3) := by decide +kernel
theorem dX12_back_12 : decode cX12_back 12 = .ok (.iconst (-1), 1) := by decide +kernel
theorem dX12_back_13 : decode cX12_back 13 = .ok (.ireturn, 1) := by decide +kernel
theorem dX12_back_14 : decode cX12_back 14 = .ok (.aload_n 0, 1) := by decide +kernel
theorem dX12_back_15 : decode cX12_back 15 = .ok (.dup, 1) := by decide +kernel
theorem dX12_back_16 : decode cX12_back 16 = .ok (.getfield 204, 3) := by decide +kernel
theorem dX12_back_19 : decode cX12_back 19 = .ok (.iload_n 1, 1) := by decide +kernel
theorem dX12_back_20 : decode cX12_back 20 = .ok (.isub, 1) := by decide +kernel
theorem dX12_back_21 : decode cX12_back 21 = .ok (.putfield 204, 3) := by decide +kernel
theorem dX12_back_24 : decode cX12_back 24 = .ok (.aload_n 0, 1) := by decide +kernel
theorem dX12_back_25 : decode cX12_back 25 = .ok (.getfield 204, 3) := by decide +kernel
theorem dX12_back_28 : decode cX12_back 28 = .ok (.ireturn, 1) := by decide +kernel
theorem dX12_at_0 : decode cX12_at 0 = .ok (.iload_n 1, 1) := by decide +kernel
theorem dX12_at_1 : decode cX12_at 1 = .ok (.aload_n 0, 1) := by decide +kernel
theorem dX12_at_2 : decode cX12_at 2 = .ok (.getfield 211, 3) := by decide +kernel
theorem dX12_at_5 : decode cX12_at 5 = .ok (.if_icmp .ge 16, 3) := by decide +kernel
theorem dX12_at_8 : decode cX12_at 8 = .ok (.aload_n 0, 1) := by decide +kernel
theorem dX12_at_9 : decode cX12_at 9 = .ok (.getfield 17, 3) := by decide +kernel
theorem dX12_at_12 : decode cX12_at 12 = .ok (.iload_n 1, 1) := by decide +kernel
theorem dX12_at_13 : decode cX12_at 13 = .ok (.baload, 1) := by decide +kernel
theorem dX12_at_14 : decode cX12_at 14 = .ok (.sipush 255, 3) := by decide +kernel
theorem dX12_at_17 : decode cX12_at 17 = .ok (.iand, 1) := by decide +kernel
theorem dX12_at_18 : decode cX12_at 18 = .ok (.goto 4, 3) := by decide +kernel
theorem dX12_at_21 : decode cX12_at 21 = .ok (.iconst 0, 1) := by decide +kernel
theorem dX12_at_22 : decode cX12_at 22 = .ok (.ireturn, 1) := by decide +kernel
theorem dX12_isDigit_0 : decode cX12_isDigit 0 = .ok (.iload_n 0, 1) := by decide +kernel
theorem dX12_isDigit_1 : decode cX12_isDigit 1 = .ok (.bipush 48, 2) := by decide +kernel
theorem dX12_isDigit_3 : decode cX12_isDigit 3 = .ok (.if_icmp .lt 13, 3) := by decide +kernel
theorem dX12_isDigit_6 : decode cX12_isDigit 6 = .ok (.iload_n 0, 1) := by decide +kernel
theorem dX12_isDigit_7 : decode cX12_isDigit 7 = .ok (.bipush 57, 2) := by decide +kernel
theorem dX12_isDigit_9 : decode cX12_isDigit 9 = .ok (.if_icmp .gt 7, 3) := by decide +kernel
theorem dX12_isDigit_12 : decode cX12_isDigit 12 = .ok (.iconst 1, 1) := by decide +kernel
theorem dX12_isDigit_13 : decode cX12_isDigit 13 = .ok (.goto 4, 3) := by decide +kernel
theorem dX12_isDigit_16 : decode cX12_isDigit 16 = .ok (.iconst 0, 1) := by decide +kernel
theorem dX12_isDigit_17 : decode cX12_isDigit 17 = .ok (.ireturn, 1) := by decide +kernel
theorem dX12_isLetter_0 : decode cX12_isLetter 0 = .ok (.iload_n 0, 1) := by decide +kernel
theorem dX12_isLetter_1 : decode cX12_isLetter 1 = .ok (.bipush 97, 2) := by decide +kernel
theorem dX12_isLetter_3 : decode cX12_isLetter 3 = .ok (.if_icmp .lt 13, 3) := by decide +kernel
theorem dX12_isLetter_6 : decode cX12_isLetter 6 = .ok (.iload_n 0, 1) := by decide +kernel
theorem dX12_isLetter_7 : decode cX12_isLetter 7 = .ok (.bipush 122, 2) := by decide +kernel
theorem dX12_isLetter_9 : decode cX12_isLetter 9 = .ok (.if_icmp .gt 7, 3) := by decide +kernel
theorem dX12_isLetter_12 : decode cX12_isLetter 12 = .ok (.iconst 1, 1) := by decide +kernel
theorem dX12_isLetter_13 : decode cX12_isLetter 13 = .ok (.goto 4, 3) := by decide +kernel
theorem dX12_isLetter_16 : decode cX12_isLetter 16 = .ok (.iconst 0, 1) := by decide +kernel
theorem dX12_isLetter_17 : decode cX12_isLetter 17 = .ok (.ireturn, 1) := by decide +kernel
theorem dX12_more_0 : decode cX12_more 0 = .ok (.iload_n 2, 1) := by decide +kernel
theorem dX12_more_1 : decode cX12_more 1 = .ok (.ifCond .ne 7, 3) := by decide +kernel
theorem dX12_more_4 : decode cX12_more 4 = .ok (.lload_n 0, 1) := by decide +kernel
theorem dX12_more_5 : decode cX12_more 5 = .ok (.goto 16, 3) := by decide +kernel
theorem dX12_more_8 : decode cX12_more 8 = .ok (.ldc2_w 214, 3) := by decide +kernel
theorem dX12_more_11 : decode cX12_more 11 = .ok (.lload_n 0, 1) := by decide +kernel
theorem dX12_more_12 : decode cX12_more 12 = .ok (.lmul, 1) := by decide +kernel
theorem dX12_more_13 : decode cX12_more 13 = .ok (.iload_n 2, 1) := by decide +kernel
theorem dX12_more_14 : decode cX12_more 14 = .ok (.bipush 97, 2) := by decide +kernel
theorem dX12_more_16 : decode cX12_more 16 = .ok (.isub, 1) := by decide +kernel
theorem dX12_more_17 : decode cX12_more 17 = .ok (.iconst 1, 1) := by decide +kernel
theorem dX12_more_18 : decode cX12_more 18 = .ok (.iadd, 1) := by decide +kernel
theorem dX12_more_19 : decode cX12_more 19 = .ok (.i2l, 1) := by decide +kernel
theorem dX12_more_20 : decode cX12_more 20 = .ok (.ladd, 1) := by decide +kernel
theorem dX12_more_21 : decode cX12_more 21 = .ok (.lreturn, 1) := by decide +kernel
theorem dX12_word_0 : decode cX12_word 0 = .ok (.lconst 0, 1) := by decide +kernel
theorem dX12_word_1 : decode cX12_word 1 = .ok (.iload_n 0, 1) := by decide +kernel
theorem dX12_word_2 : decode cX12_word 2 = .ok (.invokestatic 216, 3) := by decide +kernel
theorem dX12_word_5 : decode cX12_word 5 = .ok (.iload_n 1, 1) := by decide +kernel
theorem dX12_word_6 : decode cX12_word 6 = .ok (.invokestatic 216, 3) := by decide +kernel
theorem dX12_word_9 : decode cX12_word 9 = .ok (.iload_n 2, 1) := by decide +kernel
theorem dX12_word_10 : decode cX12_word 10 = .ok (.invokestatic 216, 3) := by decide +kernel
theorem dX12_word_13 : decode cX12_word 13 = .ok (.iload_n 3, 1) := by decide +kernel
theorem dX12_word_14 : decode cX12_word 14 = .ok (.invokestatic 216, 3) := by decide +kernel
