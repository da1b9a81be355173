theorem dX5_goesOnWith_46 : decode cX5_goesOnWith 46 = .ok (.iconst 1, 1) := by decide +kernel
theorem dX5_goesOnWith_47 : decode cX5_goesOnWith 47 = .ok (.goto 4, 3) := by decide +kernel
theorem dX5_goesOnWith_50 : decode cX5_goesOnWith 50 = .ok (.iconst 0, 1) := by decide +kernel
theorem dX5_goesOnWith_51 : decode cX5_goesOnWith 51 = .ok (.ireturn, 1) := by decide +kernel
theorem dX5_goesOnWith_52 : decode cX5_goesOnWith 52 = .ok (.iload_n 1, 1) := by decide +kernel
theorem dX5_goesOnWith_53 : decode cX5_goesOnWith 53 = .ok (.iconst 3, 1) := by decide +kernel
theorem dX5_goesOnWith_54 : decode cX5_goesOnWith 54 = .ok (.if_icmp .ne 7, 3) := by decide +kernel
theorem dX5_goesOnWith_57 : decode cX5_goesOnWith 57 = .ok (.iconst 1, 1) := by decide +kernel
theorem dX5_goesOnWith_58 : decode cX5_goesOnWith 58 = .ok (.goto 4, 3) := by decide +kernel
theorem dX5_goesOnWith_61 : decode cX5_goesOnWith 61 = .ok (.iconst 0, 1) := by decide +kernel
theorem dX5_goesOnWith_62 : decode cX5_goesOnWith 62 = .ok (.ireturn, 1) := by decide +kernel
theorem dX5_goesOnWith_63 : decode cX5_goesOnWith 63 = .ok (.iload_n 1, 1) := by decide +kernel
theorem dX5_goesOnWith_64 : decode cX5_goesOnWith 64 = .ok (.bipush 25, 2) := by decide +kernel
theorem dX5_goesOnWith_66 : decode cX5_goesOnWith 66 = .ok (.if_icmp .eq 16, 3) := by decide +kernel
theorem dX5_goesOnWith_69 : decode cX5_goesOnWith 69 = .ok (.iload_n 1, 1) := by decide +kernel
theorem dX5_goesOnWith_70 : decode cX5_goesOnWith 70 = .ok (.bipush 23, 2) := by decide +kernel
theorem dX5_goesOnWith_72 : decode cX5_goesOnWith 72 = .ok (.if_icmp .eq 10, 3) := by decide +kernel
theorem dX5_goesOnWith_75 : decode cX5_goesOnWith 75 = .ok (.iload_n 1, 1) := by decide +kernel
theorem dX5_goesOnWith_76 : decode cX5_goesOnWith 76 = .ok (.invokestatic 68, 3) := by decide +kernel
theorem dX5_goesOnWith_79 : decode cX5_goesOnWith 79 = .ok (.ifCond .eq 7, 3) := by decide +kernel
theorem dX5_goesOnWith_82 : decode cX5_goesOnWith 82 = .ok (.iconst 1, 1) := by decide +kernel
theorem dX5_goesOnWith_83 : decode cX5_goesOnWith 83 = .ok (.goto 4, 3) := by decide +kernel
theorem dX5_goesOnWith_86 : decode cX5_goesOnWith 86 = .ok (.iconst 0, 1) := by decide +kernel
theorem dX5_goesOnWith_87 : decode cX5_goesOnWith 87 = .ok (.ireturn, 1) := by decide +kernel
theorem dX5_goesOnWith_88 : decode cX5_goesOnWith 88 = .ok (.aload_n 0, 1) := by decide +kernel
theorem dX5_goesOnWith_89 : decode cX5_goesOnWith 89 = .ok (.iload_n 1, 1) := by decide +kernel
theorem dX5_goesOnWith_90 : decode cX5_goesOnWith 90 = .ok (.invokevirtual 71, 3) := by decide +kernel
theorem dX5_goesOnWith_93 : decode cX5_goesOnWith 93 = .ok (.ireturn, 1) := by decide +kernel
set_option maxRecDepth 20000 in
theorem ggX5_goesOnBehindUnit_X5_isRelation : GoodIn wsX5_goesOnBehindUnit wsX5_isRelation := goodIn_r _ [6] (by decide +kernel) (by decide +kernel)
set_option maxRecDepth 20000 in
theorem gX5_goesOnBehindUnit_X5_isRelation : GoodIn wsX5_goesOnBehindUnit (va_wsS RX5 74 yX5_isRelation wsX5_isRelation) := goodIn_app (goodIn_of _ (by decide +kernel)) ggX5_goesOnBehindUnit_X5_isRelation
theorem dX5_goesOnBehindUnit_0 : decode cX5_goesOnBehindUnit 0 = .ok (.iload_n 1, 1) := by decide +kernel
theorem dX5_goesOnBehindUnit_1 : decode cX5_goesOnBehindUnit 1 = .ok (.bipush 16, 2) := by decide +kernel
theorem dX5_goesOnBehindUnit_3 : decode cX5_goesOnBehindUnit 3 = .ok (.if_icmp .eq 15, 3) := by decide +kernel
theorem dX5_goesOnBehindUnit_6 : decode cX5_goesOnBehindUnit 6 = .ok (.iload_n 1, 1) := by decide +kernel
theorem dX5_goesOnBehindUnit_7 : decode cX5_goesOnBehindUnit 7 = .ok (.bipush 17, 2) := by decide +kernel
theorem dX5_goesOnBehindUnit_9 : decode cX5_goesOnBehindUnit 9 = .ok (.if_icmp .eq 9, 3) := by decide +kernel
theorem dX5_goesOnBehindUnit_12 : decode cX5_goesOnBehindUnit 12 = .ok (.iload_n 1, 1) := by decide +kernel
theorem dX5_goesOnBehindUnit_13 : decode cX5_goesOnBehindUnit 13 = .ok (.bipush 18, 2) := by decide +kernel
theorem dX5_goesOnBehindUnit_15 : decode cX5_goesOnBehindUnit 15 = .ok (.if_icmp .ne 5, 3) := by decide +kernel
theorem dX5_goesOnBehindUnit_18 : decode cX5_goesOnBehindUnit 18 = .ok (.iconst 1, 1) := by decide +kernel
theorem dX5_goesOnBehindUnit_19 : decode cX5_goesOnBehindUnit 19 = .ok (.ireturn, 1) := by decide +kernel
theorem dX5_goesOnBehindUnit_20 : decode cX5_goesOnBehindUnit 20 = .ok (.aload_n 0, 1) := by decide +kernel
theorem dX5_goesOnBehindUnit_21 : decode cX5_goesOnBehindUnit 21 = .ok (.getfield 32, 3) := by decide +kernel
theorem dX5_goesOnBehindUnit_24 : decode cX5_goesOnBehindUnit 24 = .ok (.ifCond .le 15, 3) := by decide +kernel
theorem dX5_goesOnBehindUnit_27 : decode cX5_goesOnBehindUnit 27 = .ok (.iload_n 1, 1) := by decide +kernel
theorem dX5_goesOnBehindUnit_28 : decode cX5_goesOnBehindUnit 28 = .ok (.bipush 24, 2) := by decide +kernel
theorem dX5_goesOnBehindUnit_30 : decode cX5_goesOnBehindUnit 30 = .ok (.if_icmp .ne 7, 3) := by decide +kernel
theorem dX5_goesOnBehindUnit_33 : decode cX5_goesOnBehindUnit 33 = .ok (.iconst 1, 1) := by decide +kernel
theorem dX5_goesOnBehindUnit_34 : decode cX5_goesOnBehindUnit 34 = .ok (.goto 4, 3) := by decide +kernel
theorem dX5_goesOnBehindUnit_37 : decode cX5_goesOnBehindUnit 37 = .ok (.iconst 0, 1) := by decide +kernel
theorem dX5_goesOnBehindUnit_38 : decode cX5_goesOnBehindUnit 38 = .ok (.ireturn, 1) := by decide +kernel
theorem dX5_goesOnBehindUnit_39 : decode cX5_goesOnBehindUnit 39 = .ok (.aload_n 0, 1) := by decide +kernel
theorem dX5_goesOnBehindUnit_40 : decode cX5_goesOnBehindUnit 40 = .ok (.getfield 29, 3) := by decide +kernel
theorem dX5_goesOnBehindUnit_43 : decode cX5_goesOnBehindUnit 43 = .ok (.lookupswitch 47 #[(0, 25), (1, 42)], 25) := by decide +kernel
theorem dX5_goesOnBehindUnit_68 : decode cX5_goesOnBehindUnit 68 = .ok (.iload_n 1, 1) := by decide +kernel
theorem dX5_goesOnBehindUnit_69 : decode cX5_goesOnBehindUnit 69 = .ok (.iconst 3, 1) := by decide +kernel
theorem dX5_goesOnBehindUnit_70 : decode cX5_goesOnBehindUnit 70 = .ok (.if_icmp .eq 9, 3) := by decide +kernel
theorem dX5_goesOnBehindUnit_73 : decode cX5_goesOnBehindUnit 73 = .ok (.iload_n 1, 1) := by decide +kernel
theorem dX5_goesOnBehindUnit_74 : decode cX5_goesOnBehindUnit 74 = .ok (.bipush 15, 2) := by decide +kernel
theorem dX5_goesOnBehindUnit_76 : decode cX5_goesOnBehindUnit 76 = .ok (.if_icmp .ne 7, 3) := by decide +kernel
theorem dX5_goesOnBehindUnit_79 : decode cX5_goesOnBehindUnit 79 = .ok (.iconst 1, 1) := by decide +kernel
theorem dX5_goesOnBehindUnit_80 : decode cX5_goesOnBehindUnit 80 = .ok (.goto 4, 3) := by decide +kernel
theorem dX5_goesOnBehindUnit_83 : decode cX5_goesOnBehindUnit 83 = .ok (.iconst 0, 1) := by decide +kernel
theorem dX5_goesOnBehindUnit_84 : decode cX5_goesOnBehindUnit 84 = .ok (.ireturn, 1) := by decide +kernel
theorem dX5_goesOnBehindUnit_85 : decode cX5_goesOnBehindUnit 85 = .ok (.iload_n 1, 1) := by decide +kernel
theorem dX5_goesOnBehindUnit_86 : decode cX5_goesOnBehindUnit 86 = .ok (.invokestatic 74, 3) := by decide +kernel
theorem dX5_goesOnBehindUnit_89 : decode cX5_goesOnBehindUnit 89 = .ok (.ireturn, 1) := by decide +kernel
theorem dX5_goesOnBehindUnit_90 : decode cX5_goesOnBehindUnit 90 = .ok (.iload_n 1, 1) := by decide +kernel
theorem dX5_goesOnBehindUnit_91 : decode cX5_goesOnBehindUnit 91 = .ok (.iconst 5, 1) := by decide +kernel
theorem dX5_goesOnBehindUnit_92 : decode cX5_goesOnBehindUnit 92 = .ok (.if_icmp .eq 14, 3) := by decide +kernel
theorem dX5_goesOnBehindUnit_95 : decode cX5_goesOnBehindUnit 95 = .ok (.iload_n 1, 1) := by decide +kernel
theorem dX5_goesOnBehindUnit_96 : decode cX5_goesOnBehindUnit 96 = .ok (.iconst 4, 1) := by decide +kernel
theorem dX5_goesOnBehindUnit_97 : decode cX5_goesOnBehindUnit 97 = .ok (.if_icmp .eq 9, 3) := by decide +kernel
theorem dX5_goesOnBehindUnit_100 : decode cX5_goesOnBehindUnit 100 = .ok (.iload_n 1, 1) := by decide +kernel
theorem dX5_goesOnBehindUnit_101 : decode cX5_goesOnBehindUnit 101 = .ok (.bipush 15, 2) := by decide +kernel
theorem dX5_goesOnBehindUnit_103 : decode cX5_goesOnBehindUnit 103 = .ok (.if_icmp .ne 7, 3) := by decide +kernel
theorem dX5_goesOnBehindUnit_106 : decode cX5_goesOnBehindUnit 106 = .ok (.iconst 1, 1) := by decide +kernel
theorem dX5_goesOnBehindUnit_107 : decode cX5_goesOnBehindUnit 107 = .ok (.goto 4, 3) := by decide +kernel
theorem dX5_goesOnBehindUnit_110 : decode cX5_goesOnBehindUnit 110 = .ok (.iconst 0, 1) := by decide +kernel
theorem dX5_goesOnBehindUnit_111 : decode cX5_goesOnBehindUnit 111 = .ok (.ireturn, 1) := by decide +kernel
set_option maxRecDepth 20000 in
theorem ggX5_lacksRoomFor_X10_isFull : GoodIn wsX5_lacksRoomFor wsX10_isFull := goodIn_r _ [7, 8, 15, 16, 17, 18, 19, 20, 21, 22] (by decide +kernel) (by decide +kernel)
set_option maxRecDepth 20000 in
theorem gX5_lacksRoomFor_X10_isFull : GoodIn wsX5_lacksRoomFor (wsV RX5 77 RX10 yX10_isFull wsX10_isFull) := goodIn_app (goodIn_of _ (by decide +kernel)) ggX5_lacksRoomFor_X10_isFull
theorem dX5_lacksRoomFor_0 : decode cX5_lacksRoomFor 0 = .ok (.aload_n 0, 1) := by decide +kernel
theorem dX5_lacksRoomFor_1 : decode cX5_lacksRoomFor 1 = .ok (.getfield 26, 3) := by decide +kernel
theorem dX5_lacksRoomFor_4 : decode cX5_lacksRoomFor 4 = .ok (.ifCond .ne 14, 3) := by decide +kernel
theorem dX5_lacksRoomFor_7 : decode cX5_lacksRoomFor 7 = .ok (.aload_n 1, 1) := by decide +kernel
theorem dX5_lacksRoomFor_8 : decode cX5_lacksRoomFor 8 = .ok (.invokevirtual 77, 3) := by decide +kernel
theorem dX5_lacksRoomFor_11 : decode cX5_lacksRoomFor 11 = .ok (.ifCond .eq 7, 3) := by decide +kernel
theorem dX5_lacksRoomFor_14 : decode cX5_lacksRoomFor 14 = .ok (.iconst 1, 1) := by decide +kernel
theorem dX5_lacksRoomFor_15 : decode cX5_lacksRoomFor 15 = .ok (.goto 4, 3) := by decide +kernel
theorem dX5_lacksRoomFor_18 : decode cX5_lacksRoomFor 18 = .ok (.iconst 0, 1) := by decide +kernel
theorem dX5_lacksRoomFor_19 : decode cX5_lacksRoomFor 19 = .ok (.istore_n 3, 1) := by decide +kernel
theorem dX5_lacksRoomFor_20 : decode cX5_lacksRoomFor 20 = .ok (.iload_n 3, 1) := by decide +kernel
theorem dX5_lacksRoomFor_21 : decode cX5_lacksRoomFor 21 = .ok (.ifCond .ne 18, 3) := by decide +kernel
theorem dX5_lacksRoomFor_24 : decode cX5_lacksRoomFor 24 = .ok (.iload_n 2, 1) := by decide +kernel
theorem dX5_lacksRoomFor_25 : decode cX5_lacksRoomFor 25 = .ok (.bipush 23, 2) := by decide +kernel
theorem dX5_lacksRoomFor_27 : decode cX5_lacksRoomFor 27 = .ok (.if_icmp .ne 16, 3) := by decide +kernel
theorem dX5_lacksRoomFor_30 : decode cX5_lacksRoomFor 30 = .ok (.aload_n 0, 1) := by decide +kernel
theorem dX5_lacksRoomFor_31 : decode cX5_lacksRoomFor 31 = .ok (.getfield 32, 3) := by decide +kernel
theorem dX5_lacksRoomFor_34 : decode cX5_lacksRoomFor 34 = .ok (.bipush 6, 2) := by decide +kernel
theorem dX5_lacksRoomFor_36 : decode cX5_lacksRoomFor 36 = .ok (.if_icmp .lt 7, 3) := by decide +kernel
theorem dX5_lacksRoomFor_39 : decode cX5_lacksRoomFor 39 = .ok (.iconst 1, 1) := by decide +kernel
theorem dX5_lacksRoomFor_40 : decode cX5_lacksRoomFor 40 = .ok (.goto 4, 3) := by decide +kernel
theorem dX5_lacksRoomFor_43 : decode cX5_lacksRoomFor 43 = .ok (.iconst 0, 1) := by decide +kernel
theorem dX5_lacksRoomFor_44 : decode cX5_lacksRoomFor 44 = .ok (.ireturn, 1) := by decide +kernel
set_option maxRecDepth 20000 in
theorem ggX5_take_X10_openRule : GoodIn wsX5_take wsX10_openRule := goodIn_r _ [7, 8, 9, 10, 11, 12, 65, 66, 67, 68, 69, 70, 71, 72] (by decide +kernel) (by decide +kernel)
set_option maxRecDepth 20000 in
theorem gX5_take_X10_openRule : GoodIn wsX5_take (wsV RX5 81 RX10 yX10_openRule wsX10_openRule) := goodIn_app (goodIn_of _ (by decide +kernel)) ggX5_take_X10_openRule
set_option maxRecDepth 20000 in
theorem ggX5_take_X5_takeUnit : GoodIn wsX5_take wsX5_takeUnit := goodIn_r _ [17, 18, 19, 20, 1, 21, 22, 23, 16, 24, 25, 26, 27, 28, 29, 6, 30, 11, 31, 59, 60, 61, 62, 63, 64, 73, 74, 75, 76, 77, 65, 66, 67, 68, 69, 70, 71, 72] (by decide +kernel) (by decide +kernel)
set_option maxRecDepth 20000 in
theorem gX5_take_X5_takeUnit : GoodIn wsX5_take (wsV RX5 85 RX5 yX5_takeUnit wsX5_takeUnit) := goodIn_app (goodIn_of _ (by decide +kernel)) ggX5_take_X5_takeUnit
set_option maxRecDepth 20000 in
theorem ggX5_take_X5_takeBehindUnit : GoodIn wsX5_take wsX5_takeBehindUnit := goodIn_r _ [35, 25, 36, 37, 38, 39, 18, 1, 2, 40, 41, 16, 42, 43, 44, 45, 46, 47, 48, 49, 26, 27, 28, 29, 6, 30, 11, 31, 50, 51, 52, 53, 8, 54, 12, 55, 56, 57, 58, 21, 22, 23, 24, 59, 60, 61, 62, 63, 64, 65, 66, 67, 68, 69, 70, 71, 72] (by decide +kernel) (by decide +kernel)
set_option maxRecDepth 20000 in
theorem gX5_take_X5_takeBehindUnit : GoodIn wsX5_take (wsV RX5 88 RX5 yX5_takeBehindUnit wsX5_takeBehindUnit) := goodIn_app (goodIn_of _ (by decide +kernel)) ggX5_take_X5_takeBehindUnit
theorem dX5_take_0 : decode cX5_take 0 = .ok (.aload_n 0, 1) := by decide +kernel
theorem dX5_take_1 : decode cX5_take 1 = .ok (.getfield 26, 3) := by decide +kernel
theorem dX5_take_4 : decode cX5_take 4 = .ok (.tableswitch 79 0 2 #[28, 62, 70], 28) := by decide +kernel
theorem dX5_take_32 : decode cX5_take 32 = .ok (.aload_n 1, 1) := by decide +kernel
theorem dX5_take_33 : decode cX5_take 33 = .ok (.iload_n 2, 1) := by decide +kernel
theorem dX5_take_34 : decode cX5_take 34 = .ok (.invokevirtual 81, 3) := by decide +kernel
theorem dX5_take_37 : decode cX5_take 37 = .ok (.aload_n 0, 1) := by decide +kernel
theorem dX5_take_38 : decode cX5_take 38 = .ok (.iload_n 2, 1) := by decide +kernel
theorem dX5_take_39 : decode cX5_take 39 = .ok (.ifCond .ne 7, 3) := by decide +kernel
theorem dX5_take_42 : decode cX5_take 42 = .ok (.iconst 1, 1) := by decide +kernel
theorem dX5_take_43 : decode cX5_take 43 = .ok (.goto 4, 3) := by decide +kernel
theorem dX5_take_46 : decode cX5_take 46 = .ok (.iconst 0, 1) := by decide +kernel
theorem dX5_take_47 : decode cX5_take 47 = .ok (.putfield 29, 3) := by decide +kernel
theorem dX5_take_50 : decode cX5_take 50 = .ok (.aload_n 0, 1) := by decide +kernel
theorem dX5_take_51 : decode cX5_take 51 = .ok (.iload_n 2, 1) := by decide +kernel
theorem dX5_take_52 : decode cX5_take 52 = .ok (.ifCond .ne 7, 3) := by decide +kernel
theorem dX5_take_55 : decode cX5_take 55 = .ok (.iconst 1, 1) := by decide +kernel
theorem dX5_take_56 : decode cX5_take 56 = .ok (.goto 4, 3) := by decide +kernel
theorem dX5_take_59 : decode cX5_take 59 = .ok (.iconst 2, 1) := by decide +kernel
theorem dX5_take_60 : decode cX5_take 60 = .ok (.putfield 26, 3) := by decide +kernel
theorem dX5_take_63 : decode cX5_take 63 = .ok (.goto 26, 3) := by decide +kernel
theorem dX5_take_66 : decode cX5_take 66 = .ok (.aload_n 0, 1) := by decide +kernel
theorem dX5_take_67 : decode cX5_take 67 = .ok (.iconst 2, 1) := by decide +kernel
theorem dX5_take_68 : decode cX5_take 68 = .ok (.putfield 26, 3) := by decide +kernel
theorem dX5_take_71 : decode cX5_take 71 = .ok (.goto 18, 3) := by decide +kernel
theorem dX5_take_74 : decode cX5_take 74 = .ok (.aload_n 0, 1) := by decide +kernel
theorem dX5_take_75 : decode cX5_take 75 = .ok (.aload_n 1, 1) := by decide +kernel
theorem dX5_take_76 : decode cX5_take 76 = .ok (.iload_n 2, 1) := by decide +kernel
theorem dX5_take_77 : decode cX5_take 77 = .ok (.invokevirtual 85, 3) := by decide +kernel
theorem dX5_take_80 : decode cX5_take 80 = .ok (.goto 9, 3) := by decide +kernel
theorem dX5_take_83 : decode cX5_take 83 = .ok (.aload_n 0, 1) := by decide +kernel
theorem dX5_take_84 : decode cX5_take 84 = .ok (.aload_n 1, 1) := by decide +kernel
theorem dX5_take_85 : decode cX5_take 85 = .ok (.iload_n 2, 1) := by decide +kernel
theorem dX5_take_86 : decode cX5_take 86 = .ok (.invokevirtual 88, 3) := by decide +kernel
theorem dX5_take_89 : decode cX5_take 89 = .ok (.return_, 1) := by decide +kernel
set_option maxRecDepth 20000 in
theorem ggX5_takeUnit_X5_hold : GoodIn wsX5_takeUnit wsX5_hold := goodIn_r _ [9, 10, 11, 19, 20, 21, 22, 23, 24] (by decide +kernel) (by decide +kernel)
set_option maxRecDepth 20000 in
theorem gX5_takeUnit_X5_hold : GoodIn wsX5_takeUnit (wsV RX5 91 RX5 yX5_hold wsX5_hold) := goodIn_app (goodIn_of _ (by decide +kernel)) ggX5_takeUnit_X5_hold
set_option maxRecDepth 20000 in
theorem ggX5_takeUnit_X10_emit : GoodIn wsX5_takeUnit wsX10_emit := goodIn_r _ [16, 17, 18, 30, 31, 32, 33, 34, 35, 36, 37] (by decide +kernel) (by decide +kernel)
set_option maxRecDepth 20000 in
theorem gX5_takeUnit_X10_emit : GoodIn wsX5_takeUnit (wsV RX5 97 RX10 yX10_emit wsX10_emit) := goodIn_app (goodIn_of _ (by decide +kernel)) ggX5_takeUnit_X10_emit
theorem dX5_takeUnit_0 : decode cX5_takeUnit 0 = .ok (.iload_n 2, 1) := by decide +kernel
theorem dX5_takeUnit_1 : decode cX5_takeUnit 1 = .ok (.bipush 23, 2) := by decide +kernel
theorem dX5_takeUnit_3 : decode cX5_takeUnit 3 = .ok (.if_icmp .ne 21, 3) := by decide +kernel
theorem dX5_takeUnit_6 : decode cX5_takeUnit 6 = .ok (.aload_n 0, 1) := by decide +kernel
theorem dX5_takeUnit_7 : decode cX5_takeUnit 7 = .ok (.iload_n 2, 1) := by decide +kernel
theorem dX5_takeUnit_8 : decode cX5_takeUnit 8 = .ok (.invokevirtual 91, 3) := by decide +kernel
theorem dX5_takeUnit_11 : decode cX5_takeUnit 11 = .ok (.aload_n 0, 1) := by decide +kernel
theorem dX5_takeUnit_12 : decode cX5_takeUnit 12 = .ok (.dup, 1) := by decide +kernel
theorem dX5_takeUnit_13 : decode cX5_takeUnit 13 = .ok (.getfield 32, 3) := by decide +kernel
theorem dX5_takeUnit_16 : decode cX5_takeUnit 16 = .ok (.iconst 1, 1) := by decide +kernel
theorem dX5_takeUnit_17 : decode cX5_takeUnit 17 = .ok (.iadd, 1) := by decide +kernel
theorem dX5_takeUnit_18 : decode cX5_takeUnit 18 = .ok (.putfield 32, 3) := by decide +kernel
theorem dX5_takeUnit_21 : decode cX5_takeUnit 21 = .ok (.goto 20, 3) := by decide +kernel
theorem dX5_takeUnit_24 : decode cX5_takeUnit 24 = .ok (.aload_n 1, 1) := by decide +kernel
theorem dX5_takeUnit_25 : decode cX5_takeUnit 25 = .ok (.iload_n 2, 1) := by decide +kernel
theorem dX5_takeUnit_26 : decode cX5_takeUnit 26 = .ok (.aload_n 0, 1) := by decide +kernel
theorem dX5_takeUnit_27 : decode cX5_takeUnit 27 = .ok (.getfield 18, 3) := by decide +kernel
theorem dX5_takeUnit_30 : decode cX5_takeUnit 30 = .ok (.getfield 94, 3) := by decide +kernel
theorem dX5_takeUnit_33 : decode cX5_takeUnit 33 = .ok (.invokevirtual 97, 3) := by decide +kernel
theorem dX5_takeUnit_36 : decode cX5_takeUnit 36 = .ok (.aload_n 0, 1) := by decide +kernel
theorem dX5_takeUnit_37 : decode cX5_takeUnit 37 = .ok (.iconst 3, 1) := by decide +kernel
theorem dX5_takeUnit_38 : decode cX5_takeUnit 38 = .ok (.putfield 26, 3) := by decide +kernel
theorem dX5_takeUnit_41 : decode cX5_takeUnit 41 = .ok (.return_, 1) := by decide +kernel
set_option maxRecDepth 20000 in
theorem ggX5_takeBehindUnit_X5_rankOf : GoodIn wsX5_takeBehindUnit wsX5_rankOf := goodIn_r _ [12, 13, 14, 11, 15] (by decide +kernel) (by decide +kernel)
set_option maxRecDepth 20000 in
theorem gX5_takeBehindUnit_X5_rankOf : GoodIn wsX5_takeBehindUnit (va_wsS RX5 101 yX5_rankOf wsX5_rankOf) := goodIn_app (goodIn_of _ (by decide +kernel)) ggX5_takeBehindUnit_X5_rankOf
set_option maxRecDepth 20000 in
theorem ggX5_takeBehindUnit_X5_release : GoodIn wsX5_takeBehindUnit wsX5_release := goodIn_r _ [19, 1, 20, 9, 10, 11, 12, 13, 14, 15, 21, 22, 23, 24, 25, 26, 27, 43, 44, 45, 46, 47, 48, 49, 50, 51, 52, 53, 54, 55, 56] (by decide +kernel) (by decide +kernel)
set_option maxRecDepth 20000 in
theorem gX5_takeBehindUnit_X5_release : GoodIn wsX5_takeBehindUnit (wsV RX5 105 RX5 yX5_release wsX5_release) := goodIn_app (goodIn_of _ (by decide +kernel)) ggX5_takeBehindUnit_X5_release
set_option maxRecDepth 20000 in
theorem ggX5_takeBehindUnit_X10_closeRule : GoodIn wsX5_takeBehindUnit wsX10_closeRule := goodIn_r _ [31, 32, 33, 26, 34, 49, 50, 51, 52, 53, 54, 55, 56] (by decide +kernel) (by decide +kernel)
set_option maxRecDepth 20000 in
theorem gX5_takeBehindUnit_X10_closeRule : GoodIn wsX5_takeBehindUnit (wsV RX5 114 RX10 yX10_closeRule wsX10_closeRule) := goodIn_app (goodIn_of _ (by decide +kernel)) ggX5_takeBehindUnit_X10_closeRule
set_option maxRecDepth 20000 in
theorem ggX5_takeBehindUnit_X10_openCondition : GoodIn wsX5_takeBehindUnit wsX10_openCondition := goodIn_r _ [38, 32, 34, 26, 49, 50, 51, 52, 53, 54, 55, 56] (by decide +kernel) (by decide +kernel)
set_option maxRecDepth 20000 in
theorem gX5_takeBehindUnit_X10_openCondition : GoodIn wsX5_takeBehindUnit (wsV RX5 117 RX10 yX10_openCondition wsX10_openCondition) := goodIn_app (goodIn_of _ (by decide +kernel)) ggX5_takeBehindUnit_X10_openCondition
set_option maxRecDepth 20000 in
theorem ggX5_takeBehindUnit_X5_hold : GoodIn wsX5_takeBehindUnit wsX5_hold := goodIn_r _ [42, 1, 20, 43, 44, 45, 46, 47, 48] (by decide +kernel) (by decide +kernel)
set_option maxRecDepth 20000 in
theorem gX5_takeBehindUnit_X5_hold : GoodIn wsX5_takeBehindUnit (wsV RX5 91 RX5 yX5_hold wsX5_hold) := goodIn_app (goodIn_of _ (by decide +kernel)) ggX5_takeBehindUnit_X5_hold
set_option maxRecDepth 20000 in
theorem ggX5_takeBehindUnit_X5_isRelation : GoodIn wsX5_takeBehindUnit wsX5_isRelation := goodIn_r _ [15] (by decide +kernel) (by decide +kernel)
set_option maxRecDepth 20000 in
theorem gX5_takeBehindUnit_X5_isRelation : GoodIn wsX5_takeBehindUnit (va_wsS RX5 74 yX5_isRelation wsX5_isRelation) := goodIn_app (goodIn_of _ (by decide +kernel)) ggX5_takeBehindUnit_X5_isRelation
theorem dX5_takeBehindUnit_0 : decode cX5_takeBehindUnit 0 = .ok (.aload_n 0, 1) := by decide +kernel
theorem dX5_takeBehindUnit_1 : decode cX5_takeBehindUnit 1 = .ok (.aload_n 1, 1) := by decide +kernel
theorem dX5_takeBehindUnit_2 : decode cX5_takeBehindUnit 2 = .ok (.iload_n 2, 1) := by decide +kernel
theorem dX5_takeBehindUnit_3 : decode cX5_takeBehindUnit 3 = .ok (.invokestatic 101, 3) := by decide +kernel
theorem dX5_takeBehindUnit_6 : decode cX5_takeBehindUnit 6 = .ok (.invokevirtual 105, 3) := by decide +kernel
theorem dX5_takeBehindUnit_9 : decode cX5_takeBehindUnit 9 = .ok (.iload_n 2, 1) := by decide +kernel
theorem dX5_takeBehindUnit_10 : decode cX5_takeBehindUnit 10 = .ok (.bipush 24, 2) := by decide +kernel
theorem dX5_takeBehindUnit_12 : decode cX5_takeBehindUnit 12 = .ok (.if_icmp .ne 30, 3) := by decide +kernel
theorem dX5_takeBehindUnit_15 : decode cX5_takeBehindUnit 15 = .ok (.aload_n 0, 1) := by decide +kernel
theorem dX5_takeBehindUnit_16 : decode cX5_takeBehindUnit 16 = .ok (.iconst 0, 1) := by decide +kernel
theorem dX5_takeBehindUnit_17 : decode cX5_takeBehindUnit 17 = .ok (.aload_n 0, 1) := by decide +kernel
theorem dX5_takeBehindUnit_18 : decode cX5_takeBehindUnit 18 = .ok (.getfield 22, 3) := by decide +kernel
theorem dX5_takeBehindUnit_21 : decode cX5_takeBehindUnit 21 = .ok (.iconst 1, 1) := by decide +kernel
theorem dX5_takeBehindUnit_22 : decode cX5_takeBehindUnit 22 = .ok (.isub, 1) := by decide +kernel
theorem dX5_takeBehindUnit_23 : decode cX5_takeBehindUnit 23 = .ok (.invokestatic 108, 3) := by decide +kernel
theorem dX5_takeBehindUnit_26 : decode cX5_takeBehindUnit 26 = .ok (.putfield 22, 3) := by decide +kernel
theorem dX5_takeBehindUnit_29 : decode cX5_takeBehindUnit 29 = .ok (.aload_n 0, 1) := by decide +kernel
theorem dX5_takeBehindUnit_30 : decode cX5_takeBehindUnit 30 = .ok (.dup, 1) := by decide +kernel
theorem dX5_takeBehindUnit_31 : decode cX5_takeBehindUnit 31 = .ok (.getfield 32, 3) := by decide +kernel
theorem dX5_takeBehindUnit_34 : decode cX5_takeBehindUnit 34 = .ok (.iconst 1, 1) := by decide +kernel
theorem dX5_takeBehindUnit_35 : decode cX5_takeBehindUnit 35 = .ok (.isub, 1) := by decide +kernel
theorem dX5_takeBehindUnit_36 : decode cX5_takeBehindUnit 36 = .ok (.putfield 32, 3) := by decide +kernel
theorem dX5_takeBehindUnit_39 : decode cX5_takeBehindUnit 39 = .ok (.goto 83, 3) := by decide +kernel
theorem dX5_takeBehindUnit_42 : decode cX5_takeBehindUnit 42 = .ok (.iload_n 2, 1) := by decide +kernel
theorem dX5_takeBehindUnit_43 : decode cX5_takeBehindUnit 43 = .ok (.bipush 15, 2) := by decide +kernel
theorem dX5_takeBehindUnit_45 : decode cX5_takeBehindUnit 45 = .ok (.if_icmp .ne 15, 3) := by decide +kernel
theorem dX5_takeBehindUnit_48 : decode cX5_takeBehindUnit 48 = .ok (.aload_n 1, 1) := by decide +kernel
theorem dX5_takeBehindUnit_49 : decode cX5_takeBehindUnit 49 = .ok (.invokevirtual 114, 3) := by decide +kernel
theorem dX5_takeBehindUnit_52 : decode cX5_takeBehindUnit 52 = .ok (.aload_n 0, 1) := by decide +kernel
theorem dX5_takeBehindUnit_53 : decode cX5_takeBehindUnit 53 = .ok (.iconst 0, 1) := by decide +kernel
theorem dX5_takeBehindUnit_54 : decode cX5_takeBehindUnit 54 = .ok (.putfield 26, 3) := by decide +kernel
theorem dX5_takeBehindUnit_57 : decode cX5_takeBehindUnit 57 = .ok (.goto 65, 3) := by decide +kernel
theorem dX5_takeBehindUnit_60 : decode cX5_takeBehindUnit 60 = .ok (.iload_n 2, 1) := by decide +kernel
theorem dX5_takeBehindUnit_61 : decode cX5_takeBehindUnit 61 = .ok (.iconst 3, 1) := by decide +kernel
theorem dX5_takeBehindUnit_62 : decode cX5_takeBehindUnit 62 = .ok (.if_icmp .ne 20, 3) := by decide +kernel
theorem dX5_takeBehindUnit_65 : decode cX5_takeBehindUnit 65 = .ok (.aload_n 1, 1) := by decide +kernel
theorem dX5_takeBehindUnit_66 : decode cX5_takeBehindUnit 66 = .ok (.invokevirtual 117, 3) := by decide +kernel
theorem dX5_takeBehindUnit_69 : decode cX5_takeBehindUnit 69 = .ok (.aload_n 0, 1) := by decide +kernel
theorem dX5_takeBehindUnit_70 : decode cX5_takeBehindUnit 70 = .ok (.iconst 1, 1) := by decide +kernel
theorem dX5_takeBehindUnit_71 : decode cX5_takeBehindUnit 71 = .ok (.putfield 29, 3) := by decide +kernel
theorem dX5_takeBehindUnit_74 : decode cX5_takeBehindUnit 74 = .ok (.aload_n 0, 1) := by decide +kernel
theorem dX5_takeBehindUnit_75 : decode cX5_takeBehindUnit 75 = .ok (.iconst 2, 1) := by decide +kernel
theorem dX5_takeBehindUnit_76 : decode cX5_takeBehindUnit 76 = .ok (.putfield 26, 3) := by decide +kernel
theorem dX5_takeBehindUnit_79 : decode cX5_takeBehindUnit 79 = .ok (.goto 43, 3) := by decide +kernel
theorem dX5_takeBehindUnit_82 : decode cX5_takeBehindUnit 82 = .ok (.aload_n 0, 1) := by decide +kernel
theorem dX5_takeBehindUnit_83 : decode cX5_takeBehindUnit 83 = .ok (.iload_n 2, 1) := by decide +kernel
theorem dX5_takeBehindUnit_84 : decode cX5_takeBehindUnit 84 = .ok (.invokevirtual 91, 3) := by decide +kernel
theorem dX5_takeBehindUnit_87 : decode cX5_takeBehindUnit 87 = .ok (.aload_n 0, 1) := by decide +kernel
theorem dX5_takeBehindUnit_88 : decode cX5_takeBehindUnit 88 = .ok (.iconst 2, 1) := by decide +kernel
theorem dX5_takeBehindUnit_89 : decode cX5_takeBehindUnit 89 = .ok (.putfield 26, 3) := by decide +kernel
theorem dX5_takeBehindUnit_92 : decode cX5_takeBehindUnit 92 = .ok (.iload_n 2, 1) := by decide +kernel
theorem dX5_takeBehindUnit_93 : decode cX5_takeBehindUnit 93 = .ok (.invokestatic 74, 3) := by decide +kernel
theorem dX5_takeBehindUnit_96 : decode cX5_takeBehindUnit 96 = .ok (.ifCond .eq 11, 3) := by decide +kernel
theorem dX5_takeBehindUnit_99 : decode cX5_takeBehindUnit 99 = .ok (.aload_n 0, 1) := by decide +kernel
theorem dX5_takeBehindUnit_100 : decode cX5_takeBehindUnit 100 = .ok (.iconst 2, 1) := by decide +kernel
theorem dX5_takeBehindUnit_101 : decode cX5_takeBehindUnit 101 = .ok (.putfield 29, 3) := by decide +kernel
theorem dX5_takeBehindUnit_104 : decode cX5_takeBehindUnit 104 = .ok (.goto 18, 3) := by decide +kernel
theorem dX5_takeBehindUnit_107 : decode cX5_takeBehindUnit 107 = .ok (.iload_n 2, 1) := by decide +kernel
theorem dX5_takeBehindUnit_108 : decode cX5_takeBehindUnit 108 = .ok (.iconst 5, 1) := by decide +kernel
theorem dX5_takeBehindUnit_109 : decode cX5_takeBehindUnit 109 = .ok (.if_icmp .eq 8, 3) := by decide +kernel
theorem dX5_takeBehindUnit_112 : decode cX5_takeBehindUnit 112 = .ok (.iload_n 2, 1) := by decide +kernel
theorem dX5_takeBehindUnit_113 : decode cX5_takeBehindUnit 113 = .ok (.iconst 4, 1) := by decide +kernel
theorem dX5_takeBehindUnit_114 : decode cX5_takeBehindUnit 114 = .ok (.if_icmp .ne 8, 3) := by decide +kernel
theorem dX5_takeBehindUnit_117 : decode cX5_takeBehindUnit 117 = .ok (.aload_n 0, 1) := by decide +kernel
theorem dX5_takeBehindUnit_118 : decode cX5_takeBehindUnit 118 = .ok (.iconst 1, 1) := by decide +kernel
theorem dX5_takeBehindUnit_119 : decode cX5_takeBehindUnit 119 = .ok (.putfield 29, 3) := by decide +kernel
theorem dX5_takeBehindUnit_122 : decode cX5_takeBehindUnit 122 = .ok (.return_, 1) := by decide +kernel
theorem dX5_hold_0 : decode cX5_hold 0 = .ok (.aload_n 0, 1) := by decide +kernel
theorem dX5_hold_1 : decode cX5_hold 1 = .ok (.getfield 22, 3) := by decide +kernel
theorem dX5_hold_4 : decode cX5_hold 4 = .ok (.bipush 24, 2) := by decide +kernel
theorem dX5_hold_6 : decode cX5_hold 6 = .ok (.if_icmp .ge 23, 3) := by decide +kernel
theorem dX5_hold_9 : decode cX5_hold 9 = .ok (.aload_n 0, 1) := by decide +kernel
theorem dX5_hold_10 : decode cX5_hold 10 = .ok (.getfield 9, 3) := by decide +kernel
theorem dX5_hold_13 : decode cX5_hold 13 = .ok (.aload_n 0, 1) := by decide +kernel
theorem dX5_hold_14 : decode cX5_hold 14 = .ok (.getfield 22, 3) := by decide +kernel
theorem dX5_hold_17 : decode cX5_hold 17 = .ok (.iload_n 1, 1) := by decide +kernel
theorem dX5_hold_18 : decode cX5_hold 18 = .ok (.iastore, 1) := by decide +kernel
theorem dX5_hold_19 : decode cX5_hold 19 = .ok (.aload_n 0, 1) := by decide +kernel
theorem dX5_hold_20 : decode cX5_hold 20 = .ok (.dup, 1) := by decide +kernel
theorem dX5_hold_21 : decode cX5_hold 21 = .ok (.getfield 22, 3) := by decide +kernel
theorem dX5_hold_24 : decode cX5_hold 24 = .ok (.iconst 1, 1) := by decide +kernel
theorem dX5_hold_25 : decode cX5_hold 25 = .ok (.iadd, 1) := by decide +kernel
theorem dX5_hold_26 : decode cX5_hold 26 = .ok (.putfield 22, 3) := by decide +kernel
theorem dX5_hold_29 : decode cX5_hold 29 = .ok (.return_, 1) := by decide +kernel
set_option maxRecDepth 20000 in
theorem ggX5_release_X5_rankOf : GoodIn wsX5_release wsX5_rankOf := goodIn_r _ [6, 7, 8, 5, 9] (by decide +kernel) (by decide +kernel)
set_option maxRecDepth 20000 in
theorem gX5_release_X5_rankOf : GoodIn wsX5_release (va_wsS RX5 101 yX5_rankOf wsX5_rankOf) := goodIn_app (goodIn_of _ (by decide +kernel)) ggX5_release_X5_rankOf
set_option maxRecDepth 20000 in
theorem ggX5_release_X10_emit : GoodIn wsX5_release wsX10_emit := goodIn_r _ [14, 15, 16, 23, 24, 25, 26, 27, 28, 29, 30] (by decide +kernel) (by decide +kernel)
set_option maxRecDepth 20000 in
theorem gX5_release_X10_emit : GoodIn wsX5_release (wsV RX5 97 RX10 yX10_emit wsX10_emit) := goodIn_app (goodIn_of _ (by decide +kernel)) ggX5_release_X10_emit
theorem dX5_release_0 : decode cX5_release 0 = .ok (.aload_n 0, 1) := by decide +kernel
theorem dX5_release_1 : decode cX5_release 1 = .ok (.getfield 22, 3) := by decide +kernel
theorem dX5_release_4 : decode cX5_release 4 = .ok (.ifCond .le 64, 3) := by decide +kernel
theorem dX5_release_7 : decode cX5_release 7 = .ok (.aload_n 0, 1) := by decide +kernel
theorem dX5_release_8 : decode cX5_release 8 = .ok (.getfield 9, 3) := by decide +kernel
theorem dX5_release_11 : decode cX5_release 11 = .ok (.aload_n 0, 1) := by decide +kernel
theorem dX5_release_12 : decode cX5_release 12 = .ok (.getfield 22, 3) := by decide +kernel
theorem dX5_release_15 : decode cX5_release 15 = .ok (.iconst 1, 1) := by decide +kernel
theorem dX5_release_16 : decode cX5_release 16 = .ok (.isub, 1) := by decide +kernel
theorem dX5_release_17 : decode cX5_release 17 = .ok (.iaload, 1) := by decide +kernel
theorem dX5_release_18 : decode cX5_release 18 = .ok (.bipush 23, 2) := by decide +kernel
theorem dX5_release_20 : decode cX5_release 20 = .ok (.if_icmp .eq 48, 3) := by decide +kernel
theorem dX5_release_23 : decode cX5_release 23 = .ok (.aload_n 0, 1) := by decide +kernel
theorem dX5_release_24 : decode cX5_release 24 = .ok (.getfield 9, 3) := by decide +kernel
theorem dX5_release_27 : decode cX5_release 27 = .ok (.aload_n 0, 1) := by decide +kernel
theorem dX5_release_28 : decode cX5_release 28 = .ok (.getfield 22, 3) := by decide +kernel
theorem dX5_release_31 : decode cX5_release 31 = .ok (.iconst 1, 1) := by decide +kernel
theorem dX5_release_32 : decode cX5_release 32 = .ok (.isub, 1) := by decide +kernel
theorem dX5_release_33 : decode cX5_release 33 = .ok (.iaload, 1) := by decide +kernel
theorem dX5_release_34 : decode cX5_release 34 = .ok (.invokestatic 101, 3) := by decide +kernel
theorem dX5_release_37 : decode cX5_release 37 = .ok (.iload_n 2, 1) := by decide +kernel
theorem dX5_release_38 : decode cX5_release 38 = .ok (.if_icmp .lt 30, 3) := by decide +kernel
theorem dX5_release_41 : decode cX5_release 41 = .ok (.aload_n 0, 1) := by decide +kernel
theorem dX5_release_42 : decode cX5_release 42 = .ok (.dup, 1) := by decide +kernel
theorem dX5_release_43 : decode cX5_release 43 = .ok (.getfield 22, 3) := by decide +kernel
theorem dX5_release_46 : decode cX5_release 46 = .ok (.iconst 1, 1) := by decide +kernel
theorem dX5_release_47 : decode cX5_release 47 = .ok (.isub, 1) := by decide +kernel
theorem dX5_release_48 : decode cX5_release 48 = .ok (.putfield 22, 3) := by decide +kernel
theorem dX5_release_51 : decode cX5_release 51 = .ok (.aload_n 1, 1) := by decide +kernel
theorem dX5_release_52 : decode cX5_release 52 = .ok (.aload_n 0, 1) := by decide +kernel
theorem dX5_release_53 : decode cX5_release 53 = .ok (.getfield 9, 3) := by decide +kernel
theorem dX5_release_56 : decode cX5_release 56 = .ok (.aload_n 0, 1) := by decide +kernel
theorem dX5_release_57 : decode cX5_release 57 = .ok (.getfield 22, 3) := by decide +kernel
theorem dX5_release_60 : decode cX5_release 60 = .ok (.iaload, 1) := by decide +kernel
theorem dX5_release_61 : decode cX5_release 61 = .ok (.iconst 0, 1) := by decide +kernel
theorem dX5_release_62 : decode cX5_release 62 = .ok (.invokevirtual 97, 3) := by decide +kernel
theorem dX5_release_65 : decode cX5_release 65 = .ok (.goto (-65), 3) := by decide +kernel
theorem dX5_release_68 : decode cX5_release 68 = .ok (.return_, 1) := by decide +kernel
set_option maxRecDepth 20000 in
theorem ggX5_rankOf_X5_isRelation : GoodIn wsX5_rankOf wsX5_isRelation := goodIn_r _ [4] (by decide +kernel) (by decide +kernel)
set_option maxRecDepth 20000 in
theorem gX5_rankOf_X5_isRelation : GoodIn wsX5_rankOf (va_wsS RX5 74 yX5_isRelation wsX5_isRelation) := goodIn_app (goodIn_of _ (by decide +kernel)) ggX5_rankOf_X5_isRelation
theorem dX5_rankOf_0 : decode cX5_rankOf 0 = .ok (.iload_n 0, 1) := by decide +kernel
theorem dX5_rankOf_1 : decode cX5_rankOf 1 = .ok (.tableswitch 83 4 18 #[81, 79, 83, 83, 83, 83, 83, 83, 83, 83, 83, 83, 77, 77, 75], 75) := by decide +kernel
theorem dX5_rankOf_76 : decode cX5_rankOf 76 = .ok (.iconst 5, 1) := by decide +kernel
theorem dX5_rankOf_77 : decode cX5_rankOf 77 = .ok (.ireturn, 1) := by decide +kernel
theorem dX5_rankOf_78 : decode cX5_rankOf 78 = .ok (.iconst 4, 1) := by decide +kernel
theorem dX5_rankOf_79 : decode cX5_rankOf 79 = .ok (.ireturn, 1) := by decide +kernel
theorem dX5_rankOf_80 : decode cX5_rankOf 80 = .ok (.iconst 2, 1) := by decide +kernel
theorem dX5_rankOf_81 : decode cX5_rankOf 81 = .ok (.ireturn, 1) := by decide +kernel
theorem dX5_rankOf_82 : decode cX5_rankOf 82 = .ok (.iconst 1, 1) := by decide +kernel
theorem dX5_rankOf_83 : decode cX5_rankOf 83 = .ok (.ireturn, 1) := by decide +kernel
theorem dX5_rankOf_84 : decode cX5_rankOf 84 = .ok (.iload_n 0, 1) := by decide +kernel
theorem dX5_rankOf_85 : decode cX5_rankOf 85 = .ok (.invokestatic 74, 3) := by decide +kernel
theorem dX5_rankOf_88 : decode cX5_rankOf 88 = .ok (.ifCond .eq 7, 3) := by decide +kernel
theorem dX5_rankOf_91 : decode cX5_rankOf 91 = .ok (.iconst 3, 1) := by decide +kernel
theorem dX5_rankOf_92 : decode cX5_rankOf 92 = .ok (.goto 4, 3) := by decide +kernel
theorem dX5_rankOf_95 : decode cX5_rankOf 95 = .ok (.iconst 0, 1) := by decide +kernel
theorem dX5_rankOf_96 : decode cX5_rankOf 96 = .ok (.ireturn, 1) := by decide +kernel
theorem dX5_isVar_0 : decode cX5_isVar 0 = .ok (.iload_n 0, 1) := by decide +kernel
theorem dX5_isVar_1 : decode cX5_isVar 1 = .ok (.bipush 6, 2) := by decide +kernel
theorem dX5_isVar_3 : decode cX5_isVar 3 = .ok (.if_icmp .lt 13, 3) := by decide +kernel
theorem dX5_isVar_6 : decode cX5_isVar 6 = .ok (.iload_n 0, 1) := by decide +kernel
theorem dX5_isVar_7 : decode cX5_isVar 7 = .ok (.bipush 14, 2) := by decide +kernel
theorem dX5_isVar_9 : decode cX5_isVar 9 = .ok (.if_icmp .gt 7, 3) := by decide +kernel
theorem dX5_isVar_12 : decode cX5_isVar 12 = .ok (.iconst 1, 1) := by decide +kernel
theorem dX5_isVar_13 : decode cX5_isVar 13 = .ok (.goto 4, 3) := by decide +kernel
theorem dX5_isVar_16 : decode cX5_isVar 16 = .ok (.iconst 0, 1) := by decide +kernel
theorem dX5_isVar_17 : decode cX5_isVar 17 = .ok (.ireturn, 1) := by decide +kernel
theorem dX5_isRelation_0 : decode cX5_isRelation 0 = .ok (.iload_n 0, 1) := by decide +kernel
theorem dX5_isRelation_1 : decode cX5_isRelation 1 = .ok (.bipush 19, 2) := by decide +kernel
theorem dX5_isRelation_3 : decode cX5_isRelation 3 = .ok (.if_icmp .lt 13, 3) := by decide +kernel
theorem dX5_isRelation_6 : decode cX5_isRelation 6 = .ok (.iload_n 0, 1) := by decide +kernel
theorem dX5_isRelation_7 : decode cX5_isRelation 7 = .ok (.bipush 22, 2) := by decide +kernel
theorem dX5_isRelation_9 : decode cX5_isRelation 9 = .ok (.if_icmp .gt 7, 3) := by decide +kernel
theorem dX5_isRelation_12 : decode cX5_isRelation 12 = .ok (.iconst 1, 1) := by decide +kernel
theorem dX5_isRelation_13 : decode cX5_isRelation 13 = .ok (.goto 4, 3) := by decide +kernel
theorem dX5_isRelation_16 : decode cX5_isRelation 16 = .ok (.iconst 0, 1) := by decide +kernel
theorem dX5_isRelation_17 : decode cX5_isRelation 17 = .ok (.ireturn, 1) := by decide +kernel
set_option maxRecDepth 20000 in
theorem ggX6_init_X6_restart : GoodIn wsX6_init wsX6_restart := goodIn_r _ [9, 10, 11, 12, 13, 14, 15, 16, 17, 18] (by decide +kernel) (by decide +kernel)
set_option maxRecDepth 20000 in
theorem gX6_init_X6_restart : GoodIn wsX6_init (wsV RX6 13 RX6 yX6_restart wsX6_restart) := goodIn_app (goodIn_of _ (by decide +kernel)) ggX6_init_X6_restart
theorem dX6_init_0 : decode cX6_init 0 = .ok (.aload_n 0, 1) := by decide +kernel
theorem dX6_init_1 : decode cX6_init 1 = .ok (.invokespecial 1, 3) := by decide +kernel
theorem dX6_init_4 : decode cX6_init 4 = .ok (.aload_n 0, 1) := by decide +kernel
theorem dX6_init_5 : decode cX6_init 5 = .ok (.aload_n 1, 1) := by decide +kernel
theorem dX6_init_6 : decode cX6_init 6 = .ok (.putfield 7, 3) := by decide +kernel
theorem dX6_init_9 : decode cX6_init 9 = .ok (.aload_n 0, 1) := by decide +kernel
theorem dX6_init_10 : decode cX6_init 10 = .ok (.invokevirtual 13, 3) := by decide +kernel
theorem dX6_init_13 : decode cX6_init 13 = .ok (.return_, 1) := by decide +kernel
theorem dX6_restart_0 : decode cX6_restart 0 = .ok (.aload_n 0, 1) := by decide +kernel
theorem dX6_restart_1 : decode cX6_restart 1 = .ok (.iconst 0, 1) := by decide +kernel
theorem dX6_restart_2 : decode cX6_restart 2 = .ok (.putfield 16, 3) := by decide +kernel
theorem dX6_restart_5 : decode cX6_restart 5 = .ok (.aload_n 0, 1) := by decide +kernel
theorem dX6_restart_6 : decode cX6_restart 6 = .ok (.bipush 26, 2) := by decide +kernel
theorem dX6_restart_8 : decode cX6_restart 8 = .ok (.putfield 20, 3) := by decide +kernel
theorem dX6_restart_11 : decode cX6_restart 11 = .ok (.aload_n 0, 1) := by decide +kernel
theorem dX6_restart_12 : decode cX6_restart 12 = .ok (.iconst 0, 1) := by decide +kernel
theorem dX6_restart_13 : decode cX6_restart 13 = .ok (.putfield 23, 3) := by decide +kernel
theorem dX6_restart_16 : decode cX6_restart 16 = .ok (.aload_n 0, 1) := by decide +kernel
theorem dX6_restart_17 : decode cX6_restart 17 = .ok (.iconst 0, 1) := by decide +kernel
theorem dX6_restart_18 : decode cX6_restart 18 = .ok (.putfield 26, 3) := by decide +kernel
theorem dX6_restart_21 : decode cX6_restart 21 = .ok (.return_, 1) := by decide +kernel
set_option maxRecDepth 20000 in
theorem ggX6_advance_X9_byteAt : GoodIn wsX6_advance wsX9_byteAt := goodIn_r _ [11, 12, 13, 100, 101] (by decide +kernel) (by decide +kernel)
set_option maxRecDepth 20000 in
theorem gX6_advance_X9_byteAt : GoodIn wsX6_advance (wsV RX6 34 RX9 yX9_byteAt wsX9_byteAt) := goodIn_app (goodIn_of _ (by decide +kernel)) ggX6_advance_X9_byteAt
set_option maxRecDepth 20000 in
theorem ggX6_advance_X6_isBlank : GoodIn wsX6_advance wsX6_isBlank := goodIn_r _ [17] (by decide +kernel) (by decide +kernel)
set_option maxRecDepth 20000 in
theorem gX6_advance_X6_isBlank : GoodIn wsX6_advance (va_wsS RX6 38 yX6_isBlank wsX6_isBlank) := goodIn_app (goodIn_of _ (by decide +kernel)) ggX6_advance_X6_isBlank
set_option maxRecDepth 20000 in
theorem ggX6_advance_X6_isLetter : GoodIn wsX6_advance wsX6_isLetter := goodIn_r _ [20] (by decide +kernel) (by decide +kernel)
set_option maxRecDepth 20000 in
theorem gX6_advance_X6_isLetter : GoodIn wsX6_advance (va_wsS RX6 42 yX6_isLetter wsX6_isLetter) := goodIn_app (goodIn_of _ (by decide +kernel)) ggX6_advance_X6_isLetter
set_option maxRecDepth 20000 in
theorem ggX6_advance_X6_takeWord : GoodIn wsX6_advance wsX6_takeWord := goodIn_r _ [24, 1, 2, 3, 6, 7, 8, 9, 10, 11, 12, 13, 18, 19, 16, 20, 25, 26, 27, 28, 4, 29, 30, 31, 32, 33, 34, 35, 36, 37, 38, 39, 40, 41, 42, 43, 44, 45, 46, 47, 48, 49, 50, 51, 52, 53, 54, 55, 56, 57, 58, 59, 60, 61, 62, 63, 64, 65, 66, 67, 68, 69, 70, 71, 72, 73, 74, 75, 76, 77, 95, 96, 97, 98, 99, 100, 101] (by decide +kernel) (by decide +kernel)
set_option maxRecDepth 20000 in
theorem gX6_advance_X6_takeWord : GoodIn wsX6_advance (wsV RX6 45 RX6 yX6_takeWord wsX6_takeWord) := goodIn_app (goodIn_of _ (by decide +kernel)) ggX6_advance_X6_takeWord
set_option maxRecDepth 20000 in
theorem ggX6_advance_X6_isDigit : GoodIn wsX6_advance wsX6_isDigit := goodIn_r _ [80] (by decide +kernel) (by decide +kernel)
set_option maxRecDepth 20000 in
theorem gX6_advance_X6_isDigit : GoodIn wsX6_advance (va_wsS RX6 48 yX6_isDigit wsX6_isDigit) := goodIn_app (goodIn_of _ (by decide +kernel)) ggX6_advance_X6_isDigit
set_option maxRecDepth 20000 in
theorem ggX6_advance_X6_takeInt : GoodIn wsX6_advance wsX6_takeInt := goodIn_r _ [84, 1, 2, 3, 5, 4, 6, 7, 8, 9, 10, 11, 12, 13, 78, 79, 16, 80, 95, 96, 97, 98, 99, 100, 101] (by decide +kernel) (by decide +kernel)
set_option maxRecDepth 20000 in
theorem gX6_advance_X6_takeInt : GoodIn wsX6_advance (wsV RX6 51 RX6 yX6_takeInt wsX6_takeInt) := goodIn_app (goodIn_of _ (by decide +kernel)) ggX6_advance_X6_takeInt
set_option maxRecDepth 20000 in
theorem ggX6_advance_X6_takeSign : GoodIn wsX6_advance wsX6_takeSign := goodIn_r _ [88, 1, 2, 6, 7, 8, 9, 10, 11, 12, 13, 89, 90, 16, 91, 92, 93, 94, 95, 96, 97, 98, 99, 100, 101] (by decide +kernel) (by decide +kernel)
set_option maxRecDepth 20000 in
theorem gX6_advance_X6_takeSign : GoodIn wsX6_advance (wsV RX6 54 RX6 yX6_takeSign wsX6_takeSign) := goodIn_app (goodIn_of _ (by decide +kernel)) ggX6_advance_X6_takeSign
theorem dX6_advance_0 : decode cX6_advance 0 = .ok (.aload_n 0, 1) := by decide +kernel
theorem dX6_advance_1 : decode cX6_advance 1 = .ok (.getfield 16, 3) := by decide +kernel
theorem dX6_advance_4 : decode cX6_advance 4 = .ok (.aload_n 0, 1) := by decide +kernel
theorem dX6_advance_5 : decode cX6_advance 5 = .ok (.getfield 7, 3) := by decide +kernel
theorem dX6_advance_8 : decode cX6_advance 8 = .ok (.getfield 29, 3) := by decide +kernel
theorem dX6_advance_11 : decode cX6_advance 11 = .ok (.if_icmp .ge 33, 3) := by decide +kernel
theorem dX6_advance_14 : decode cX6_advance 14 = .ok (.aload_n 0, 1) := by decide +kernel
theorem dX6_advance_15 : decode cX6_advance 15 = .ok (.getfield 7, 3) := by decide +kernel
theorem dX6_advance_18 : decode cX6_advance 18 = .ok (.aload_n 0, 1) := by decide +kernel
theorem dX6_advance_19 : decode cX6_advance 19 = .ok (.getfield 16, 3) := by decide +kernel
theorem dX6_advance_22 : decode cX6_advance 22 = .ok (.invokevirtual 34, 3) := by decide +kernel
theorem dX6_advance_25 : decode cX6_advance 25 = .ok (.invokestatic 38, 3) := by decide +kernel
theorem dX6_advance_28 : decode cX6_advance 28 = .ok (.ifCond .eq 16, 3) := by decide +kernel
theorem dX6_advance_31 : decode cX6_advance 31 = .ok (.aload_n 0, 1) := by decide +kernel
theorem dX6_advance_32 : decode cX6_advance 32 = .ok (.dup, 1) := by decide +kernel
theorem dX6_advance_33 : decode cX6_advance 33 = .ok (.getfield 16, 3) := by decide +kernel
theorem dX6_advance_36 : decode cX6_advance 36 = .ok (.iconst 1, 1) := by decide +kernel
theorem dX6_advance_37 : decode cX6_advance 37 = .ok (.iadd, 1) := by decide +kernel
theorem dX6_advance_38 : decode cX6_advance 38 = .ok (.putfield 16, 3) := by decide +kernel
theorem dX6_advance_41 : decode cX6_advance 41 = .ok (.goto (-41), 3) := by decide +kernel
theorem dX6_advance_44 : decode cX6_advance 44 = .ok (.aload_n 0, 1) := by decide +kernel
theorem dX6_advance_45 : decode cX6_advance 45 = .ok (.aload_n 0, 1) := by decide +kernel
theorem dX6_advance_46 : decode cX6_advance 46 = .ok (.getfield 16, 3) := by decide +kernel
theorem dX6_advance_49 : decode cX6_advance 49 = .ok (.putfield 26, 3) := by decide +kernel
theorem dX6_advance_52 : decode cX6_advance 52 = .ok (.aload_n 0, 1) := by decide +kernel
theorem dX6_advance_53 : decode cX6_advance 53 = .ok (.iconst 0, 1) := by decide +kernel
theorem dX6_advance_54 : decode cX6_advance 54 = .ok (.putfield 23, 3) := by decide +kernel
theorem dX6_advance_57 : decode cX6_advance 57 = .ok (.aload_n 0, 1) := by decide +kernel
theorem dX6_advance_58 : decode cX6_advance 58 = .ok (.getfield 7, 3) := by decide +kernel
theorem dX6_advance_61 : decode cX6_advance 61 = .ok (.aload_n 0, 1) := by decide +kernel
theorem dX6_advance_62 : decode cX6_advance 62 = .ok (.getfield 16, 3) := by decide +kernel
theorem dX6_advance_65 : decode cX6_advance 65 = .ok (.invokevirtual 34, 3) := by decide +kernel
theorem dX6_advance_68 : decode cX6_advance 68 = .ok (.istore_n 1, 1) := by decide +kernel
theorem dX6_advance_69 : decode cX6_advance 69 = .ok (.aload_n 0, 1) := by decide +kernel
theorem dX6_advance_70 : decode cX6_advance 70 = .ok (.getfield 16, 3) := by decide +kernel
theorem dX6_advance_73 : decode cX6_advance 73 = .ok (.aload_n 0, 1) := by decide +kernel
theorem dX6_advance_74 : decode cX6_advance 74 = .ok (.getfield 7, 3) := by decide +kernel
theorem dX6_advance_77 : decode cX6_advance 77 = .ok (.getfield 29, 3) := by decide +kernel
theorem dX6_advance_80 : decode cX6_advance 80 = .ok (.if_icmp .lt 12, 3) := by decide +kernel
theorem dX6_advance_83 : decode cX6_advance 83 = .ok (.aload_n 0, 1) := by decide +kernel
theorem dX6_advance_84 : decode cX6_advance 84 = .ok (.bipush 26, 2) := by decide +kernel
theorem dX6_advance_86 : decode cX6_advance 86 = .ok (.putfield 20, 3) := by decide +kernel
theorem dX6_advance_89 : decode cX6_advance 89 = .ok (.goto 36, 3) := by decide +kernel
theorem dX6_advance_92 : decode cX6_advance 92 = .ok (.iload_n 1, 1) := by decide +kernel
theorem dX6_advance_93 : decode cX6_advance 93 = .ok (.invokestatic 42, 3) := by decide +kernel
theorem dX6_advance_96 : decode cX6_advance 96 = .ok (.ifCond .eq 10, 3) := by decide +kernel
theorem dX6_advance_99 : decode cX6_advance 99 = .ok (.aload_n 0, 1) := by decide +kernel
theorem dX6_advance_100 : decode cX6_advance 100 = .ok (.invokevirtual 45, 3) := by decide +kernel
theorem dX6_advance_103 : decode cX6_advance 103 = .ok (.goto 22, 3) := by decide +kernel
theorem dX6_advance_106 : decode cX6_advance 106 = .ok (.iload_n 1, 1) := by decide +kernel
theorem dX6_advance_107 : decode cX6_advance 107 = .ok (.invokestatic 48, 3) := by decide +kernel
theorem dX6_advance_110 : decode cX6_advance 110 = .ok (.ifCond .eq 10, 3) := by decide +kernel
theorem dX6_advance_113 : decode cX6_advance 113 = .ok (.aload_n 0, 1) := by decide +kernel
theorem dX6_advance_114 : decode cX6_advance 114 = .ok (.invokevirtual 51, 3) := by decide +kernel
theorem dX6_advance_117 : decode cX6_advance 117 = .ok (.goto 8, 3) := by decide +kernel
theorem dX6_advance_120 : decode cX6_advance 120 = .ok (.aload_n 0, 1) := by decide +kernel
theorem dX6_advance_121 : decode cX6_advance 121 = .ok (.iload_n 1, 1) := by decide +kernel
theorem dX6_advance_122 : decode cX6_advance 122 = .ok (.invokevirtual 54, 3) := by decide +kernel
theorem dX6_advance_125 : decode cX6_advance 125 = .ok (.return_, 1) := by decide +kernel
set_option maxRecDepth 20000 in
theorem ggX6_takeWord_X9_byteAt : GoodIn wsX6_takeWord wsX9_byteAt := goodIn_r _ [9, 10, 11, 75, 76] (by decide +kernel) (by decide +kernel)
set_option maxRecDepth 20000 in
theorem gX6_takeWord_X9_byteAt : GoodIn wsX6_takeWord (wsV RX6 34 RX9 yX9_byteAt wsX9_byteAt) := goodIn_app (goodIn_of _ (by decide +kernel)) ggX6_takeWord_X9_byteAt
set_option maxRecDepth 20000 in
theorem ggX6_takeWord_X6_isLetter : GoodIn wsX6_takeWord wsX6_isLetter := goodIn_r _ [15] (by decide +kernel) (by decide +kernel)
set_option maxRecDepth 20000 in
theorem gX6_takeWord_X6_isLetter : GoodIn wsX6_takeWord (va_wsS RX6 42 yX6_isLetter wsX6_isLetter) := goodIn_app (goodIn_of _ (by decide +kernel)) ggX6_takeWord_X6_isLetter
set_option maxRecDepth 20000 in
theorem ggX6_takeWord_X6_isWord : GoodIn wsX6_takeWord wsX6_isWord := goodIn_r _ [19, 1, 20, 2, 5, 6, 7, 8, 9, 10, 11, 21, 22, 23, 24, 25, 26, 27, 28, 29, 30, 31, 32, 33, 34, 35, 36, 37, 38, 39, 40, 41, 42, 43, 44, 45, 46, 47, 48, 49, 50, 51, 52, 53, 54, 55, 56, 57, 58, 59, 60, 61, 62, 63, 64, 65, 66, 67, 68, 69, 70, 71, 72, 73, 74, 75, 76] (by decide +kernel) (by decide +kernel)
set_option maxRecDepth 20000 in
theorem gX6_takeWord_X6_isWord : GoodIn wsX6_takeWord (wsV RX6 58 RX6 yX6_isWord wsX6_isWord) := goodIn_app (goodIn_of _ (by decide +kernel)) ggX6_takeWord_X6_isWord
theorem dX6_takeWord_0 : decode cX6_takeWord 0 = .ok (.aload_n 0, 1) := by decide +kernel
theorem dX6_takeWord_1 : decode cX6_takeWord 1 = .ok (.getfield 16, 3) := by decide +kernel
theorem dX6_takeWord_4 : decode cX6_takeWord 4 = .ok (.aload_n 0, 1) := by decide +kernel
theorem dX6_takeWord_5 : decode cX6_takeWord 5 = .ok (.getfield 7, 3) := by decide +kernel
theorem dX6_takeWord_8 : decode cX6_takeWord 8 = .ok (.getfield 29, 3) := by decide +kernel
theorem dX6_takeWord_11 : decode cX6_takeWord 11 = .ok (.if_icmp .ge 33, 3) := by decide +kernel
theorem dX6_takeWord_14 : decode cX6_takeWord 14 = .ok (.aload_n 0, 1) := by decide +kernel
theorem dX6_takeWord_15 : decode cX6_takeWord 15 = .ok (.getfield 7, 3) := by decide +kernel
theorem dX6_takeWord_18 : decode cX6_takeWord 18 = .ok (.aload_n 0, 1) := by decide +kernel
theorem dX6_takeWord_19 : decode cX6_takeWord 19 = .ok (.getfield 16, 3) := by decide +kernel
theorem dX6_takeWord_22 : decode cX6_takeWord 22 = .ok (.invokevirtual 34, 3) := by decide +kernel
theorem dX6_takeWord_25 : decode cX6_takeWord 25 = .ok (.invokestatic 42, 3) := by decide +kernel
theorem dX6_takeWord_28 : decode cX6_takeWord 28 = .ok (.ifCond .eq 16, 3) := by decide +kernel
theorem dX6_takeWord_31 : decode cX6_takeWord 31 = .ok (.aload_n 0, 1) := by decide +kernel
theorem dX6_takeWord_32 : decode cX6_takeWord 32 = .ok (.dup, 1) := by decide +kernel
theorem dX6_takeWord_33 : decode cX6_takeWord 33 = .ok (.getfield 16, 3) := by decide +kernel
theorem dX6_takeWord_36 : decode cX6_takeWord 36 = .ok (.iconst 1, 1) := by decide +kernel
theorem dX6_takeWord_37 : decode cX6_takeWord 37 = .ok (.iadd, 1) := by decide +kernel
theorem dX6_takeWord_38 : decode cX6_takeWord 38 = .ok (.putfield 16, 3) := by decide +kernel
theorem dX6_takeWord_41 : decode cX6_takeWord 41 = .ok (.goto (-41), 3) := by decide +kernel
theorem dX6_takeWord_44 : decode cX6_takeWord 44 = .ok (.aload_n 0, 1) := by decide +kernel
theorem dX6_takeWord_45 : decode cX6_takeWord 45 = .ok (.bipush 27, 2) := by decide +kernel
theorem dX6_takeWord_47 : decode cX6_takeWord 47 = .ok (.putfield 20, 3) := by decide +kernel
theorem dX6_takeWord_50 : decode cX6_takeWord 50 = .ok (.iconst 0, 1) := by decide +kernel
theorem dX6_takeWord_51 : decode cX6_takeWord 51 = .ok (.istore_n 1, 1) := by decide +kernel
theorem dX6_takeWord_52 : decode cX6_takeWord 52 = .ok (.iload_n 1, 1) := by decide +kernel
theorem dX6_takeWord_53 : decode cX6_takeWord 53 = .ok (.bipush 14, 2) := by decide +kernel
theorem dX6_takeWord_55 : decode cX6_takeWord 55 = .ok (.if_icmp .gt 31, 3) := by decide +kernel
theorem dX6_takeWord_58 : decode cX6_takeWord 58 = .ok (.aload_n 0, 1) := by decide +kernel
theorem dX6_takeWord_59 : decode cX6_takeWord 59 = .ok (.getfield 20, 3) := by decide +kernel
theorem dX6_takeWord_62 : decode cX6_takeWord 62 = .ok (.bipush 27, 2) := by decide +kernel
theorem dX6_takeWord_64 : decode cX6_takeWord 64 = .ok (.if_icmp .ne 22, 3) := by decide +kernel
theorem dX6_takeWord_67 : decode cX6_takeWord 67 = .ok (.aload_n 0, 1) := by decide +kernel
theorem dX6_takeWord_68 : decode cX6_takeWord 68 = .ok (.iload_n 1, 1) := by decide +kernel
theorem dX6_takeWord_69 : decode cX6_takeWord 69 = .ok (.invokevirtual 58, 3) := by decide +kernel
theorem dX6_takeWord_72 : decode cX6_takeWord 72 = .ok (.ifCond .eq 8, 3) := by decide +kernel
theorem dX6_takeWord_75 : decode cX6_takeWord 75 = .ok (.aload_n 0, 1) := by decide +kernel
theorem dX6_takeWord_76 : decode cX6_takeWord 76 = .ok (.iload_n 1, 1) := by decide +kernel
theorem dX6_takeWord_77 : decode cX6_takeWord 77 = .ok (.putfield 20, 3) := by decide +kernel
theorem dX6_takeWord_80 : decode cX6_takeWord 80 = .ok (.iinc 1 1, 3) := by decide +kernel
theorem dX6_takeWord_83 : decode cX6_takeWord 83 = .ok (.goto (-31), 3) := by decide +kernel
theorem dX6_takeWord_86 : decode cX6_takeWord 86 = .ok (.return_, 1) := by decide +kernel
set_option maxRecDepth 20000 in
theorem ggX6_isWord_X9_byteAt : GoodIn wsX6_isWord wsX9_byteAt := goodIn_r _ [8, 9, 10, 65, 66] (by decide +kernel) (by decide +kernel)
set_option maxRecDepth 20000 in
theorem gX6_isWord_X9_byteAt : GoodIn wsX6_isWord (wsV RX6 34 RX9 yX9_byteAt wsX9_byteAt) := goodIn_app (goodIn_of _ (by decide +kernel)) ggX6_isWord_X9_byteAt
set_option maxRecDepth 20000 in
theorem ggX6_isWord_J0_length_8abf5 : GoodIn wsX6_isWord wsJ0_length_8abf5 := goodIn_r _ [15, 16, 17, 18, 19, 14, 20, 21, 22] (by decide +kernel) (by decide +kernel)
set_option maxRecDepth 20000 in
theorem gX6_isWord_J0_length_8abf5 : GoodIn wsX6_isWord (wsV RX6 63 RJ0 yJ0_length_8abf5 wsJ0_length_8abf5) := goodIn_app (goodIn_of _ (by decide +kernel)) ggX6_isWord_J0_length_8abf5
set_option maxRecDepth 20000 in
theorem ggX6_isWord_J0_charAt_5068e : GoodIn wsX6_isWord wsJ0_charAt_5068e := goodIn_r _ [26, 16, 27, 28, 29, 14, 30, 21, 22, 31, 32, 33, 34, 35, 36, 37, 38, 39, 40, 41, 42, 43, 44, 45, 46, 47, 48, 49, 50, 51, 52, 53, 54, 55, 56, 57, 58, 59] (by decide +kernel) (by decide +kernel)
set_option maxRecDepth 20000 in
theorem gX6_isWord_J0_charAt_5068e : GoodIn wsX6_isWord (wsV RX6 69 RJ0 yJ0_charAt_5068e wsJ0_charAt_5068e) := goodIn_app (goodIn_of _ (by decide +kernel)) ggX6_isWord_J0_charAt_5068e
theorem dX6_isWord_0 : decode cX6_isWord 0 = .ok (.aload_n 0, 1) := by decide +kernel
theorem dX6_isWord_1 : decode cX6_isWord 1 = .ok (.getfield 16, 3) := by decide +kernel
theorem dX6_isWord_4 : decode cX6_isWord 4 = .ok (.aload_n 0, 1) := by decide +kernel
theorem dX6_isWord_5 : decode cX6_isWord 5 = .ok (.getfield 26, 3) := by decide +kernel
theorem dX6_isWord_8 : decode cX6_isWord 8 = .ok (.isub, 1) := by decide +kernel
theorem dX6_isWord_9 : decode cX6_isWord 9 = .ok (.bipush 8, 2) := by decide +kernel
theorem dX6_isWord_11 : decode cX6_isWord 11 = .ok (.if_icmp .le 5, 3) := by decide +kernel
theorem dX6_isWord_14 : decode cX6_isWord 14 = .ok (.iconst 0, 1) := by decide +kernel
theorem dX6_isWord_15 : decode cX6_isWord 15 = .ok (.ireturn, 1) := by decide +kernel
theorem dX6_isWord_16 : decode cX6_isWord 16 = .ok (.iconst 0, 1) := by decide +kernel
theorem dX6_isWord_17 : decode cX6_isWord 17 = .ok (.istore_n 2, 1) := by decide +kernel
theorem dX6_isWord_18 : decode cX6_isWord 18 = .ok (.iload_n 2, 1) := by decide +kernel
theorem dX6_isWord_19 : decode cX6_isWord 19 = .ok (.bipush 8, 2) := by decide +kernel
theorem dX6_isWord_21 : decode cX6_isWord 21 = .ok (.if_icmp .ge 72, 3) := by decide +kernel
theorem dX6_isWord_24 : decode cX6_isWord 24 = .ok (.aload_n 0, 1) := by decide +kernel
theorem dX6_isWord_25 : decode cX6_isWord 25 = .ok (.getfield 26, 3) := by decide +kernel
theorem dX6_isWord_28 : decode cX6_isWord 28 = .ok (.iload_n 2, 1) := by decide +kernel
theorem dX6_isWord_29 : decode cX6_isWord 29 = .ok (.iadd, 1) := by decide +kernel
theorem dX6_isWord_30 : decode cX6_isWord 30 = .ok (.aload_n 0, 1) := by decide +kernel
theorem dX6_isWord_31 : decode cX6_isWord 31 = .ok (.getfield 16, 3) := by decide +kernel
theorem dX6_isWord_34 : decode cX6_isWord 34 = .ok (.if_icmp .ge 19, 3) := by decide +kernel
theorem dX6_isWord_37 : decode cX6_isWord 37 = .ok (.aload_n 0, 1) := by decide +kernel
theorem dX6_isWord_38 : decode cX6_isWord 38 = .ok (.getfield 7, 3) := by decide +kernel
theorem dX6_isWord_41 : decode cX6_isWord 41 = .ok (.aload_n 0, 1) := by decide +kernel
theorem dX6_isWord_42 : decode cX6_isWord 42 = .ok (.getfield 26, 3) := by decide +kernel
theorem dX6_isWord_45 : decode cX6_isWord 45 = .ok (.iload_n 2, 1) := by decide +kernel
theorem dX6_isWord_46 : decode cX6_isWord 46 = .ok (.iadd, 1) := by decide +kernel
theorem dX6_isWord_47 : decode cX6_isWord 47 = .ok (.invokevirtual 34, 3) := by decide +kernel
theorem dX6_isWord_50 : decode cX6_isWord 50 = .ok (.goto 5, 3) := by decide +kernel
theorem dX6_isWord_53 : decode cX6_isWord 53 = .ok (.bipush 32, 2) := by decide +kernel
theorem dX6_isWord_55 : decode cX6_isWord 55 = .ok (.istore_n 3, 1) := by decide +kernel
theorem dX6_isWord_56 : decode cX6_isWord 56 = .ok (.iload_n 1, 1) := by decide +kernel
theorem dX6_isWord_57 : decode cX6_isWord 57 = .ok (.bipush 8, 2) := by decide +kernel
theorem dX6_isWord_59 : decode cX6_isWord 59 = .ok (.imul, 1) := by decide +kernel
theorem dX6_isWord_60 : decode cX6_isWord 60 = .ok (.iload_n 2, 1) := by decide +kernel
theorem dX6_isWord_61 : decode cX6_isWord 61 = .ok (.iadd, 1) := by decide +kernel
theorem dX6_isWord_62 : decode cX6_isWord 62 = .ok (.istore 4, 2) := by decide +kernel
theorem dX6_isWord_64 : decode cX6_isWord 64 = .ok (.iload 4, 2) := by decide +kernel
theorem dX6_isWord_66 : decode cX6_isWord 66 = .ok (.ldc 61, 2) := by decide +kernel
theorem dX6_isWord_68 : decode cX6_isWord 68 = .ok (.invokevirtual 63, 3) := by decide +kernel
theorem dX6_isWord_71 : decode cX6_isWord 71 = .ok (.if_icmp .ge 14, 3) := by decide +kernel
theorem dX6_isWord_74 : decode cX6_isWord 74 = .ok (.ldc 61, 2) := by decide +kernel
theorem dX6_isWord_76 : decode cX6_isWord 76 = .ok (.iload 4, 2) := by decide +kernel
theorem dX6_isWord_78 : decode cX6_isWord 78 = .ok (.invokevirtual 69, 3) := by decide +kernel
theorem dX6_isWord_81 : decode cX6_isWord 81 = .ok (.iload_n 3, 1) := by decide +kernel
theorem dX6_isWord_82 : decode cX6_isWord 82 = .ok (.if_icmp .eq 5, 3) := by decide +kernel
theorem dX6_isWord_85 : decode cX6_isWord 85 = .ok (.iconst 0, 1) := by decide +kernel
theorem dX6_isWord_86 : decode cX6_isWord 86 = .ok (.ireturn, 1) := by decide +kernel
theorem dX6_isWord_87 : decode cX6_isWord 87 = .ok (.iinc 2 1, 3) := by decide +kernel
theorem dX6_isWord_90 : decode cX6_isWord 90 = .ok (.goto (-72), 3) := by decide +kernel
theorem dX6_isWord_93 : decode cX6_isWord 93 = .ok (.iconst 1, 1) := by decide +kernel
theorem dX6_isWord_94 : decode cX6_isWord 94 = .ok (.ireturn, 1) := by decide +kernel
set_option maxRecDepth 20000 in
theorem ggX6_takeInt_X9_byteAt : GoodIn wsX6_takeInt wsX9_byteAt := goodIn_r _ [11, 12, 13, 23, 24] (by decide +kernel) (by decide +kernel)
set_option maxRecDepth 20000 in
theorem gX6_takeInt_X9_byteAt : GoodIn wsX6_takeInt (wsV RX6 34 RX9 yX9_byteAt wsX9_byteAt) := goodIn_app (goodIn_of _ (by decide +kernel)) ggX6_takeInt_X9_byteAt
set_option maxRecDepth 20000 in
theorem ggX6_takeInt_X6_isDigit : GoodIn wsX6_takeInt wsX6_isDigit := goodIn_r _ [17] (by decide +kernel) (by decide +kernel)
set_option maxRecDepth 20000 in
theorem gX6_takeInt_X6_isDigit : GoodIn wsX6_takeInt (va_wsS RX6 48 yX6_isDigit wsX6_isDigit) := goodIn_app (goodIn_of _ (by decide +kernel)) ggX6_takeInt_X6_isDigit
theorem dX6_takeInt_0 : decode cX6_takeInt 0 = .ok (.aload_n 0, 1) := by decide +kernel
theorem dX6_takeInt_1 : decode cX6_takeInt 1 = .ok (.getfield 16, 3) := by decide +kernel
theorem dX6_takeInt_4 : decode cX6_takeInt 4 = .ok (.aload_n 0, 1) := by decide +kernel
theorem dX6_takeInt_5 : decode cX6_takeInt 5 = .ok (.getfield 7, 3) := by decide +kernel
theorem dX6_takeInt_8 : decode cX6_takeInt 8 = .ok (.getfield 29, 3) := by decide +kernel
theorem dX6_takeInt_11 : decode cX6_takeInt 11 = .ok (.if_icmp .ge 59, 3) := by decide +kernel
theorem dX6_takeInt_14 : decode cX6_takeInt 14 = .ok (.aload_n 0, 1) := by decide +kernel
theorem dX6_takeInt_15 : decode cX6_takeInt 15 = .ok (.getfield 7, 3) := by decide +kernel
theorem dX6_takeInt_18 : decode cX6_takeInt 18 = .ok (.aload_n 0, 1) := by decide +kernel
theorem dX6_takeInt_19 : decode cX6_takeInt 19 = .ok (.getfield 16, 3) := by decide +kernel
theorem dX6_takeInt_22 : decode cX6_takeInt 22 = .ok (.invokevirtual 34, 3) := by decide +kernel
theorem dX6_takeInt_25 : decode cX6_takeInt 25 = .ok (.invokestatic 48, 3) := by decide +kernel
theorem dX6_takeInt_28 : decode cX6_takeInt 28 = .ok (.ifCond .eq 42, 3) := by decide +kernel
theorem dX6_takeInt_31 : decode cX6_takeInt 31 = .ok (.aload_n 0, 1) := by decide +kernel
theorem dX6_takeInt_32 : decode cX6_takeInt 32 = .ok (.aload_n 0, 1) := by decide +kernel
theorem dX6_takeInt_33 : decode cX6_takeInt 33 = .ok (.getfield 23, 3) := by decide +kernel
theorem dX6_takeInt_36 : decode cX6_takeInt 36 = .ok (.bipush 10, 2) := by decide +kernel
theorem dX6_takeInt_38 : decode cX6_takeInt 38 = .ok (.imul, 1) := by decide +kernel
theorem dX6_takeInt_39 : decode cX6_takeInt 39 = .ok (.aload_n 0, 1) := by decide +kernel
theorem dX6_takeInt_40 : decode cX6_takeInt 40 = .ok (.getfield 7, 3) := by decide +kernel
theorem dX6_takeInt_43 : decode cX6_takeInt 43 = .ok (.aload_n 0, 1) := by decide +kernel
theorem dX6_takeInt_44 : decode cX6_takeInt 44 = .ok (.getfield 16, 3) := by decide +kernel
theorem dX6_takeInt_47 : decode cX6_takeInt 47 = .ok (.invokevirtual 34, 3) := by decide +kernel
theorem dX6_takeInt_50 : decode cX6_takeInt 50 = .ok (.iadd, 1) := by decide +kernel
theorem dX6_takeInt_51 : decode cX6_takeInt 51 = .ok (.bipush 48, 2) := by decide +kernel
theorem dX6_takeInt_53 : decode cX6_takeInt 53 = .ok (.isub, 1) := by decide +kernel
theorem dX6_takeInt_54 : decode cX6_takeInt 54 = .ok (.putfield 23, 3) := by decide +kernel
theorem dX6_takeInt_57 : decode cX6_takeInt 57 = .ok (.aload_n 0, 1) := by decide +kernel
theorem dX6_takeInt_58 : decode cX6_takeInt 58 = .ok (.dup, 1) := by decide +kernel
theorem dX6_takeInt_59 : decode cX6_takeInt 59 = .ok (.getfield 16, 3) := by decide +kernel
theorem dX6_takeInt_62 : decode cX6_takeInt 62 = .ok (.iconst 1, 1) := by decide +kernel
theorem dX6_takeInt_63 : decode cX6_takeInt 63 = .ok (.iadd, 1) := by decide +kernel
theorem dX6_takeInt_64 : decode cX6_takeInt 64 = .ok (.putfield 16, 3) := by decide +kernel
theorem dX6_takeInt_67 : decode cX6_takeInt 67 = .ok (.goto (-67), 3) := by decide +kernel
theorem dX6_takeInt_70 : decode cX6_takeInt 70 = .ok (.aload_n 0, 1) := by decide +kernel
theorem dX6_takeInt_71 : decode cX6_takeInt 71 = .ok (.aload_n 0, 1) := by decide +kernel
theorem dX6_takeInt_72 : decode cX6_takeInt 72 = .ok (.getfield 16, 3) := by decide +kernel
theorem dX6_takeInt_75 : decode cX6_takeInt 75 = .ok (.aload_n 0, 1) := by decide +kernel
theorem dX6_takeInt_76 : decode cX6_takeInt 76 = .ok (.getfield 26, 3) := by decide +kernel
theorem dX6_takeInt_79 : decode cX6_takeInt 79 = .ok (.isub, 1) := by decide +kernel
theorem dX6_takeInt_80 : decode cX6_takeInt 80 = .ok (.iconst 4, 1) := by decide +kernel
theorem dX6_takeInt_81 : decode cX6_takeInt 81 = .ok (.if_icmp .gt 8, 3) := by decide +kernel
theorem dX6_takeInt_84 : decode cX6_takeInt 84 = .ok (.bipush 25, 2) := by decide +kernel
theorem dX6_takeInt_86 : decode cX6_takeInt 86 = .ok (.goto 5, 3) := by decide +kernel
theorem dX6_takeInt_89 : decode cX6_takeInt 89 = .ok (.bipush 27, 2) := by decide +kernel
theorem dX6_takeInt_91 : decode cX6_takeInt 91 = .ok (.putfield 20, 3) := by decide +kernel
theorem dX6_takeInt_94 : decode cX6_takeInt 94 = .ok (.return_, 1) := by decide +kernel
set_option maxRecDepth 20000 in
theorem ggX6_takeSign_X9_byteAt : GoodIn wsX6_takeSign wsX9_byteAt := goodIn_r _ [8, 9, 10, 23, 24] (by decide +kernel) (by decide +kernel)
set_option maxRecDepth 20000 in
theorem gX6_takeSign_X9_byteAt : GoodIn wsX6_takeSign (wsV RX6 34 RX9 yX9_byteAt wsX9_byteAt) := goodIn_app (goodIn_of _ (by decide +kernel)) ggX6_takeSign_X9_byteAt
set_option maxRecDepth 20000 in
theorem ggX6_takeSign_X6_kindOfPair : GoodIn wsX6_takeSign wsX6_kindOfPair := goodIn_r _ [14] (by decide +kernel) (by decide +kernel)
set_option maxRecDepth 20000 in
theorem gX6_takeSign_X6_kindOfPair : GoodIn wsX6_takeSign (va_wsS RX6 73 yX6_kindOfPair wsX6_kindOfPair) := goodIn_app (goodIn_of _ (by decide +kernel)) ggX6_takeSign_X6_kindOfPair
set_option maxRecDepth 20000 in
theorem ggX6_takeSign_X6_kindOfSingle : GoodIn wsX6_takeSign wsX6_kindOfSingle := goodIn_r _ [17] (by decide +kernel) (by decide +kernel)
set_option maxRecDepth 20000 in
theorem gX6_takeSign_X6_kindOfSingle : GoodIn wsX6_takeSign (va_wsS RX6 76 yX6_kindOfSingle wsX6_kindOfSingle) := goodIn_app (goodIn_of _ (by decide +kernel)) ggX6_takeSign_X6_kindOfSingle
theorem dX6_takeSign_0 : decode cX6_takeSign 0 = .ok (.aload_n 0, 1) := by decide +kernel
theorem dX6_takeSign_1 : decode cX6_takeSign 1 = .ok (.dup, 1) := by decide +kernel
theorem dX6_takeSign_2 : decode cX6_takeSign 2 = .ok (.getfield 16, 3) := by decide +kernel
theorem dX6_takeSign_5 : decode cX6_takeSign 5 = .ok (.iconst 1, 1) := by decide +kernel
theorem dX6_takeSign_6 : decode cX6_takeSign 6 = .ok (.iadd, 1) := by decide +kernel
theorem dX6_takeSign_7 : decode cX6_takeSign 7 = .ok (.putfield 16, 3) := by decide +kernel
theorem dX6_takeSign_10 : decode cX6_takeSign 10 = .ok (.aload_n 0, 1) := by decide +kernel
theorem dX6_takeSign_11 : decode cX6_takeSign 11 = .ok (.getfield 7, 3) := by decide +kernel
theorem dX6_takeSign_14 : decode cX6_takeSign 14 = .ok (.aload_n 0, 1) := by decide +kernel
theorem dX6_takeSign_15 : decode cX6_takeSign 15 = .ok (.getfield 16, 3) := by decide +kernel
theorem dX6_takeSign_18 : decode cX6_takeSign 18 = .ok (.invokevirtual 34, 3) := by decide +kernel
theorem dX6_takeSign_21 : decode cX6_takeSign 21 = .ok (.bipush 61, 2) := by decide +kernel
theorem dX6_takeSign_23 : decode cX6_takeSign 23 = .ok (.if_icmp .ne 7, 3) := by decide +kernel
theorem dX6_takeSign_26 : decode cX6_takeSign 26 = .ok (.iconst 1, 1) := by decide +kernel
theorem dX6_takeSign_27 : decode cX6_takeSign 27 = .ok (.goto 4, 3) := by decide +kernel
theorem dX6_takeSign_30 : decode cX6_takeSign 30 = .ok (.iconst 0, 1) := by decide +kernel
theorem dX6_takeSign_31 : decode cX6_takeSign 31 = .ok (.istore_n 2, 1) := by decide +kernel
theorem dX6_takeSign_32 : decode cX6_takeSign 32 = .ok (.aload_n 0, 1) := by decide +kernel
theorem dX6_takeSign_33 : decode cX6_takeSign 33 = .ok (.iload_n 2, 1) := by decide +kernel
theorem dX6_takeSign_34 : decode cX6_takeSign 34 = .ok (.ifCond .eq 10, 3) := by decide +kernel
theorem dX6_takeSign_37 : decode cX6_takeSign 37 = .ok (.iload_n 1, 1) := by decide +kernel
theorem dX6_takeSign_38 : decode cX6_takeSign 38 = .ok (.invokestatic 73, 3) := by decide +kernel
theorem dX6_takeSign_41 : decode cX6_takeSign 41 = .ok (.goto 5, 3) := by decide +kernel
theorem dX6_takeSign_44 : decode cX6_takeSign 44 = .ok (.bipush 27, 2) := by decide +kernel
theorem dX6_takeSign_46 : decode cX6_takeSign 46 = .ok (.putfield 20, 3) := by decide +kernel
theorem dX6_takeSign_49 : decode cX6_takeSign 49 = .ok (.aload_n 0, 1) := by decide +kernel
theorem dX6_takeSign_50 : decode cX6_takeSign 50 = .ok (.getfield 20, 3) := by decide +kernel
theorem dX6_takeSign_53 : decode cX6_takeSign 53 = .ok (.bipush 27, 2) := by decide +kernel
theorem dX6_takeSign_55 : decode cX6_takeSign 55 = .ok (.if_icmp .ne 14, 3) := by decide +kernel
theorem dX6_takeSign_58 : decode cX6_takeSign 58 = .ok (.aload_n 0, 1) := by decide +kernel
theorem dX6_takeSign_59 : decode cX6_takeSign 59 = .ok (.iload_n 1, 1) := by decide +kernel
theorem dX6_takeSign_60 : decode cX6_takeSign 60 = .ok (.invokestatic 76, 3) := by decide +kernel
theorem dX6_takeSign_63 : decode cX6_takeSign 63 = .ok (.putfield 20, 3) := by decide +kernel
theorem dX6_takeSign_66 : decode cX6_takeSign 66 = .ok (.goto 13, 3) := by decide +kernel
theorem dX6_takeSign_69 : decode cX6_takeSign 69 = .ok (.aload_n 0, 1) := by decide +kernel
theorem dX6_takeSign_70 : decode cX6_takeSign 70 = .ok (.dup, 1) := by decide +kernel
theorem dX6_takeSign_71 : decode cX6_takeSign 71 = .ok (.getfield 16, 3) := by decide +kernel
theorem dX6_takeSign_74 : decode cX6_takeSign 74 = .ok (.iconst 1, 1) := by decide +kernel
theorem dX6_takeSign_75 : decode cX6_takeSign 75 = .ok (.iadd, 1) := by decide +kernel
theorem dX6_takeSign_76 : decode cX6_takeSign 76 = .ok (.putfield 16, 3) := by decide +kernel
theorem dX6_takeSign_79 : decode cX6_takeSign 79 = .ok (.return_, 1) := by decide +kernel
theorem dX6_kindOfPair_0 : decode cX6_kindOfPair 0 = .ok (.iload_n 0, 1) := by decide +kernel
theorem dX6_kindOfPair_1 : decode cX6_kindOfPair 1 = .ok (.lookupswitch 44 #[(33, 38), (60, 41), (61, 35)], 35) := by decide +kernel
theorem dX6_kindOfPair_36 : decode cX6_kindOfPair 36 = .ok (.bipush 19, 2) := by decide +kernel
theorem dX6_kindOfPair_38 : decode cX6_kindOfPair 38 = .ok (.ireturn, 1) := by decide +kernel
theorem dX6_kindOfPair_39 : decode cX6_kindOfPair 39 = .ok (.bipush 20, 2) := by decide +kernel
theorem dX6_kindOfPair_41 : decode cX6_kindOfPair 41 = .ok (.ireturn, 1) := by decide +kernel
theorem dX6_kindOfPair_42 : decode cX6_kindOfPair 42 = .ok (.bipush 22, 2) := by decide +kernel
theorem dX6_kindOfPair_44 : decode cX6_kindOfPair 44 = .ok (.ireturn, 1) := by decide +kernel
theorem dX6_kindOfPair_45 : decode cX6_kindOfPair 45 = .ok (.bipush 27, 2) := by decide +kernel
theorem dX6_kindOfPair_47 : decode cX6_kindOfPair 47 = .ok (.ireturn, 1) := by decide +kernel
theorem dX6_kindOfSingle_0 : decode cX6_kindOfSingle 0 = .ok (.iload_n 0, 1) := by decide +kernel
theorem dX6_kindOfSingle_1 : decode cX6_kindOfSingle 1 = .ok (.tableswitch 120 40 60 #[114, 117, 108, 102, 120, 105, 120, 120, 120, 120, 120, 120, 120, 120, 120, 120, 120, 120, 120, 99, 111], 99) := by decide +kernel
theorem dX6_kindOfSingle_100 : decode cX6_kindOfSingle 100 = .ok (.bipush 15, 2) := by decide +kernel
theorem dX6_kindOfSingle_102 : decode cX6_kindOfSingle 102 = .ok (.ireturn, 1) := by decide +kernel
theorem dX6_kindOfSingle_103 : decode cX6_kindOfSingle 103 = .ok (.bipush 16, 2) := by decide +kernel
theorem dX6_kindOfSingle_105 : decode cX6_kindOfSingle 105 = .ok (.ireturn, 1) := by decide +kernel
theorem dX6_kindOfSingle_106 : decode cX6_kindOfSingle 106 = .ok (.bipush 17, 2) := by decide +kernel
theorem dX6_kindOfSingle_108 : decode cX6_kindOfSingle 108 = .ok (.ireturn, 1) := by decide +kernel
theorem dX6_kindOfSingle_109 : decode cX6_kindOfSingle 109 = .ok (.bipush 18, 2) := by decide +kernel
theorem dX6_kindOfSingle_111 : decode cX6_kindOfSingle 111 = .ok (.ireturn, 1) := by decide +kernel
theorem dX6_kindOfSingle_112 : decode cX6_kindOfSingle 112 = .ok (.bipush 21, 2) := by decide +kernel
theorem dX6_kindOfSingle_114 : decode cX6_kindOfSingle 114 = .ok (.ireturn, 1) := by decide +kernel
theorem dX6_kindOfSingle_115 : decode cX6_kindOfSingle 115 = .ok (.bipush 23, 2) := by decide +kernel
theorem dX6_kindOfSingle_117 : decode cX6_kindOfSingle 117 = .ok (.ireturn, 1) := by decide +kernel
theorem dX6_kindOfSingle_118 : decode cX6_kindOfSingle 118 = .ok (.bipush 24, 2) := by decide +kernel
theorem dX6_kindOfSingle_120 : decode cX6_kindOfSingle 120 = .ok (.ireturn, 1) := by decide +kernel
theorem dX6_kindOfSingle_121 : decode cX6_kindOfSingle 121 = .ok (.bipush 27, 2) := by decide +kernel
theorem dX6_kindOfSingle_123 : decode cX6_kindOfSingle 123 = .ok (.ireturn, 1) := by decide +kernel
theorem dX6_isBlank_0 : decode cX6_isBlank 0 = .ok (.iload_n 0, 1) := by decide +kernel
theorem dX6_isBlank_1 : decode cX6_isBlank 1 = .ok (.bipush 9, 2) := by decide +kernel
theorem dX6_isBlank_3 : decode cX6_isBlank 3 = .ok (.if_icmp .eq 21, 3) := by decide +kernel
theorem dX6_isBlank_6 : decode cX6_isBlank 6 = .ok (.iload_n 0, 1) := by decide +kernel
theorem dX6_isBlank_7 : decode cX6_isBlank 7 = .ok (.bipush 10, 2) := by decide +kernel
theorem dX6_isBlank_9 : decode cX6_isBlank 9 = .ok (.if_icmp .eq 15, 3) := by decide +kernel
theorem dX6_isBlank_12 : decode cX6_isBlank 12 = .ok (.iload_n 0, 1) := by decide +kernel
theorem dX6_isBlank_13 : decode cX6_isBlank 13 = .ok (.bipush 13, 2) := by decide +kernel
theorem dX6_isBlank_15 : decode cX6_isBlank 15 = .ok (.if_icmp .eq 9, 3) := by decide +kernel
theorem dX6_isBlank_18 : decode cX6_isBlank 18 = .ok (.iload_n 0, 1) := by decide +kernel
theorem dX6_isBlank_19 : decode cX6_isBlank 19 = .ok (.bipush 32, 2) := by decide +kernel
theorem dX6_isBlank_21 : decode cX6_isBlank 21 = .ok (.if_icmp .ne 7, 3) := by decide +kernel
theorem dX6_isBlank_24 : decode cX6_isBlank 24 = .ok (.iconst 1, 1) := by decide +kernel
theorem dX6_isBlank_25 : decode cX6_isBlank 25 = .ok (.goto 4, 3) := by decide +kernel
theorem dX6_isBlank_28 : decode cX6_isBlank 28 = .ok (.iconst 0, 1) := by decide +kernel
theorem dX6_isBlank_29 : decode cX6_isBlank 29 = .ok (.ireturn, 1) := by decide +kernel
theorem dX6_isLetter_0 : decode cX6_isLetter 0 = .ok (.iload_n 0, 1) := by decide +kernel
theorem dX6_isLetter_1 : decode cX6_isLetter 1 = .ok (.bipush 97, 2) := by decide +kernel
theorem dX6_isLetter_3 : decode cX6_isLetter 3 = .ok (.if_icmp .lt 13, 3) := by decide +kernel
theorem dX6_isLetter_6 : decode cX6_isLetter 6 = .ok (.iload_n 0, 1) := by decide +kernel
theorem dX6_isLetter_7 : decode cX6_isLetter 7 = .ok (.bipush 122, 2) := by decide +kernel
theorem dX6_isLetter_9 : decode cX6_isLetter 9 = .ok (.if_icmp .gt 7, 3) := by decide +kernel
theorem dX6_isLetter_12 : decode cX6_isLetter 12 = .ok (.iconst 1, 1) := by decide +kernel
theorem dX6_isLetter_13 : decode cX6_isLetter 13 = .ok (.goto 4, 3) := by decide +kernel
theorem dX6_isLetter_16 : decode cX6_isLetter 16 = .ok (.iconst 0, 1) := by decide +kernel
theorem dX6_isLetter_17 : decode cX6_isLetter 17 = .ok (.ireturn, 1) := by decide +kernel
theorem dX6_isDigit_0 : decode cX6_isDigit 0 = .ok (.iload_n 0, 1) := by decide +kernel
theorem dX6_isDigit_1 : decode cX6_isDigit 1 = .ok (.bipush 48, 2) := by decide +kernel
theorem dX6_isDigit_3 : decode cX6_isDigit 3 = .ok (.if_icmp .lt 13, 3) := by decide +kernel
theorem dX6_isDigit_6 : decode cX6_isDigit 6 = .ok (.iload_n 0, 1) := by decide +kernel
theorem dX6_isDigit_7 : decode cX6_isDigit 7 = .ok (.bipush 57, 2) := by decide +kernel
theorem dX6_isDigit_9 : decode cX6_isDigit 9 = .ok (.if_icmp .gt 7, 3) := by decide +kernel
theorem dX6_isDigit_12 : decode cX6_isDigit 12 = .ok (.iconst 1, 1) := by decide +kernel
theorem dX6_isDigit_13 : decode cX6_isDigit 13 = .ok (.goto 4, 3) := by decide +kernel
theorem dX6_isDigit_16 : decode cX6_isDigit 16 = .ok (.iconst 0, 1) := by decide +kernel
theorem dX6_isDigit_17 : decode cX6_isDigit 17 = .ok (.ireturn, 1) := by decide +kernel
theorem dX7_init_0 : decode cX7_init 0 = .ok (.aload_n 0, 1) := by decide +kernel
theorem dX7_init_1 : decode cX7_init 1 = .ok (.invokespecial 3, 3) := by decide +kernel
theorem dX7_init_4 : decode cX7_init 4 = .ok (.aload_n 0, 1) := by decide +kernel
theorem dX7_init_5 : decode cX7_init 5 = .ok (.bipush 6, 2) := by decide +kernel
theorem dX7_init_7 : decode cX7_init 7 = .ok (.anewarray 9, 3) := by decide +kernel
theorem dX7_init_10 : decode cX7_init 10 = .ok (.putfield 11, 3) := by decide +kernel
theorem dX7_init_13 : decode cX7_init 13 = .ok (.aload_n 0, 1) := by decide +kernel
theorem dX7_init_14 : decode cX7_init 14 = .ok (.bipush 10, 2) := by decide +kernel
theorem dX7_init_16 : decode cX7_init 16 = .ok (.newarray .int, 2) := by decide +kernel
theorem dX7_init_18 : decode cX7_init 18 = .ok (.putfield 17, 3) := by decide +kernel
theorem dX7_init_21 : decode cX7_init 21 = .ok (.aload_n 0, 1) := by decide +kernel
theorem dX7_init_22 : decode cX7_init 22 = .ok (.iconst 0, 1) := by decide +kernel
theorem dX7_init_23 : decode cX7_init 23 = .ok (.putfield 21, 3) := by decide +kernel
theorem dX7_init_26 : decode cX7_init 26 = .ok (.aload_n 0, 1) := by decide +kernel
theorem dX7_init_27 : decode cX7_init 27 = .ok (.iconst 1, 1) := by decide +kernel
theorem dX7_init_28 : decode cX7_init 28 = .ok (.putfield 25, 3) := by decide +kernel
theorem dX7_init_31 : decode cX7_init 31 = .ok (.aload_n 0, 1) := by decide +kernel
theorem dX7_init_32 : decode cX7_init 32 = .ok (.iconst 0, 1) := by decide +kernel
theorem dX7_init_33 : decode cX7_init 33 = .ok (.putfield 29, 3) := by decide +kernel
theorem dX7_init_36 : decode cX7_init 36 = .ok (.aload_n 0, 1) := by decide +kernel
theorem dX7_init_37 : decode cX7_init 37 = .ok (.bipush 100, 2) := by decide +kernel
theorem dX7_init_39 : decode cX7_init 39 = .ok (.putfield 32, 3) := by decide +kernel
theorem dX7_init_42 : decode cX7_init 42 = .ok (.return_, 1) := by decide +kernel
theorem dX7_add_0 : decode cX7_add 0 = .ok (.aload_n 0, 1) := by decide +kernel
theorem dX7_add_1 : decode cX7_add 1 = .ok (.getfield 21, 3) := by decide +kernel
theorem dX7_add_4 : decode cX7_add 4 = .ok (.bipush 6, 2) := by decide +kernel
theorem dX7_add_6 : decode cX7_add 6 = .ok (.if_icmp .lt 5, 3) := by decide +kernel
theorem dX7_add_9 : decode cX7_add 9 = .ok (.iconst (-1), 1) := by decide +kernel
theorem dX7_add_10 : decode cX7_add 10 = .ok (.ireturn, 1) := by decide +kernel
theorem dX7_add_11 : decode cX7_add 11 = .ok (.aload_n 0, 1) := by decide +kernel
theorem dX7_add_12 : decode cX7_add 12 = .ok (.getfield 11, 3) := by decide +kernel
theorem dX7_add_15 : decode cX7_add 15 = .ok (.aload_n 0, 1) := by decide +kernel
theorem dX7_add_16 : decode cX7_add 16 = .ok (.getfield 21, 3) := by decide +kernel
theorem dX7_add_19 : decode cX7_add 19 = .ok (.aload_n 1, 1) := by decide +kernel
theorem dX7_add_20 : decode cX7_add 20 = .ok (.aastore, 1) := by decide +kernel
theorem dX7_add_21 : decode cX7_add 21 = .ok (.aload_n 0, 1) := by decide +kernel
theorem dX7_add_22 : decode cX7_add 22 = .ok (.dup, 1) := by decide +kernel
theorem dX7_add_23 : decode cX7_add 23 = .ok (.getfield 21, 3) := by decide +kernel
theorem dX7_add_26 : decode cX7_add 26 = .ok (.iconst 1, 1) := by decide +kernel
theorem dX7_add_27 : decode cX7_add 27 = .ok (.iadd, 1) := by decide +kernel
theorem dX7_add_28 : decode cX7_add 28 = .ok (.putfield 21, 3) := by decide +kernel
theorem dX7_add_31 : decode cX7_add 31 = .ok (.aload_n 0, 1) := by decide +kernel
theorem dX7_add_32 : decode cX7_add 32 = .ok (.getfield 21, 3) := by decide +kernel
theorem dX7_add_35 : decode cX7_add 35 = .ok (.iconst 1, 1) := by decide +kernel
theorem dX7_add_36 : decode cX7_add 36 = .ok (.isub, 1) := by decide +kernel
theorem dX7_add_37 : decode cX7_add 37 = .ok (.ireturn, 1) := by decide +kernel
theorem dX7_actAt_0 : decode cX7_actAt 0 = .ok (.iload_n 1, 1) := by decide +kernel
theorem dX7_actAt_1 : decode cX7_actAt 1 = .ok (.ifCond .lt 26, 3) := by decide +kernel
theorem dX7_actAt_4 : decode cX7_actAt 4 = .ok (.iload_n 1, 1) := by decide +kernel
theorem dX7_actAt_5 : decode cX7_actAt 5 = .ok (.aload_n 0, 1) := by decide +kernel
theorem dX7_actAt_6 : decode cX7_actAt 6 = .ok (.getfield 21, 3) := by decide +kernel
theorem dX7_actAt_9 : decode cX7_actAt 9 = .ok (.if_icmp .ge 18, 3) := by decide +kernel
theorem dX7_actAt_12 : decode cX7_actAt 12 = .ok (.iload_n 1, 1) := by decide +kernel
theorem dX7_actAt_13 : decode cX7_actAt 13 = .ok (.bipush 6, 2) := by decide +kernel
theorem dX7_actAt_15 : decode cX7_actAt 15 = .ok (.if_icmp .ge 12, 3) := by decide +kernel
theorem dX7_actAt_18 : decode cX7_actAt 18 = .ok (.aload_n 0, 1) := by decide +kernel
theorem dX7_actAt_19 : decode cX7_actAt 19 = .ok (.getfield 11, 3) := by decide +kernel
theorem dX7_actAt_22 : decode cX7_actAt 22 = .ok (.iload_n 1, 1) := by decide +kernel
theorem dX7_actAt_23 : decode cX7_actAt 23 = .ok (.aaload, 1) := by decide +kernel
theorem dX7_actAt_24 : decode cX7_actAt 24 = .ok (.goto 4, 3) := by decide +kernel
theorem dX7_actAt_27 : decode cX7_actAt 27 = .ok (.aconst_null, 1) := by decide +kernel
theorem dX7_actAt_28 : decode cX7_actAt 28 = .ok (.areturn, 1) := by decide +kernel
set_option maxRecDepth 20000 in
theorem ggX7_resetFalls_J7_fill_53178 : GoodIn wsX7_resetFalls wsJ7_fill_53178 := goodIn_r _ [6] (by decide +kernel) (by decide +kernel)
set_option maxRecDepth 20000 in
theorem gX7_resetFalls_J7_fill_53178 : GoodIn wsX7_resetFalls (va_wsS RX7 35 yJ7_fill_53178 wsJ7_fill_53178) := goodIn_app (goodIn_of _ (by decide +kernel)) ggX7_resetFalls_J7_fill_53178
theorem dX7_resetFalls_0 : decode cX7_resetFalls 0 = .ok (.aload_n 0, 1) := by decide +kernel
theorem dX7_resetFalls_1 : decode cX7_resetFalls 1 = .ok (.iload_n 1, 1) := by decide +kernel
theorem dX7_resetFalls_2 : decode cX7_resetFalls 2 = .ok (.putfield 25, 3) := by decide +kernel
theorem dX7_resetFalls_5 : decode cX7_resetFalls 5 = .ok (.aload_n 0, 1) := by decide +kernel
theorem dX7_resetFalls_6 : decode cX7_resetFalls 6 = .ok (.getfield 17, 3) := by decide +kernel
theorem dX7_resetFalls_9 : decode cX7_resetFalls 9 = .ok (.iconst 0, 1) := by decide +kernel
theorem dX7_resetFalls_10 : decode cX7_resetFalls 10 = .ok (.invokestatic 35, 3) := by decide +kernel
theorem dX7_resetFalls_13 : decode cX7_resetFalls 13 = .ok (.return_, 1) := by decide +kernel
theorem dX7_refuses_0 : decode cX7_refuses 0 = .ok (.aload_n 0, 1) := by decide +kernel
theorem dX7_refuses_1 : decode cX7_refuses 1 = .ok (.getfield 25, 3) := by decide +kernel
theorem dX7_refuses_4 : decode cX7_refuses 4 = .ok (.ifCond .ne 23, 3) := by decide +kernel
theorem dX7_refuses_7 : decode cX7_refuses 7 = .ok (.aload_n 1, 1) := by decide +kernel
theorem dX7_refuses_8 : decode cX7_refuses 8 = .ok (.getfield 41, 3) := by decide +kernel
theorem dX7_refuses_11 : decode cX7_refuses 11 = .ok (.ifCond .lt 16, 3) := by decide +kernel
theorem dX7_refuses_14 : decode cX7_refuses 14 = .ok (.aload_n 1, 1) := by decide +kernel
theorem dX7_refuses_15 : decode cX7_refuses 15 = .ok (.getfield 41, 3) := by decide +kernel
theorem dX7_refuses_18 : decode cX7_refuses 18 = .ok (.bipush 10, 2) := by decide +kernel
theorem dX7_refuses_20 : decode cX7_refuses 20 = .ok (.if_icmp .ge 7, 3) := by decide +kernel
theorem dX7_refuses_23 : decode cX7_refuses 23 = .ok (.iconst 1, 1) := by decide +kernel
theorem dX7_refuses_24 : decode cX7_refuses 24 = .ok (.goto 4, 3) := by decide +kernel
theorem dX7_refuses_27 : decode cX7_refuses 27 = .ok (.iconst 0, 1) := by decide +kernel
theorem dX7_refuses_28 : decode cX7_refuses 28 = .ok (.istore_n 2, 1) := by decide +kernel
theorem dX7_refuses_29 : decode cX7_refuses 29 = .ok (.iload_n 2, 1) := by decide +kernel
theorem dX7_refuses_30 : decode cX7_refuses 30 = .ok (.ifCond .eq 15, 3) := by decide +kernel
theorem dX7_refuses_33 : decode cX7_refuses 33 = .ok (.aload_n 0, 1) := by decide +kernel
theorem dX7_refuses_34 : decode cX7_refuses 34 = .ok (.getfield 17, 3) := by decide +kernel
theorem dX7_refuses_37 : decode cX7_refuses 37 = .ok (.aload_n 1, 1) := by decide +kernel
theorem dX7_refuses_38 : decode cX7_refuses 38 = .ok (.getfield 41, 3) := by decide +kernel
theorem dX7_refuses_41 : decode cX7_refuses 41 = .ok (.iaload, 1) := by decide +kernel
theorem dX7_refuses_42 : decode cX7_refuses 42 = .ok (.goto 5, 3) := by decide +kernel
theorem dX7_refuses_45 : decode cX7_refuses 45 = .ok (.bipush 20, 2) := by decide +kernel
theorem dX7_refuses_47 : decode cX7_refuses 47 = .ok (.istore_n 3, 1) := by decide +kernel
theorem dX7_refuses_48 : decode cX7_refuses 48 = .ok (.aload_n 1, 1) := by decide +kernel
theorem dX7_refuses_49 : decode cX7_refuses 49 = .ok (.getfield 46, 3) := by decide +kernel
theorem dX7_refuses_52 : decode cX7_refuses 52 = .ok (.iload_n 3, 1) := by decide +kernel
theorem dX7_refuses_53 : decode cX7_refuses 53 = .ok (.imul, 1) := by decide +kernel
theorem dX7_refuses_54 : decode cX7_refuses 54 = .ok (.bipush 10, 2) := by decide +kernel
theorem dX7_refuses_56 : decode cX7_refuses 56 = .ok (.idiv, 1) := by decide +kernel
theorem dX7_refuses_57 : decode cX7_refuses 57 = .ok (.aload_n 0, 1) := by decide +kernel
theorem dX7_refuses_58 : decode cX7_refuses 58 = .ok (.getfield 29, 3) := by decide +kernel
theorem dX7_refuses_61 : decode cX7_refuses 61 = .ok (.iadd, 1) := by decide +kernel
theorem dX7_refuses_62 : decode cX7_refuses 62 = .ok (.aload_n 0, 1) := by decide +kernel
theorem dX7_refuses_63 : decode cX7_refuses 63 = .ok (.getfield 32, 3) := by decide +kernel
theorem dX7_refuses_66 : decode cX7_refuses 66 = .ok (.if_icmp .lt 7, 3) := by decide +kernel
theorem dX7_refuses_69 : decode cX7_refuses 69 = .ok (.iconst 1, 1) := by decide +kernel
theorem dX7_refuses_70 : decode cX7_refuses 70 = .ok (.goto 4, 3) := by decide +kernel
theorem dX7_refuses_73 : decode cX7_refuses 73 = .ok (.iconst 0, 1) := by decide +kernel
theorem dX7_refuses_74 : decode cX7_refuses 74 = .ok (.ireturn, 1) := by decide +kernel
set_option maxRecDepth 20000 in
theorem ggX7_minutesInBox_X7_minutesBelow : GoodIn wsX7_minutesInBox wsX7_minutesBelow := goodIn_r _ [5, 6, 7, 8, 9, 10, 11, 12, 13, 14, 15, 16, 17, 18, 19, 4, 20, 21, 22, 23, 24, 25, 26, 27, 28, 29, 30, 31, 32, 33, 34, 35, 36, 37, 38, 39, 40, 41, 42, 43] (by decide +kernel) (by decide +kernel)
set_option maxRecDepth 20000 in
theorem gX7_minutesInBox_X7_minutesBelow : GoodIn wsX7_minutesInBox (wsV RX7 49 RX7 yX7_minutesBelow wsX7_minutesBelow) := goodIn_app (goodIn_of _ (by decide +kernel)) ggX7_minutesInBox_X7_minutesBelow
theorem dX7_minutesInBox_0 : decode cX7_minutesInBox 0 = .ok (.aload_n 0, 1) := by decide +kernel
theorem dX7_minutesInBox_1 : decode cX7_minutesInBox 1 = .ok (.aload_n 1, 1) := by decide +kernel
theorem dX7_minutesInBox_2 : decode cX7_minutesInBox 2 = .ok (.iload_n 2, 1) := by decide +kernel
theorem dX7_minutesInBox_3 : decode cX7_minutesInBox 3 = .ok (.iconst 1, 1) := by decide +kernel
theorem dX7_minutesInBox_4 : decode cX7_minutesInBox 4 = .ok (.invokevirtual 49, 3) := by decide +kernel
theorem dX7_minutesInBox_7 : decode cX7_minutesInBox 7 = .ok (.istore_n 3, 1) := by decide +kernel
theorem dX7_minutesInBox_8 : decode cX7_minutesInBox 8 = .ok (.iload_n 3, 1) := by decide +kernel
theorem dX7_minutesInBox_9 : decode cX7_minutesInBox 9 = .ok (.ifCond .le 7, 3) := by decide +kernel
theorem dX7_minutesInBox_12 : decode cX7_minutesInBox 12 = .ok (.iload_n 3, 1) := by decide +kernel
theorem dX7_minutesInBox_13 : decode cX7_minutesInBox 13 = .ok (.goto 10, 3) := by decide +kernel
theorem dX7_minutesInBox_16 : decode cX7_minutesInBox 16 = .ok (.aload_n 0, 1) := by decide +kernel
theorem dX7_minutesInBox_17 : decode cX7_minutesInBox 17 = .ok (.aload_n 1, 1) := by decide +kernel
theorem dX7_minutesInBox_18 : decode cX7_minutesInBox 18 = .ok (.iload_n 2, 1) := by decide +kernel
theorem dX7_minutesInBox_19 : decode cX7_minutesInBox 19 = .ok (.iconst 0, 1) := by decide +kernel
theorem dX7_minutesInBox_20 : decode cX7_minutesInBox 20 = .ok (.invokevirtual 49, 3) := by decide +kernel
theorem dX7_minutesInBox_23 : decode cX7_minutesInBox 23 = .ok (.ireturn, 1) := by decide +kernel
set_option maxRecDepth 20000 in
theorem ggX7_minutesBelow_X0_figureAt : GoodIn wsX7_minutesBelow wsX0_figureAt := goodIn_r _ [9, 10, 11, 22, 23, 24, 25, 26, 27, 28, 29] (by decide +kernel) (by decide +kernel)
set_option maxRecDepth 20000 in
theorem gX7_minutesBelow_X0_figureAt : GoodIn wsX7_minutesBelow (wsV RX7 54 RX0 yX0_figureAt wsX0_figureAt) := goodIn_app (goodIn_of _ (by decide +kernel)) ggX7_minutesBelow_X0_figureAt
set_option maxRecDepth 20000 in
theorem ggX7_minutesBelow_X7_refuses : GoodIn wsX7_minutesBelow wsX7_refuses := goodIn_r _ [16, 17, 3, 18, 19, 20, 21, 34, 35, 36, 37, 38, 39, 30, 31, 32, 33] (by decide +kernel) (by decide +kernel)
set_option maxRecDepth 20000 in
theorem gX7_minutesBelow_X7_refuses : GoodIn wsX7_minutesBelow (wsV RX7 61 RX7 yX7_refuses wsX7_refuses) := goodIn_app (goodIn_of _ (by decide +kernel)) ggX7_minutesBelow_X7_refuses
theorem dX7_minutesBelow_0 : decode cX7_minutesBelow 0 = .ok (.iconst 0, 1) := by decide +kernel
theorem dX7_minutesBelow_1 : decode cX7_minutesBelow 1 = .ok (.istore 4, 2) := by decide +kernel
theorem dX7_minutesBelow_3 : decode cX7_minutesBelow 3 = .ok (.iconst 0, 1) := by decide +kernel
theorem dX7_minutesBelow_4 : decode cX7_minutesBelow 4 = .ok (.istore 5, 2) := by decide +kernel
theorem dX7_minutesBelow_6 : decode cX7_minutesBelow 6 = .ok (.iload 5, 2) := by decide +kernel
theorem dX7_minutesBelow_8 : decode cX7_minutesBelow 8 = .ok (.aload_n 1, 1) := by decide +kernel
theorem dX7_minutesBelow_9 : decode cX7_minutesBelow 9 = .ok (.getfield 53, 3) := by decide +kernel
theorem dX7_minutesBelow_12 : decode cX7_minutesBelow 12 = .ok (.if_icmp .ge 64, 3) := by decide +kernel
theorem dX7_minutesBelow_15 : decode cX7_minutesBelow 15 = .ok (.aload_n 1, 1) := by decide +kernel
theorem dX7_minutesBelow_16 : decode cX7_minutesBelow 16 = .ok (.iload 5, 2) := by decide +kernel
theorem dX7_minutesBelow_18 : decode cX7_minutesBelow 18 = .ok (.invokevirtual 54, 3) := by decide +kernel
theorem dX7_minutesBelow_21 : decode cX7_minutesBelow 21 = .ok (.astore 6, 2) := by decide +kernel
theorem dX7_minutesBelow_23 : decode cX7_minutesBelow 23 = .ok (.aload 6, 2) := by decide +kernel
theorem dX7_minutesBelow_25 : decode cX7_minutesBelow 25 = .ok (.ifnull 45, 3) := by decide +kernel
theorem dX7_minutesBelow_28 : decode cX7_minutesBelow 28 = .ok (.iload_n 3, 1) := by decide +kernel
theorem dX7_minutesBelow_29 : decode cX7_minutesBelow 29 = .ok (.ifCond .ne 11, 3) := by decide +kernel
theorem dX7_minutesBelow_32 : decode cX7_minutesBelow 32 = .ok (.aload 6, 2) := by decide +kernel
theorem dX7_minutesBelow_34 : decode cX7_minutesBelow 34 = .ok (.getfield 58, 3) := by decide +kernel
theorem dX7_minutesBelow_37 : decode cX7_minutesBelow 37 = .ok (.ifCond .ne 33, 3) := by decide +kernel
theorem dX7_minutesBelow_40 : decode cX7_minutesBelow 40 = .ok (.aload_n 0, 1) := by decide +kernel
theorem dX7_minutesBelow_41 : decode cX7_minutesBelow 41 = .ok (.aload 6, 2) := by decide +kernel
theorem dX7_minutesBelow_43 : decode cX7_minutesBelow 43 = .ok (.invokevirtual 61, 3) := by decide +kernel
theorem dX7_minutesBelow_46 : decode cX7_minutesBelow 46 = .ok (.ifCond .ne 24, 3) := by decide +kernel
theorem dX7_minutesBelow_49 : decode cX7_minutesBelow 49 = .ok (.aload 6, 2) := by decide +kernel
theorem dX7_minutesBelow_51 : decode cX7_minutesBelow 51 = .ok (.getfield 41, 3) := by decide +kernel
theorem dX7_minutesBelow_54 : decode cX7_minutesBelow 54 = .ok (.iload_n 2, 1) := by decide +kernel
theorem dX7_minutesBelow_55 : decode cX7_minutesBelow 55 = .ok (.if_icmp .lt 5, 3) := by decide +kernel
theorem dX7_minutesBelow_58 : decode cX7_minutesBelow 58 = .ok (.iconst 0, 1) := by decide +kernel
theorem dX7_minutesBelow_59 : decode cX7_minutesBelow 59 = .ok (.ireturn, 1) := by decide +kernel
theorem dX7_minutesBelow_60 : decode cX7_minutesBelow 60 = .ok (.iload 4, 2) := by decide +kernel
theorem dX7_minutesBelow_62 : decode cX7_minutesBelow 62 = .ok (.aload 6, 2) := by decide +kernel
theorem dX7_minutesBelow_64 : decode cX7_minutesBelow 64 = .ok (.getfield 65, 3) := by decide +kernel
theorem dX7_minutesBelow_67 : decode cX7_minutesBelow 67 = .ok (.iadd, 1) := by decide +kernel
theorem dX7_minutesBelow_68 : decode cX7_minutesBelow 68 = .ok (.istore 4, 2) := by decide +kernel
theorem dX7_minutesBelow_70 : decode cX7_minutesBelow 70 = .ok (.iinc 5 1, 3) := by decide +kernel
theorem dX7_minutesBelow_73 : decode cX7_minutesBelow 73 = .ok (.goto (-67), 3) := by decide +kernel
theorem dX7_minutesBelow_76 : decode cX7_minutesBelow 76 = .ok (.iload 4, 2) := by decide +kernel
theorem dX7_minutesBelow_78 : decode cX7_minutesBelow 78 = .ok (.ireturn, 1) := by decide +kernel
set_option maxRecDepth 20000 in
theorem ggX8_init_J7_fill_53178 : GoodIn wsX8_init wsJ7_fill_53178 := goodIn_r _ [11] (by decide +kernel) (by decide +kernel)
set_option maxRecDepth 20000 in
theorem gX8_init_J7_fill_53178 : GoodIn wsX8_init (va_wsS RX8 21 yJ7_fill_53178 wsJ7_fill_53178) := goodIn_app (goodIn_of _ (by decide +kernel)) ggX8_init_J7_fill_53178
theorem dX8_init_0 : decode cX8_init 0 = .ok (.aload_n 0, 1) := by decide +kernel
theorem dX8_init_1 : decode cX8_init 1 = .ok (.invokespecial 3, 3) := by decide +kernel
theorem dX8_init_4 : decode cX8_init 4 = .ok (.aload_n 0, 1) := by decide +kernel
theorem dX8_init_5 : decode cX8_init 5 = .ok (.sipush 240, 3) := by decide +kernel
theorem dX8_init_8 : decode cX8_init 8 = .ok (.newarray .int, 2) := by decide +kernel
theorem dX8_init_10 : decode cX8_init 10 = .ok (.putfield 9, 3) := by decide +kernel
theorem dX8_init_13 : decode cX8_init 13 = .ok (.aload_n 0, 1) := by decide +kernel
theorem dX8_init_14 : decode cX8_init 14 = .ok (.sipush 240, 3) := by decide +kernel
theorem dX8_init_17 : decode cX8_init 17 = .ok (.newarray .int, 2) := by decide +kernel
theorem dX8_init_19 : decode cX8_init 19 = .ok (.putfield 15, 3) := by decide +kernel
theorem dX8_init_22 : decode cX8_init 22 = .ok (.aload_n 0, 1) := by decide +kernel
theorem dX8_init_23 : decode cX8_init 23 = .ok (.bipush 6, 2) := by decide +kernel
theorem dX8_init_25 : decode cX8_init 25 = .ok (.newarray .int, 2) := by decide +kernel
theorem dX8_init_27 : decode cX8_init 27 = .ok (.putfield 18, 3) := by decide +kernel
theorem dX8_init_30 : decode cX8_init 30 = .ok (.aload_n 0, 1) := by decide +kernel
theorem dX8_init_31 : decode cX8_init 31 = .ok (.getfield 9, 3) := by decide +kernel
theorem dX8_init_34 : decode cX8_init 34 = .ok (.bipush 9, 2) := by decide +kernel
theorem dX8_init_36 : decode cX8_init 36 = .ok (.invokestatic 21, 3) := by decide +kernel
theorem dX8_init_39 : decode cX8_init 39 = .ok (.aload_n 0, 1) := by decide +kernel
theorem dX8_init_40 : decode cX8_init 40 = .ok (.getfield 15, 3) := by decide +kernel
theorem dX8_init_43 : decode cX8_init 43 = .ok (.sipush 240, 3) := by decide +kernel
theorem dX8_init_46 : decode cX8_init 46 = .ok (.invokestatic 21, 3) := by decide +kernel
theorem dX8_init_49 : decode cX8_init 49 = .ok (.return_, 1) := by decide +kernel
set_option maxRecDepth 20000 in
theorem ggX8_learn_J7_fill_53178 : GoodIn wsX8_learn wsJ7_fill_53178 := goodIn_r _ [10] (by decide +kernel) (by decide +kernel)
set_option maxRecDepth 20000 in
theorem gX8_learn_J7_fill_53178 : GoodIn wsX8_learn (va_wsS RX8 21 yJ7_fill_53178 wsJ7_fill_53178) := goodIn_app (goodIn_of _ (by decide +kernel)) ggX8_learn_J7_fill_53178
set_option maxRecDepth 20000 in
theorem ggX8_learn_X8_learnOne : GoodIn wsX8_learn wsX8_learnOne := goodIn_r _ [15, 1, 2, 3, 28, 29, 30] (by decide +kernel) (by decide +kernel)
set_option maxRecDepth 20000 in
theorem gX8_learn_X8_learnOne : GoodIn wsX8_learn (wsV RX8 38 RX8 yX8_learnOne wsX8_learnOne) := goodIn_app (goodIn_of _ (by decide +kernel)) ggX8_learn_X8_learnOne
set_option maxRecDepth 20000 in
theorem ggX8_learn_X8_carryBaseOn : GoodIn wsX8_learn wsX8_carryBaseOn := goodIn_r _ [19, 1, 28, 29, 30] (by decide +kernel) (by decide +kernel)
set_option maxRecDepth 20000 in
theorem gX8_learn_X8_carryBaseOn : GoodIn wsX8_learn (wsV RX8 42 RX8 yX8_carryBaseOn wsX8_carryBaseOn) := goodIn_app (goodIn_of _ (by decide +kernel)) ggX8_learn_X8_carryBaseOn
set_option maxRecDepth 20000 in
theorem ggX8_learn_X8_lookAhead : GoodIn wsX8_learn wsX8_lookAhead := goodIn_r _ [23, 3, 24, 25, 26, 27, 28, 29, 30] (by decide +kernel) (by decide +kernel)
set_option maxRecDepth 20000 in
theorem gX8_learn_X8_lookAhead : GoodIn wsX8_learn (wsV RX8 45 RX8 yX8_lookAhead wsX8_lookAhead) := goodIn_app (goodIn_of _ (by decide +kernel)) ggX8_learn_X8_lookAhead
theorem dX8_learn_0 : decode cX8_learn 0 = .ok (.aload_n 0, 1) := by decide +kernel
theorem dX8_learn_1 : decode cX8_learn 1 = .ok (.getfield 9, 3) := by decide +kernel
theorem dX8_learn_4 : decode cX8_learn 4 = .ok (.iconst (-1), 1) := by decide +kernel
theorem dX8_learn_5 : decode cX8_learn 5 = .ok (.invokestatic 21, 3) := by decide +kernel
theorem dX8_learn_8 : decode cX8_learn 8 = .ok (.aload_n 0, 1) := by decide +kernel
theorem dX8_learn_9 : decode cX8_learn 9 = .ok (.getfield 18, 3) := by decide +kernel
theorem dX8_learn_12 : decode cX8_learn 12 = .ok (.iconst 0, 1) := by decide +kernel
theorem dX8_learn_13 : decode cX8_learn 13 = .ok (.invokestatic 21, 3) := by decide +kernel
theorem dX8_learn_16 : decode cX8_learn 16 = .ok (.aload_n 0, 1) := by decide +kernel
theorem dX8_learn_17 : decode cX8_learn 17 = .ok (.getfield 15, 3) := by decide +kernel
theorem dX8_learn_20 : decode cX8_learn 20 = .ok (.sipush 240, 3) := by decide +kernel
theorem dX8_learn_23 : decode cX8_learn 23 = .ok (.invokestatic 21, 3) := by decide +kernel
theorem dX8_learn_26 : decode cX8_learn 26 = .ok (.iconst 0, 1) := by decide +kernel
theorem dX8_learn_27 : decode cX8_learn 27 = .ok (.istore_n 3, 1) := by decide +kernel
theorem dX8_learn_28 : decode cX8_learn 28 = .ok (.iload_n 3, 1) := by decide +kernel
theorem dX8_learn_29 : decode cX8_learn 29 = .ok (.iload_n 2, 1) := by decide +kernel
theorem dX8_learn_30 : decode cX8_learn 30 = .ok (.if_icmp .ge 40, 3) := by decide +kernel
theorem dX8_learn_33 : decode cX8_learn 33 = .ok (.iload_n 3, 1) := by decide +kernel
theorem dX8_learn_34 : decode cX8_learn 34 = .ok (.aload_n 1, 1) := by decide +kernel
theorem dX8_learn_35 : decode cX8_learn 35 = .ok (.getfield 27, 3) := by decide +kernel
theorem dX8_learn_38 : decode cX8_learn 38 = .ok (.arraylength, 1) := by decide +kernel
theorem dX8_learn_39 : decode cX8_learn 39 = .ok (.if_icmp .ge 31, 3) := by decide +kernel
theorem dX8_learn_42 : decode cX8_learn 42 = .ok (.aload_n 0, 1) := by decide +kernel
theorem dX8_learn_43 : decode cX8_learn 43 = .ok (.aload_n 1, 1) := by decide +kernel
theorem dX8_learn_44 : decode cX8_learn 44 = .ok (.getfield 27, 3) := by decide +kernel
theorem dX8_learn_47 : decode cX8_learn 47 = .ok (.iload_n 3, 1) := by decide +kernel
theorem dX8_learn_48 : decode cX8_learn 48 = .ok (.iaload, 1) := by decide +kernel
theorem dX8_learn_49 : decode cX8_learn 49 = .ok (.aload_n 1, 1) := by decide +kernel
theorem dX8_learn_50 : decode cX8_learn 50 = .ok (.getfield 32, 3) := by decide +kernel
theorem dX8_learn_53 : decode cX8_learn 53 = .ok (.iload_n 3, 1) := by decide +kernel
theorem dX8_learn_54 : decode cX8_learn 54 = .ok (.iaload, 1) := by decide +kernel
theorem dX8_learn_55 : decode cX8_learn 55 = .ok (.aload_n 1, 1) := by decide +kernel
theorem dX8_learn_56 : decode cX8_learn 56 = .ok (.getfield 35, 3) := by decide +kernel
theorem dX8_learn_59 : decode cX8_learn 59 = .ok (.iload_n 3, 1) := by decide +kernel
theorem dX8_learn_60 : decode cX8_learn 60 = .ok (.iaload, 1) := by decide +kernel
theorem dX8_learn_61 : decode cX8_learn 61 = .ok (.invokevirtual 38, 3) := by decide +kernel
theorem dX8_learn_64 : decode cX8_learn 64 = .ok (.iinc 3 1, 3) := by decide +kernel
theorem dX8_learn_67 : decode cX8_learn 67 = .ok (.goto (-39), 3) := by decide +kernel
theorem dX8_learn_70 : decode cX8_learn 70 = .ok (.aload_n 0, 1) := by decide +kernel
theorem dX8_learn_71 : decode cX8_learn 71 = .ok (.invokevirtual 42, 3) := by decide +kernel
theorem dX8_learn_74 : decode cX8_learn 74 = .ok (.aload_n 0, 1) := by decide +kernel
theorem dX8_learn_75 : decode cX8_learn 75 = .ok (.invokevirtual 45, 3) := by decide +kernel
theorem dX8_learn_78 : decode cX8_learn 78 = .ok (.return_, 1) := by decide +kernel
theorem dX8_learnOne_0 : decode cX8_learnOne 0 = .ok (.iload_n 1, 1) := by decide +kernel
theorem dX8_learnOne_1 : decode cX8_learnOne 1 = .ok (.ifCond .ne 24, 3) := by decide +kernel
theorem dX8_learnOne_4 : decode cX8_learnOne 4 = .ok (.iload_n 2, 1) := by decide +kernel
theorem dX8_learnOne_5 : decode cX8_learnOne 5 = .ok (.ifCond .lt 20, 3) := by decide +kernel
theorem dX8_learnOne_8 : decode cX8_learnOne 8 = .ok (.iload_n 2, 1) := by decide +kernel
theorem dX8_learnOne_9 : decode cX8_learnOne 9 = .ok (.sipush 240, 3) := by decide +kernel
theorem dX8_learnOne_12 : decode cX8_learnOne 12 = .ok (.if_icmp .ge 13, 3) := by decide +kernel
theorem dX8_learnOne_15 : decode cX8_learnOne 15 = .ok (.aload_n 0, 1) := by decide +kernel
theorem dX8_learnOne_16 : decode cX8_learnOne 16 = .ok (.getfield 9, 3) := by decide +kernel
theorem dX8_learnOne_19 : decode cX8_learnOne 19 = .ok (.iload_n 2, 1) := by decide +kernel
theorem dX8_learnOne_20 : decode cX8_learnOne 20 = .ok (.iload_n 3, 1) := by decide +kernel
theorem dX8_learnOne_21 : decode cX8_learnOne 21 = .ok (.iastore, 1) := by decide +kernel
theorem dX8_learnOne_22 : decode cX8_learnOne 22 = .ok (.goto 68, 3) := by decide +kernel
theorem dX8_learnOne_25 : decode cX8_learnOne 25 = .ok (.iload_n 1, 1) := by decide +kernel
theorem dX8_learnOne_26 : decode cX8_learnOne 26 = .ok (.iconst 2, 1) := by decide +kernel
theorem dX8_learnOne_27 : decode cX8_learnOne 27 = .ok (.if_icmp .ne 23, 3) := by decide +kernel
theorem dX8_learnOne_30 : decode cX8_learnOne 30 = .ok (.iload_n 2, 1) := by decide +kernel
theorem dX8_learnOne_31 : decode cX8_learnOne 31 = .ok (.ifCond .lt 19, 3) := by decide +kernel
theorem dX8_learnOne_34 : decode cX8_learnOne 34 = .ok (.iload_n 2, 1) := by decide +kernel
theorem dX8_learnOne_35 : decode cX8_learnOne 35 = .ok (.bipush 6, 2) := by decide +kernel
theorem dX8_learnOne_37 : decode cX8_learnOne 37 = .ok (.if_icmp .ge 13, 3) := by decide +kernel
theorem dX8_learnOne_40 : decode cX8_learnOne 40 = .ok (.aload_n 0, 1) := by decide +kernel
theorem dX8_learnOne_41 : decode cX8_learnOne 41 = .ok (.getfield 18, 3) := by decide +kernel
theorem dX8_learnOne_44 : decode cX8_learnOne 44 = .ok (.iload_n 2, 1) := by decide +kernel
theorem dX8_learnOne_45 : decode cX8_learnOne 45 = .ok (.iload_n 3, 1) := by decide +kernel
theorem dX8_learnOne_46 : decode cX8_learnOne 46 = .ok (.iastore, 1) := by decide +kernel
theorem dX8_learnOne_47 : decode cX8_learnOne 47 = .ok (.goto 43, 3) := by decide +kernel
theorem dX8_learnOne_50 : decode cX8_learnOne 50 = .ok (.iload_n 1, 1) := by decide +kernel
theorem dX8_learnOne_51 : decode cX8_learnOne 51 = .ok (.iconst 1, 1) := by decide +kernel
theorem dX8_learnOne_52 : decode cX8_learnOne 52 = .ok (.if_icmp .ne 38, 3) := by decide +kernel
theorem dX8_learnOne_55 : decode cX8_learnOne 55 = .ok (.iload_n 2, 1) := by decide +kernel
theorem dX8_learnOne_56 : decode cX8_learnOne 56 = .ok (.ifCond .lt 34, 3) := by decide +kernel
theorem dX8_learnOne_59 : decode cX8_learnOne 59 = .ok (.iload_n 3, 1) := by decide +kernel
theorem dX8_learnOne_60 : decode cX8_learnOne 60 = .ok (.sipush 240, 3) := by decide +kernel
theorem dX8_learnOne_63 : decode cX8_learnOne 63 = .ok (.if_icmp .gt 27, 3) := by decide +kernel
theorem dX8_learnOne_66 : decode cX8_learnOne 66 = .ok (.iload_n 2, 1) := by decide +kernel
theorem dX8_learnOne_67 : decode cX8_learnOne 67 = .ok (.istore 4, 2) := by decide +kernel
theorem dX8_learnOne_69 : decode cX8_learnOne 69 = .ok (.iload 4, 2) := by decide +kernel
theorem dX8_learnOne_71 : decode cX8_learnOne 71 = .ok (.iload_n 3, 1) := by decide +kernel
theorem dX8_learnOne_72 : decode cX8_learnOne 72 = .ok (.if_icmp .ge 18, 3) := by decide +kernel
theorem dX8_learnOne_75 : decode cX8_learnOne 75 = .ok (.aload_n 0, 1) := by decide +kernel
theorem dX8_learnOne_76 : decode cX8_learnOne 76 = .ok (.getfield 15, 3) := by decide +kernel
theorem dX8_learnOne_79 : decode cX8_learnOne 79 = .ok (.iload 4, 2) := by decide +kernel
theorem dX8_learnOne_81 : decode cX8_learnOne 81 = .ok (.iload 4, 2) := by decide +kernel
theorem dX8_learnOne_83 : decode cX8_learnOne 83 = .ok (.iastore, 1) := by decide +kernel
theorem dX8_learnOne_84 : decode cX8_learnOne 84 = .ok (.iinc 4 1, 3) := by decide +kernel
theorem dX8_learnOne_87 : decode cX8_learnOne 87 = .ok (.goto (-18), 3) := by decide +kernel
theorem dX8_learnOne_90 : decode cX8_learnOne 90 = .ok (.return_, 1) := by decide +kernel
theorem dX8_carryBaseOn_0 : decode cX8_carryBaseOn 0 = .ok (.bipush 9, 2) := by decide +kernel
theorem dX8_carryBaseOn_2 : decode cX8_carryBaseOn 2 = .ok (.istore_n 1, 1) := by decide +kernel
theorem dX8_carryBaseOn_3 : decode cX8_carryBaseOn 3 = .ok (.iconst 0, 1) := by decide +kernel
theorem dX8_carryBaseOn_4 : decode cX8_carryBaseOn 4 = .ok (.istore_n 2, 1) := by decide +kernel
theorem dX8_carryBaseOn_5 : decode cX8_carryBaseOn 5 = .ok (.iload_n 2, 1) := by decide +kernel
theorem dX8_carryBaseOn_6 : decode cX8_carryBaseOn 6 = .ok (.sipush 240, 3) := by decide +kernel
theorem dX8_carryBaseOn_9 : decode cX8_carryBaseOn 9 = .ok (.if_icmp .ge 33, 3) := by decide +kernel
theorem dX8_carryBaseOn_12 : decode cX8_carryBaseOn 12 = .ok (.aload_n 0, 1) := by decide +kernel
theorem dX8_carryBaseOn_13 : decode cX8_carryBaseOn 13 = .ok (.getfield 9, 3) := by decide +kernel
theorem dX8_carryBaseOn_16 : decode cX8_carryBaseOn 16 = .ok (.iload_n 2, 1) := by decide +kernel
theorem dX8_carryBaseOn_17 : decode cX8_carryBaseOn 17 = .ok (.iaload, 1) := by decide +kernel
theorem dX8_carryBaseOn_18 : decode cX8_carryBaseOn 18 = .ok (.iconst (-1), 1) := by decide +kernel
theorem dX8_carryBaseOn_19 : decode cX8_carryBaseOn 19 = .ok (.if_icmp .ne 10, 3) := by decide +kernel
theorem dX8_carryBaseOn_22 : decode cX8_carryBaseOn 22 = .ok (.aload_n 0, 1) := by decide +kernel
theorem dX8_carryBaseOn_23 : decode cX8_carryBaseOn 23 = .ok (.getfield 9, 3) := by decide +kernel
theorem dX8_carryBaseOn_26 : decode cX8_carryBaseOn 26 = .ok (.iload_n 2, 1) := by decide +kernel
theorem dX8_carryBaseOn_27 : decode cX8_carryBaseOn 27 = .ok (.iload_n 1, 1) := by decide +kernel
theorem dX8_carryBaseOn_28 : decode cX8_carryBaseOn 28 = .ok (.iastore, 1) := by decide +kernel
theorem dX8_carryBaseOn_29 : decode cX8_carryBaseOn 29 = .ok (.aload_n 0, 1) := by decide +kernel
theorem dX8_carryBaseOn_30 : decode cX8_carryBaseOn 30 = .ok (.getfield 9, 3) := by decide +kernel
theorem dX8_carryBaseOn_33 : decode cX8_carryBaseOn 33 = .ok (.iload_n 2, 1) := by decide +kernel
theorem dX8_carryBaseOn_34 : decode cX8_carryBaseOn 34 = .ok (.iaload, 1) := by decide +kernel
theorem dX8_carryBaseOn_35 : decode cX8_carryBaseOn 35 = .ok (.istore_n 1, 1) := by decide +kernel
theorem dX8_carryBaseOn_36 : decode cX8_carryBaseOn 36 = .ok (.iinc 2 1, 3) := by decide +kernel
theorem dX8_carryBaseOn_39 : decode cX8_carryBaseOn 39 = .ok (.goto (-34), 3) := by decide +kernel
theorem dX8_carryBaseOn_42 : decode cX8_carryBaseOn 42 = .ok (.return_, 1) := by decide +kernel
theorem dX8_lookAhead_0 : decode cX8_lookAhead 0 = .ok (.sipush 238, 3) := by decide +kernel
theorem dX8_lookAhead_3 : decode cX8_lookAhead 3 = .ok (.istore_n 1, 1) := by decide +kernel
theorem dX8_lookAhead_4 : decode cX8_lookAhead 4 = .ok (.iload_n 1, 1) := by decide +kernel
theorem dX8_lookAhead_5 : decode cX8_lookAhead 5 = .ok (.ifCond .lt 32, 3) := by decide +kernel
theorem dX8_lookAhead_8 : decode cX8_lookAhead 8 = .ok (.aload_n 0, 1) := by decide +kernel
theorem dX8_lookAhead_9 : decode cX8_lookAhead 9 = .ok (.getfield 15, 3) := by decide +kernel
theorem dX8_lookAhead_12 : decode cX8_lookAhead 12 = .ok (.iload_n 1, 1) := by decide +kernel
theorem dX8_lookAhead_13 : decode cX8_lookAhead 13 = .ok (.aload_n 0, 1) := by decide +kernel
theorem dX8_lookAhead_14 : decode cX8_lookAhead 14 = .ok (.getfield 15, 3) := by decide +kernel
theorem dX8_lookAhead_17 : decode cX8_lookAhead 17 = .ok (.iload_n 1, 1) := by decide +kernel
theorem dX8_lookAhead_18 : decode cX8_lookAhead 18 = .ok (.iaload, 1) := by decide +kernel
theorem dX8_lookAhead_19 : decode cX8_lookAhead 19 = .ok (.aload_n 0, 1) := by decide +kernel
theorem dX8_lookAhead_20 : decode cX8_lookAhead 20 = .ok (.getfield 15, 3) := by decide +kernel
theorem dX8_lookAhead_23 : decode cX8_lookAhead 23 = .ok (.iload_n 1, 1) := by decide +kernel
theorem dX8_lookAhead_24 : decode cX8_lookAhead 24 = .ok (.iconst 1, 1) := by decide +kernel
theorem dX8_lookAhead_25 : decode cX8_lookAhead 25 = .ok (.iadd, 1) := by decide +kernel
theorem dX8_lookAhead_26 : decode cX8_lookAhead 26 = .ok (.iaload, 1) := by decide +kernel
theorem dX8_lookAhead_27 : decode cX8_lookAhead 27 = .ok (.invokestatic 48, 3) := by decide +kernel
theorem dX8_lookAhead_30 : decode cX8_lookAhead 30 = .ok (.iastore, 1) := by decide +kernel
theorem dX8_lookAhead_31 : decode cX8_lookAhead 31 = .ok (.iinc 1 (-1), 3) := by decide +kernel
theorem dX8_lookAhead_34 : decode cX8_lookAhead 34 = .ok (.goto (-30), 3) := by decide +kernel
theorem dX8_lookAhead_37 : decode cX8_lookAhead 37 = .ok (.return_, 1) := by decide +kernel
theorem dX9_init_0 : decode cX9_init 0 = .ok (.aload_n 0, 1) := by decide +kernel
theorem dX9_init_1 : decode cX9_init 1 = .ok (.invokespecial 1, 3) := by decide +kernel
theorem dX9_init_4 : decode cX9_init 4 = .ok (.aload_n 0, 1) := by decide +kernel
theorem dX9_init_5 : decode cX9_init 5 = .ok (.sipush 2000, 3) := by decide +kernel
theorem dX9_init_8 : decode cX9_init 8 = .ok (.newarray .byte, 2) := by decide +kernel
theorem dX9_init_10 : decode cX9_init 10 = .ok (.putfield 9, 3) := by decide +kernel
theorem dX9_init_13 : decode cX9_init 13 = .ok (.aload_n 0, 1) := by decide +kernel
theorem dX9_init_14 : decode cX9_init 14 = .ok (.iconst 0, 1) := by decide +kernel
theorem dX9_init_15 : decode cX9_init 15 = .ok (.putfield 13, 3) := by decide +kernel
theorem dX9_init_18 : decode cX9_init 18 = .ok (.return_, 1) := by decide +kernel
theorem dX9_hasRoomFor_0 : decode cX9_hasRoomFor 0 = .ok (.aload_n 0, 1) := by decide +kernel
theorem dX9_hasRoomFor_1 : decode cX9_hasRoomFor 1 = .ok (.getfield 13, 3) := by decide +kernel
theorem dX9_hasRoomFor_4 : decode cX9_hasRoomFor 4 = .ok (.iload_n 1, 1) := by decide +kernel
theorem dX9_hasRoomFor_5 : decode cX9_hasRoomFor 5 = .ok (.iadd, 1) := by decide +kernel
theorem dX9_hasRoomFor_6 : decode cX9_hasRoomFor 6 = .ok (.sipush 2000, 3) := by decide +kernel
theorem dX9_hasRoomFor_9 : decode cX9_hasRoomFor 9 = .ok (.if_icmp .gt 7, 3) := by decide +kernel
theorem dX9_hasRoomFor_12 : decode cX9_hasRoomFor 12 = .ok (.iconst 1, 1) := by decide +kernel
theorem dX9_hasRoomFor_13 : decode cX9_hasRoomFor 13 = .ok (.goto 4, 3) := by decide +kernel
theorem dX9_hasRoomFor_16 : decode cX9_hasRoomFor 16 = .ok (.iconst 0, 1) := by decide +kernel
theorem dX9_hasRoomFor_17 : decode cX9_hasRoomFor 17 = .ok (.ireturn, 1) := by decide +kernel
theorem dX9_append_0 : decode cX9_append 0 = .ok (.bipush 24, 2) := by decide +kernel
theorem dX9_append_2 : decode cX9_append 2 = .ok (.istore_n 2, 1) := by decide +kernel
theorem dX9_append_3 : decode cX9_append 3 = .ok (.iload_n 2, 1) := by decide +kernel
theorem dX9_append_4 : decode cX9_append 4 = .ok (.ifCond .lt 42, 3) := by decide +kernel
theorem dX9_append_7 : decode cX9_append 7 = .ok (.aload_n 0, 1) := by decide +kernel
theorem dX9_append_8 : decode cX9_append 8 = .ok (.getfield 13, 3) := by decide +kernel
theorem dX9_append_11 : decode cX9_append 11 = .ok (.sipush 2000, 3) := by decide +kernel
theorem dX9_append_14 : decode cX9_append 14 = .ok (.if_icmp .ge 32, 3) := by decide +kernel
theorem dX9_append_17 : decode cX9_append 17 = .ok (.aload_n 0, 1) := by decide +kernel
theorem dX9_append_18 : decode cX9_append 18 = .ok (.getfield 9, 3) := by decide +kernel
theorem dX9_append_21 : decode cX9_append 21 = .ok (.aload_n 0, 1) := by decide +kernel
theorem dX9_append_22 : decode cX9_append 22 = .ok (.getfield 13, 3) := by decide +kernel
theorem dX9_append_25 : decode cX9_append 25 = .ok (.iload_n 1, 1) := by decide +kernel
theorem dX9_append_26 : decode cX9_append 26 = .ok (.iload_n 2, 1) := by decide +kernel
theorem dX9_append_27 : decode cX9_append 27 = .ok (.ishr, 1) := by decide +kernel
theorem dX9_append_28 : decode cX9_append 28 = .ok (.i2b, 1) := by decide +kernel
theorem dX9_append_29 : decode cX9_append 29 = .ok (.bastore, 1) := by decide +kernel
theorem dX9_append_30 : decode cX9_append 30 = .ok (.aload_n 0, 1) := by decide +kernel
theorem dX9_append_31 : decode cX9_append 31 = .ok (.dup, 1) := by decide +kernel
theorem dX9_append_32 : decode cX9_append 32 = .ok (.getfield 13, 3) := by decide +kernel
theorem dX9_append_35 : decode cX9_append 35 = .ok (.iconst 1, 1) := by decide +kernel
theorem dX9_append_36 : decode cX9_append 36 = .ok (.iadd, 1) := by decide +kernel
theorem dX9_append_37 : decode cX9_append 37 = .ok (.putfield 13, 3) := by decide +kernel
theorem dX9_append_40 : decode cX9_append 40 = .ok (.iinc 2 (-8), 3) := by decide +kernel
theorem dX9_append_43 : decode cX9_append 43 = .ok (.goto (-40), 3) := by decide +kernel
theorem dX9_append_46 : decode cX9_append 46 = .ok (.return_, 1) := by decide +kernel
theorem dX9_byteAt_0 : decode cX9_byteAt 0 = .ok (.iload_n 1, 1) := by decide +kernel
theorem dX9_byteAt_1 : decode cX9_byteAt 1 = .ok (.ifCond .lt 27, 3) := by decide +kernel
theorem dX9_byteAt_4 : decode cX9_byteAt 4 = .ok (.iload_n 1, 1) := by decide +kernel
theorem dX9_byteAt_5 : decode cX9_byteAt 5 = .ok (.aload_n 0, 1) := by decide +kernel
theorem dX9_byteAt_6 : decode cX9_byteAt 6 = .ok (.getfield 13, 3) := by decide +kernel
theorem dX9_byteAt_9 : decode cX9_byteAt 9 = .ok (.if_icmp .ge 19, 3) := by decide +kernel
theorem dX9_byteAt_12 : decode cX9_byteAt 12 = .ok (.iload_n 1, 1) := by decide +kernel
theorem dX9_byteAt_13 : decode cX9_byteAt 13 = .ok (.sipush 2000, 3) := by decide +kernel
theorem dX9_byteAt_16 : decode cX9_byteAt 16 = .ok (.if_icmp .ge 12, 3) := by decide +kernel
theorem dX9_byteAt_19 : decode cX9_byteAt 19 = .ok (.aload_n 0, 1) := by decide +kernel
theorem dX9_byteAt_20 : decode cX9_byteAt 20 = .ok (.getfield 9, 3) := by decide +kernel
theorem dX9_byteAt_23 : decode cX9_byteAt 23 = .ok (.iload_n 1, 1) := by decide +kernel
theorem dX9_byteAt_24 : decode cX9_byteAt 24 = .ok (.baload, 1) := by decide +kernel
theorem dX9_byteAt_25 : decode cX9_byteAt 25 = .ok (.goto 4, 3) := by decide +kernel
theorem dX9_byteAt_28 : decode cX9_byteAt 28 = .ok (.iconst 0, 1) := by decide +kernel
theorem dX9_byteAt_29 : decode cX9_byteAt 29 = .ok (.ireturn, 1) := by decide +kernel
theorem dX10_init_0 : decode cX10_init 0 = .ok (.aload_n 0, 1) := by decide +kernel
theorem dX10_init_1 : decode cX10_init 1 = .ok (.invokespecial 5, 3) := by decide +kernel
theorem dX10_init_4 : decode cX10_init 4 = .ok (.aload_n 0, 1) := by decide +kernel
theorem dX10_init_5 : decode cX10_init 5 = .ok (.bipush 16, 2) := by decide +kernel
theorem dX10_init_7 : decode cX10_init 7 = .ok (.newarray .int, 2) := by decide +kernel
theorem dX10_init_9 : decode cX10_init 9 = .ok (.putfield 13, 3) := by decide +kernel
theorem dX10_init_12 : decode cX10_init 12 = .ok (.aload_n 0, 1) := by decide +kernel
theorem dX10_init_13 : decode cX10_init 13 = .ok (.bipush 16, 2) := by decide +kernel
theorem dX10_init_15 : decode cX10_init 15 = .ok (.newarray .int, 2) := by decide +kernel
theorem dX10_init_17 : decode cX10_init 17 = .ok (.putfield 17, 3) := by decide +kernel
theorem dX10_init_20 : decode cX10_init 20 = .ok (.aload_n 0, 1) := by decide +kernel
theorem dX10_init_21 : decode cX10_init 21 = .ok (.bipush 16, 2) := by decide +kernel
theorem dX10_init_23 : decode cX10_init 23 = .ok (.newarray .int, 2) := by decide +kernel
theorem dX10_init_25 : decode cX10_init 25 = .ok (.putfield 20, 3) := by decide +kernel
theorem dX10_init_28 : decode cX10_init 28 = .ok (.aload_n 0, 1) := by decide +kernel
theorem dX10_init_29 : decode cX10_init 29 = .ok (.bipush 16, 2) := by decide +kernel
theorem dX10_init_31 : decode cX10_init 31 = .ok (.newarray .int, 2) := by decide +kernel
theorem dX10_init_33 : decode cX10_init 33 = .ok (.putfield 23, 3) := by decide +kernel
theorem dX10_init_36 : decode cX10_init 36 = .ok (.aload_n 0, 1) := by decide +kernel
theorem dX10_init_37 : decode cX10_init 37 = .ok (.sipush 400, 3) := by decide +kernel
theorem dX10_init_40 : decode cX10_init 40 = .ok (.newarray .int, 2) := by decide +kernel
theorem dX10_init_42 : decode cX10_init 42 = .ok (.putfield 26, 3) := by decide +kernel
theorem dX10_init_45 : decode cX10_init 45 = .ok (.aload_n 0, 1) := by decide +kernel
theorem dX10_init_46 : decode cX10_init 46 = .ok (.bipush 32, 2) := by decide +kernel
theorem dX10_init_48 : decode cX10_init 48 = .ok (.newarray .int, 2) := by decide +kernel
theorem dX10_init_50 : decode cX10_init 50 = .ok (.putfield 29, 3) := by decide +kernel
theorem dX10_init_53 : decode cX10_init 53 = .ok (.aload_n 0, 1) := by decide +kernel
theorem dX10_init_54 : decode cX10_init 54 = .ok (.iconst 0, 1) := by decide +kernel
theorem dX10_init_55 : decode cX10_init 55 = .ok (.putfield 32, 3) := by decide +kernel
theorem dX10_init_58 : decode cX10_init 58 = .ok (.aload_n 0, 1) := by decide +kernel
theorem dX10_init_59 : decode cX10_init 59 = .ok (.iconst 0, 1) := by decide +kernel
theorem dX10_init_60 : decode cX10_init 60 = .ok (.putfield 36, 3) := by decide +kernel
theorem dX10_init_63 : decode cX10_init 63 = .ok (.return_, 1) := by decide +kernel
theorem dX10_clear_0 : decode cX10_clear 0 = .ok (.aload_n 0, 1) := by decide +kernel
theorem dX10_clear_1 : decode cX10_clear 1 = .ok (.iconst 0, 1) := by decide +kernel
theorem dX10_clear_2 : decode cX10_clear 2 = .ok (.putfield 32, 3) := by decide +kernel
theorem dX10_clear_5 : decode cX10_clear 5 = .ok (.aload_n 0, 1) := by decide +kernel
theorem dX10_clear_6 : decode cX10_clear 6 = .ok (.iconst 0, 1) := by decide +kernel
theorem dX10_clear_7 : decode cX10_clear 7 = .ok (.putfield 36, 3) := by decide +kernel
theorem dX10_clear_10 : decode cX10_clear 10 = .ok (.return_, 1) := by decide +kernel
theorem dX10_isFull_0 : decode cX10_isFull 0 = .ok (.aload_n 0, 1) := by decide +kernel
theorem dX10_isFull_1 : decode cX10_isFull 1 = .ok (.getfield 36, 3) := by decide +kernel
theorem dX10_isFull_4 : decode cX10_isFull 4 = .ok (.bipush 16, 2) := by decide +kernel
theorem dX10_isFull_6 : decode cX10_isFull 6 = .ok (.if_icmp .lt 7, 3) := by decide +kernel
theorem dX10_isFull_9 : decode cX10_isFull 9 = .ok (.iconst 1, 1) := by decide +kernel
theorem dX10_isFull_10 : decode cX10_isFull 10 = .ok (.goto 4, 3) := by decide +kernel
theorem dX10_isFull_13 : decode cX10_isFull 13 = .ok (.iconst 0, 1) := by decide +kernel
theorem dX10_isFull_14 : decode cX10_isFull 14 = .ok (.ireturn, 1) := by decide +kernel
theorem dX10_openRule_0 : decode cX10_openRule 0 = .ok (.aload_n 0, 1) := by decide +kernel
theorem dX10_openRule_1 : decode cX10_openRule 1 = .ok (.getfield 36, 3) := by decide +kernel
theorem dX10_openRule_4 : decode cX10_openRule 4 = .ok (.bipush 16, 2) := by decide +kernel
theorem dX10_openRule_6 : decode cX10_openRule 6 = .ok (.if_icmp .ge 47, 3) := by decide +kernel
theorem dX10_openRule_9 : decode cX10_openRule 9 = .ok (.aload_n 0, 1) := by decide +kernel
theorem dX10_openRule_10 : decode cX10_openRule 10 = .ok (.getfield 13, 3) := by decide +kernel
theorem dX10_openRule_13 : decode cX10_openRule 13 = .ok (.aload_n 0, 1) := by decide +kernel
theorem dX10_openRule_14 : decode cX10_openRule 14 = .ok (.getfield 36, 3) := by decide +kernel
theorem dX10_openRule_17 : decode cX10_openRule 17 = .ok (.iload_n 1, 1) := by decide +kernel
theorem dX10_openRule_18 : decode cX10_openRule 18 = .ok (.iastore, 1) := by decide +kernel
theorem dX10_openRule_19 : decode cX10_openRule 19 = .ok (.aload_n 0, 1) := by decide +kernel
theorem dX10_openRule_20 : decode cX10_openRule 20 = .ok (.getfield 17, 3) := by decide +kernel
theorem dX10_openRule_23 : decode cX10_openRule 23 = .ok (.aload_n 0, 1) := by decide +kernel
theorem dX10_openRule_24 : decode cX10_openRule 24 = .ok (.getfield 36, 3) := by decide +kernel
theorem dX10_openRule_27 : decode cX10_openRule 27 = .ok (.aload_n 0, 1) := by decide +kernel
theorem dX10_openRule_28 : decode cX10_openRule 28 = .ok (.getfield 32, 3) := by decide +kernel
theorem dX10_openRule_31 : decode cX10_openRule 31 = .ok (.iastore, 1) := by decide +kernel
theorem dX10_openRule_32 : decode cX10_openRule 32 = .ok (.aload_n 0, 1) := by decide +kernel
theorem dX10_openRule_33 : decode cX10_openRule 33 = .ok (.getfield 20, 3) := by decide +kernel
theorem dX10_openRule_36 : decode cX10_openRule 36 = .ok (.aload_n 0, 1) := by decide +kernel
theorem dX10_openRule_37 : decode cX10_openRule 37 = .ok (.getfield 36, 3) := by decide +kernel
theorem dX10_openRule_40 : decode cX10_openRule 40 = .ok (.iload_n 1, 1) := by decide +kernel
theorem dX10_openRule_41 : decode cX10_openRule 41 = .ok (.ifCond .ne 10, 3) := by decide +kernel
theorem dX10_openRule_44 : decode cX10_openRule 44 = .ok (.aload_n 0, 1) := by decide +kernel
theorem dX10_openRule_45 : decode cX10_openRule 45 = .ok (.getfield 32, 3) := by decide +kernel
theorem dX10_openRule_48 : decode cX10_openRule 48 = .ok (.goto 4, 3) := by decide +kernel
theorem dX10_openRule_51 : decode cX10_openRule 51 = .ok (.iconst (-1), 1) := by decide +kernel
theorem dX10_openRule_52 : decode cX10_openRule 52 = .ok (.iastore, 1) := by decide +kernel
theorem dX10_openRule_53 : decode cX10_openRule 53 = .ok (.return_, 1) := by decide +kernel
theorem dX10_openCondition_0 : decode cX10_openCondition 0 = .ok (.aload_n 0, 1) := by decide +kernel
theorem dX10_openCondition_1 : decode cX10_openCondition 1 = .ok (.getfield 36, 3) := by decide +kernel
theorem dX10_openCondition_4 : decode cX10_openCondition 4 = .ok (.bipush 16, 2) := by decide +kernel
theorem dX10_openCondition_6 : decode cX10_openCondition 6 = .ok (.if_icmp .ge 16, 3) := by decide +kernel
theorem dX10_openCondition_9 : decode cX10_openCondition 9 = .ok (.aload_n 0, 1) := by decide +kernel
theorem dX10_openCondition_10 : decode cX10_openCondition 10 = .ok (.getfield 20, 3) := by decide +kernel
theorem dX10_openCondition_13 : decode cX10_openCondition 13 = .ok (.aload_n 0, 1) := by decide +kernel
theorem dX10_openCondition_14 : decode cX10_openCondition 14 = .ok (.getfield 36, 3) := by decide +kernel
theorem dX10_openCondition_17 : decode cX10_openCondition 17 = .ok (.aload_n 0, 1) := by decide +kernel
theorem dX10_openCondition_18 : decode cX10_openCondition 18 = .ok (.getfield 32, 3) := by decide +kernel
theorem dX10_openCondition_21 : decode cX10_openCondition 21 = .ok (.iastore, 1) := by decide +kernel
theorem dX10_openCondition_22 : decode cX10_openCondition 22 = .ok (.return_, 1) := by decide +kernel
theorem dX10_closeRule_0 : decode cX10_closeRule 0 = .ok (.aload_n 0, 1) := by decide +kernel
theorem dX10_closeRule_1 : decode cX10_closeRule 1 = .ok (.getfield 36, 3) := by decide +kernel
theorem dX10_closeRule_4 : decode cX10_closeRule 4 = .ok (.bipush 16, 2) := by decide +kernel
theorem dX10_closeRule_6 : decode cX10_closeRule 6 = .ok (.if_icmp .ge 52, 3) := by decide +kernel
theorem dX10_closeRule_9 : decode cX10_closeRule 9 = .ok (.aload_n 0, 1) := by decide +kernel
theorem dX10_closeRule_10 : decode cX10_closeRule 10 = .ok (.getfield 23, 3) := by decide +kernel
theorem dX10_closeRule_13 : decode cX10_closeRule 13 = .ok (.aload_n 0, 1) := by decide +kernel
theorem dX10_closeRule_14 : decode cX10_closeRule 14 = .ok (.getfield 36, 3) := by decide +kernel
theorem dX10_closeRule_17 : decode cX10_closeRule 17 = .ok (.aload_n 0, 1) := by decide +kernel
theorem dX10_closeRule_18 : decode cX10_closeRule 18 = .ok (.getfield 32, 3) := by decide +kernel
theorem dX10_closeRule_21 : decode cX10_closeRule 21 = .ok (.iastore, 1) := by decide +kernel
theorem dX10_closeRule_22 : decode cX10_closeRule 22 = .ok (.aload_n 0, 1) := by decide +kernel
theorem dX10_closeRule_23 : decode cX10_closeRule 23 = .ok (.getfield 20, 3) := by decide +kernel
theorem dX10_closeRule_26 : decode cX10_closeRule 26 = .ok (.aload_n 0, 1) := by decide +kernel
theorem dX10_closeRule_27 : decode cX10_closeRule 27 = .ok (.getfield 36, 3) := by decide +kernel
theorem dX10_closeRule_30 : decode cX10_closeRule 30 = .ok (.iaload, 1) := by decide +kernel
theorem dX10_closeRule_31 : decode cX10_closeRule 31 = .ok (.iconst (-1), 1) := by decide +kernel
theorem dX10_closeRule_32 : decode cX10_closeRule 32 = .ok (.if_icmp .ne 16, 3) := by decide +kernel
theorem dX10_closeRule_35 : decode cX10_closeRule 35 = .ok (.aload_n 0, 1) := by decide +kernel
theorem dX10_closeRule_36 : decode cX10_closeRule 36 = .ok (.getfield 20, 3) := by decide +kernel
theorem dX10_closeRule_39 : decode cX10_closeRule 39 = .ok (.aload_n 0, 1) := by decide +kernel
theorem dX10_closeRule_40 : decode cX10_closeRule 40 = .ok (.getfield 36, 3) := by decide +kernel
theorem dX10_closeRule_43 : decode cX10_closeRule 43 = .ok (.aload_n 0, 1) := by decide +kernel
theorem dX10_closeRule_44 : decode cX10_closeRule 44 = .ok (.getfield 32, 3) := by decide +kernel
theorem dX10_closeRule_47 : decode cX10_closeRule 47 = .ok (.iastore, 1) := by decide +kernel
theorem dX10_closeRule_48 : decode cX10_closeRule 48 = .ok (.aload_n 0, 1) := by decide +kernel
theorem dX10_closeRule_49 : decode cX10_closeRule 49 = .ok (.dup, 1) := by decide +kernel
theorem dX10_closeRule_50 : decode cX10_closeRule 50 = .ok (.getfield 36, 3) := by decide +kernel
theorem dX10_closeRule_53 : decode cX10_closeRule 53 = .ok (.iconst 1, 1) := by decide +kernel
theorem dX10_closeRule_54 : decode cX10_closeRule 54 = .ok (.iadd, 1) := by decide +kernel
theorem dX10_closeRule_55 : decode cX10_closeRule 55 = .ok (.putfield 36, 3) := by decide +kernel
theorem dX10_closeRule_58 : decode cX10_closeRule 58 = .ok (.return_, 1) := by decide +kernel
theorem dX10_emit_0 : decode cX10_emit 0 = .ok (.aload_n 0, 1) := by decide +kernel
theorem dX10_emit_1 : decode cX10_emit 1 = .ok (.getfield 32, 3) := by decide +kernel
theorem dX10_emit_4 : decode cX10_emit 4 = .ok (.sipush 400, 3) := by decide +kernel
theorem dX10_emit_7 : decode cX10_emit 7 = .ok (.if_icmp .ge 27, 3) := by decide +kernel
theorem dX10_emit_10 : decode cX10_emit 10 = .ok (.aload_n 0, 1) := by decide +kernel
theorem dX10_emit_11 : decode cX10_emit 11 = .ok (.getfield 26, 3) := by decide +kernel
theorem dX10_emit_14 : decode cX10_emit 14 = .ok (.aload_n 0, 1) := by decide +kernel
theorem dX10_emit_15 : decode cX10_emit 15 = .ok (.getfield 32, 3) := by decide +kernel
theorem dX10_emit_18 : decode cX10_emit 18 = .ok (.iload_n 2, 1) := by decide +kernel
theorem dX10_emit_19 : decode cX10_emit 19 = .ok (.iconst 5, 1) := by decide +kernel
theorem dX10_emit_20 : decode cX10_emit 20 = .ok (.ishl, 1) := by decide +kernel
theorem dX10_emit_21 : decode cX10_emit 21 = .ok (.iload_n 1, 1) := by decide +kernel
theorem dX10_emit_22 : decode cX10_emit 22 = .ok (.ior, 1) := by decide +kernel
theorem dX10_emit_23 : decode cX10_emit 23 = .ok (.iastore, 1) := by decide +kernel
theorem dX10_emit_24 : decode cX10_emit 24 = .ok (.aload_n 0, 1) := by decide +kernel
theorem dX10_emit_25 : decode cX10_emit 25 = .ok (.dup, 1) := by decide +kernel
theorem dX10_emit_26 : decode cX10_emit 26 = .ok (.getfield 32, 3) := by decide +kernel
theorem dX10_emit_29 : decode cX10_emit 29 = .ok (.iconst 1, 1) := by decide +kernel
theorem dX10_emit_30 : decode cX10_emit 30 = .ok (.iadd, 1) := by decide +kernel
theorem dX10_emit_31 : decode cX10_emit 31 = .ok (.putfield 32, 3) := by decide +kernel
theorem dX10_emit_34 : decode cX10_emit 34 = .ok (.return_, 1) := by decide +kernel
set_option maxRecDepth 20000 in
theorem ggX10_amountOf_X10_work : GoodIn wsX10_amountOf wsX10_work := goodIn_r _ [15, 8, 9, 6, 10, 16, 17, 18, 19, 14, 20, 21, 22, 23, 24, 25, 26, 27, 28] (by decide +kernel) (by decide +kernel)
set_option maxRecDepth 20000 in
theorem gX10_amountOf_X10_work : GoodIn wsX10_amountOf (wsV RX10 39 RX10 yX10_work wsX10_work) := goodIn_app (goodIn_of _ (by decide +kernel)) ggX10_amountOf_X10_work
theorem dX10_amountOf_0 : decode cX10_amountOf 0 = .ok (.iload_n 1, 1) := by decide +kernel
theorem dX10_amountOf_1 : decode cX10_amountOf 1 = .ok (.ifCond .lt 17, 3) := by decide +kernel
theorem dX10_amountOf_4 : decode cX10_amountOf 4 = .ok (.iload_n 1, 1) := by decide +kernel
theorem dX10_amountOf_5 : decode cX10_amountOf 5 = .ok (.aload_n 0, 1) := by decide +kernel
theorem dX10_amountOf_6 : decode cX10_amountOf 6 = .ok (.getfield 36, 3) := by decide +kernel
theorem dX10_amountOf_9 : decode cX10_amountOf 9 = .ok (.if_icmp .ge 9, 3) := by decide +kernel
theorem dX10_amountOf_12 : decode cX10_amountOf 12 = .ok (.iload_n 1, 1) := by decide +kernel
theorem dX10_amountOf_13 : decode cX10_amountOf 13 = .ok (.bipush 16, 2) := by decide +kernel
theorem dX10_amountOf_15 : decode cX10_amountOf 15 = .ok (.if_icmp .lt 5, 3) := by decide +kernel
theorem dX10_amountOf_18 : decode cX10_amountOf 18 = .ok (.iconst 0, 1) := by decide +kernel
theorem dX10_amountOf_19 : decode cX10_amountOf 19 = .ok (.ireturn, 1) := by decide +kernel
theorem dX10_amountOf_20 : decode cX10_amountOf 20 = .ok (.iconst 0, 1) := by decide +kernel
theorem dX10_amountOf_21 : decode cX10_amountOf 21 = .ok (.bipush 30, 2) := by decide +kernel
theorem dX10_amountOf_23 : decode cX10_amountOf 23 = .ok (.aload_n 0, 1) := by decide +kernel
theorem dX10_amountOf_24 : decode cX10_amountOf 24 = .ok (.aload_n 0, 1) := by decide +kernel
theorem dX10_amountOf_25 : decode cX10_amountOf 25 = .ok (.getfield 17, 3) := by decide +kernel
theorem dX10_amountOf_28 : decode cX10_amountOf 28 = .ok (.iload_n 1, 1) := by decide +kernel
theorem dX10_amountOf_29 : decode cX10_amountOf 29 = .ok (.iaload, 1) := by decide +kernel
theorem dX10_amountOf_30 : decode cX10_amountOf 30 = .ok (.aload_n 0, 1) := by decide +kernel
theorem dX10_amountOf_31 : decode cX10_amountOf 31 = .ok (.getfield 20, 3) := by decide +kernel
theorem dX10_amountOf_34 : decode cX10_amountOf 34 = .ok (.iload_n 1, 1) := by decide +kernel
theorem dX10_amountOf_35 : decode cX10_amountOf 35 = .ok (.iaload, 1) := by decide +kernel
theorem dX10_amountOf_36 : decode cX10_amountOf 36 = .ok (.aload_n 2, 1) := by decide +kernel
theorem dX10_amountOf_37 : decode cX10_amountOf 37 = .ok (.invokevirtual 39, 3) := by decide +kernel
theorem dX10_amountOf_40 : decode cX10_amountOf 40 = .ok (.invokestatic 43, 3) := by decide +kernel
theorem dX10_amountOf_43 : decode cX10_amountOf 43 = .ok (.invokestatic 49, 3) := by decide +kernel
theorem dX10_amountOf_46 : decode cX10_amountOf 46 = .ok (.ireturn, 1) := by decide +kernel
set_option maxRecDepth 20000 in
theorem ggX10_firstThatHolds_X10_work : GoodIn wsX10_firstThatHolds wsX10_work := goodIn_r _ [9, 10, 11, 12, 13, 14, 15, 16, 17, 8, 18, 19, 20, 21, 22, 23, 24, 25, 26] (by decide +kernel) (by decide +kernel)
set_option maxRecDepth 20000 in
theorem gX10_firstThatHolds_X10_work : GoodIn wsX10_firstThatHolds (wsV RX10 39 RX10 yX10_work wsX10_work) := goodIn_app (goodIn_of _ (by decide +kernel)) ggX10_firstThatHolds_X10_work
theorem dX10_firstThatHolds_0 : decode cX10_firstThatHolds 0 = .ok (.iconst 0, 1) := by decide +kernel
theorem dX10_firstThatHolds_1 : decode cX10_firstThatHolds 1 = .ok (.istore_n 3, 1) := by decide +kernel
theorem dX10_firstThatHolds_2 : decode cX10_firstThatHolds 2 = .ok (.iload_n 3, 1) := by decide +kernel
theorem dX10_firstThatHolds_3 : decode cX10_firstThatHolds 3 = .ok (.aload_n 0, 1) := by decide +kernel
theorem dX10_firstThatHolds_4 : decode cX10_firstThatHolds 4 = .ok (.getfield 36, 3) := by decide +kernel
theorem dX10_firstThatHolds_7 : decode cX10_firstThatHolds 7 = .ok (.if_icmp .ge 74, 3) := by decide +kernel
theorem dX10_firstThatHolds_10 : decode cX10_firstThatHolds 10 = .ok (.iload_n 3, 1) := by decide +kernel
theorem dX10_firstThatHolds_11 : decode cX10_firstThatHolds 11 = .ok (.bipush 16, 2) := by decide +kernel
theorem dX10_firstThatHolds_13 : decode cX10_firstThatHolds 13 = .ok (.if_icmp .ge 68, 3) := by decide +kernel
theorem dX10_firstThatHolds_16 : decode cX10_firstThatHolds 16 = .ok (.aload_n 0, 1) := by decide +kernel
theorem dX10_firstThatHolds_17 : decode cX10_firstThatHolds 17 = .ok (.getfield 13, 3) := by decide +kernel
theorem dX10_firstThatHolds_20 : decode cX10_firstThatHolds 20 = .ok (.iload_n 3, 1) := by decide +kernel
theorem dX10_firstThatHolds_21 : decode cX10_firstThatHolds 21 = .ok (.iaload, 1) := by decide +kernel
theorem dX10_firstThatHolds_22 : decode cX10_firstThatHolds 22 = .ok (.iload_n 1, 1) := by decide +kernel
theorem dX10_firstThatHolds_23 : decode cX10_firstThatHolds 23 = .ok (.if_icmp .ne 52, 3) := by decide +kernel
theorem dX10_firstThatHolds_26 : decode cX10_firstThatHolds 26 = .ok (.aload_n 0, 1) := by decide +kernel
theorem dX10_firstThatHolds_27 : decode cX10_firstThatHolds 27 = .ok (.getfield 20, 3) := by decide +kernel
theorem dX10_firstThatHolds_30 : decode cX10_firstThatHolds 30 = .ok (.iload_n 3, 1) := by decide +kernel
theorem dX10_firstThatHolds_31 : decode cX10_firstThatHolds 31 = .ok (.iaload, 1) := by decide +kernel
theorem dX10_firstThatHolds_32 : decode cX10_firstThatHolds 32 = .ok (.aload_n 0, 1) := by decide +kernel
theorem dX10_firstThatHolds_33 : decode cX10_firstThatHolds 33 = .ok (.getfield 23, 3) := by decide +kernel
theorem dX10_firstThatHolds_36 : decode cX10_firstThatHolds 36 = .ok (.iload_n 3, 1) := by decide +kernel
theorem dX10_firstThatHolds_37 : decode cX10_firstThatHolds 37 = .ok (.iaload, 1) := by decide +kernel
theorem dX10_firstThatHolds_38 : decode cX10_firstThatHolds 38 = .ok (.if_icmp .ne 7, 3) := by decide +kernel
theorem dX10_firstThatHolds_41 : decode cX10_firstThatHolds 41 = .ok (.iconst 1, 1) := by decide +kernel
theorem dX10_firstThatHolds_42 : decode cX10_firstThatHolds 42 = .ok (.goto 4, 3) := by decide +kernel
theorem dX10_firstThatHolds_45 : decode cX10_firstThatHolds 45 = .ok (.iconst 0, 1) := by decide +kernel
theorem dX10_firstThatHolds_46 : decode cX10_firstThatHolds 46 = .ok (.istore 4, 2) := by decide +kernel
theorem dX10_firstThatHolds_48 : decode cX10_firstThatHolds 48 = .ok (.iload 4, 2) := by decide +kernel
theorem dX10_firstThatHolds_50 : decode cX10_firstThatHolds 50 = .ok (.ifCond .ne 23, 3) := by decide +kernel
theorem dX10_firstThatHolds_53 : decode cX10_firstThatHolds 53 = .ok (.aload_n 0, 1) := by decide +kernel
theorem dX10_firstThatHolds_54 : decode cX10_firstThatHolds 54 = .ok (.aload_n 0, 1) := by decide +kernel
theorem dX10_firstThatHolds_55 : decode cX10_firstThatHolds 55 = .ok (.getfield 20, 3) := by decide +kernel
theorem dX10_firstThatHolds_58 : decode cX10_firstThatHolds 58 = .ok (.iload_n 3, 1) := by decide +kernel
theorem dX10_firstThatHolds_59 : decode cX10_firstThatHolds 59 = .ok (.iaload, 1) := by decide +kernel
theorem dX10_firstThatHolds_60 : decode cX10_firstThatHolds 60 = .ok (.aload_n 0, 1) := by decide +kernel
theorem dX10_firstThatHolds_61 : decode cX10_firstThatHolds 61 = .ok (.getfield 23, 3) := by decide +kernel
theorem dX10_firstThatHolds_64 : decode cX10_firstThatHolds 64 = .ok (.iload_n 3, 1) := by decide +kernel
theorem dX10_firstThatHolds_65 : decode cX10_firstThatHolds 65 = .ok (.iaload, 1) := by decide +kernel
theorem dX10_firstThatHolds_66 : decode cX10_firstThatHolds 66 = .ok (.aload_n 2, 1) := by decide +kernel
theorem dX10_firstThatHolds_67 : decode cX10_firstThatHolds 67 = .ok (.invokevirtual 39, 3) := by decide +kernel
theorem dX10_firstThatHolds_70 : decode cX10_firstThatHolds 70 = .ok (.ifCond .eq 5, 3) := by decide +kernel
theorem dX10_firstThatHolds_73 : decode cX10_firstThatHolds 73 = .ok (.iload_n 3, 1) := by decide +kernel
theorem dX10_firstThatHolds_74 : decode cX10_firstThatHolds 74 = .ok (.ireturn, 1) := by decide +kernel
theorem dX10_firstThatHolds_75 : decode cX10_firstThatHolds 75 = .ok (.iinc 3 1, 3) := by decide +kernel
theorem dX10_firstThatHolds_78 : decode cX10_firstThatHolds 78 = .ok (.goto (-76), 3) := by decide +kernel
theorem dX10_firstThatHolds_81 : decode cX10_firstThatHolds 81 = .ok (.iconst (-1), 1) := by decide +kernel
theorem dX10_firstThatHolds_82 : decode cX10_firstThatHolds 82 = .ok (.ireturn, 1) := by decide +kernel
set_option maxRecDepth 20000 in
theorem ggX10_work_X10_join : GoodIn wsX10_work wsX10_join := goodIn_r _ [10] (by decide +kernel) (by decide +kernel)
set_option maxRecDepth 20000 in
theorem gX10_work_X10_join : GoodIn wsX10_work (va_wsS RX10 52 yX10_join wsX10_join) := goodIn_app (goodIn_of _ (by decide +kernel)) ggX10_work_X10_join
theorem dX10_work_0 : decode cX10_work 0 = .ok (.iconst 0, 1) := by decide +kernel
theorem dX10_work_1 : decode cX10_work 1 = .ok (.istore 4, 2) := by decide +kernel
theorem dX10_work_3 : decode cX10_work 3 = .ok (.iconst 0, 1) := by decide +kernel
theorem dX10_work_4 : decode cX10_work 4 = .ok (.iload_n 1, 1) := by decide +kernel
theorem dX10_work_5 : decode cX10_work 5 = .ok (.invokestatic 49, 3) := by decide +kernel
theorem dX10_work_8 : decode cX10_work 8 = .ok (.istore 5, 2) := by decide +kernel
theorem dX10_work_10 : decode cX10_work 10 = .ok (.iload 5, 2) := by decide +kernel
theorem dX10_work_12 : decode cX10_work 12 = .ok (.iload_n 2, 1) := by decide +kernel
theorem dX10_work_13 : decode cX10_work 13 = .ok (.if_icmp .ge 154, 3) := by decide +kernel
theorem dX10_work_16 : decode cX10_work 16 = .ok (.iload 5, 2) := by decide +kernel
theorem dX10_work_18 : decode cX10_work 18 = .ok (.sipush 400, 3) := by decide +kernel
theorem dX10_work_21 : decode cX10_work 21 = .ok (.if_icmp .ge 146, 3) := by decide +kernel
theorem dX10_work_24 : decode cX10_work 24 = .ok (.aload_n 0, 1) := by decide +kernel
theorem dX10_work_25 : decode cX10_work 25 = .ok (.getfield 26, 3) := by decide +kernel
theorem dX10_work_28 : decode cX10_work 28 = .ok (.iload 5, 2) := by decide +kernel
theorem dX10_work_30 : decode cX10_work 30 = .ok (.iaload, 1) := by decide +kernel
theorem dX10_work_31 : decode cX10_work 31 = .ok (.bipush 31, 2) := by decide +kernel
theorem dX10_work_33 : decode cX10_work 33 = .ok (.iand, 1) := by decide +kernel
theorem dX10_work_34 : decode cX10_work 34 = .ok (.istore 6, 2) := by decide +kernel
theorem dX10_work_36 : decode cX10_work 36 = .ok (.iload 6, 2) := by decide +kernel
theorem dX10_work_38 : decode cX10_work 38 = .ok (.bipush 6, 2) := by decide +kernel
theorem dX10_work_40 : decode cX10_work 40 = .ok (.isub, 1) := by decide +kernel
theorem dX10_work_41 : decode cX10_work 41 = .ok (.istore 7, 2) := by decide +kernel
theorem dX10_work_43 : decode cX10_work 43 = .ok (.iload 6, 2) := by decide +kernel
theorem dX10_work_45 : decode cX10_work 45 = .ok (.bipush 25, 2) := by decide +kernel
theorem dX10_work_47 : decode cX10_work 47 = .ok (.if_icmp .ne 32, 3) := by decide +kernel
theorem dX10_work_50 : decode cX10_work 50 = .ok (.iload 4, 2) := by decide +kernel
theorem dX10_work_52 : decode cX10_work 52 = .ok (.bipush 32, 2) := by decide +kernel
theorem dX10_work_54 : decode cX10_work 54 = .ok (.if_icmp .ge 25, 3) := by decide +kernel
theorem dX10_work_57 : decode cX10_work 57 = .ok (.aload_n 0, 1) := by decide +kernel
theorem dX10_work_58 : decode cX10_work 58 = .ok (.getfield 29, 3) := by decide +kernel
theorem dX10_work_61 : decode cX10_work 61 = .ok (.iload 4, 2) := by decide +kernel
theorem dX10_work_63 : decode cX10_work 63 = .ok (.aload_n 0, 1) := by decide +kernel
theorem dX10_work_64 : decode cX10_work 64 = .ok (.getfield 26, 3) := by decide +kernel
theorem dX10_work_67 : decode cX10_work 67 = .ok (.iload 5, 2) := by decide +kernel
theorem dX10_work_69 : decode cX10_work 69 = .ok (.iaload, 1) := by decide +kernel
theorem dX10_work_70 : decode cX10_work 70 = .ok (.iconst 5, 1) := by decide +kernel
theorem dX10_work_71 : decode cX10_work 71 = .ok (.ishr, 1) := by decide +kernel
theorem dX10_work_72 : decode cX10_work 72 = .ok (.iastore, 1) := by decide +kernel
theorem dX10_work_73 : decode cX10_work 73 = .ok (.iinc 4 1, 3) := by decide +kernel
theorem dX10_work_76 : decode cX10_work 76 = .ok (.goto 85, 3) := by decide +kernel
theorem dX10_work_79 : decode cX10_work 79 = .ok (.iload 7, 2) := by decide +kernel
theorem dX10_work_81 : decode cX10_work 81 = .ok (.ifCond .lt 41, 3) := by decide +kernel
theorem dX10_work_84 : decode cX10_work 84 = .ok (.iload 7, 2) := by decide +kernel
theorem dX10_work_86 : decode cX10_work 86 = .ok (.bipush 9, 2) := by decide +kernel
theorem dX10_work_88 : decode cX10_work 88 = .ok (.if_icmp .ge 34, 3) := by decide +kernel
theorem dX10_work_91 : decode cX10_work 91 = .ok (.iload 7, 2) := by decide +kernel
theorem dX10_work_93 : decode cX10_work 93 = .ok (.aload_n 3, 1) := by decide +kernel
theorem dX10_work_94 : decode cX10_work 94 = .ok (.arraylength, 1) := by decide +kernel
theorem dX10_work_95 : decode cX10_work 95 = .ok (.if_icmp .ge 27, 3) := by decide +kernel
theorem dX10_work_98 : decode cX10_work 98 = .ok (.iload 4, 2) := by decide +kernel
theorem dX10_work_100 : decode cX10_work 100 = .ok (.bipush 32, 2) := by decide +kernel
theorem dX10_work_102 : decode cX10_work 102 = .ok (.if_icmp .ge 20, 3) := by decide +kernel
theorem dX10_work_105 : decode cX10_work 105 = .ok (.aload_n 0, 1) := by decide +kernel
theorem dX10_work_106 : decode cX10_work 106 = .ok (.getfield 29, 3) := by decide +kernel
theorem dX10_work_109 : decode cX10_work 109 = .ok (.iload 4, 2) := by decide +kernel
theorem dX10_work_111 : decode cX10_work 111 = .ok (.aload_n 3, 1) := by decide +kernel
theorem dX10_work_112 : decode cX10_work 112 = .ok (.iload 7, 2) := by decide +kernel
theorem dX10_work_114 : decode cX10_work 114 = .ok (.iaload, 1) := by decide +kernel
theorem dX10_work_115 : decode cX10_work 115 = .ok (.iastore, 1) := by decide +kernel
theorem dX10_work_116 : decode cX10_work 116 = .ok (.iinc 4 1, 3) := by decide +kernel
theorem dX10_work_119 : decode cX10_work 119 = .ok (.goto 42, 3) := by decide +kernel
theorem dX10_work_122 : decode cX10_work 122 = .ok (.iload 4, 2) := by decide +kernel
