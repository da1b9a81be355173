theorem dX12_falls_21 : decode cX12_falls 21 = .ok (.bipush 10, 2) := by decide +kernel
theorem dX12_falls_23 : decode cX12_falls 23 = .ok (.if_icmp .ge 16, 3) := by decide +kernel
theorem dX12_falls_26 : decode cX12_falls 26 = .ok (.aload_n 0, 1) := by decide +kernel
theorem dX12_falls_27 : decode cX12_falls 27 = .ok (.getfield 119, 3) := by decide +kernel
theorem dX12_falls_30 : decode cX12_falls 30 = .ok (.iload_n 2, 1) := by decide +kernel
theorem dX12_falls_31 : decode cX12_falls 31 = .ok (.iconst 0, 1) := by decide +kernel
theorem dX12_falls_32 : decode cX12_falls 32 = .ok (.iastore, 1) := by decide +kernel
theorem dX12_falls_33 : decode cX12_falls 33 = .ok (.iinc 2 1, 3) := by decide +kernel
theorem dX12_falls_36 : decode cX12_falls 36 = .ok (.goto (-16), 3) := by decide +kernel
theorem dX12_falls_39 : decode cX12_falls 39 = .ok (.iconst 1, 1) := by decide +kernel
theorem dX12_falls_40 : decode cX12_falls 40 = .ok (.ireturn, 1) := by decide +kernel
theorem dX12_cell_0 : decode cX12_cell 0 = .ok (.iload_n 1, 1) := by decide +kernel
theorem dX12_cell_1 : decode cX12_cell 1 = .ok (.ifCond .lt 21, 3) := by decide +kernel
theorem dX12_cell_4 : decode cX12_cell 4 = .ok (.iload_n 1, 1) := by decide +kernel
theorem dX12_cell_5 : decode cX12_cell 5 = .ok (.aload_n 0, 1) := by decide +kernel
theorem dX12_cell_6 : decode cX12_cell 6 = .ok (.getfield 201, 3) := by decide +kernel
theorem dX12_cell_9 : decode cX12_cell 9 = .ok (.if_icmp .ge 13, 3) := by decide +kernel
theorem dX12_cell_12 : decode cX12_cell 12 = .ok (.iload_n 2, 1) := by decide +kernel
theorem dX12_cell_13 : decode cX12_cell 13 = .ok (.ifCond .lt 9, 3) := by decide +kernel
theorem dX12_cell_16 : decode cX12_cell 16 = .ok (.iload_n 2, 1) := by decide +kernel
theorem dX12_cell_17 : decode cX12_cell 17 = .ok (.bipush 99, 2) := by decide +kernel
theorem dX12_cell_19 : decode cX12_cell 19 = .ok (.if_icmp .le 5, 3) := by decide +kernel
theorem dX12_cell_22 : decode cX12_cell 22 = .ok (.iconst 0, 1) := by decide +kernel
theorem dX12_cell_23 : decode cX12_cell 23 = .ok (.ireturn, 1) := by decide +kernel
theorem dX12_cell_24 : decode cX12_cell 24 = .ok (.aload_n 0, 1) := by decide +kernel
theorem dX12_cell_25 : decode cX12_cell 25 = .ok (.getfield 119, 3) := by decide +kernel
theorem dX12_cell_28 : decode cX12_cell 28 = .ok (.iload_n 1, 1) := by decide +kernel
theorem dX12_cell_29 : decode cX12_cell 29 = .ok (.iload_n 2, 1) := by decide +kernel
theorem dX12_cell_30 : decode cX12_cell 30 = .ok (.iastore, 1) := by decide +kernel
theorem dX12_cell_31 : decode cX12_cell 31 = .ok (.iconst 1, 1) := by decide +kernel
theorem dX12_cell_32 : decode cX12_cell 32 = .ok (.ireturn, 1) := by decide +kernel
theorem dX12_ground_0 : decode cX12_ground 0 = .ok (.iload_n 1, 1) := by decide +kernel
theorem dX12_ground_1 : decode cX12_ground 1 = .ok (.ifCond .lt 20, 3) := by decide +kernel
theorem dX12_ground_4 : decode cX12_ground 4 = .ok (.iload_n 1, 1) := by decide +kernel
theorem dX12_ground_5 : decode cX12_ground 5 = .ok (.bipush 50, 2) := by decide +kernel
theorem dX12_ground_7 : decode cX12_ground 7 = .ok (.if_icmp .gt 14, 3) := by decide +kernel
theorem dX12_ground_10 : decode cX12_ground 10 = .ok (.iload_n 2, 1) := by decide +kernel
theorem dX12_ground_11 : decode cX12_ground 11 = .ok (.ifCond .lt 10, 3) := by decide +kernel
theorem dX12_ground_14 : decode cX12_ground 14 = .ok (.iload_n 2, 1) := by decide +kernel
theorem dX12_ground_15 : decode cX12_ground 15 = .ok (.sipush 300, 3) := by decide +kernel
theorem dX12_ground_18 : decode cX12_ground 18 = .ok (.if_icmp .le 5, 3) := by decide +kernel
theorem dX12_ground_21 : decode cX12_ground 21 = .ok (.iconst 0, 1) := by decide +kernel
theorem dX12_ground_22 : decode cX12_ground 22 = .ok (.ireturn, 1) := by decide +kernel
theorem dX12_ground_23 : decode cX12_ground 23 = .ok (.aload_n 0, 1) := by decide +kernel
theorem dX12_ground_24 : decode cX12_ground 24 = .ok (.iload_n 1, 1) := by decide +kernel
theorem dX12_ground_25 : decode cX12_ground 25 = .ok (.putfield 313, 3) := by decide +kernel
theorem dX12_ground_28 : decode cX12_ground 28 = .ok (.aload_n 0, 1) := by decide +kernel
theorem dX12_ground_29 : decode cX12_ground 29 = .ok (.iload_n 2, 1) := by decide +kernel
theorem dX12_ground_30 : decode cX12_ground 30 = .ok (.putfield 198, 3) := by decide +kernel
theorem dX12_ground_33 : decode cX12_ground 33 = .ok (.iconst 1, 1) := by decide +kernel
theorem dX12_ground_34 : decode cX12_ground 34 = .ok (.ireturn, 1) := by decide +kernel
theorem dX12_fact_0 : decode cX12_fact 0 = .ok (.aload_n 0, 1) := by decide +kernel
theorem dX12_fact_1 : decode cX12_fact 1 = .ok (.getfield 122, 3) := by decide +kernel
theorem dX12_fact_4 : decode cX12_fact 4 = .ok (.aload_n 0, 1) := by decide +kernel
theorem dX12_fact_5 : decode cX12_fact 5 = .ok (.getfield 307, 3) := by decide +kernel
theorem dX12_fact_8 : decode cX12_fact 8 = .ok (.iload_n 1, 1) := by decide +kernel
theorem dX12_fact_9 : decode cX12_fact 9 = .ok (.iastore, 1) := by decide +kernel
theorem dX12_fact_10 : decode cX12_fact 10 = .ok (.aload_n 0, 1) := by decide +kernel
theorem dX12_fact_11 : decode cX12_fact 11 = .ok (.getfield 125, 3) := by decide +kernel
theorem dX12_fact_14 : decode cX12_fact 14 = .ok (.aload_n 0, 1) := by decide +kernel
theorem dX12_fact_15 : decode cX12_fact 15 = .ok (.getfield 307, 3) := by decide +kernel
theorem dX12_fact_18 : decode cX12_fact 18 = .ok (.iload_n 2, 1) := by decide +kernel
theorem dX12_fact_19 : decode cX12_fact 19 = .ok (.iastore, 1) := by decide +kernel
theorem dX12_fact_20 : decode cX12_fact 20 = .ok (.aload_n 0, 1) := by decide +kernel
theorem dX12_fact_21 : decode cX12_fact 21 = .ok (.getfield 128, 3) := by decide +kernel
theorem dX12_fact_24 : decode cX12_fact 24 = .ok (.aload_n 0, 1) := by decide +kernel
theorem dX12_fact_25 : decode cX12_fact 25 = .ok (.getfield 307, 3) := by decide +kernel
theorem dX12_fact_28 : decode cX12_fact 28 = .ok (.iload_n 3, 1) := by decide +kernel
theorem dX12_fact_29 : decode cX12_fact 29 = .ok (.iastore, 1) := by decide +kernel
theorem dX12_fact_30 : decode cX12_fact 30 = .ok (.aload_n 0, 1) := by decide +kernel
theorem dX12_fact_31 : decode cX12_fact 31 = .ok (.dup, 1) := by decide +kernel
theorem dX12_fact_32 : decode cX12_fact 32 = .ok (.getfield 307, 3) := by decide +kernel
theorem dX12_fact_35 : decode cX12_fact 35 = .ok (.iconst 1, 1) := by decide +kernel
theorem dX12_fact_36 : decode cX12_fact 36 = .ok (.iadd, 1) := by decide +kernel
theorem dX12_fact_37 : decode cX12_fact 37 = .ok (.putfield 307, 3) := by decide +kernel
theorem dX12_fact_40 : decode cX12_fact 40 = .ok (.aload_n 0, 1) := by decide +kernel
theorem dX12_fact_41 : decode cX12_fact 41 = .ok (.getfield 307, 3) := by decide +kernel
theorem dX12_fact_44 : decode cX12_fact 44 = .ok (.iconst 1, 1) := by decide +kernel
theorem dX12_fact_45 : decode cX12_fact 45 = .ok (.isub, 1) := by decide +kernel
theorem dX12_fact_46 : decode cX12_fact 46 = .ok (.ireturn, 1) := by decide +kernel
theorem dX12_isSpan_0 : decode cX12_isSpan 0 = .ok (.iload_n 0, 1) := by decide +kernel
theorem dX12_isSpan_1 : decode cX12_isSpan 1 = .ok (.ifCond .lt 19, 3) := by decide +kernel
theorem dX12_isSpan_4 : decode cX12_isSpan 4 = .ok (.iload_n 0, 1) := by decide +kernel
theorem dX12_isSpan_5 : decode cX12_isSpan 5 = .ok (.iload_n 1, 1) := by decide +kernel
theorem dX12_isSpan_6 : decode cX12_isSpan 6 = .ok (.if_icmp .ge 14, 3) := by decide +kernel
theorem dX12_isSpan_9 : decode cX12_isSpan 9 = .ok (.iload_n 1, 1) := by decide +kernel
theorem dX12_isSpan_10 : decode cX12_isSpan 10 = .ok (.sipush 240, 3) := by decide +kernel
theorem dX12_isSpan_13 : decode cX12_isSpan 13 = .ok (.if_icmp .gt 7, 3) := by decide +kernel
theorem dX12_isSpan_16 : decode cX12_isSpan 16 = .ok (.iconst 1, 1) := by decide +kernel
theorem dX12_isSpan_17 : decode cX12_isSpan 17 = .ok (.goto 4, 3) := by decide +kernel
theorem dX12_isSpan_20 : decode cX12_isSpan 20 = .ok (.iconst 0, 1) := by decide +kernel
theorem dX12_isSpan_21 : decode cX12_isSpan 21 = .ok (.ireturn, 1) := by decide +kernel
set_option maxRecDepth 20000 in
theorem ggX12_base_X12_isMinute : GoodIn wsX12_base wsX12_isMinute := goodIn_r _ [5] (by decide +kernel) (by decide +kernel)
set_option maxRecDepth 20000 in
theorem gX12_base_X12_isMinute : GoodIn wsX12_base (va_wsS RX12 316 yX12_isMinute wsX12_isMinute) := goodIn_app (goodIn_of _ (by decide +kernel)) ggX12_base_X12_isMinute
set_option maxRecDepth 20000 in
theorem ggX12_base_X12_fact : GoodIn wsX12_base wsX12_fact := goodIn_r _ [9, 10, 1, 11, 12, 13, 14, 15, 16, 17, 18, 19, 20, 21, 22, 23, 24, 25, 26, 27, 28, 29, 30, 31, 32, 33, 34, 35, 36, 37, 38, 39, 40, 41, 42, 43, 44, 45, 46, 47, 48, 49, 50, 51, 52, 53, 54, 55, 56, 57, 58, 59, 60, 61, 62, 63, 64, 65, 66, 67, 68, 69, 70, 71, 72, 73, 74, 75, 76, 77, 78, 79, 80, 81, 82, 83, 84, 85, 86, 87, 88, 89, 90, 91, 92, 93, 94, 95, 96, 97] (by decide +kernel) (by decide +kernel)
set_option maxRecDepth 20000 in
theorem gX12_base_X12_fact : GoodIn wsX12_base (wsV RX12 319 RX12 yX12_fact wsX12_fact) := goodIn_app (goodIn_of _ (by decide +kernel)) ggX12_base_X12_fact
theorem dX12_base_0 : decode cX12_base 0 = .ok (.aload_n 0, 1) := by decide +kernel
theorem dX12_base_1 : decode cX12_base 1 = .ok (.getfield 307, 3) := by decide +kernel
theorem dX12_base_4 : decode cX12_base 4 = .ok (.bipush 100, 2) := by decide +kernel
theorem dX12_base_6 : decode cX12_base 6 = .ok (.if_icmp .eq 20, 3) := by decide +kernel
theorem dX12_base_9 : decode cX12_base 9 = .ok (.iload_n 1, 1) := by decide +kernel
theorem dX12_base_10 : decode cX12_base 10 = .ok (.invokestatic 316, 3) := by decide +kernel
theorem dX12_base_13 : decode cX12_base 13 = .ok (.ifCond .eq 13, 3) := by decide +kernel
theorem dX12_base_16 : decode cX12_base 16 = .ok (.iload_n 2, 1) := by decide +kernel
theorem dX12_base_17 : decode cX12_base 17 = .ok (.ifCond .lt 9, 3) := by decide +kernel
theorem dX12_base_20 : decode cX12_base 20 = .ok (.iload_n 2, 1) := by decide +kernel
theorem dX12_base_21 : decode cX12_base 21 = .ok (.bipush 9, 2) := by decide +kernel
theorem dX12_base_23 : decode cX12_base 23 = .ok (.if_icmp .le 7, 3) := by decide +kernel
theorem dX12_base_26 : decode cX12_base 26 = .ok (.iconst (-1), 1) := by decide +kernel
theorem dX12_base_27 : decode cX12_base 27 = .ok (.goto 10, 3) := by decide +kernel
theorem dX12_base_30 : decode cX12_base 30 = .ok (.aload_n 0, 1) := by decide +kernel
theorem dX12_base_31 : decode cX12_base 31 = .ok (.iconst 0, 1) := by decide +kernel
theorem dX12_base_32 : decode cX12_base 32 = .ok (.iload_n 1, 1) := by decide +kernel
theorem dX12_base_33 : decode cX12_base 33 = .ok (.iload_n 2, 1) := by decide +kernel
theorem dX12_base_34 : decode cX12_base 34 = .ok (.invokevirtual 319, 3) := by decide +kernel
theorem dX12_base_37 : decode cX12_base 37 = .ok (.ireturn, 1) := by decide +kernel
set_option maxRecDepth 20000 in
theorem ggX12_birds_X12_isSpan : GoodIn wsX12_birds wsX12_isSpan := goodIn_r _ [5] (by decide +kernel) (by decide +kernel)
set_option maxRecDepth 20000 in
theorem gX12_birds_X12_isSpan : GoodIn wsX12_birds (va_wsS RX12 322 yX12_isSpan wsX12_isSpan) := goodIn_app (goodIn_of _ (by decide +kernel)) ggX12_birds_X12_isSpan
set_option maxRecDepth 20000 in
theorem ggX12_birds_X12_fact : GoodIn wsX12_birds wsX12_fact := goodIn_r _ [9, 10, 1, 11, 12, 13, 14, 15, 16, 17, 18, 19, 20, 21, 22, 23, 24, 25, 26, 27, 28, 29, 30, 31, 32, 33, 34, 35, 36, 37, 38, 39, 40, 41, 42, 43, 44, 45, 46, 47, 48, 49, 50, 51, 52, 53, 54, 55, 56, 57, 58, 59, 60, 61, 62, 63, 64, 65, 66, 67, 68, 69, 70, 71, 72, 73, 74, 75, 76, 77, 78, 79, 80, 81, 82, 83, 84, 85, 86, 87, 88, 89, 90, 91, 92, 93, 94, 95, 96, 97] (by decide +kernel) (by decide +kernel)
set_option maxRecDepth 20000 in
theorem gX12_birds_X12_fact : GoodIn wsX12_birds (wsV RX12 319 RX12 yX12_fact wsX12_fact) := goodIn_app (goodIn_of _ (by decide +kernel)) ggX12_birds_X12_fact
theorem dX12_birds_0 : decode cX12_birds 0 = .ok (.aload_n 0, 1) := by decide +kernel
theorem dX12_birds_1 : decode cX12_birds 1 = .ok (.getfield 307, 3) := by decide +kernel
theorem dX12_birds_4 : decode cX12_birds 4 = .ok (.bipush 100, 2) := by decide +kernel
theorem dX12_birds_6 : decode cX12_birds 6 = .ok (.if_icmp .eq 11, 3) := by decide +kernel
theorem dX12_birds_9 : decode cX12_birds 9 = .ok (.iload_n 1, 1) := by decide +kernel
theorem dX12_birds_10 : decode cX12_birds 10 = .ok (.iload_n 2, 1) := by decide +kernel
theorem dX12_birds_11 : decode cX12_birds 11 = .ok (.invokestatic 322, 3) := by decide +kernel
theorem dX12_birds_14 : decode cX12_birds 14 = .ok (.ifCond .ne 7, 3) := by decide +kernel
theorem dX12_birds_17 : decode cX12_birds 17 = .ok (.iconst (-1), 1) := by decide +kernel
theorem dX12_birds_18 : decode cX12_birds 18 = .ok (.goto 10, 3) := by decide +kernel
theorem dX12_birds_21 : decode cX12_birds 21 = .ok (.aload_n 0, 1) := by decide +kernel
theorem dX12_birds_22 : decode cX12_birds 22 = .ok (.iconst 1, 1) := by decide +kernel
theorem dX12_birds_23 : decode cX12_birds 23 = .ok (.iload_n 1, 1) := by decide +kernel
theorem dX12_birds_24 : decode cX12_birds 24 = .ok (.iload_n 2, 1) := by decide +kernel
theorem dX12_birds_25 : decode cX12_birds 25 = .ok (.invokevirtual 319, 3) := by decide +kernel
theorem dX12_birds_28 : decode cX12_birds 28 = .ok (.ireturn, 1) := by decide +kernel
set_option maxRecDepth 20000 in
theorem ggX12_ready_X12_isAct : GoodIn wsX12_ready wsX12_isAct := goodIn_r _ [6, 7, 18, 19, 20, 21, 22, 23, 24, 25, 26, 27, 28, 29, 30, 31, 32, 33, 34, 35, 36, 37, 38, 39, 40, 41, 42, 43, 44, 45, 46, 47, 48, 49, 50, 51, 52, 53, 54, 55, 56, 57, 58, 59, 60, 61, 62, 63, 64, 65, 66, 67, 68, 69, 70, 71, 72, 73, 74, 75, 76, 77, 78, 79, 80, 81, 82, 83, 84, 85, 86, 87, 88, 89, 90, 91, 92, 93, 94, 95, 96, 97, 98, 99, 100, 101, 102] (by decide +kernel) (by decide +kernel)
set_option maxRecDepth 20000 in
theorem gX12_ready_X12_isAct : GoodIn wsX12_ready (wsV RX12 310 RX12 yX12_isAct wsX12_isAct) := goodIn_app (goodIn_of _ (by decide +kernel)) ggX12_ready_X12_isAct
set_option maxRecDepth 20000 in
theorem ggX12_ready_X12_isMinute : GoodIn wsX12_ready wsX12_isMinute := goodIn_r _ [10] (by decide +kernel) (by decide +kernel)
set_option maxRecDepth 20000 in
theorem gX12_ready_X12_isMinute : GoodIn wsX12_ready (va_wsS RX12 316 yX12_isMinute wsX12_isMinute) := goodIn_app (goodIn_of _ (by decide +kernel)) ggX12_ready_X12_isMinute
set_option maxRecDepth 20000 in
theorem ggX12_ready_X12_fact : GoodIn wsX12_ready wsX12_fact := goodIn_r _ [14, 15, 1, 16, 17, 18, 19, 20, 21, 22, 23, 24, 25, 26, 27, 28, 29, 30, 31, 32, 33, 34, 35, 36, 37, 38, 39, 40, 41, 42, 43, 44, 45, 46, 47, 48, 49, 50, 51, 52, 53, 54, 55, 56, 57, 58, 59, 60, 61, 62, 63, 64, 65, 66, 67, 68, 69, 70, 71, 72, 73, 74, 75, 76, 77, 78, 79, 80, 81, 82, 83, 84, 85, 86, 87, 88, 89, 90, 91, 92, 93, 94, 95, 96, 97, 98, 99, 100, 101, 102] (by decide +kernel) (by decide +kernel)
set_option maxRecDepth 20000 in
theorem gX12_ready_X12_fact : GoodIn wsX12_ready (wsV RX12 319 RX12 yX12_fact wsX12_fact) := goodIn_app (goodIn_of _ (by decide +kernel)) ggX12_ready_X12_fact
theorem dX12_ready_0 : decode cX12_ready 0 = .ok (.aload_n 0, 1) := by decide +kernel
theorem dX12_ready_1 : decode cX12_ready 1 = .ok (.getfield 307, 3) := by decide +kernel
theorem dX12_ready_4 : decode cX12_ready 4 = .ok (.bipush 100, 2) := by decide +kernel
theorem dX12_ready_6 : decode cX12_ready 6 = .ok (.if_icmp .eq 18, 3) := by decide +kernel
theorem dX12_ready_9 : decode cX12_ready 9 = .ok (.aload_n 0, 1) := by decide +kernel
theorem dX12_ready_10 : decode cX12_ready 10 = .ok (.iload_n 1, 1) := by decide +kernel
theorem dX12_ready_11 : decode cX12_ready 11 = .ok (.invokevirtual 310, 3) := by decide +kernel
theorem dX12_ready_14 : decode cX12_ready 14 = .ok (.ifCond .eq 10, 3) := by decide +kernel
theorem dX12_ready_17 : decode cX12_ready 17 = .ok (.iload_n 2, 1) := by decide +kernel
theorem dX12_ready_18 : decode cX12_ready 18 = .ok (.invokestatic 316, 3) := by decide +kernel
theorem dX12_ready_21 : decode cX12_ready 21 = .ok (.ifCond .ne 7, 3) := by decide +kernel
theorem dX12_ready_24 : decode cX12_ready 24 = .ok (.iconst (-1), 1) := by decide +kernel
theorem dX12_ready_25 : decode cX12_ready 25 = .ok (.goto 10, 3) := by decide +kernel
theorem dX12_ready_28 : decode cX12_ready 28 = .ok (.aload_n 0, 1) := by decide +kernel
theorem dX12_ready_29 : decode cX12_ready 29 = .ok (.iconst 2, 1) := by decide +kernel
theorem dX12_ready_30 : decode cX12_ready 30 = .ok (.iload_n 1, 1) := by decide +kernel
theorem dX12_ready_31 : decode cX12_ready 31 = .ok (.iload_n 2, 1) := by decide +kernel
theorem dX12_ready_32 : decode cX12_ready 32 = .ok (.invokevirtual 319, 3) := by decide +kernel
theorem dX12_ready_35 : decode cX12_ready 35 = .ok (.ireturn, 1) := by decide +kernel
set_option maxRecDepth 20000 in
theorem ggX12_away_X12_isSpan : GoodIn wsX12_away wsX12_isSpan := goodIn_r _ [5] (by decide +kernel) (by decide +kernel)
set_option maxRecDepth 20000 in
theorem gX12_away_X12_isSpan : GoodIn wsX12_away (va_wsS RX12 322 yX12_isSpan wsX12_isSpan) := goodIn_app (goodIn_of _ (by decide +kernel)) ggX12_away_X12_isSpan
set_option maxRecDepth 20000 in
theorem ggX12_away_X12_fact : GoodIn wsX12_away wsX12_fact := goodIn_r _ [9, 10, 1, 11, 12, 13, 14, 15, 16, 17, 18, 19, 20, 21, 22, 23, 24, 25, 26, 27, 28, 29, 30, 31, 32, 33, 34, 35, 36, 37, 38, 39, 40, 41, 42, 43, 44, 45, 46, 47, 48, 49, 50, 51, 52, 53, 54, 55, 56, 57, 58, 59, 60, 61, 62, 63, 64, 65, 66, 67, 68, 69, 70, 71, 72, 73, 74, 75, 76, 77, 78, 79, 80, 81, 82, 83, 84, 85, 86, 87, 88, 89, 90, 91, 92, 93, 94, 95, 96, 97] (by decide +kernel) (by decide +kernel)
set_option maxRecDepth 20000 in
theorem gX12_away_X12_fact : GoodIn wsX12_away (wsV RX12 319 RX12 yX12_fact wsX12_fact) := goodIn_app (goodIn_of _ (by decide +kernel)) ggX12_away_X12_fact
theorem dX12_away_0 : decode cX12_away 0 = .ok (.aload_n 0, 1) := by decide +kernel
theorem dX12_away_1 : decode cX12_away 1 = .ok (.getfield 307, 3) := by decide +kernel
theorem dX12_away_4 : decode cX12_away 4 = .ok (.bipush 100, 2) := by decide +kernel
theorem dX12_away_6 : decode cX12_away 6 = .ok (.if_icmp .eq 11, 3) := by decide +kernel
theorem dX12_away_9 : decode cX12_away 9 = .ok (.iload_n 1, 1) := by decide +kernel
theorem dX12_away_10 : decode cX12_away 10 = .ok (.iload_n 2, 1) := by decide +kernel
theorem dX12_away_11 : decode cX12_away 11 = .ok (.invokestatic 322, 3) := by decide +kernel
theorem dX12_away_14 : decode cX12_away 14 = .ok (.ifCond .ne 7, 3) := by decide +kernel
theorem dX12_away_17 : decode cX12_away 17 = .ok (.iconst (-1), 1) := by decide +kernel
theorem dX12_away_18 : decode cX12_away 18 = .ok (.goto 10, 3) := by decide +kernel
theorem dX12_away_21 : decode cX12_away 21 = .ok (.aload_n 0, 1) := by decide +kernel
theorem dX12_away_22 : decode cX12_away 22 = .ok (.iconst 3, 1) := by decide +kernel
theorem dX12_away_23 : decode cX12_away 23 = .ok (.iload_n 1, 1) := by decide +kernel
theorem dX12_away_24 : decode cX12_away 24 = .ok (.iload_n 2, 1) := by decide +kernel
theorem dX12_away_25 : decode cX12_away 25 = .ok (.invokevirtual 319, 3) := by decide +kernel
theorem dX12_away_28 : decode cX12_away 28 = .ok (.ireturn, 1) := by decide +kernel
theorem dX12_isRefused_0 : decode cX12_isRefused 0 = .ok (.aload_n 0, 1) := by decide +kernel
theorem dX12_isRefused_1 : decode cX12_isRefused 1 = .ok (.getfield 110, 3) := by decide +kernel
theorem dX12_isRefused_4 : decode cX12_isRefused 4 = .ok (.iload_n 1, 1) := by decide +kernel
theorem dX12_isRefused_5 : decode cX12_isRefused 5 = .ok (.iaload, 1) := by decide +kernel
theorem dX12_isRefused_6 : decode cX12_isRefused 6 = .ok (.aload_n 0, 1) := by decide +kernel
theorem dX12_isRefused_7 : decode cX12_isRefused 7 = .ok (.getfield 201, 3) := by decide +kernel
theorem dX12_isRefused_10 : decode cX12_isRefused 10 = .ok (.iconst (-1), 1) := by decide +kernel
theorem dX12_isRefused_11 : decode cX12_isRefused 11 = .ok (.if_icmp .ne 8, 3) := by decide +kernel
theorem dX12_isRefused_14 : decode cX12_isRefused 14 = .ok (.bipush 20, 2) := by decide +kernel
theorem dX12_isRefused_16 : decode cX12_isRefused 16 = .ok (.goto 14, 3) := by decide +kernel
theorem dX12_isRefused_19 : decode cX12_isRefused 19 = .ok (.aload_n 0, 1) := by decide +kernel
theorem dX12_isRefused_20 : decode cX12_isRefused 20 = .ok (.getfield 119, 3) := by decide +kernel
theorem dX12_isRefused_23 : decode cX12_isRefused 23 = .ok (.aload_n 0, 1) := by decide +kernel
theorem dX12_isRefused_24 : decode cX12_isRefused 24 = .ok (.getfield 113, 3) := by decide +kernel
theorem dX12_isRefused_27 : decode cX12_isRefused 27 = .ok (.iload_n 1, 1) := by decide +kernel
theorem dX12_isRefused_28 : decode cX12_isRefused 28 = .ok (.iaload, 1) := by decide +kernel
theorem dX12_isRefused_29 : decode cX12_isRefused 29 = .ok (.iaload, 1) := by decide +kernel
theorem dX12_isRefused_30 : decode cX12_isRefused 30 = .ok (.imul, 1) := by decide +kernel
theorem dX12_isRefused_31 : decode cX12_isRefused 31 = .ok (.bipush 10, 2) := by decide +kernel
theorem dX12_isRefused_33 : decode cX12_isRefused 33 = .ok (.idiv, 1) := by decide +kernel
theorem dX12_isRefused_34 : decode cX12_isRefused 34 = .ok (.aload_n 0, 1) := by decide +kernel
theorem dX12_isRefused_35 : decode cX12_isRefused 35 = .ok (.getfield 313, 3) := by decide +kernel
theorem dX12_isRefused_38 : decode cX12_isRefused 38 = .ok (.iadd, 1) := by decide +kernel
theorem dX12_isRefused_39 : decode cX12_isRefused 39 = .ok (.istore_n 2, 1) := by decide +kernel
theorem dX12_isRefused_40 : decode cX12_isRefused 40 = .ok (.iload_n 2, 1) := by decide +kernel
theorem dX12_isRefused_41 : decode cX12_isRefused 41 = .ok (.aload_n 0, 1) := by decide +kernel
theorem dX12_isRefused_42 : decode cX12_isRefused 42 = .ok (.getfield 198, 3) := by decide +kernel
theorem dX12_isRefused_45 : decode cX12_isRefused 45 = .ok (.if_icmp .lt 7, 3) := by decide +kernel
theorem dX12_isRefused_48 : decode cX12_isRefused 48 = .ok (.iconst 1, 1) := by decide +kernel
theorem dX12_isRefused_49 : decode cX12_isRefused 49 = .ok (.goto 4, 3) := by decide +kernel
theorem dX12_isRefused_52 : decode cX12_isRefused 52 = .ok (.iconst 0, 1) := by decide +kernel
theorem dX12_isRefused_53 : decode cX12_isRefused 53 = .ok (.ireturn, 1) := by decide +kernel
set_option maxRecDepth 20000 in
theorem ggX12_refused_X12_isAct : GoodIn wsX12_refused wsX12_isAct := goodIn_r _ [6, 7, 18, 19, 20, 21, 22, 23, 24, 25, 26, 27, 28, 29, 30, 31, 32, 33, 34, 35, 36, 37, 38, 39, 40, 41, 42, 43, 44, 45, 46, 47, 48, 49, 50, 51, 52, 53, 54, 55, 56, 57, 58, 59, 60, 61, 62, 63, 64, 65, 66, 67, 68, 69, 70, 71, 72, 73, 74, 75, 76, 77, 78, 79, 80, 81, 82, 83, 84, 85, 86, 87, 88, 89, 90, 91, 92, 93, 94, 95, 96, 97, 98, 99, 100, 101, 102] (by decide +kernel) (by decide +kernel)
set_option maxRecDepth 20000 in
theorem gX12_refused_X12_isAct : GoodIn wsX12_refused (wsV RX12 310 RX12 yX12_isAct wsX12_isAct) := goodIn_app (goodIn_of _ (by decide +kernel)) ggX12_refused_X12_isAct
set_option maxRecDepth 20000 in
theorem ggX12_refused_X12_isRefused : GoodIn wsX12_refused wsX12_isRefused := goodIn_r _ [11, 12, 13, 14, 15, 16, 17, 18, 19, 20, 21, 22, 23, 24, 25, 26, 27, 28, 29, 30, 31, 32, 33, 34, 35, 36, 37, 38, 39, 40, 41, 42, 43, 44, 45, 46, 47, 48, 49, 50, 51, 52, 53, 54, 55, 56, 57, 58, 59, 60, 61, 62, 63, 64, 65, 66, 67, 68, 69, 70, 71, 72, 73, 74, 75, 76, 77, 78, 79, 80, 81, 82, 83, 84, 85, 86, 87, 88, 89, 90, 91, 92, 93, 94, 95, 96, 97, 98, 99, 100, 101, 102] (by decide +kernel) (by decide +kernel)
set_option maxRecDepth 20000 in
theorem gX12_refused_X12_isRefused : GoodIn wsX12_refused (wsV RX12 326 RX12 yX12_isRefused wsX12_isRefused) := goodIn_app (goodIn_of _ (by decide +kernel)) ggX12_refused_X12_isRefused
theorem dX12_refused_0 : decode cX12_refused 0 = .ok (.aload_n 0, 1) := by decide +kernel
theorem dX12_refused_1 : decode cX12_refused 1 = .ok (.iload_n 1, 1) := by decide +kernel
theorem dX12_refused_2 : decode cX12_refused 2 = .ok (.invokevirtual 310, 3) := by decide +kernel
theorem dX12_refused_5 : decode cX12_refused 5 = .ok (.ifCond .eq 17, 3) := by decide +kernel
theorem dX12_refused_8 : decode cX12_refused 8 = .ok (.iload_n 2, 1) := by decide +kernel
theorem dX12_refused_9 : decode cX12_refused 9 = .ok (.ifCond .lt 13, 3) := by decide +kernel
theorem dX12_refused_12 : decode cX12_refused 12 = .ok (.iload_n 2, 1) := by decide +kernel
theorem dX12_refused_13 : decode cX12_refused 13 = .ok (.aload_n 0, 1) := by decide +kernel
theorem dX12_refused_14 : decode cX12_refused 14 = .ok (.getfield 104, 3) := by decide +kernel
theorem dX12_refused_17 : decode cX12_refused 17 = .ok (.iload_n 1, 1) := by decide +kernel
theorem dX12_refused_18 : decode cX12_refused 18 = .ok (.iaload, 1) := by decide +kernel
theorem dX12_refused_19 : decode cX12_refused 19 = .ok (.if_icmp .lt 5, 3) := by decide +kernel
theorem dX12_refused_22 : decode cX12_refused 22 = .ok (.iconst (-1), 1) := by decide +kernel
theorem dX12_refused_23 : decode cX12_refused 23 = .ok (.ireturn, 1) := by decide +kernel
theorem dX12_refused_24 : decode cX12_refused 24 = .ok (.aload_n 0, 1) := by decide +kernel
theorem dX12_refused_25 : decode cX12_refused 25 = .ok (.bipush 6, 2) := by decide +kernel
theorem dX12_refused_27 : decode cX12_refused 27 = .ok (.iload_n 1, 1) := by decide +kernel
theorem dX12_refused_28 : decode cX12_refused 28 = .ok (.imul, 1) := by decide +kernel
theorem dX12_refused_29 : decode cX12_refused 29 = .ok (.iload_n 2, 1) := by decide +kernel
theorem dX12_refused_30 : decode cX12_refused 30 = .ok (.iadd, 1) := by decide +kernel
theorem dX12_refused_31 : decode cX12_refused 31 = .ok (.invokevirtual 326, 3) := by decide +kernel
theorem dX12_refused_34 : decode cX12_refused 34 = .ok (.ifCond .eq 7, 3) := by decide +kernel
theorem dX12_refused_37 : decode cX12_refused 37 = .ok (.iconst 1, 1) := by decide +kernel
theorem dX12_refused_38 : decode cX12_refused 38 = .ok (.goto 4, 3) := by decide +kernel
theorem dX12_refused_41 : decode cX12_refused 41 = .ok (.iconst 0, 1) := by decide +kernel
theorem dX12_refused_42 : decode cX12_refused 42 = .ok (.ireturn, 1) := by decide +kernel
set_option maxRecDepth 20000 in
theorem ggX12_lengthOf_X12_isRefused : GoodIn wsX12_lengthOf wsX12_isRefused := goodIn_r _ [9, 10, 11, 12, 3, 13, 14, 15, 16, 17, 18, 19, 20, 21, 22, 23, 24, 25, 26, 27, 28, 29, 30, 31, 32, 33, 34, 35, 36, 37, 38, 39, 40, 41, 42, 43, 44, 45, 46, 47, 48, 49, 50, 51, 52, 53, 54, 55, 56, 57, 58, 59, 60, 61, 62, 63, 64, 65, 66, 67, 68, 69, 70, 71, 72, 73, 74, 75, 76, 77, 78, 79, 80, 81, 82, 83, 84, 85, 86, 87, 88, 89, 90, 91, 92, 93, 94, 95, 96, 97, 98, 99] (by decide +kernel) (by decide +kernel)
set_option maxRecDepth 20000 in
theorem gX12_lengthOf_X12_isRefused : GoodIn wsX12_lengthOf (wsV RX12 326 RX12 yX12_isRefused wsX12_isRefused) := goodIn_app (goodIn_of _ (by decide +kernel)) ggX12_lengthOf_X12_isRefused
theorem dX12_lengthOf_0 : decode cX12_lengthOf 0 = .ok (.iconst 0, 1) := by decide +kernel
theorem dX12_lengthOf_1 : decode cX12_lengthOf 1 = .ok (.istore_n 3, 1) := by decide +kernel
theorem dX12_lengthOf_2 : decode cX12_lengthOf 2 = .ok (.iconst 0, 1) := by decide +kernel
theorem dX12_lengthOf_3 : decode cX12_lengthOf 3 = .ok (.istore 4, 2) := by decide +kernel
theorem dX12_lengthOf_5 : decode cX12_lengthOf 5 = .ok (.iconst (-1), 1) := by decide +kernel
theorem dX12_lengthOf_6 : decode cX12_lengthOf 6 = .ok (.istore 5, 2) := by decide +kernel
theorem dX12_lengthOf_8 : decode cX12_lengthOf 8 = .ok (.iconst (-1), 1) := by decide +kernel
theorem dX12_lengthOf_9 : decode cX12_lengthOf 9 = .ok (.istore 6, 2) := by decide +kernel
theorem dX12_lengthOf_11 : decode cX12_lengthOf 11 = .ok (.bipush 6, 2) := by decide +kernel
theorem dX12_lengthOf_13 : decode cX12_lengthOf 13 = .ok (.iload_n 1, 1) := by decide +kernel
theorem dX12_lengthOf_14 : decode cX12_lengthOf 14 = .ok (.imul, 1) := by decide +kernel
theorem dX12_lengthOf_15 : decode cX12_lengthOf 15 = .ok (.istore 7, 2) := by decide +kernel
theorem dX12_lengthOf_17 : decode cX12_lengthOf 17 = .ok (.iload 7, 2) := by decide +kernel
theorem dX12_lengthOf_19 : decode cX12_lengthOf 19 = .ok (.bipush 6, 2) := by decide +kernel
theorem dX12_lengthOf_21 : decode cX12_lengthOf 21 = .ok (.iload_n 1, 1) := by decide +kernel
theorem dX12_lengthOf_22 : decode cX12_lengthOf 22 = .ok (.imul, 1) := by decide +kernel
theorem dX12_lengthOf_23 : decode cX12_lengthOf 23 = .ok (.aload_n 0, 1) := by decide +kernel
theorem dX12_lengthOf_24 : decode cX12_lengthOf 24 = .ok (.getfield 104, 3) := by decide +kernel
theorem dX12_lengthOf_27 : decode cX12_lengthOf 27 = .ok (.iload_n 1, 1) := by decide +kernel
theorem dX12_lengthOf_28 : decode cX12_lengthOf 28 = .ok (.iaload, 1) := by decide +kernel
theorem dX12_lengthOf_29 : decode cX12_lengthOf 29 = .ok (.iadd, 1) := by decide +kernel
theorem dX12_lengthOf_30 : decode cX12_lengthOf 30 = .ok (.if_icmp .ge 98, 3) := by decide +kernel
theorem dX12_lengthOf_33 : decode cX12_lengthOf 33 = .ok (.aload_n 0, 1) := by decide +kernel
theorem dX12_lengthOf_34 : decode cX12_lengthOf 34 = .ok (.iload 7, 2) := by decide +kernel
theorem dX12_lengthOf_36 : decode cX12_lengthOf 36 = .ok (.invokevirtual 326, 3) := by decide +kernel
theorem dX12_lengthOf_39 : decode cX12_lengthOf 39 = .ok (.ifCond .eq 6, 3) := by decide +kernel
theorem dX12_lengthOf_42 : decode cX12_lengthOf 42 = .ok (.goto 80, 3) := by decide +kernel
theorem dX12_lengthOf_45 : decode cX12_lengthOf 45 = .ok (.iload_n 3, 1) := by decide +kernel
theorem dX12_lengthOf_46 : decode cX12_lengthOf 46 = .ok (.aload_n 0, 1) := by decide +kernel
theorem dX12_lengthOf_47 : decode cX12_lengthOf 47 = .ok (.getfield 107, 3) := by decide +kernel
theorem dX12_lengthOf_50 : decode cX12_lengthOf 50 = .ok (.iload 7, 2) := by decide +kernel
theorem dX12_lengthOf_52 : decode cX12_lengthOf 52 = .ok (.iaload, 1) := by decide +kernel
theorem dX12_lengthOf_53 : decode cX12_lengthOf 53 = .ok (.iadd, 1) := by decide +kernel
theorem dX12_lengthOf_54 : decode cX12_lengthOf 54 = .ok (.istore_n 3, 1) := by decide +kernel
theorem dX12_lengthOf_55 : decode cX12_lengthOf 55 = .ok (.aload_n 0, 1) := by decide +kernel
theorem dX12_lengthOf_56 : decode cX12_lengthOf 56 = .ok (.getfield 113, 3) := by decide +kernel
theorem dX12_lengthOf_59 : decode cX12_lengthOf 59 = .ok (.iload 7, 2) := by decide +kernel
theorem dX12_lengthOf_61 : decode cX12_lengthOf 61 = .ok (.iaload, 1) := by decide +kernel
theorem dX12_lengthOf_62 : decode cX12_lengthOf 62 = .ok (.iload 5, 2) := by decide +kernel
theorem dX12_lengthOf_64 : decode cX12_lengthOf 64 = .ok (.if_icmp .le 12, 3) := by decide +kernel
theorem dX12_lengthOf_67 : decode cX12_lengthOf 67 = .ok (.aload_n 0, 1) := by decide +kernel
theorem dX12_lengthOf_68 : decode cX12_lengthOf 68 = .ok (.getfield 113, 3) := by decide +kernel
theorem dX12_lengthOf_71 : decode cX12_lengthOf 71 = .ok (.iload 7, 2) := by decide +kernel
theorem dX12_lengthOf_73 : decode cX12_lengthOf 73 = .ok (.iaload, 1) := by decide +kernel
theorem dX12_lengthOf_74 : decode cX12_lengthOf 74 = .ok (.istore 5, 2) := by decide +kernel
theorem dX12_lengthOf_76 : decode cX12_lengthOf 76 = .ok (.aload_n 0, 1) := by decide +kernel
theorem dX12_lengthOf_77 : decode cX12_lengthOf 77 = .ok (.getfield 116, 3) := by decide +kernel
theorem dX12_lengthOf_80 : decode cX12_lengthOf 80 = .ok (.iload 7, 2) := by decide +kernel
theorem dX12_lengthOf_82 : decode cX12_lengthOf 82 = .ok (.baload, 1) := by decide +kernel
theorem dX12_lengthOf_83 : decode cX12_lengthOf 83 = .ok (.ifCond .eq 6, 3) := by decide +kernel
theorem dX12_lengthOf_86 : decode cX12_lengthOf 86 = .ok (.goto 36, 3) := by decide +kernel
theorem dX12_lengthOf_89 : decode cX12_lengthOf 89 = .ok (.iload 4, 2) := by decide +kernel
theorem dX12_lengthOf_91 : decode cX12_lengthOf 91 = .ok (.aload_n 0, 1) := by decide +kernel
theorem dX12_lengthOf_92 : decode cX12_lengthOf 92 = .ok (.getfield 107, 3) := by decide +kernel
theorem dX12_lengthOf_95 : decode cX12_lengthOf 95 = .ok (.iload 7, 2) := by decide +kernel
theorem dX12_lengthOf_97 : decode cX12_lengthOf 97 = .ok (.iaload, 1) := by decide +kernel
theorem dX12_lengthOf_98 : decode cX12_lengthOf 98 = .ok (.iadd, 1) := by decide +kernel
theorem dX12_lengthOf_99 : decode cX12_lengthOf 99 = .ok (.istore 4, 2) := by decide +kernel
theorem dX12_lengthOf_101 : decode cX12_lengthOf 101 = .ok (.aload_n 0, 1) := by decide +kernel
theorem dX12_lengthOf_102 : decode cX12_lengthOf 102 = .ok (.getfield 113, 3) := by decide +kernel
theorem dX12_lengthOf_105 : decode cX12_lengthOf 105 = .ok (.iload 7, 2) := by decide +kernel
theorem dX12_lengthOf_107 : decode cX12_lengthOf 107 = .ok (.iaload, 1) := by decide +kernel
theorem dX12_lengthOf_108 : decode cX12_lengthOf 108 = .ok (.iload 6, 2) := by decide +kernel
theorem dX12_lengthOf_110 : decode cX12_lengthOf 110 = .ok (.if_icmp .le 12, 3) := by decide +kernel
theorem dX12_lengthOf_113 : decode cX12_lengthOf 113 = .ok (.aload_n 0, 1) := by decide +kernel
theorem dX12_lengthOf_114 : decode cX12_lengthOf 114 = .ok (.getfield 113, 3) := by decide +kernel
theorem dX12_lengthOf_117 : decode cX12_lengthOf 117 = .ok (.iload 7, 2) := by decide +kernel
theorem dX12_lengthOf_119 : decode cX12_lengthOf 119 = .ok (.iaload, 1) := by decide +kernel
theorem dX12_lengthOf_120 : decode cX12_lengthOf 120 = .ok (.istore 6, 2) := by decide +kernel
theorem dX12_lengthOf_122 : decode cX12_lengthOf 122 = .ok (.iinc 7 1, 3) := by decide +kernel
theorem dX12_lengthOf_125 : decode cX12_lengthOf 125 = .ok (.goto (-108), 3) := by decide +kernel
theorem dX12_lengthOf_128 : decode cX12_lengthOf 128 = .ok (.iload_n 2, 1) := by decide +kernel
theorem dX12_lengthOf_129 : decode cX12_lengthOf 129 = .ok (.iload 5, 2) := by decide +kernel
theorem dX12_lengthOf_131 : decode cX12_lengthOf 131 = .ok (.if_icmp .le 7, 3) := by decide +kernel
theorem dX12_lengthOf_134 : decode cX12_lengthOf 134 = .ok (.iload_n 3, 1) := by decide +kernel
theorem dX12_lengthOf_135 : decode cX12_lengthOf 135 = .ok (.goto 15, 3) := by decide +kernel
theorem dX12_lengthOf_138 : decode cX12_lengthOf 138 = .ok (.iload_n 2, 1) := by decide +kernel
theorem dX12_lengthOf_139 : decode cX12_lengthOf 139 = .ok (.iload 6, 2) := by decide +kernel
theorem dX12_lengthOf_141 : decode cX12_lengthOf 141 = .ok (.if_icmp .le 8, 3) := by decide +kernel
theorem dX12_lengthOf_144 : decode cX12_lengthOf 144 = .ok (.iload 4, 2) := by decide +kernel
theorem dX12_lengthOf_146 : decode cX12_lengthOf 146 = .ok (.goto 4, 3) := by decide +kernel
theorem dX12_lengthOf_149 : decode cX12_lengthOf 149 = .ok (.iconst 0, 1) := by decide +kernel
theorem dX12_lengthOf_150 : decode cX12_lengthOf 150 = .ok (.ireturn, 1) := by decide +kernel
set_option maxRecDepth 20000 in
theorem ggX12_length_X12_isAct : GoodIn wsX12_length wsX12_isAct := goodIn_r _ [5, 6, 24, 25, 26, 27, 28, 29, 30, 31, 32, 33, 34, 35, 36, 37, 38, 39, 40, 41, 42, 43, 44, 45, 46, 47, 48, 49, 50, 51, 52, 53, 54, 55, 56, 57, 58, 59, 60, 61, 62, 63, 64, 65, 66, 67, 68, 69, 70, 71, 72, 73, 74, 75, 76, 77, 78, 79, 80, 81, 82, 83, 84, 85, 86, 87, 88, 89, 90, 91, 92, 93, 94, 95, 96, 97, 98, 99, 100, 101, 102, 103, 104, 105, 106, 107, 108] (by decide +kernel) (by decide +kernel)
set_option maxRecDepth 20000 in
theorem gX12_length_X12_isAct : GoodIn wsX12_length (wsV RX12 310 RX12 yX12_isAct wsX12_isAct) := goodIn_app (goodIn_of _ (by decide +kernel)) ggX12_length_X12_isAct
set_option maxRecDepth 20000 in
theorem ggX12_length_X12_lengthOf : GoodIn wsX12_length wsX12_lengthOf := goodIn_r _ [10, 11, 12, 13, 14, 15, 16, 17, 4, 18, 19, 20, 21, 22, 23, 24, 25, 26, 27, 28, 29, 30, 31, 32, 33, 34, 35, 36, 37, 38, 39, 40, 41, 42, 43, 44, 45, 46, 47, 48, 49, 50, 51, 52, 53, 54, 55, 56, 57, 58, 59, 60, 61, 62, 63, 64, 65, 66, 67, 68, 69, 70, 71, 72, 73, 74, 75, 76, 77, 78, 79, 80, 81, 82, 83, 84, 85, 86, 87, 88, 89, 90, 91, 92, 93, 94, 95, 96, 97, 98, 99, 100, 101, 102, 103, 104, 105, 106, 107, 108] (by decide +kernel) (by decide +kernel)
set_option maxRecDepth 20000 in
theorem gX12_length_X12_lengthOf : GoodIn wsX12_length (wsV RX12 329 RX12 yX12_lengthOf wsX12_lengthOf) := goodIn_app (goodIn_of _ (by decide +kernel)) ggX12_length_X12_lengthOf
theorem dX12_length_0 : decode cX12_length 0 = .ok (.aload_n 0, 1) := by decide +kernel
theorem dX12_length_1 : decode cX12_length 1 = .ok (.iload_n 1, 1) := by decide +kernel
theorem dX12_length_2 : decode cX12_length 2 = .ok (.invokevirtual 310, 3) := by decide +kernel
theorem dX12_length_5 : decode cX12_length 5 = .ok (.ifCond .eq 22, 3) := by decide +kernel
theorem dX12_length_8 : decode cX12_length 8 = .ok (.iload_n 2, 1) := by decide +kernel
theorem dX12_length_9 : decode cX12_length 9 = .ok (.ifCond .lt 18, 3) := by decide +kernel
theorem dX12_length_12 : decode cX12_length 12 = .ok (.iload_n 2, 1) := by decide +kernel
theorem dX12_length_13 : decode cX12_length 13 = .ok (.bipush 9, 2) := by decide +kernel
theorem dX12_length_15 : decode cX12_length 15 = .ok (.if_icmp .gt 12, 3) := by decide +kernel
theorem dX12_length_18 : decode cX12_length 18 = .ok (.aload_n 0, 1) := by decide +kernel
theorem dX12_length_19 : decode cX12_length 19 = .ok (.iload_n 1, 1) := by decide +kernel
theorem dX12_length_20 : decode cX12_length 20 = .ok (.iload_n 2, 1) := by decide +kernel
theorem dX12_length_21 : decode cX12_length 21 = .ok (.invokevirtual 329, 3) := by decide +kernel
theorem dX12_length_24 : decode cX12_length 24 = .ok (.goto 4, 3) := by decide +kernel
theorem dX12_length_27 : decode cX12_length 27 = .ok (.iconst (-1), 1) := by decide +kernel
theorem dX12_length_28 : decode cX12_length 28 = .ok (.ireturn, 1) := by decide +kernel
theorem dX12_knows_0 : decode cX12_knows 0 = .ok (.iconst 0, 1) := by decide +kernel
theorem dX12_knows_1 : decode cX12_knows 1 = .ok (.istore_n 2, 1) := by decide +kernel
theorem dX12_knows_2 : decode cX12_knows 2 = .ok (.iload_n 2, 1) := by decide +kernel
theorem dX12_knows_3 : decode cX12_knows 3 = .ok (.sipush 240, 3) := by decide +kernel
theorem dX12_knows_6 : decode cX12_knows 6 = .ok (.if_icmp .ge 24, 3) := by decide +kernel
theorem dX12_knows_9 : decode cX12_knows 9 = .ok (.aload_n 0, 1) := by decide +kernel
theorem dX12_knows_10 : decode cX12_knows 10 = .ok (.getfield 131, 3) := by decide +kernel
theorem dX12_knows_13 : decode cX12_knows 13 = .ok (.iload_n 2, 1) := by decide +kernel
theorem dX12_knows_14 : decode cX12_knows 14 = .ok (.bipush 9, 2) := by decide +kernel
theorem dX12_knows_16 : decode cX12_knows 16 = .ok (.iastore, 1) := by decide +kernel
theorem dX12_knows_17 : decode cX12_knows 17 = .ok (.aload_n 0, 1) := by decide +kernel
theorem dX12_knows_18 : decode cX12_knows 18 = .ok (.getfield 134, 3) := by decide +kernel
theorem dX12_knows_21 : decode cX12_knows 21 = .ok (.iload_n 2, 1) := by decide +kernel
theorem dX12_knows_22 : decode cX12_knows 22 = .ok (.iconst 0, 1) := by decide +kernel
theorem dX12_knows_23 : decode cX12_knows 23 = .ok (.bastore, 1) := by decide +kernel
theorem dX12_knows_24 : decode cX12_knows 24 = .ok (.iinc 2 1, 3) := by decide +kernel
theorem dX12_knows_27 : decode cX12_knows 27 = .ok (.goto (-25), 3) := by decide +kernel
theorem dX12_knows_30 : decode cX12_knows 30 = .ok (.iconst 0, 1) := by decide +kernel
theorem dX12_knows_31 : decode cX12_knows 31 = .ok (.istore_n 2, 1) := by decide +kernel
theorem dX12_knows_32 : decode cX12_knows 32 = .ok (.iload_n 2, 1) := by decide +kernel
theorem dX12_knows_33 : decode cX12_knows 33 = .ok (.bipush 6, 2) := by decide +kernel
theorem dX12_knows_35 : decode cX12_knows 35 = .ok (.if_icmp .ge 16, 3) := by decide +kernel
theorem dX12_knows_38 : decode cX12_knows 38 = .ok (.aload_n 0, 1) := by decide +kernel
theorem dX12_knows_39 : decode cX12_knows 39 = .ok (.getfield 137, 3) := by decide +kernel
theorem dX12_knows_42 : decode cX12_knows 42 = .ok (.iload_n 2, 1) := by decide +kernel
theorem dX12_knows_43 : decode cX12_knows 43 = .ok (.iconst 0, 1) := by decide +kernel
theorem dX12_knows_44 : decode cX12_knows 44 = .ok (.iastore, 1) := by decide +kernel
theorem dX12_knows_45 : decode cX12_knows 45 = .ok (.iinc 2 1, 3) := by decide +kernel
theorem dX12_knows_48 : decode cX12_knows 48 = .ok (.goto (-16), 3) := by decide +kernel
theorem dX12_knows_51 : decode cX12_knows 51 = .ok (.iconst 0, 1) := by decide +kernel
theorem dX12_knows_52 : decode cX12_knows 52 = .ok (.istore_n 2, 1) := by decide +kernel
theorem dX12_knows_53 : decode cX12_knows 53 = .ok (.iload_n 2, 1) := by decide +kernel
theorem dX12_knows_54 : decode cX12_knows 54 = .ok (.sipush 240, 3) := by decide +kernel
theorem dX12_knows_57 : decode cX12_knows 57 = .ok (.if_icmp .ge 71, 3) := by decide +kernel
theorem dX12_knows_60 : decode cX12_knows 60 = .ok (.iload_n 2, 1) := by decide +kernel
theorem dX12_knows_61 : decode cX12_knows 61 = .ok (.ifCond .le 17, 3) := by decide +kernel
theorem dX12_knows_64 : decode cX12_knows 64 = .ok (.aload_n 0, 1) := by decide +kernel
theorem dX12_knows_65 : decode cX12_knows 65 = .ok (.getfield 131, 3) := by decide +kernel
theorem dX12_knows_68 : decode cX12_knows 68 = .ok (.iload_n 2, 1) := by decide +kernel
theorem dX12_knows_69 : decode cX12_knows 69 = .ok (.aload_n 0, 1) := by decide +kernel
theorem dX12_knows_70 : decode cX12_knows 70 = .ok (.getfield 131, 3) := by decide +kernel
theorem dX12_knows_73 : decode cX12_knows 73 = .ok (.iload_n 2, 1) := by decide +kernel
theorem dX12_knows_74 : decode cX12_knows 74 = .ok (.iconst 1, 1) := by decide +kernel
theorem dX12_knows_75 : decode cX12_knows 75 = .ok (.isub, 1) := by decide +kernel
theorem dX12_knows_76 : decode cX12_knows 76 = .ok (.iaload, 1) := by decide +kernel
theorem dX12_knows_77 : decode cX12_knows 77 = .ok (.iastore, 1) := by decide +kernel
theorem dX12_knows_78 : decode cX12_knows 78 = .ok (.iconst 0, 1) := by decide +kernel
theorem dX12_knows_79 : decode cX12_knows 79 = .ok (.istore_n 3, 1) := by decide +kernel
theorem dX12_knows_80 : decode cX12_knows 80 = .ok (.iload_n 3, 1) := by decide +kernel
theorem dX12_knows_81 : decode cX12_knows 81 = .ok (.iload_n 1, 1) := by decide +kernel
theorem dX12_knows_82 : decode cX12_knows 82 = .ok (.if_icmp .ge 40, 3) := by decide +kernel
theorem dX12_knows_85 : decode cX12_knows 85 = .ok (.aload_n 0, 1) := by decide +kernel
theorem dX12_knows_86 : decode cX12_knows 86 = .ok (.getfield 122, 3) := by decide +kernel
theorem dX12_knows_89 : decode cX12_knows 89 = .ok (.iload_n 3, 1) := by decide +kernel
theorem dX12_knows_90 : decode cX12_knows 90 = .ok (.iaload, 1) := by decide +kernel
theorem dX12_knows_91 : decode cX12_knows 91 = .ok (.ifCond .ne 25, 3) := by decide +kernel
theorem dX12_knows_94 : decode cX12_knows 94 = .ok (.aload_n 0, 1) := by decide +kernel
theorem dX12_knows_95 : decode cX12_knows 95 = .ok (.getfield 125, 3) := by decide +kernel
theorem dX12_knows_98 : decode cX12_knows 98 = .ok (.iload_n 3, 1) := by decide +kernel
theorem dX12_knows_99 : decode cX12_knows 99 = .ok (.iaload, 1) := by decide +kernel
theorem dX12_knows_100 : decode cX12_knows 100 = .ok (.iload_n 2, 1) := by decide +kernel
theorem dX12_knows_101 : decode cX12_knows 101 = .ok (.if_icmp .ne 15, 3) := by decide +kernel
theorem dX12_knows_104 : decode cX12_knows 104 = .ok (.aload_n 0, 1) := by decide +kernel
theorem dX12_knows_105 : decode cX12_knows 105 = .ok (.getfield 131, 3) := by decide +kernel
theorem dX12_knows_108 : decode cX12_knows 108 = .ok (.iload_n 2, 1) := by decide +kernel
theorem dX12_knows_109 : decode cX12_knows 109 = .ok (.aload_n 0, 1) := by decide +kernel
theorem dX12_knows_110 : decode cX12_knows 110 = .ok (.getfield 128, 3) := by decide +kernel
theorem dX12_knows_113 : decode cX12_knows 113 = .ok (.iload_n 3, 1) := by decide +kernel
theorem dX12_knows_114 : decode cX12_knows 114 = .ok (.iaload, 1) := by decide +kernel
theorem dX12_knows_115 : decode cX12_knows 115 = .ok (.iastore, 1) := by decide +kernel
theorem dX12_knows_116 : decode cX12_knows 116 = .ok (.iinc 3 1, 3) := by decide +kernel
theorem dX12_knows_119 : decode cX12_knows 119 = .ok (.goto (-39), 3) := by decide +kernel
theorem dX12_knows_122 : decode cX12_knows 122 = .ok (.iinc 2 1, 3) := by decide +kernel
theorem dX12_knows_125 : decode cX12_knows 125 = .ok (.goto (-72), 3) := by decide +kernel
theorem dX12_knows_128 : decode cX12_knows 128 = .ok (.iconst 0, 1) := by decide +kernel
theorem dX12_knows_129 : decode cX12_knows 129 = .ok (.istore_n 2, 1) := by decide +kernel
theorem dX12_knows_130 : decode cX12_knows 130 = .ok (.iload_n 2, 1) := by decide +kernel
theorem dX12_knows_131 : decode cX12_knows 131 = .ok (.iload_n 1, 1) := by decide +kernel
theorem dX12_knows_132 : decode cX12_knows 132 = .ok (.if_icmp .ge 86, 3) := by decide +kernel
theorem dX12_knows_135 : decode cX12_knows 135 = .ok (.aload_n 0, 1) := by decide +kernel
theorem dX12_knows_136 : decode cX12_knows 136 = .ok (.getfield 122, 3) := by decide +kernel
theorem dX12_knows_139 : decode cX12_knows 139 = .ok (.iload_n 2, 1) := by decide +kernel
theorem dX12_knows_140 : decode cX12_knows 140 = .ok (.iaload, 1) := by decide +kernel
theorem dX12_knows_141 : decode cX12_knows 141 = .ok (.iconst 2, 1) := by decide +kernel
theorem dX12_knows_142 : decode cX12_knows 142 = .ok (.if_icmp .ne 20, 3) := by decide +kernel
theorem dX12_knows_145 : decode cX12_knows 145 = .ok (.aload_n 0, 1) := by decide +kernel
theorem dX12_knows_146 : decode cX12_knows 146 = .ok (.getfield 137, 3) := by decide +kernel
theorem dX12_knows_149 : decode cX12_knows 149 = .ok (.aload_n 0, 1) := by decide +kernel
theorem dX12_knows_150 : decode cX12_knows 150 = .ok (.getfield 125, 3) := by decide +kernel
theorem dX12_knows_153 : decode cX12_knows 153 = .ok (.iload_n 2, 1) := by decide +kernel
theorem dX12_knows_154 : decode cX12_knows 154 = .ok (.iaload, 1) := by decide +kernel
theorem dX12_knows_155 : decode cX12_knows 155 = .ok (.aload_n 0, 1) := by decide +kernel
theorem dX12_knows_156 : decode cX12_knows 156 = .ok (.getfield 128, 3) := by decide +kernel
theorem dX12_knows_159 : decode cX12_knows 159 = .ok (.iload_n 2, 1) := by decide +kernel
theorem dX12_knows_160 : decode cX12_knows 160 = .ok (.iaload, 1) := by decide +kernel
theorem dX12_knows_161 : decode cX12_knows 161 = .ok (.iastore, 1) := by decide +kernel
theorem dX12_knows_162 : decode cX12_knows 162 = .ok (.aload_n 0, 1) := by decide +kernel
theorem dX12_knows_163 : decode cX12_knows 163 = .ok (.getfield 122, 3) := by decide +kernel
theorem dX12_knows_166 : decode cX12_knows 166 = .ok (.iload_n 2, 1) := by decide +kernel
theorem dX12_knows_167 : decode cX12_knows 167 = .ok (.iaload, 1) := by decide +kernel
theorem dX12_knows_168 : decode cX12_knows 168 = .ok (.iconst 1, 1) := by decide +kernel
theorem dX12_knows_169 : decode cX12_knows 169 = .ok (.if_icmp .eq 13, 3) := by decide +kernel
theorem dX12_knows_172 : decode cX12_knows 172 = .ok (.aload_n 0, 1) := by decide +kernel
theorem dX12_knows_173 : decode cX12_knows 173 = .ok (.getfield 122, 3) := by decide +kernel
theorem dX12_knows_176 : decode cX12_knows 176 = .ok (.iload_n 2, 1) := by decide +kernel
theorem dX12_knows_177 : decode cX12_knows 177 = .ok (.iaload, 1) := by decide +kernel
theorem dX12_knows_178 : decode cX12_knows 178 = .ok (.iconst 3, 1) := by decide +kernel
theorem dX12_knows_179 : decode cX12_knows 179 = .ok (.if_icmp .ne 33, 3) := by decide +kernel
theorem dX12_knows_182 : decode cX12_knows 182 = .ok (.aload_n 0, 1) := by decide +kernel
theorem dX12_knows_183 : decode cX12_knows 183 = .ok (.getfield 125, 3) := by decide +kernel
theorem dX12_knows_186 : decode cX12_knows 186 = .ok (.iload_n 2, 1) := by decide +kernel
theorem dX12_knows_187 : decode cX12_knows 187 = .ok (.iaload, 1) := by decide +kernel
theorem dX12_knows_188 : decode cX12_knows 188 = .ok (.istore_n 3, 1) := by decide +kernel
theorem dX12_knows_189 : decode cX12_knows 189 = .ok (.iload_n 3, 1) := by decide +kernel
theorem dX12_knows_190 : decode cX12_knows 190 = .ok (.aload_n 0, 1) := by decide +kernel
theorem dX12_knows_191 : decode cX12_knows 191 = .ok (.getfield 128, 3) := by decide +kernel
theorem dX12_knows_194 : decode cX12_knows 194 = .ok (.iload_n 2, 1) := by decide +kernel
theorem dX12_knows_195 : decode cX12_knows 195 = .ok (.iaload, 1) := by decide +kernel
theorem dX12_knows_196 : decode cX12_knows 196 = .ok (.if_icmp .ge 16, 3) := by decide +kernel
theorem dX12_knows_199 : decode cX12_knows 199 = .ok (.aload_n 0, 1) := by decide +kernel
theorem dX12_knows_200 : decode cX12_knows 200 = .ok (.getfield 134, 3) := by decide +kernel
theorem dX12_knows_203 : decode cX12_knows 203 = .ok (.iload_n 3, 1) := by decide +kernel
theorem dX12_knows_204 : decode cX12_knows 204 = .ok (.iconst 1, 1) := by decide +kernel
theorem dX12_knows_205 : decode cX12_knows 205 = .ok (.bastore, 1) := by decide +kernel
theorem dX12_knows_206 : decode cX12_knows 206 = .ok (.iinc 3 1, 3) := by decide +kernel
theorem dX12_knows_209 : decode cX12_knows 209 = .ok (.goto (-20), 3) := by decide +kernel
theorem dX12_knows_212 : decode cX12_knows 212 = .ok (.iinc 2 1, 3) := by decide +kernel
theorem dX12_knows_215 : decode cX12_knows 215 = .ok (.goto (-85), 3) := by decide +kernel
theorem dX12_knows_218 : decode cX12_knows 218 = .ok (.return_, 1) := by decide +kernel
set_option maxRecDepth 20000 in
theorem ggX12_baseIn_X12_isMinute : GoodIn wsX12_baseIn wsX12_isMinute := goodIn_r _ [5] (by decide +kernel) (by decide +kernel)
set_option maxRecDepth 20000 in
theorem gX12_baseIn_X12_isMinute : GoodIn wsX12_baseIn (va_wsS RX12 316 yX12_isMinute wsX12_isMinute) := goodIn_app (goodIn_of _ (by decide +kernel)) ggX12_baseIn_X12_isMinute
set_option maxRecDepth 20000 in
theorem ggX12_baseIn_X12_isKnown : GoodIn wsX12_baseIn wsX12_isKnown := goodIn_r _ [9, 10, 20, 21, 22, 23, 24, 25, 26, 27, 28, 29, 30, 31, 32, 33, 34, 35, 36, 37, 38, 39, 40, 41, 42, 43, 44, 45, 46, 47, 48, 49, 50, 51, 52, 53, 54, 55, 56, 57, 58, 59, 60, 61, 62, 63, 64, 65, 66, 67, 68, 69, 70, 71, 72, 73, 74, 75, 76, 77, 78, 79, 80, 81, 82, 83, 84, 85, 86, 87, 88, 89, 90, 91, 92, 93, 94, 95, 96, 97, 98, 99, 100, 101, 102, 103, 104] (by decide +kernel) (by decide +kernel)
set_option maxRecDepth 20000 in
theorem gX12_baseIn_X12_isKnown : GoodIn wsX12_baseIn (wsV RX12 333 RX12 yX12_isKnown wsX12_isKnown) := goodIn_app (goodIn_of _ (by decide +kernel)) ggX12_baseIn_X12_isKnown
set_option maxRecDepth 20000 in
theorem ggX12_baseIn_X12_knows : GoodIn wsX12_baseIn wsX12_knows := goodIn_r _ [14, 1, 15, 16, 17, 18, 19, 20, 21, 22, 23, 24, 25, 26, 27, 28, 29, 30, 31, 32, 33, 34, 35, 36, 37, 38, 39, 40, 41, 42, 43, 44, 45, 46, 47, 48, 49, 50, 51, 52, 53, 54, 55, 56, 57, 58, 59, 60, 61, 62, 63, 64, 65, 66, 67, 68, 69, 70, 71, 72, 73, 74, 75, 76, 77, 78, 79, 80, 81, 82, 83, 84, 85, 86, 87, 88, 89, 90, 91, 92, 93, 94, 95, 96, 97, 98, 99, 100, 101, 102, 103, 104] (by decide +kernel) (by decide +kernel)
set_option maxRecDepth 20000 in
theorem gX12_baseIn_X12_knows : GoodIn wsX12_baseIn (wsV RX12 336 RX12 yX12_knows wsX12_knows) := goodIn_app (goodIn_of _ (by decide +kernel)) ggX12_baseIn_X12_knows
theorem dX12_baseIn_0 : decode cX12_baseIn 0 = .ok (.iload_n 1, 1) := by decide +kernel
theorem dX12_baseIn_1 : decode cX12_baseIn 1 = .ok (.invokestatic 316, 3) := by decide +kernel
theorem dX12_baseIn_4 : decode cX12_baseIn 4 = .ok (.ifCond .eq 11, 3) := by decide +kernel
theorem dX12_baseIn_7 : decode cX12_baseIn 7 = .ok (.aload_n 0, 1) := by decide +kernel
theorem dX12_baseIn_8 : decode cX12_baseIn 8 = .ok (.iload_n 2, 1) := by decide +kernel
theorem dX12_baseIn_9 : decode cX12_baseIn 9 = .ok (.invokevirtual 333, 3) := by decide +kernel
theorem dX12_baseIn_12 : decode cX12_baseIn 12 = .ok (.ifCond .ne 5, 3) := by decide +kernel
theorem dX12_baseIn_15 : decode cX12_baseIn 15 = .ok (.iconst (-1), 1) := by decide +kernel
theorem dX12_baseIn_16 : decode cX12_baseIn 16 = .ok (.ireturn, 1) := by decide +kernel
theorem dX12_baseIn_17 : decode cX12_baseIn 17 = .ok (.aload_n 0, 1) := by decide +kernel
theorem dX12_baseIn_18 : decode cX12_baseIn 18 = .ok (.iload_n 2, 1) := by decide +kernel
theorem dX12_baseIn_19 : decode cX12_baseIn 19 = .ok (.invokevirtual 336, 3) := by decide +kernel
theorem dX12_baseIn_22 : decode cX12_baseIn 22 = .ok (.aload_n 0, 1) := by decide +kernel
theorem dX12_baseIn_23 : decode cX12_baseIn 23 = .ok (.getfield 131, 3) := by decide +kernel
theorem dX12_baseIn_26 : decode cX12_baseIn 26 = .ok (.iload_n 1, 1) := by decide +kernel
theorem dX12_baseIn_27 : decode cX12_baseIn 27 = .ok (.iaload, 1) := by decide +kernel
theorem dX12_baseIn_28 : decode cX12_baseIn 28 = .ok (.ireturn, 1) := by decide +kernel
theorem dX12_value_0 : decode cX12_value 0 = .ok (.iconst 0, 1) := by decide +kernel
theorem dX12_value_1 : decode cX12_value 1 = .ok (.istore_n 3, 1) := by decide +kernel
theorem dX12_value_2 : decode cX12_value 2 = .ok (.iload_n 1, 1) := by decide +kernel
theorem dX12_value_3 : decode cX12_value 3 = .ok (.istore 4, 2) := by decide +kernel
theorem dX12_value_5 : decode cX12_value 5 = .ok (.iload 4, 2) := by decide +kernel
theorem dX12_value_7 : decode cX12_value 7 = .ok (.iload_n 2, 1) := by decide +kernel
theorem dX12_value_8 : decode cX12_value 8 = .ok (.if_icmp .ge 136, 3) := by decide +kernel
theorem dX12_value_11 : decode cX12_value 11 = .ok (.aload_n 0, 1) := by decide +kernel
theorem dX12_value_12 : decode cX12_value 12 = .ok (.getfield 77, 3) := by decide +kernel
theorem dX12_value_15 : decode cX12_value 15 = .ok (.iload 4, 2) := by decide +kernel
theorem dX12_value_17 : decode cX12_value 17 = .ok (.iaload, 1) := by decide +kernel
theorem dX12_value_18 : decode cX12_value 18 = .ok (.iconst 2, 1) := by decide +kernel
theorem dX12_value_19 : decode cX12_value 19 = .ok (.if_icmp .ge 47, 3) := by decide +kernel
theorem dX12_value_22 : decode cX12_value 22 = .ok (.aload_n 0, 1) := by decide +kernel
theorem dX12_value_23 : decode cX12_value 23 = .ok (.getfield 143, 3) := by decide +kernel
theorem dX12_value_26 : decode cX12_value 26 = .ok (.iload_n 3, 1) := by decide +kernel
theorem dX12_value_27 : decode cX12_value 27 = .ok (.aload_n 0, 1) := by decide +kernel
theorem dX12_value_28 : decode cX12_value 28 = .ok (.getfield 77, 3) := by decide +kernel
theorem dX12_value_31 : decode cX12_value 31 = .ok (.iload 4, 2) := by decide +kernel
theorem dX12_value_33 : decode cX12_value 33 = .ok (.iaload, 1) := by decide +kernel
theorem dX12_value_34 : decode cX12_value 34 = .ok (.ifCond .ne 13, 3) := by decide +kernel
theorem dX12_value_37 : decode cX12_value 37 = .ok (.aload_n 0, 1) := by decide +kernel
theorem dX12_value_38 : decode cX12_value 38 = .ok (.getfield 80, 3) := by decide +kernel
theorem dX12_value_41 : decode cX12_value 41 = .ok (.iload 4, 2) := by decide +kernel
theorem dX12_value_43 : decode cX12_value 43 = .ok (.iaload, 1) := by decide +kernel
theorem dX12_value_44 : decode cX12_value 44 = .ok (.goto 15, 3) := by decide +kernel
theorem dX12_value_47 : decode cX12_value 47 = .ok (.aload_n 0, 1) := by decide +kernel
theorem dX12_value_48 : decode cX12_value 48 = .ok (.getfield 140, 3) := by decide +kernel
theorem dX12_value_51 : decode cX12_value 51 = .ok (.aload_n 0, 1) := by decide +kernel
theorem dX12_value_52 : decode cX12_value 52 = .ok (.getfield 80, 3) := by decide +kernel
theorem dX12_value_55 : decode cX12_value 55 = .ok (.iload 4, 2) := by decide +kernel
theorem dX12_value_57 : decode cX12_value 57 = .ok (.iaload, 1) := by decide +kernel
theorem dX12_value_58 : decode cX12_value 58 = .ok (.iaload, 1) := by decide +kernel
theorem dX12_value_59 : decode cX12_value 59 = .ok (.iastore, 1) := by decide +kernel
theorem dX12_value_60 : decode cX12_value 60 = .ok (.iinc 3 1, 3) := by decide +kernel
theorem dX12_value_63 : decode cX12_value 63 = .ok (.goto 75, 3) := by decide +kernel
theorem dX12_value_66 : decode cX12_value 66 = .ok (.iinc 3 (-1), 3) := by decide +kernel
theorem dX12_value_69 : decode cX12_value 69 = .ok (.aload_n 0, 1) := by decide +kernel
theorem dX12_value_70 : decode cX12_value 70 = .ok (.getfield 143, 3) := by decide +kernel
theorem dX12_value_73 : decode cX12_value 73 = .ok (.iload_n 3, 1) := by decide +kernel
theorem dX12_value_74 : decode cX12_value 74 = .ok (.iconst 1, 1) := by decide +kernel
theorem dX12_value_75 : decode cX12_value 75 = .ok (.isub, 1) := by decide +kernel
theorem dX12_value_76 : decode cX12_value 76 = .ok (.iaload, 1) := by decide +kernel
theorem dX12_value_77 : decode cX12_value 77 = .ok (.istore 5, 2) := by decide +kernel
theorem dX12_value_79 : decode cX12_value 79 = .ok (.aload_n 0, 1) := by decide +kernel
theorem dX12_value_80 : decode cX12_value 80 = .ok (.getfield 143, 3) := by decide +kernel
theorem dX12_value_83 : decode cX12_value 83 = .ok (.iload_n 3, 1) := by decide +kernel
theorem dX12_value_84 : decode cX12_value 84 = .ok (.iaload, 1) := by decide +kernel
theorem dX12_value_85 : decode cX12_value 85 = .ok (.istore 6, 2) := by decide +kernel
theorem dX12_value_87 : decode cX12_value 87 = .ok (.aload_n 0, 1) := by decide +kernel
theorem dX12_value_88 : decode cX12_value 88 = .ok (.getfield 143, 3) := by decide +kernel
theorem dX12_value_91 : decode cX12_value 91 = .ok (.iload_n 3, 1) := by decide +kernel
theorem dX12_value_92 : decode cX12_value 92 = .ok (.iconst 1, 1) := by decide +kernel
theorem dX12_value_93 : decode cX12_value 93 = .ok (.isub, 1) := by decide +kernel
theorem dX12_value_94 : decode cX12_value 94 = .ok (.aload_n 0, 1) := by decide +kernel
theorem dX12_value_95 : decode cX12_value 95 = .ok (.getfield 77, 3) := by decide +kernel
theorem dX12_value_98 : decode cX12_value 98 = .ok (.iload 4, 2) := by decide +kernel
theorem dX12_value_100 : decode cX12_value 100 = .ok (.iaload, 1) := by decide +kernel
theorem dX12_value_101 : decode cX12_value 101 = .ok (.iconst 2, 1) := by decide +kernel
theorem dX12_value_102 : decode cX12_value 102 = .ok (.if_icmp .ne 11, 3) := by decide +kernel
theorem dX12_value_105 : decode cX12_value 105 = .ok (.iload 5, 2) := by decide +kernel
theorem dX12_value_107 : decode cX12_value 107 = .ok (.iload 6, 2) := by decide +kernel
theorem dX12_value_109 : decode cX12_value 109 = .ok (.iadd, 1) := by decide +kernel
theorem dX12_value_110 : decode cX12_value 110 = .ok (.goto 27, 3) := by decide +kernel
theorem dX12_value_113 : decode cX12_value 113 = .ok (.aload_n 0, 1) := by decide +kernel
theorem dX12_value_114 : decode cX12_value 114 = .ok (.getfield 77, 3) := by decide +kernel
theorem dX12_value_117 : decode cX12_value 117 = .ok (.iload 4, 2) := by decide +kernel
theorem dX12_value_119 : decode cX12_value 119 = .ok (.iaload, 1) := by decide +kernel
theorem dX12_value_120 : decode cX12_value 120 = .ok (.iconst 3, 1) := by decide +kernel
theorem dX12_value_121 : decode cX12_value 121 = .ok (.if_icmp .ne 11, 3) := by decide +kernel
theorem dX12_value_124 : decode cX12_value 124 = .ok (.iload 5, 2) := by decide +kernel
theorem dX12_value_126 : decode cX12_value 126 = .ok (.iload 6, 2) := by decide +kernel
theorem dX12_value_128 : decode cX12_value 128 = .ok (.isub, 1) := by decide +kernel
theorem dX12_value_129 : decode cX12_value 129 = .ok (.goto 8, 3) := by decide +kernel
theorem dX12_value_132 : decode cX12_value 132 = .ok (.iload 5, 2) := by decide +kernel
theorem dX12_value_134 : decode cX12_value 134 = .ok (.iload 6, 2) := by decide +kernel
theorem dX12_value_136 : decode cX12_value 136 = .ok (.imul, 1) := by decide +kernel
theorem dX12_value_137 : decode cX12_value 137 = .ok (.iastore, 1) := by decide +kernel
theorem dX12_value_138 : decode cX12_value 138 = .ok (.iinc 4 1, 3) := by decide +kernel
theorem dX12_value_141 : decode cX12_value 141 = .ok (.goto (-136), 3) := by decide +kernel
theorem dX12_value_144 : decode cX12_value 144 = .ok (.aload_n 0, 1) := by decide +kernel
theorem dX12_value_145 : decode cX12_value 145 = .ok (.getfield 143, 3) := by decide +kernel
theorem dX12_value_148 : decode cX12_value 148 = .ok (.iconst 0, 1) := by decide +kernel
theorem dX12_value_149 : decode cX12_value 149 = .ok (.iaload, 1) := by decide +kernel
theorem dX12_value_150 : decode cX12_value 150 = .ok (.ireturn, 1) := by decide +kernel
set_option maxRecDepth 20000 in
theorem ggX12_holds_X12_value : GoodIn wsX12_holds wsX12_value := goodIn_r _ [13, 14, 15, 16, 17, 18, 19, 20, 21, 22, 23, 24, 25, 26, 27, 28, 29, 30, 31, 32, 33, 34, 35, 36, 37, 38, 39, 40, 41, 42, 43, 44, 45, 46, 47, 48, 49, 50, 51, 52, 53, 54, 55, 56, 57, 58, 59, 60, 61, 62, 63, 64, 65, 66, 67, 68, 69, 70, 71, 72, 73, 74, 75, 76, 77, 78, 79, 80, 81, 82, 83, 84, 85, 86, 87, 88, 89, 90, 91, 92, 93, 94, 95, 96, 97, 98, 99, 100, 101, 102] (by decide +kernel) (by decide +kernel)
set_option maxRecDepth 20000 in
theorem gX12_holds_X12_value : GoodIn wsX12_holds (wsV RX12 339 RX12 yX12_value wsX12_value) := goodIn_app (goodIn_of _ (by decide +kernel)) ggX12_holds_X12_value
theorem dX12_holds_0 : decode cX12_holds 0 = .ok (.aload_n 0, 1) := by decide +kernel
theorem dX12_holds_1 : decode cX12_holds 1 = .ok (.getfield 52, 3) := by decide +kernel
theorem dX12_holds_4 : decode cX12_holds 4 = .ok (.iload_n 1, 1) := by decide +kernel
theorem dX12_holds_5 : decode cX12_holds 5 = .ok (.iaload, 1) := by decide +kernel
theorem dX12_holds_6 : decode cX12_holds 6 = .ok (.aload_n 0, 1) := by decide +kernel
theorem dX12_holds_7 : decode cX12_holds 7 = .ok (.getfield 55, 3) := by decide +kernel
theorem dX12_holds_10 : decode cX12_holds 10 = .ok (.iload_n 1, 1) := by decide +kernel
theorem dX12_holds_11 : decode cX12_holds 11 = .ok (.iaload, 1) := by decide +kernel
theorem dX12_holds_12 : decode cX12_holds 12 = .ok (.if_icmp .ne 5, 3) := by decide +kernel
theorem dX12_holds_15 : decode cX12_holds 15 = .ok (.iconst 1, 1) := by decide +kernel
theorem dX12_holds_16 : decode cX12_holds 16 = .ok (.ireturn, 1) := by decide +kernel
theorem dX12_holds_17 : decode cX12_holds 17 = .ok (.iconst 0, 1) := by decide +kernel
theorem dX12_holds_18 : decode cX12_holds 18 = .ok (.istore_n 2, 1) := by decide +kernel
theorem dX12_holds_19 : decode cX12_holds 19 = .ok (.aload_n 0, 1) := by decide +kernel
theorem dX12_holds_20 : decode cX12_holds 20 = .ok (.getfield 52, 3) := by decide +kernel
theorem dX12_holds_23 : decode cX12_holds 23 = .ok (.iload_n 1, 1) := by decide +kernel
theorem dX12_holds_24 : decode cX12_holds 24 = .ok (.iaload, 1) := by decide +kernel
theorem dX12_holds_25 : decode cX12_holds 25 = .ok (.istore_n 3, 1) := by decide +kernel
theorem dX12_holds_26 : decode cX12_holds 26 = .ok (.iload_n 3, 1) := by decide +kernel
theorem dX12_holds_27 : decode cX12_holds 27 = .ok (.aload_n 0, 1) := by decide +kernel
theorem dX12_holds_28 : decode cX12_holds 28 = .ok (.getfield 55, 3) := by decide +kernel
theorem dX12_holds_31 : decode cX12_holds 31 = .ok (.iload_n 1, 1) := by decide +kernel
theorem dX12_holds_32 : decode cX12_holds 32 = .ok (.iaload, 1) := by decide +kernel
theorem dX12_holds_33 : decode cX12_holds 33 = .ok (.if_icmp .ge 186, 3) := by decide +kernel
theorem dX12_holds_36 : decode cX12_holds 36 = .ok (.sipush 200, 3) := by decide +kernel
theorem dX12_holds_39 : decode cX12_holds 39 = .ok (.aload_n 0, 1) := by decide +kernel
theorem dX12_holds_40 : decode cX12_holds 40 = .ok (.getfield 272, 3) := by decide +kernel
theorem dX12_holds_43 : decode cX12_holds 43 = .ok (.imul, 1) := by decide +kernel
theorem dX12_holds_44 : decode cX12_holds 44 = .ok (.iload_n 3, 1) := by decide +kernel
theorem dX12_holds_45 : decode cX12_holds 45 = .ok (.iadd, 1) := by decide +kernel
theorem dX12_holds_46 : decode cX12_holds 46 = .ok (.istore 4, 2) := by decide +kernel
theorem dX12_holds_48 : decode cX12_holds 48 = .ok (.aload_n 0, 1) := by decide +kernel
theorem dX12_holds_49 : decode cX12_holds 49 = .ok (.getfield 73, 3) := by decide +kernel
theorem dX12_holds_52 : decode cX12_holds 52 = .ok (.iload 4, 2) := by decide +kernel
theorem dX12_holds_54 : decode cX12_holds 54 = .ok (.baload, 1) := by decide +kernel
theorem dX12_holds_55 : decode cX12_holds 55 = .ok (.ifCond .eq 9, 3) := by decide +kernel
theorem dX12_holds_58 : decode cX12_holds 58 = .ok (.iload_n 2, 1) := by decide +kernel
theorem dX12_holds_59 : decode cX12_holds 59 = .ok (.ifCond .eq 5, 3) := by decide +kernel
theorem dX12_holds_62 : decode cX12_holds 62 = .ok (.iconst 1, 1) := by decide +kernel
theorem dX12_holds_63 : decode cX12_holds 63 = .ok (.ireturn, 1) := by decide +kernel
theorem dX12_holds_64 : decode cX12_holds 64 = .ok (.aload_n 0, 1) := by decide +kernel
theorem dX12_holds_65 : decode cX12_holds 65 = .ok (.getfield 73, 3) := by decide +kernel
theorem dX12_holds_68 : decode cX12_holds 68 = .ok (.iload 4, 2) := by decide +kernel
theorem dX12_holds_70 : decode cX12_holds 70 = .ok (.baload, 1) := by decide +kernel
theorem dX12_holds_71 : decode cX12_holds 71 = .ok (.ifCond .eq 5, 3) := by decide +kernel
theorem dX12_holds_74 : decode cX12_holds 74 = .ok (.iconst 1, 1) := by decide +kernel
theorem dX12_holds_75 : decode cX12_holds 75 = .ok (.istore_n 2, 1) := by decide +kernel
theorem dX12_holds_76 : decode cX12_holds 76 = .ok (.iload_n 2, 1) := by decide +kernel
theorem dX12_holds_77 : decode cX12_holds 77 = .ok (.ifCond .ne 6, 3) := by decide +kernel
theorem dX12_holds_80 : decode cX12_holds 80 = .ok (.goto 133, 3) := by decide +kernel
theorem dX12_holds_83 : decode cX12_holds 83 = .ok (.aload_n 0, 1) := by decide +kernel
theorem dX12_holds_84 : decode cX12_holds 84 = .ok (.aload_n 0, 1) := by decide +kernel
theorem dX12_holds_85 : decode cX12_holds 85 = .ok (.getfield 64, 3) := by decide +kernel
theorem dX12_holds_88 : decode cX12_holds 88 = .ok (.iload 4, 2) := by decide +kernel
theorem dX12_holds_90 : decode cX12_holds 90 = .ok (.iaload, 1) := by decide +kernel
theorem dX12_holds_91 : decode cX12_holds 91 = .ok (.aload_n 0, 1) := by decide +kernel
theorem dX12_holds_92 : decode cX12_holds 92 = .ok (.getfield 67, 3) := by decide +kernel
theorem dX12_holds_95 : decode cX12_holds 95 = .ok (.iload 4, 2) := by decide +kernel
theorem dX12_holds_97 : decode cX12_holds 97 = .ok (.iaload, 1) := by decide +kernel
theorem dX12_holds_98 : decode cX12_holds 98 = .ok (.invokevirtual 339, 3) := by decide +kernel
theorem dX12_holds_101 : decode cX12_holds 101 = .ok (.istore 5, 2) := by decide +kernel
theorem dX12_holds_103 : decode cX12_holds 103 = .ok (.aload_n 0, 1) := by decide +kernel
theorem dX12_holds_104 : decode cX12_holds 104 = .ok (.aload_n 0, 1) := by decide +kernel
theorem dX12_holds_105 : decode cX12_holds 105 = .ok (.getfield 67, 3) := by decide +kernel
theorem dX12_holds_108 : decode cX12_holds 108 = .ok (.iload 4, 2) := by decide +kernel
theorem dX12_holds_110 : decode cX12_holds 110 = .ok (.iaload, 1) := by decide +kernel
theorem dX12_holds_111 : decode cX12_holds 111 = .ok (.aload_n 0, 1) := by decide +kernel
theorem dX12_holds_112 : decode cX12_holds 112 = .ok (.getfield 70, 3) := by decide +kernel
theorem dX12_holds_115 : decode cX12_holds 115 = .ok (.iload 4, 2) := by decide +kernel
theorem dX12_holds_117 : decode cX12_holds 117 = .ok (.iaload, 1) := by decide +kernel
theorem dX12_holds_118 : decode cX12_holds 118 = .ok (.invokevirtual 339, 3) := by decide +kernel
theorem dX12_holds_121 : decode cX12_holds 121 = .ok (.istore 6, 2) := by decide +kernel
theorem dX12_holds_123 : decode cX12_holds 123 = .ok (.aload_n 0, 1) := by decide +kernel
theorem dX12_holds_124 : decode cX12_holds 124 = .ok (.getfield 61, 3) := by decide +kernel
theorem dX12_holds_127 : decode cX12_holds 127 = .ok (.iload 4, 2) := by decide +kernel
theorem dX12_holds_129 : decode cX12_holds 129 = .ok (.iaload, 1) := by decide +kernel
theorem dX12_holds_130 : decode cX12_holds 130 = .ok (.ifCond .ne 18, 3) := by decide +kernel
theorem dX12_holds_133 : decode cX12_holds 133 = .ok (.iload 5, 2) := by decide +kernel
theorem dX12_holds_135 : decode cX12_holds 135 = .ok (.iload 6, 2) := by decide +kernel
theorem dX12_holds_137 : decode cX12_holds 137 = .ok (.if_icmp .ne 7, 3) := by decide +kernel
theorem dX12_holds_140 : decode cX12_holds 140 = .ok (.iconst 1, 1) := by decide +kernel
theorem dX12_holds_141 : decode cX12_holds 141 = .ok (.goto 71, 3) := by decide +kernel
theorem dX12_holds_144 : decode cX12_holds 144 = .ok (.iconst 0, 1) := by decide +kernel
theorem dX12_holds_145 : decode cX12_holds 145 = .ok (.goto 67, 3) := by decide +kernel
theorem dX12_holds_148 : decode cX12_holds 148 = .ok (.aload_n 0, 1) := by decide +kernel
theorem dX12_holds_149 : decode cX12_holds 149 = .ok (.getfield 61, 3) := by decide +kernel
theorem dX12_holds_152 : decode cX12_holds 152 = .ok (.iload 4, 2) := by decide +kernel
theorem dX12_holds_154 : decode cX12_holds 154 = .ok (.iaload, 1) := by decide +kernel
theorem dX12_holds_155 : decode cX12_holds 155 = .ok (.iconst 1, 1) := by decide +kernel
theorem dX12_holds_156 : decode cX12_holds 156 = .ok (.if_icmp .ne 18, 3) := by decide +kernel
theorem dX12_holds_159 : decode cX12_holds 159 = .ok (.iload 5, 2) := by decide +kernel
theorem dX12_holds_161 : decode cX12_holds 161 = .ok (.iload 6, 2) := by decide +kernel
theorem dX12_holds_163 : decode cX12_holds 163 = .ok (.if_icmp .eq 7, 3) := by decide +kernel
theorem dX12_holds_166 : decode cX12_holds 166 = .ok (.iconst 1, 1) := by decide +kernel
theorem dX12_holds_167 : decode cX12_holds 167 = .ok (.goto 45, 3) := by decide +kernel
theorem dX12_holds_170 : decode cX12_holds 170 = .ok (.iconst 0, 1) := by decide +kernel
theorem dX12_holds_171 : decode cX12_holds 171 = .ok (.goto 41, 3) := by decide +kernel
theorem dX12_holds_174 : decode cX12_holds 174 = .ok (.aload_n 0, 1) := by decide +kernel
theorem dX12_holds_175 : decode cX12_holds 175 = .ok (.getfield 61, 3) := by decide +kernel
theorem dX12_holds_178 : decode cX12_holds 178 = .ok (.iload 4, 2) := by decide +kernel
theorem dX12_holds_180 : decode cX12_holds 180 = .ok (.iaload, 1) := by decide +kernel
theorem dX12_holds_181 : decode cX12_holds 181 = .ok (.iconst 2, 1) := by decide +kernel
theorem dX12_holds_182 : decode cX12_holds 182 = .ok (.if_icmp .ne 18, 3) := by decide +kernel
theorem dX12_holds_185 : decode cX12_holds 185 = .ok (.iload 5, 2) := by decide +kernel
theorem dX12_holds_187 : decode cX12_holds 187 = .ok (.iload 6, 2) := by decide +kernel
theorem dX12_holds_189 : decode cX12_holds 189 = .ok (.if_icmp .ge 7, 3) := by decide +kernel
theorem dX12_holds_192 : decode cX12_holds 192 = .ok (.iconst 1, 1) := by decide +kernel
theorem dX12_holds_193 : decode cX12_holds 193 = .ok (.goto 19, 3) := by decide +kernel
theorem dX12_holds_196 : decode cX12_holds 196 = .ok (.iconst 0, 1) := by decide +kernel
theorem dX12_holds_197 : decode cX12_holds 197 = .ok (.goto 15, 3) := by decide +kernel
theorem dX12_holds_200 : decode cX12_holds 200 = .ok (.iload 5, 2) := by decide +kernel
theorem dX12_holds_202 : decode cX12_holds 202 = .ok (.iload 6, 2) := by decide +kernel
theorem dX12_holds_204 : decode cX12_holds 204 = .ok (.if_icmp .gt 7, 3) := by decide +kernel
theorem dX12_holds_207 : decode cX12_holds 207 = .ok (.iconst 1, 1) := by decide +kernel
theorem dX12_holds_208 : decode cX12_holds 208 = .ok (.goto 4, 3) := by decide +kernel
theorem dX12_holds_211 : decode cX12_holds 211 = .ok (.iconst 0, 1) := by decide +kernel
theorem dX12_holds_212 : decode cX12_holds 212 = .ok (.istore_n 2, 1) := by decide +kernel
theorem dX12_holds_213 : decode cX12_holds 213 = .ok (.iinc 3 1, 3) := by decide +kernel
theorem dX12_holds_216 : decode cX12_holds 216 = .ok (.goto (-190), 3) := by decide +kernel
theorem dX12_holds_219 : decode cX12_holds 219 = .ok (.iload_n 2, 1) := by decide +kernel
theorem dX12_holds_220 : decode cX12_holds 220 = .ok (.ireturn, 1) := by decide +kernel
set_option maxRecDepth 20000 in
theorem ggX12_ruleOf_X12_holds : GoodIn wsX12_ruleOf wsX12_holds := goodIn_r _ [8, 9, 10, 2, 11, 12, 13, 14, 15, 16, 17, 18, 7, 19, 20, 21, 22, 23, 24, 25, 26, 27, 28, 29, 30, 31, 32, 33, 34, 35, 36, 37, 38, 39, 40, 41, 42, 43, 44, 45, 46, 47, 48, 49, 50, 51, 52, 53, 54, 55, 56, 57, 58, 59, 60, 61, 62, 63, 64, 65, 66, 67, 68, 69, 70, 71, 72, 73, 74, 75, 76, 77, 78, 79, 80, 81, 82, 83, 84, 85, 86, 87, 88, 89, 90, 91, 92, 93, 94, 95, 96, 97, 98, 99, 100, 101, 102, 103, 104, 105, 106, 107, 108] (by decide +kernel) (by decide +kernel)
set_option maxRecDepth 20000 in
theorem gX12_ruleOf_X12_holds : GoodIn wsX12_ruleOf (wsV RX12 342 RX12 yX12_holds wsX12_holds) := goodIn_app (goodIn_of _ (by decide +kernel)) ggX12_ruleOf_X12_holds
theorem dX12_ruleOf_0 : decode cX12_ruleOf 0 = .ok (.iconst 0, 1) := by decide +kernel
theorem dX12_ruleOf_1 : decode cX12_ruleOf 1 = .ok (.istore_n 2, 1) := by decide +kernel
theorem dX12_ruleOf_2 : decode cX12_ruleOf 2 = .ok (.iload_n 2, 1) := by decide +kernel
theorem dX12_ruleOf_3 : decode cX12_ruleOf 3 = .ok (.aload_n 0, 1) := by decide +kernel
theorem dX12_ruleOf_4 : decode cX12_ruleOf 4 = .ok (.getfield 40, 3) := by decide +kernel
theorem dX12_ruleOf_7 : decode cX12_ruleOf 7 = .ok (.aload_n 0, 1) := by decide +kernel
theorem dX12_ruleOf_8 : decode cX12_ruleOf 8 = .ok (.getfield 272, 3) := by decide +kernel
theorem dX12_ruleOf_11 : decode cX12_ruleOf 11 = .ok (.iaload, 1) := by decide +kernel
theorem dX12_ruleOf_12 : decode cX12_ruleOf 12 = .ok (.if_icmp .ge 45, 3) := by decide +kernel
theorem dX12_ruleOf_15 : decode cX12_ruleOf 15 = .ok (.aload_n 0, 1) := by decide +kernel
theorem dX12_ruleOf_16 : decode cX12_ruleOf 16 = .ok (.getfield 43, 3) := by decide +kernel
theorem dX12_ruleOf_19 : decode cX12_ruleOf 19 = .ok (.bipush 16, 2) := by decide +kernel
theorem dX12_ruleOf_21 : decode cX12_ruleOf 21 = .ok (.aload_n 0, 1) := by decide +kernel
theorem dX12_ruleOf_22 : decode cX12_ruleOf 22 = .ok (.getfield 272, 3) := by decide +kernel
theorem dX12_ruleOf_25 : decode cX12_ruleOf 25 = .ok (.imul, 1) := by decide +kernel
theorem dX12_ruleOf_26 : decode cX12_ruleOf 26 = .ok (.iload_n 2, 1) := by decide +kernel
theorem dX12_ruleOf_27 : decode cX12_ruleOf 27 = .ok (.iadd, 1) := by decide +kernel
theorem dX12_ruleOf_28 : decode cX12_ruleOf 28 = .ok (.iaload, 1) := by decide +kernel
theorem dX12_ruleOf_29 : decode cX12_ruleOf 29 = .ok (.iload_n 1, 1) := by decide +kernel
theorem dX12_ruleOf_30 : decode cX12_ruleOf 30 = .ok (.if_icmp .ne 21, 3) := by decide +kernel
theorem dX12_ruleOf_33 : decode cX12_ruleOf 33 = .ok (.aload_n 0, 1) := by decide +kernel
theorem dX12_ruleOf_34 : decode cX12_ruleOf 34 = .ok (.bipush 16, 2) := by decide +kernel
theorem dX12_ruleOf_36 : decode cX12_ruleOf 36 = .ok (.aload_n 0, 1) := by decide +kernel
theorem dX12_ruleOf_37 : decode cX12_ruleOf 37 = .ok (.getfield 272, 3) := by decide +kernel
theorem dX12_ruleOf_40 : decode cX12_ruleOf 40 = .ok (.imul, 1) := by decide +kernel
theorem dX12_ruleOf_41 : decode cX12_ruleOf 41 = .ok (.iload_n 2, 1) := by decide +kernel
theorem dX12_ruleOf_42 : decode cX12_ruleOf 42 = .ok (.iadd, 1) := by decide +kernel
theorem dX12_ruleOf_43 : decode cX12_ruleOf 43 = .ok (.invokevirtual 342, 3) := by decide +kernel
theorem dX12_ruleOf_46 : decode cX12_ruleOf 46 = .ok (.ifCond .eq 5, 3) := by decide +kernel
theorem dX12_ruleOf_49 : decode cX12_ruleOf 49 = .ok (.iload_n 2, 1) := by decide +kernel
theorem dX12_ruleOf_50 : decode cX12_ruleOf 50 = .ok (.ireturn, 1) := by decide +kernel
theorem dX12_ruleOf_51 : decode cX12_ruleOf 51 = .ok (.iinc 2 1, 3) := by decide +kernel
theorem dX12_ruleOf_54 : decode cX12_ruleOf 54 = .ok (.goto (-52), 3) := by decide +kernel
theorem dX12_ruleOf_57 : decode cX12_ruleOf 57 = .ok (.iconst (-1), 1) := by decide +kernel
theorem dX12_ruleOf_58 : decode cX12_ruleOf 58 = .ok (.ireturn, 1) := by decide +kernel
set_option maxRecDepth 20000 in
theorem ggX12_heldOf_X12_ruleOf : GoodIn wsX12_heldOf wsX12_ruleOf := goodIn_r _ [8, 9, 2, 10, 11, 12, 13, 7, 14, 15, 16, 17, 18, 19, 20, 21, 22, 23, 24, 25, 26, 27, 28, 29, 30, 31, 32, 33, 34, 35, 36, 37, 38, 39, 40, 41, 42, 43, 44, 45, 46, 47, 48, 49, 50, 51, 52, 53, 54, 55, 56, 57, 58, 59, 60, 61, 62, 63, 64, 65, 66, 67, 68, 69, 70, 71, 72, 73, 74, 75, 76, 77, 78, 79, 80, 81, 82, 83, 84, 85, 86, 87, 88, 89, 90, 91, 92, 93, 94, 95, 96, 97, 98, 99, 100, 101, 102, 103, 104, 105, 106, 107, 108, 109, 110, 111, 112, 113, 114] (by decide +kernel) (by decide +kernel)
set_option maxRecDepth 20000 in
theorem gX12_heldOf_X12_ruleOf : GoodIn wsX12_heldOf (wsV RX12 345 RX12 yX12_ruleOf wsX12_ruleOf) := goodIn_app (goodIn_of _ (by decide +kernel)) ggX12_heldOf_X12_ruleOf
set_option maxRecDepth 20000 in
theorem ggX12_heldOf_X12_value : GoodIn wsX12_heldOf wsX12_value := goodIn_r _ [25, 26, 27, 28, 29, 30, 31, 32, 33, 34, 35, 36, 37, 38, 39, 40, 41, 42, 43, 44, 45, 46, 47, 48, 49, 50, 51, 52, 53, 54, 55, 56, 57, 58, 59, 60, 61, 62, 63, 64, 65, 66, 67, 68, 69, 70, 71, 72, 73, 74, 75, 76, 77, 78, 79, 80, 81, 82, 83, 84, 85, 86, 87, 88, 89, 90, 91, 92, 93, 94, 95, 96, 97, 98, 99, 100, 101, 102, 103, 104, 105, 106, 107, 108, 109, 110, 111, 112, 113, 114] (by decide +kernel) (by decide +kernel)
set_option maxRecDepth 20000 in
theorem gX12_heldOf_X12_value : GoodIn wsX12_heldOf (wsV RX12 339 RX12 yX12_value wsX12_value) := goodIn_app (goodIn_of _ (by decide +kernel)) ggX12_heldOf_X12_value
theorem dX12_heldOf_0 : decode cX12_heldOf 0 = .ok (.aload_n 0, 1) := by decide +kernel
theorem dX12_heldOf_1 : decode cX12_heldOf 1 = .ok (.iload_n 1, 1) := by decide +kernel
theorem dX12_heldOf_2 : decode cX12_heldOf 2 = .ok (.invokevirtual 345, 3) := by decide +kernel
theorem dX12_heldOf_5 : decode cX12_heldOf 5 = .ok (.istore_n 2, 1) := by decide +kernel
theorem dX12_heldOf_6 : decode cX12_heldOf 6 = .ok (.iload_n 2, 1) := by decide +kernel
theorem dX12_heldOf_7 : decode cX12_heldOf 7 = .ok (.iconst (-1), 1) := by decide +kernel
theorem dX12_heldOf_8 : decode cX12_heldOf 8 = .ok (.if_icmp .ne 5, 3) := by decide +kernel
theorem dX12_heldOf_11 : decode cX12_heldOf 11 = .ok (.iconst 0, 1) := by decide +kernel
theorem dX12_heldOf_12 : decode cX12_heldOf 12 = .ok (.ireturn, 1) := by decide +kernel
theorem dX12_heldOf_13 : decode cX12_heldOf 13 = .ok (.aload_n 0, 1) := by decide +kernel
theorem dX12_heldOf_14 : decode cX12_heldOf 14 = .ok (.aload_n 0, 1) := by decide +kernel
theorem dX12_heldOf_15 : decode cX12_heldOf 15 = .ok (.getfield 46, 3) := by decide +kernel
theorem dX12_heldOf_18 : decode cX12_heldOf 18 = .ok (.bipush 16, 2) := by decide +kernel
theorem dX12_heldOf_20 : decode cX12_heldOf 20 = .ok (.aload_n 0, 1) := by decide +kernel
theorem dX12_heldOf_21 : decode cX12_heldOf 21 = .ok (.getfield 272, 3) := by decide +kernel
theorem dX12_heldOf_24 : decode cX12_heldOf 24 = .ok (.imul, 1) := by decide +kernel
theorem dX12_heldOf_25 : decode cX12_heldOf 25 = .ok (.iload_n 2, 1) := by decide +kernel
theorem dX12_heldOf_26 : decode cX12_heldOf 26 = .ok (.iadd, 1) := by decide +kernel
theorem dX12_heldOf_27 : decode cX12_heldOf 27 = .ok (.iaload, 1) := by decide +kernel
theorem dX12_heldOf_28 : decode cX12_heldOf 28 = .ok (.aload_n 0, 1) := by decide +kernel
theorem dX12_heldOf_29 : decode cX12_heldOf 29 = .ok (.getfield 49, 3) := by decide +kernel
theorem dX12_heldOf_32 : decode cX12_heldOf 32 = .ok (.bipush 16, 2) := by decide +kernel
theorem dX12_heldOf_34 : decode cX12_heldOf 34 = .ok (.aload_n 0, 1) := by decide +kernel
theorem dX12_heldOf_35 : decode cX12_heldOf 35 = .ok (.getfield 272, 3) := by decide +kernel
theorem dX12_heldOf_38 : decode cX12_heldOf 38 = .ok (.imul, 1) := by decide +kernel
theorem dX12_heldOf_39 : decode cX12_heldOf 39 = .ok (.iload_n 2, 1) := by decide +kernel
theorem dX12_heldOf_40 : decode cX12_heldOf 40 = .ok (.iadd, 1) := by decide +kernel
theorem dX12_heldOf_41 : decode cX12_heldOf 41 = .ok (.iaload, 1) := by decide +kernel
theorem dX12_heldOf_42 : decode cX12_heldOf 42 = .ok (.invokevirtual 339, 3) := by decide +kernel
theorem dX12_heldOf_45 : decode cX12_heldOf 45 = .ok (.istore_n 3, 1) := by decide +kernel
theorem dX12_heldOf_46 : decode cX12_heldOf 46 = .ok (.iload_n 3, 1) := by decide +kernel
theorem dX12_heldOf_47 : decode cX12_heldOf 47 = .ok (.ifCond .ge 7, 3) := by decide +kernel
theorem dX12_heldOf_50 : decode cX12_heldOf 50 = .ok (.iconst 0, 1) := by decide +kernel
theorem dX12_heldOf_51 : decode cX12_heldOf 51 = .ok (.goto 15, 3) := by decide +kernel
theorem dX12_heldOf_54 : decode cX12_heldOf 54 = .ok (.iload_n 3, 1) := by decide +kernel
theorem dX12_heldOf_55 : decode cX12_heldOf 55 = .ok (.bipush 30, 2) := by decide +kernel
theorem dX12_heldOf_57 : decode cX12_heldOf 57 = .ok (.if_icmp .le 8, 3) := by decide +kernel
theorem dX12_heldOf_60 : decode cX12_heldOf 60 = .ok (.bipush 30, 2) := by decide +kernel
theorem dX12_heldOf_62 : decode cX12_heldOf 62 = .ok (.goto 4, 3) := by decide +kernel
theorem dX12_heldOf_65 : decode cX12_heldOf 65 = .ok (.iload_n 3, 1) := by decide +kernel
theorem dX12_heldOf_66 : decode cX12_heldOf 66 = .ok (.ireturn, 1) := by decide +kernel
theorem dX12_asks_0 : decode cX12_asks 0 = .ok (.aload_n 0, 1) := by decide +kernel
theorem dX12_asks_1 : decode cX12_asks 1 = .ok (.getfield 140, 3) := by decide +kernel
theorem dX12_asks_4 : decode cX12_asks 4 = .ok (.iconst 0, 1) := by decide +kernel
theorem dX12_asks_5 : decode cX12_asks 5 = .ok (.iload_n 1, 1) := by decide +kernel
theorem dX12_asks_6 : decode cX12_asks 6 = .ok (.iastore, 1) := by decide +kernel
theorem dX12_asks_7 : decode cX12_asks 7 = .ok (.aload_n 0, 1) := by decide +kernel
theorem dX12_asks_8 : decode cX12_asks 8 = .ok (.getfield 140, 3) := by decide +kernel
theorem dX12_asks_11 : decode cX12_asks 11 = .ok (.iconst 1, 1) := by decide +kernel
theorem dX12_asks_12 : decode cX12_asks 12 = .ok (.aload_n 0, 1) := by decide +kernel
theorem dX12_asks_13 : decode cX12_asks 13 = .ok (.getfield 86, 3) := by decide +kernel
theorem dX12_asks_16 : decode cX12_asks 16 = .ok (.iload_n 1, 1) := by decide +kernel
theorem dX12_asks_17 : decode cX12_asks 17 = .ok (.iaload, 1) := by decide +kernel
theorem dX12_asks_18 : decode cX12_asks 18 = .ok (.iastore, 1) := by decide +kernel
theorem dX12_asks_19 : decode cX12_asks 19 = .ok (.aload_n 0, 1) := by decide +kernel
theorem dX12_asks_20 : decode cX12_asks 20 = .ok (.getfield 140, 3) := by decide +kernel
theorem dX12_asks_23 : decode cX12_asks 23 = .ok (.iconst 2, 1) := by decide +kernel
theorem dX12_asks_24 : decode cX12_asks 24 = .ok (.iload_n 3, 1) := by decide +kernel
theorem dX12_asks_25 : decode cX12_asks 25 = .ok (.iastore, 1) := by decide +kernel
theorem dX12_asks_26 : decode cX12_asks 26 = .ok (.aload_n 0, 1) := by decide +kernel
theorem dX12_asks_27 : decode cX12_asks 27 = .ok (.getfield 140, 3) := by decide +kernel
theorem dX12_asks_30 : decode cX12_asks 30 = .ok (.iconst 3, 1) := by decide +kernel
theorem dX12_asks_31 : decode cX12_asks 31 = .ok (.iload 4, 2) := by decide +kernel
theorem dX12_asks_33 : decode cX12_asks 33 = .ok (.iastore, 1) := by decide +kernel
theorem dX12_asks_34 : decode cX12_asks 34 = .ok (.aload_n 0, 1) := by decide +kernel
theorem dX12_asks_35 : decode cX12_asks 35 = .ok (.getfield 140, 3) := by decide +kernel
theorem dX12_asks_38 : decode cX12_asks 38 = .ok (.iconst 4, 1) := by decide +kernel
theorem dX12_asks_39 : decode cX12_asks 39 = .ok (.aload_n 0, 1) := by decide +kernel
theorem dX12_asks_40 : decode cX12_asks 40 = .ok (.getfield 131, 3) := by decide +kernel
theorem dX12_asks_43 : decode cX12_asks 43 = .ok (.iload_n 2, 1) := by decide +kernel
theorem dX12_asks_44 : decode cX12_asks 44 = .ok (.iaload, 1) := by decide +kernel
theorem dX12_asks_45 : decode cX12_asks 45 = .ok (.iastore, 1) := by decide +kernel
theorem dX12_asks_46 : decode cX12_asks 46 = .ok (.aload_n 0, 1) := by decide +kernel
theorem dX12_asks_47 : decode cX12_asks 47 = .ok (.getfield 140, 3) := by decide +kernel
theorem dX12_asks_50 : decode cX12_asks 50 = .ok (.iconst 5, 1) := by decide +kernel
theorem dX12_asks_51 : decode cX12_asks 51 = .ok (.iload_n 2, 1) := by decide +kernel
theorem dX12_asks_52 : decode cX12_asks 52 = .ok (.iastore, 1) := by decide +kernel
theorem dX12_asks_53 : decode cX12_asks 53 = .ok (.aload_n 0, 1) := by decide +kernel
theorem dX12_asks_54 : decode cX12_asks 54 = .ok (.getfield 140, 3) := by decide +kernel
theorem dX12_asks_57 : decode cX12_asks 57 = .ok (.bipush 6, 2) := by decide +kernel
theorem dX12_asks_59 : decode cX12_asks 59 = .ok (.aload_n 0, 1) := by decide +kernel
theorem dX12_asks_60 : decode cX12_asks 60 = .ok (.getfield 313, 3) := by decide +kernel
theorem dX12_asks_63 : decode cX12_asks 63 = .ok (.iastore, 1) := by decide +kernel
theorem dX12_asks_64 : decode cX12_asks 64 = .ok (.aload_n 0, 1) := by decide +kernel
theorem dX12_asks_65 : decode cX12_asks 65 = .ok (.getfield 140, 3) := by decide +kernel
theorem dX12_asks_68 : decode cX12_asks 68 = .ok (.bipush 7, 2) := by decide +kernel
theorem dX12_asks_70 : decode cX12_asks 70 = .ok (.iload 5, 2) := by decide +kernel
theorem dX12_asks_72 : decode cX12_asks 72 = .ok (.iastore, 1) := by decide +kernel
theorem dX12_asks_73 : decode cX12_asks 73 = .ok (.aload_n 0, 1) := by decide +kernel
theorem dX12_asks_74 : decode cX12_asks 74 = .ok (.getfield 140, 3) := by decide +kernel
theorem dX12_asks_77 : decode cX12_asks 77 = .ok (.bipush 8, 2) := by decide +kernel
theorem dX12_asks_79 : decode cX12_asks 79 = .ok (.aload_n 0, 1) := by decide +kernel
theorem dX12_asks_80 : decode cX12_asks 80 = .ok (.getfield 92, 3) := by decide +kernel
theorem dX12_asks_83 : decode cX12_asks 83 = .ok (.iload_n 1, 1) := by decide +kernel
theorem dX12_asks_84 : decode cX12_asks 84 = .ok (.iaload, 1) := by decide +kernel
theorem dX12_asks_85 : decode cX12_asks 85 = .ok (.iastore, 1) := by decide +kernel
theorem dX12_asks_86 : decode cX12_asks 86 = .ok (.return_, 1) := by decide +kernel
set_option maxRecDepth 20000 in
theorem ggX12_out_X12_isAct : GoodIn wsX12_out wsX12_isAct := goodIn_r _ [6, 7, 74, 75, 76, 77, 78, 79, 80, 81, 82, 83, 84, 85, 86, 87, 88, 89, 90, 91, 92, 93, 94, 95, 96, 97, 98, 99, 100, 101, 102, 103, 104, 105, 106, 107, 108, 109, 110, 111, 112, 113, 114, 115, 116, 117, 118, 119, 120, 121, 122, 123, 124, 125, 126, 127, 128, 129, 130, 131, 132, 133, 134, 135, 136, 137, 138, 139, 140, 141, 142, 143, 144, 145, 146, 147, 148, 149, 150, 151, 152, 153, 154, 155, 156, 157, 158] (by decide +kernel) (by decide +kernel)
set_option maxRecDepth 20000 in
theorem gX12_out_X12_isAct : GoodIn wsX12_out (wsV RX12 310 RX12 yX12_isAct wsX12_isAct) := goodIn_app (goodIn_of _ (by decide +kernel)) ggX12_out_X12_isAct
set_option maxRecDepth 20000 in
theorem ggX12_out_X12_isMinute : GoodIn wsX12_out wsX12_isMinute := goodIn_r _ [10] (by decide +kernel) (by decide +kernel)
set_option maxRecDepth 20000 in
theorem gX12_out_X12_isMinute : GoodIn wsX12_out (va_wsS RX12 316 yX12_isMinute wsX12_isMinute) := goodIn_app (goodIn_of _ (by decide +kernel)) ggX12_out_X12_isMinute
set_option maxRecDepth 20000 in
theorem ggX12_out_X12_isKnown : GoodIn wsX12_out wsX12_isKnown := goodIn_r _ [14, 15, 74, 75, 76, 77, 78, 79, 80, 81, 82, 83, 84, 85, 86, 87, 88, 89, 90, 91, 92, 93, 94, 95, 96, 97, 98, 99, 100, 101, 102, 103, 104, 105, 106, 107, 108, 109, 110, 111, 112, 113, 114, 115, 116, 117, 118, 119, 120, 121, 122, 123, 124, 125, 126, 127, 128, 129, 130, 131, 132, 133, 134, 135, 136, 137, 138, 139, 140, 141, 142, 143, 144, 145, 146, 147, 148, 149, 150, 151, 152, 153, 154, 155, 156, 157, 158] (by decide +kernel) (by decide +kernel)
set_option maxRecDepth 20000 in
theorem gX12_out_X12_isKnown : GoodIn wsX12_out (wsV RX12 333 RX12 yX12_isKnown wsX12_isKnown) := goodIn_app (goodIn_of _ (by decide +kernel)) ggX12_out_X12_isKnown
set_option maxRecDepth 20000 in
theorem ggX12_out_X12_knows : GoodIn wsX12_out wsX12_knows := goodIn_r _ [19, 1, 20, 21, 22, 23, 24, 74, 75, 76, 77, 78, 79, 80, 81, 82, 83, 84, 85, 86, 87, 88, 89, 90, 91, 92, 93, 94, 95, 96, 97, 98, 99, 100, 101, 102, 103, 104, 105, 106, 107, 108, 109, 110, 111, 112, 113, 114, 115, 116, 117, 118, 119, 120, 121, 122, 123, 124, 125, 126, 127, 128, 129, 130, 131, 132, 133, 134, 135, 136, 137, 138, 139, 140, 141, 142, 143, 144, 145, 146, 147, 148, 149, 150, 151, 152, 153, 154, 155, 156, 157, 158] (by decide +kernel) (by decide +kernel)
set_option maxRecDepth 20000 in
theorem gX12_out_X12_knows : GoodIn wsX12_out (wsV RX12 336 RX12 yX12_knows wsX12_knows) := goodIn_app (goodIn_of _ (by decide +kernel)) ggX12_out_X12_knows
set_option maxRecDepth 20000 in
theorem ggX12_out_X12_lengthOf : GoodIn wsX12_out wsX12_lengthOf := goodIn_r _ [28, 29, 30, 31, 32, 33, 34, 35, 5, 36, 37, 38, 39, 40, 41, 74, 75, 76, 77, 78, 79, 80, 81, 82, 83, 84, 85, 86, 87, 88, 89, 90, 91, 92, 93, 94, 95, 96, 97, 98, 99, 100, 101, 102, 103, 104, 105, 106, 107, 108, 109, 110, 111, 112, 113, 114, 115, 116, 117, 118, 119, 120, 121, 122, 123, 124, 125, 126, 127, 128, 129, 130, 131, 132, 133, 134, 135, 136, 137, 138, 139, 140, 141, 142, 143, 144, 145, 146, 147, 148, 149, 150, 151, 152, 153, 154, 155, 156, 157, 158] (by decide +kernel) (by decide +kernel)
set_option maxRecDepth 20000 in
theorem gX12_out_X12_lengthOf : GoodIn wsX12_out (wsV RX12 329 RX12 yX12_lengthOf wsX12_lengthOf) := goodIn_app (goodIn_of _ (by decide +kernel)) ggX12_out_X12_lengthOf
set_option maxRecDepth 20000 in
theorem ggX12_out_X12_asks : GoodIn wsX12_out wsX12_asks := goodIn_r _ [45, 46, 47, 1, 40, 48, 74, 75, 76, 77, 78, 79, 80, 81, 82, 83, 84, 85, 86, 87, 88, 89, 90, 91, 92, 93, 94, 95, 96, 97, 98, 99, 100, 101, 102, 103, 104, 105, 106, 107, 108, 109, 110, 111, 112, 113, 114, 115, 116, 117, 118, 119, 120, 121, 122, 123, 124, 125, 126, 127, 128, 129, 130, 131, 132, 133, 134, 135, 136, 137, 138, 139, 140, 141, 142, 143, 144, 145, 146, 147, 148, 149, 150, 151, 152, 153, 154, 155, 156, 157, 158] (by decide +kernel) (by decide +kernel)
set_option maxRecDepth 20000 in
theorem gX12_out_X12_asks : GoodIn wsX12_out (wsV RX12 348 RX12 yX12_asks wsX12_asks) := goodIn_app (goodIn_of _ (by decide +kernel)) ggX12_out_X12_asks
set_option maxRecDepth 20000 in
theorem ggX12_out_X12_ruleOf : GoodIn wsX12_out wsX12_ruleOf := goodIn_r _ [52, 53, 54, 55, 56, 57, 58, 5, 59, 60, 61, 62, 63, 64, 65, 66, 67, 68, 69, 70, 71, 72, 73, 46, 74, 75, 76, 77, 78, 79, 80, 81, 82, 83, 84, 85, 86, 87, 88, 89, 90, 91, 92, 93, 94, 95, 96, 97, 98, 99, 100, 101, 102, 103, 104, 105, 106, 107, 108, 109, 110, 111, 112, 113, 114, 115, 116, 117, 118, 119, 120, 121, 122, 123, 124, 125, 126, 127, 128, 129, 130, 131, 132, 133, 134, 135, 136, 137, 138, 139, 140, 141, 142, 143, 144, 145, 146, 147, 148, 149, 150, 151, 152, 153, 154, 155, 156, 157, 158] (by decide +kernel) (by decide +kernel)
set_option maxRecDepth 20000 in
theorem gX12_out_X12_ruleOf : GoodIn wsX12_out (wsV RX12 345 RX12 yX12_ruleOf wsX12_ruleOf) := goodIn_app (goodIn_of _ (by decide +kernel)) ggX12_out_X12_ruleOf
theorem dX12_out_0 : decode cX12_out 0 = .ok (.aload_n 0, 1) := by decide +kernel
theorem dX12_out_1 : decode cX12_out 1 = .ok (.iload_n 1, 1) := by decide +kernel
theorem dX12_out_2 : decode cX12_out 2 = .ok (.invokevirtual 310, 3) := by decide +kernel
theorem dX12_out_5 : decode cX12_out 5 = .ok (.ifCond .eq 18, 3) := by decide +kernel
theorem dX12_out_8 : decode cX12_out 8 = .ok (.iload_n 2, 1) := by decide +kernel
theorem dX12_out_9 : decode cX12_out 9 = .ok (.invokestatic 316, 3) := by decide +kernel
theorem dX12_out_12 : decode cX12_out 12 = .ok (.ifCond .eq 11, 3) := by decide +kernel
theorem dX12_out_15 : decode cX12_out 15 = .ok (.aload_n 0, 1) := by decide +kernel
theorem dX12_out_16 : decode cX12_out 16 = .ok (.iload_n 3, 1) := by decide +kernel
theorem dX12_out_17 : decode cX12_out 17 = .ok (.invokevirtual 333, 3) := by decide +kernel
theorem dX12_out_20 : decode cX12_out 20 = .ok (.ifCond .ne 5, 3) := by decide +kernel
theorem dX12_out_23 : decode cX12_out 23 = .ok (.iconst (-1), 1) := by decide +kernel
theorem dX12_out_24 : decode cX12_out 24 = .ok (.ireturn, 1) := by decide +kernel
theorem dX12_out_25 : decode cX12_out 25 = .ok (.aload_n 0, 1) := by decide +kernel
theorem dX12_out_26 : decode cX12_out 26 = .ok (.iload_n 3, 1) := by decide +kernel
theorem dX12_out_27 : decode cX12_out 27 = .ok (.invokevirtual 336, 3) := by decide +kernel
theorem dX12_out_30 : decode cX12_out 30 = .ok (.aload_n 0, 1) := by decide +kernel
theorem dX12_out_31 : decode cX12_out 31 = .ok (.iload_n 1, 1) := by decide +kernel
theorem dX12_out_32 : decode cX12_out 32 = .ok (.aload_n 0, 1) := by decide +kernel
theorem dX12_out_33 : decode cX12_out 33 = .ok (.getfield 131, 3) := by decide +kernel
theorem dX12_out_36 : decode cX12_out 36 = .ok (.iload_n 2, 1) := by decide +kernel
theorem dX12_out_37 : decode cX12_out 37 = .ok (.iaload, 1) := by decide +kernel
theorem dX12_out_38 : decode cX12_out 38 = .ok (.invokevirtual 329, 3) := by decide +kernel
theorem dX12_out_41 : decode cX12_out 41 = .ok (.istore 4, 2) := by decide +kernel
theorem dX12_out_43 : decode cX12_out 43 = .ok (.iload 4, 2) := by decide +kernel
theorem dX12_out_45 : decode cX12_out 45 = .ok (.ifCond .ne 5, 3) := by decide +kernel
theorem dX12_out_48 : decode cX12_out 48 = .ok (.iconst (-1), 1) := by decide +kernel
theorem dX12_out_49 : decode cX12_out 49 = .ok (.ireturn, 1) := by decide +kernel
theorem dX12_out_50 : decode cX12_out 50 = .ok (.aload_n 0, 1) := by decide +kernel
theorem dX12_out_51 : decode cX12_out 51 = .ok (.iload_n 1, 1) := by decide +kernel
theorem dX12_out_52 : decode cX12_out 52 = .ok (.iload_n 2, 1) := by decide +kernel
theorem dX12_out_53 : decode cX12_out 53 = .ok (.iconst (-1), 1) := by decide +kernel
theorem dX12_out_54 : decode cX12_out 54 = .ok (.iconst 0, 1) := by decide +kernel
theorem dX12_out_55 : decode cX12_out 55 = .ok (.iload 4, 2) := by decide +kernel
theorem dX12_out_57 : decode cX12_out 57 = .ok (.invokevirtual 348, 3) := by decide +kernel
theorem dX12_out_60 : decode cX12_out 60 = .ok (.aload_n 0, 1) := by decide +kernel
theorem dX12_out_61 : decode cX12_out 61 = .ok (.iconst 0, 1) := by decide +kernel
theorem dX12_out_62 : decode cX12_out 62 = .ok (.invokevirtual 345, 3) := by decide +kernel
theorem dX12_out_65 : decode cX12_out 65 = .ok (.ireturn, 1) := by decide +kernel
theorem dX12_isTaken_0 : decode cX12_isTaken 0 = .ok (.iconst 0, 1) := by decide +kernel
theorem dX12_isTaken_1 : decode cX12_isTaken 1 = .ok (.istore_n 2, 1) := by decide +kernel
theorem dX12_isTaken_2 : decode cX12_isTaken 2 = .ok (.iload_n 2, 1) := by decide +kernel
theorem dX12_isTaken_3 : decode cX12_isTaken 3 = .ok (.aload_n 0, 1) := by decide +kernel
theorem dX12_isTaken_4 : decode cX12_isTaken 4 = .ok (.getfield 352, 3) := by decide +kernel
theorem dX12_isTaken_7 : decode cX12_isTaken 7 = .ok (.if_icmp .ge 31, 3) := by decide +kernel
theorem dX12_isTaken_10 : decode cX12_isTaken 10 = .ok (.aload_n 0, 1) := by decide +kernel
theorem dX12_isTaken_11 : decode cX12_isTaken 11 = .ok (.getfield 149, 3) := by decide +kernel
theorem dX12_isTaken_14 : decode cX12_isTaken 14 = .ok (.iload_n 2, 1) := by decide +kernel
theorem dX12_isTaken_15 : decode cX12_isTaken 15 = .ok (.iaload, 1) := by decide +kernel
theorem dX12_isTaken_16 : decode cX12_isTaken 16 = .ok (.iload_n 1, 1) := by decide +kernel
theorem dX12_isTaken_17 : decode cX12_isTaken 17 = .ok (.if_icmp .eq 13, 3) := by decide +kernel
theorem dX12_isTaken_20 : decode cX12_isTaken 20 = .ok (.aload_n 0, 1) := by decide +kernel
theorem dX12_isTaken_21 : decode cX12_isTaken 21 = .ok (.getfield 158, 3) := by decide +kernel
theorem dX12_isTaken_24 : decode cX12_isTaken 24 = .ok (.iload_n 2, 1) := by decide +kernel
theorem dX12_isTaken_25 : decode cX12_isTaken 25 = .ok (.iaload, 1) := by decide +kernel
theorem dX12_isTaken_26 : decode cX12_isTaken 26 = .ok (.iload_n 1, 1) := by decide +kernel
theorem dX12_isTaken_27 : decode cX12_isTaken 27 = .ok (.if_icmp .ne 5, 3) := by decide +kernel
theorem dX12_isTaken_30 : decode cX12_isTaken 30 = .ok (.iconst 1, 1) := by decide +kernel
theorem dX12_isTaken_31 : decode cX12_isTaken 31 = .ok (.ireturn, 1) := by decide +kernel
theorem dX12_isTaken_32 : decode cX12_isTaken 32 = .ok (.iinc 2 1, 3) := by decide +kernel
theorem dX12_isTaken_35 : decode cX12_isTaken 35 = .ok (.goto (-33), 3) := by decide +kernel
theorem dX12_isTaken_38 : decode cX12_isTaken 38 = .ok (.iconst 0, 1) := by decide +kernel
theorem dX12_isTaken_39 : decode cX12_isTaken 39 = .ok (.ireturn, 1) := by decide +kernel
theorem dX12_isOpen_0 : decode cX12_isOpen 0 = .ok (.iload_n 1, 1) := by decide +kernel
theorem dX12_isOpen_1 : decode cX12_isOpen 1 = .ok (.istore_n 3, 1) := by decide +kernel
theorem dX12_isOpen_2 : decode cX12_isOpen 2 = .ok (.iload_n 3, 1) := by decide +kernel
theorem dX12_isOpen_3 : decode cX12_isOpen 3 = .ok (.iload_n 2, 1) := by decide +kernel
theorem dX12_isOpen_4 : decode cX12_isOpen 4 = .ok (.if_icmp .ge 20, 3) := by decide +kernel
theorem dX12_isOpen_7 : decode cX12_isOpen 7 = .ok (.aload_n 0, 1) := by decide +kernel
theorem dX12_isOpen_8 : decode cX12_isOpen 8 = .ok (.getfield 134, 3) := by decide +kernel
theorem dX12_isOpen_11 : decode cX12_isOpen 11 = .ok (.iload_n 3, 1) := by decide +kernel
theorem dX12_isOpen_12 : decode cX12_isOpen 12 = .ok (.baload, 1) := by decide +kernel
theorem dX12_isOpen_13 : decode cX12_isOpen 13 = .ok (.ifCond .eq 5, 3) := by decide +kernel
theorem dX12_isOpen_16 : decode cX12_isOpen 16 = .ok (.iconst 0, 1) := by decide +kernel
theorem dX12_isOpen_17 : decode cX12_isOpen 17 = .ok (.ireturn, 1) := by decide +kernel
theorem dX12_isOpen_18 : decode cX12_isOpen 18 = .ok (.iinc 3 1, 3) := by decide +kernel
theorem dX12_isOpen_21 : decode cX12_isOpen 21 = .ok (.goto (-19), 3) := by decide +kernel
theorem dX12_isOpen_24 : decode cX12_isOpen 24 = .ok (.iconst 1, 1) := by decide +kernel
theorem dX12_isOpen_25 : decode cX12_isOpen 25 = .ok (.ireturn, 1) := by decide +kernel
set_option maxRecDepth 20000 in
theorem ggX12_places_X12_lengthOf : GoodIn wsX12_places wsX12_lengthOf := goodIn_r _ [18, 19, 20, 21, 22, 23, 24, 25, 17, 26, 27, 28, 29, 30, 31, 78, 79, 80, 81, 82, 83, 84, 85, 86, 87, 88, 89, 90, 91, 92, 93, 94, 95, 96, 97, 98, 99, 100, 101, 102, 103, 104, 105, 106, 107, 108, 109, 110, 111, 112, 113, 114, 115, 116, 117, 118, 119, 120, 121, 122, 123, 124, 125, 126, 127, 128, 129, 130, 131, 132, 133, 134, 135, 136, 137, 138, 139, 140, 141, 142, 143, 144, 145, 146, 147, 148, 149, 150, 151, 152, 153, 154, 155, 156, 157, 158, 159, 160, 161, 162] (by decide +kernel) (by decide +kernel)
set_option maxRecDepth 20000 in
theorem gX12_places_X12_lengthOf : GoodIn wsX12_places (wsV RX12 329 RX12 yX12_lengthOf wsX12_lengthOf) := goodIn_app (goodIn_of _ (by decide +kernel)) ggX12_places_X12_lengthOf
set_option maxRecDepth 20000 in
theorem ggX12_places_X12_isOpen : GoodIn wsX12_places wsX12_isOpen := goodIn_r _ [35, 36, 78, 79, 80, 81, 82, 83, 84, 85, 86, 87, 88, 89, 90, 91, 92, 93, 94, 95, 96, 97, 98, 99, 100, 101, 102, 103, 104, 105, 106, 107, 108, 109, 110, 111, 112, 113, 114, 115, 116, 117, 118, 119, 120, 121, 122, 123, 124, 125, 126, 127, 128, 129, 130, 131, 132, 133, 134, 135, 136, 137, 138, 139, 140, 141, 142, 143, 144, 145, 146, 147, 148, 149, 150, 151, 152, 153, 154, 155, 156, 157, 158, 159, 160, 161, 162] (by decide +kernel) (by decide +kernel)
set_option maxRecDepth 20000 in
theorem gX12_places_X12_isOpen : GoodIn wsX12_places (wsV RX12 355 RX12 yX12_isOpen wsX12_isOpen) := goodIn_app (goodIn_of _ (by decide +kernel)) ggX12_places_X12_isOpen
set_option maxRecDepth 20000 in
theorem ggX12_places_X12_asks : GoodIn wsX12_places wsX12_asks := goodIn_r _ [40, 41, 6, 5, 30, 42, 78, 79, 80, 81, 82, 83, 84, 85, 86, 87, 88, 89, 90, 91, 92, 93, 94, 95, 96, 97, 98, 99, 100, 101, 102, 103, 104, 105, 106, 107, 108, 109, 110, 111, 112, 113, 114, 115, 116, 117, 118, 119, 120, 121, 122, 123, 124, 125, 126, 127, 128, 129, 130, 131, 132, 133, 134, 135, 136, 137, 138, 139, 140, 141, 142, 143, 144, 145, 146, 147, 148, 149, 150, 151, 152, 153, 154, 155, 156, 157, 158, 159, 160, 161, 162] (by decide +kernel) (by decide +kernel)
set_option maxRecDepth 20000 in
theorem gX12_places_X12_asks : GoodIn wsX12_places (wsV RX12 348 RX12 yX12_asks wsX12_asks) := goodIn_app (goodIn_of _ (by decide +kernel)) ggX12_places_X12_asks
set_option maxRecDepth 20000 in
theorem ggX12_places_X12_heldOf : GoodIn wsX12_places wsX12_heldOf := goodIn_r _ [46, 47, 48, 49, 50, 51, 52, 17, 53, 54, 55, 56, 57, 58, 59, 60, 61, 62, 63, 64, 65, 66, 67, 68, 69, 70, 71, 72, 73, 41, 78, 79, 80, 81, 82, 83, 84, 85, 86, 87, 88, 89, 90, 91, 92, 93, 94, 95, 96, 97, 98, 99, 100, 101, 102, 103, 104, 105, 106, 107, 108, 109, 110, 111, 112, 113, 114, 115, 116, 117, 118, 119, 120, 121, 122, 123, 124, 125, 126, 127, 128, 129, 130, 131, 132, 133, 134, 135, 136, 137, 138, 139, 140, 141, 142, 143, 144, 145, 146, 147, 148, 149, 150, 151, 152, 153, 154, 155, 156, 157, 158, 159, 160, 161, 162] (by decide +kernel) (by decide +kernel)
set_option maxRecDepth 20000 in
theorem gX12_places_X12_heldOf : GoodIn wsX12_places (wsV RX12 358 RX12 yX12_heldOf wsX12_heldOf) := goodIn_app (goodIn_of _ (by decide +kernel)) ggX12_places_X12_heldOf
set_option maxRecDepth 20000 in
theorem ggX12_places_X12_ruleOf : GoodIn wsX12_places wsX12_ruleOf := goodIn_r _ [53, 54, 48, 55, 56, 57, 58, 17, 59, 60, 61, 62, 63, 64, 65, 66, 67, 68, 69, 70, 71, 72, 73, 41, 78, 79, 80, 81, 82, 83, 84, 85, 86, 87, 88, 89, 90, 91, 92, 93, 94, 95, 96, 97, 98, 99, 100, 101, 102, 103, 104, 105, 106, 107, 108, 109, 110, 111, 112, 113, 114, 115, 116, 117, 118, 119, 120, 121, 122, 123, 124, 125, 126, 127, 128, 129, 130, 131, 132, 133, 134, 135, 136, 137, 138, 139, 140, 141, 142, 143, 144, 145, 146, 147, 148, 149, 150, 151, 152, 153, 154, 155, 156, 157, 158, 159, 160, 161, 162] (by decide +kernel) (by decide +kernel)
set_option maxRecDepth 20000 in
theorem gX12_places_X12_ruleOf : GoodIn wsX12_places (wsV RX12 345 RX12 yX12_ruleOf wsX12_ruleOf) := goodIn_app (goodIn_of _ (by decide +kernel)) ggX12_places_X12_ruleOf
set_option maxRecDepth 20000 in
theorem ggX12_places_X12_isTaken : GoodIn wsX12_places wsX12_isTaken := goodIn_r _ [77, 1, 11, 13, 78, 79, 80, 81, 82, 83, 84, 85, 86, 87, 88, 89, 90, 91, 92, 93, 94, 95, 96, 97, 98, 99, 100, 101, 102, 103, 104, 105, 106, 107, 108, 109, 110, 111, 112, 113, 114, 115, 116, 117, 118, 119, 120, 121, 122, 123, 124, 125, 126, 127, 128, 129, 130, 131, 132, 133, 134, 135, 136, 137, 138, 139, 140, 141, 142, 143, 144, 145, 146, 147, 148, 149, 150, 151, 152, 153, 154, 155, 156, 157, 158, 159, 160, 161, 162] (by decide +kernel) (by decide +kernel)
set_option maxRecDepth 20000 in
theorem gX12_places_X12_isTaken : GoodIn wsX12_places (wsV RX12 361 RX12 yX12_isTaken wsX12_isTaken) := goodIn_app (goodIn_of _ (by decide +kernel)) ggX12_places_X12_isTaken
theorem dX12_places_0 : decode cX12_places 0 = .ok (.aload_n 0, 1) := by decide +kernel
theorem dX12_places_1 : decode cX12_places 1 = .ok (.getfield 352, 3) := by decide +kernel
theorem dX12_places_4 : decode cX12_places 4 = .ok (.ifCond .ne 7, 3) := by decide +kernel
theorem dX12_places_7 : decode cX12_places 7 = .ok (.iconst 0, 1) := by decide +kernel
theorem dX12_places_8 : decode cX12_places 8 = .ok (.goto 14, 3) := by decide +kernel
theorem dX12_places_11 : decode cX12_places 11 = .ok (.aload_n 0, 1) := by decide +kernel
theorem dX12_places_12 : decode cX12_places 12 = .ok (.getfield 155, 3) := by decide +kernel
theorem dX12_places_15 : decode cX12_places 15 = .ok (.aload_n 0, 1) := by decide +kernel
theorem dX12_places_16 : decode cX12_places 16 = .ok (.getfield 352, 3) := by decide +kernel
theorem dX12_places_19 : decode cX12_places 19 = .ok (.iconst 1, 1) := by decide +kernel
theorem dX12_places_20 : decode cX12_places 20 = .ok (.isub, 1) := by decide +kernel
theorem dX12_places_21 : decode cX12_places 21 = .ok (.iaload, 1) := by decide +kernel
theorem dX12_places_22 : decode cX12_places 22 = .ok (.istore_n 2, 1) := by decide +kernel
theorem dX12_places_23 : decode cX12_places 23 = .ok (.iconst 0, 1) := by decide +kernel
theorem dX12_places_24 : decode cX12_places 24 = .ok (.istore_n 3, 1) := by decide +kernel
theorem dX12_places_25 : decode cX12_places 25 = .ok (.iconst 0, 1) := by decide +kernel
theorem dX12_places_26 : decode cX12_places 26 = .ok (.istore 4, 2) := by decide +kernel
theorem dX12_places_28 : decode cX12_places 28 = .ok (.iload 4, 2) := by decide +kernel
theorem dX12_places_30 : decode cX12_places 30 = .ok (.aload_n 0, 1) := by decide +kernel
theorem dX12_places_31 : decode cX12_places 31 = .ok (.getfield 352, 3) := by decide +kernel
theorem dX12_places_34 : decode cX12_places 34 = .ok (.if_icmp .ge 33, 3) := by decide +kernel
theorem dX12_places_37 : decode cX12_places 37 = .ok (.aload_n 0, 1) := by decide +kernel
theorem dX12_places_38 : decode cX12_places 38 = .ok (.getfield 89, 3) := by decide +kernel
theorem dX12_places_41 : decode cX12_places 41 = .ok (.aload_n 0, 1) := by decide +kernel
theorem dX12_places_42 : decode cX12_places 42 = .ok (.getfield 146, 3) := by decide +kernel
theorem dX12_places_45 : decode cX12_places 45 = .ok (.iload 4, 2) := by decide +kernel
theorem dX12_places_47 : decode cX12_places 47 = .ok (.iaload, 1) := by decide +kernel
theorem dX12_places_48 : decode cX12_places 48 = .ok (.iaload, 1) := by decide +kernel
theorem dX12_places_49 : decode cX12_places 49 = .ok (.aload_n 0, 1) := by decide +kernel
theorem dX12_places_50 : decode cX12_places 50 = .ok (.getfield 89, 3) := by decide +kernel
theorem dX12_places_53 : decode cX12_places 53 = .ok (.iload_n 1, 1) := by decide +kernel
theorem dX12_places_54 : decode cX12_places 54 = .ok (.iaload, 1) := by decide +kernel
theorem dX12_places_55 : decode cX12_places 55 = .ok (.if_icmp .ne 6, 3) := by decide +kernel
theorem dX12_places_58 : decode cX12_places 58 = .ok (.iinc 3 1, 3) := by decide +kernel
theorem dX12_places_61 : decode cX12_places 61 = .ok (.iinc 4 1, 3) := by decide +kernel
theorem dX12_places_64 : decode cX12_places 64 = .ok (.goto (-36), 3) := by decide +kernel
theorem dX12_places_67 : decode cX12_places 67 = .ok (.iload_n 2, 1) := by decide +kernel
theorem dX12_places_68 : decode cX12_places 68 = .ok (.istore 4, 2) := by decide +kernel
theorem dX12_places_70 : decode cX12_places 70 = .ok (.iload 4, 2) := by decide +kernel
theorem dX12_places_72 : decode cX12_places 72 = .ok (.sipush 240, 3) := by decide +kernel
theorem dX12_places_75 : decode cX12_places 75 = .ok (.if_icmp .ge 309, 3) := by decide +kernel
theorem dX12_places_78 : decode cX12_places 78 = .ok (.aload_n 0, 1) := by decide +kernel
theorem dX12_places_79 : decode cX12_places 79 = .ok (.iload_n 1, 1) := by decide +kernel
theorem dX12_places_80 : decode cX12_places 80 = .ok (.aload_n 0, 1) := by decide +kernel
theorem dX12_places_81 : decode cX12_places 81 = .ok (.getfield 131, 3) := by decide +kernel
theorem dX12_places_84 : decode cX12_places 84 = .ok (.iload 4, 2) := by decide +kernel
theorem dX12_places_86 : decode cX12_places 86 = .ok (.iaload, 1) := by decide +kernel
theorem dX12_places_87 : decode cX12_places 87 = .ok (.invokevirtual 329, 3) := by decide +kernel
theorem dX12_places_90 : decode cX12_places 90 = .ok (.istore 5, 2) := by decide +kernel
theorem dX12_places_92 : decode cX12_places 92 = .ok (.iload 5, 2) := by decide +kernel
theorem dX12_places_94 : decode cX12_places 94 = .ok (.ifCond .eq 284, 3) := by decide +kernel
theorem dX12_places_97 : decode cX12_places 97 = .ok (.iload 4, 2) := by decide +kernel
theorem dX12_places_99 : decode cX12_places 99 = .ok (.iload 5, 2) := by decide +kernel
theorem dX12_places_101 : decode cX12_places 101 = .ok (.iadd, 1) := by decide +kernel
theorem dX12_places_102 : decode cX12_places 102 = .ok (.sipush 240, 3) := by decide +kernel
theorem dX12_places_105 : decode cX12_places 105 = .ok (.if_icmp .gt 273, 3) := by decide +kernel
theorem dX12_places_108 : decode cX12_places 108 = .ok (.aload_n 0, 1) := by decide +kernel
theorem dX12_places_109 : decode cX12_places 109 = .ok (.iload 4, 2) := by decide +kernel
theorem dX12_places_111 : decode cX12_places 111 = .ok (.iload 4, 2) := by decide +kernel
theorem dX12_places_113 : decode cX12_places 113 = .ok (.iload 5, 2) := by decide +kernel
theorem dX12_places_115 : decode cX12_places 115 = .ok (.iadd, 1) := by decide +kernel
theorem dX12_places_116 : decode cX12_places 116 = .ok (.invokevirtual 355, 3) := by decide +kernel
theorem dX12_places_119 : decode cX12_places 119 = .ok (.ifCond .ne 6, 3) := by decide +kernel
theorem dX12_places_122 : decode cX12_places 122 = .ok (.goto 256, 3) := by decide +kernel
theorem dX12_places_125 : decode cX12_places 125 = .ok (.aload_n 0, 1) := by decide +kernel
theorem dX12_places_126 : decode cX12_places 126 = .ok (.iload_n 1, 1) := by decide +kernel
theorem dX12_places_127 : decode cX12_places 127 = .ok (.iload 4, 2) := by decide +kernel
theorem dX12_places_129 : decode cX12_places 129 = .ok (.aload_n 0, 1) := by decide +kernel
theorem dX12_places_130 : decode cX12_places 130 = .ok (.getfield 352, 3) := by decide +kernel
theorem dX12_places_133 : decode cX12_places 133 = .ok (.ifCond .ne 7, 3) := by decide +kernel
theorem dX12_places_136 : decode cX12_places 136 = .ok (.iconst (-1), 1) := by decide +kernel
theorem dX12_places_137 : decode cX12_places 137 = .ok (.goto 19, 3) := by decide +kernel
theorem dX12_places_140 : decode cX12_places 140 = .ok (.aload_n 0, 1) := by decide +kernel
theorem dX12_places_141 : decode cX12_places 141 = .ok (.getfield 86, 3) := by decide +kernel
theorem dX12_places_144 : decode cX12_places 144 = .ok (.aload_n 0, 1) := by decide +kernel
theorem dX12_places_145 : decode cX12_places 145 = .ok (.getfield 146, 3) := by decide +kernel
theorem dX12_places_148 : decode cX12_places 148 = .ok (.aload_n 0, 1) := by decide +kernel
theorem dX12_places_149 : decode cX12_places 149 = .ok (.getfield 352, 3) := by decide +kernel
theorem dX12_places_152 : decode cX12_places 152 = .ok (.iconst 1, 1) := by decide +kernel
theorem dX12_places_153 : decode cX12_places 153 = .ok (.isub, 1) := by decide +kernel
theorem dX12_places_154 : decode cX12_places 154 = .ok (.iaload, 1) := by decide +kernel
theorem dX12_places_155 : decode cX12_places 155 = .ok (.iaload, 1) := by decide +kernel
theorem dX12_places_156 : decode cX12_places 156 = .ok (.iload_n 3, 1) := by decide +kernel
theorem dX12_places_157 : decode cX12_places 157 = .ok (.iload 5, 2) := by decide +kernel
theorem dX12_places_159 : decode cX12_places 159 = .ok (.invokevirtual 348, 3) := by decide +kernel
theorem dX12_places_162 : decode cX12_places 162 = .ok (.aload_n 0, 1) := by decide +kernel
theorem dX12_places_163 : decode cX12_places 163 = .ok (.getfield 352, 3) := by decide +kernel
theorem dX12_places_166 : decode cX12_places 166 = .ok (.ifCond .le 15, 3) := by decide +kernel
theorem dX12_places_169 : decode cX12_places 169 = .ok (.iload 4, 2) := by decide +kernel
theorem dX12_places_171 : decode cX12_places 171 = .ok (.iload_n 2, 1) := by decide +kernel
theorem dX12_places_172 : decode cX12_places 172 = .ok (.aload_n 0, 1) := by decide +kernel
theorem dX12_places_173 : decode cX12_places 173 = .ok (.iconst 1, 1) := by decide +kernel
theorem dX12_places_174 : decode cX12_places 174 = .ok (.invokevirtual 358, 3) := by decide +kernel
theorem dX12_places_177 : decode cX12_places 177 = .ok (.iadd, 1) := by decide +kernel
theorem dX12_places_178 : decode cX12_places 178 = .ok (.if_icmp .lt 200, 3) := by decide +kernel
theorem dX12_places_181 : decode cX12_places 181 = .ok (.aload_n 0, 1) := by decide +kernel
theorem dX12_places_182 : decode cX12_places 182 = .ok (.iconst 0, 1) := by decide +kernel
theorem dX12_places_183 : decode cX12_places 183 = .ok (.invokevirtual 345, 3) := by decide +kernel
theorem dX12_places_186 : decode cX12_places 186 = .ok (.iconst (-1), 1) := by decide +kernel
theorem dX12_places_187 : decode cX12_places 187 = .ok (.if_icmp .eq 6, 3) := by decide +kernel
theorem dX12_places_190 : decode cX12_places 190 = .ok (.goto 188, 3) := by decide +kernel
theorem dX12_places_193 : decode cX12_places 193 = .ok (.iload 4, 2) := by decide +kernel
theorem dX12_places_195 : decode cX12_places 195 = .ok (.aload_n 0, 1) := by decide +kernel
theorem dX12_places_196 : decode cX12_places 196 = .ok (.getfield 95, 3) := by decide +kernel
theorem dX12_places_199 : decode cX12_places 199 = .ok (.iload_n 1, 1) := by decide +kernel
theorem dX12_places_200 : decode cX12_places 200 = .ok (.iaload, 1) := by decide +kernel
theorem dX12_places_201 : decode cX12_places 201 = .ok (.isub, 1) := by decide +kernel
theorem dX12_places_202 : decode cX12_places 202 = .ok (.istore 6, 2) := by decide +kernel
theorem dX12_places_204 : decode cX12_places 204 = .ok (.iload 6, 2) := by decide +kernel
theorem dX12_places_206 : decode cX12_places 206 = .ok (.aload_n 0, 1) := by decide +kernel
theorem dX12_places_207 : decode cX12_places 207 = .ok (.getfield 137, 3) := by decide +kernel
theorem dX12_places_210 : decode cX12_places 210 = .ok (.iload_n 1, 1) := by decide +kernel
theorem dX12_places_211 : decode cX12_places 211 = .ok (.iaload, 1) := by decide +kernel
theorem dX12_places_212 : decode cX12_places 212 = .ok (.if_icmp .lt 18, 3) := by decide +kernel
theorem dX12_places_215 : decode cX12_places 215 = .ok (.aload_n 0, 1) := by decide +kernel
theorem dX12_places_216 : decode cX12_places 216 = .ok (.iload 6, 2) := by decide +kernel
theorem dX12_places_218 : decode cX12_places 218 = .ok (.invokevirtual 361, 3) := by decide +kernel
theorem dX12_places_221 : decode cX12_places 221 = .ok (.ifCond .eq 9, 3) := by decide +kernel
theorem dX12_places_224 : decode cX12_places 224 = .ok (.iinc 6 (-1), 3) := by decide +kernel
theorem dX12_places_227 : decode cX12_places 227 = .ok (.goto (-23), 3) := by decide +kernel
theorem dX12_places_230 : decode cX12_places 230 = .ok (.iload 4, 2) := by decide +kernel
theorem dX12_places_232 : decode cX12_places 232 = .ok (.iload 5, 2) := by decide +kernel
theorem dX12_places_234 : decode cX12_places 234 = .ok (.iadd, 1) := by decide +kernel
theorem dX12_places_235 : decode cX12_places 235 = .ok (.aload_n 0, 1) := by decide +kernel
theorem dX12_places_236 : decode cX12_places 236 = .ok (.getfield 98, 3) := by decide +kernel
theorem dX12_places_239 : decode cX12_places 239 = .ok (.iload_n 1, 1) := by decide +kernel
theorem dX12_places_240 : decode cX12_places 240 = .ok (.iaload, 1) := by decide +kernel
theorem dX12_places_241 : decode cX12_places 241 = .ok (.iadd, 1) := by decide +kernel
theorem dX12_places_242 : decode cX12_places 242 = .ok (.istore 7, 2) := by decide +kernel
theorem dX12_places_244 : decode cX12_places 244 = .ok (.iload 7, 2) := by decide +kernel
theorem dX12_places_246 : decode cX12_places 246 = .ok (.sipush 240, 3) := by decide +kernel
theorem dX12_places_249 : decode cX12_places 249 = .ok (.if_icmp .ge 18, 3) := by decide +kernel
theorem dX12_places_252 : decode cX12_places 252 = .ok (.aload_n 0, 1) := by decide +kernel
theorem dX12_places_253 : decode cX12_places 253 = .ok (.iload 7, 2) := by decide +kernel
theorem dX12_places_255 : decode cX12_places 255 = .ok (.invokevirtual 361, 3) := by decide +kernel
theorem dX12_places_258 : decode cX12_places 258 = .ok (.ifCond .eq 9, 3) := by decide +kernel
theorem dX12_places_261 : decode cX12_places 261 = .ok (.iinc 7 1, 3) := by decide +kernel
theorem dX12_places_264 : decode cX12_places 264 = .ok (.goto (-20), 3) := by decide +kernel
theorem dX12_places_267 : decode cX12_places 267 = .ok (.iload 6, 2) := by decide +kernel
theorem dX12_places_269 : decode cX12_places 269 = .ok (.aload_n 0, 1) := by decide +kernel
theorem dX12_places_270 : decode cX12_places 270 = .ok (.getfield 137, 3) := by decide +kernel
theorem dX12_places_273 : decode cX12_places 273 = .ok (.iload_n 1, 1) := by decide +kernel
theorem dX12_places_274 : decode cX12_places 274 = .ok (.iaload, 1) := by decide +kernel
theorem dX12_places_275 : decode cX12_places 275 = .ok (.if_icmp .lt 103, 3) := by decide +kernel
theorem dX12_places_278 : decode cX12_places 278 = .ok (.iload 7, 2) := by decide +kernel
theorem dX12_places_280 : decode cX12_places 280 = .ok (.sipush 240, 3) := by decide +kernel
theorem dX12_places_283 : decode cX12_places 283 = .ok (.if_icmp .ge 95, 3) := by decide +kernel
theorem dX12_places_286 : decode cX12_places 286 = .ok (.iload 7, 2) := by decide +kernel
theorem dX12_places_288 : decode cX12_places 288 = .ok (.iload 6, 2) := by decide +kernel
theorem dX12_places_290 : decode cX12_places 290 = .ok (.isub, 1) := by decide +kernel
theorem dX12_places_291 : decode cX12_places 291 = .ok (.aload_n 0, 1) := by decide +kernel
theorem dX12_places_292 : decode cX12_places 292 = .ok (.getfield 101, 3) := by decide +kernel
theorem dX12_places_295 : decode cX12_places 295 = .ok (.iload_n 1, 1) := by decide +kernel
theorem dX12_places_296 : decode cX12_places 296 = .ok (.iaload, 1) := by decide +kernel
theorem dX12_places_297 : decode cX12_places 297 = .ok (.aload_n 0, 1) := by decide +kernel
theorem dX12_places_298 : decode cX12_places 298 = .ok (.iconst 2, 1) := by decide +kernel
theorem dX12_places_299 : decode cX12_places 299 = .ok (.invokevirtual 358, 3) := by decide +kernel
theorem dX12_places_302 : decode cX12_places 302 = .ok (.isub, 1) := by decide +kernel
theorem dX12_places_303 : decode cX12_places 303 = .ok (.if_icmp .le 6, 3) := by decide +kernel
theorem dX12_places_306 : decode cX12_places 306 = .ok (.goto 72, 3) := by decide +kernel
theorem dX12_places_309 : decode cX12_places 309 = .ok (.aload_n 0, 1) := by decide +kernel
theorem dX12_places_310 : decode cX12_places 310 = .ok (.getfield 146, 3) := by decide +kernel
theorem dX12_places_313 : decode cX12_places 313 = .ok (.aload_n 0, 1) := by decide +kernel
theorem dX12_places_314 : decode cX12_places 314 = .ok (.getfield 352, 3) := by decide +kernel
theorem dX12_places_317 : decode cX12_places 317 = .ok (.iload_n 1, 1) := by decide +kernel
theorem dX12_places_318 : decode cX12_places 318 = .ok (.iastore, 1) := by decide +kernel
theorem dX12_places_319 : decode cX12_places 319 = .ok (.aload_n 0, 1) := by decide +kernel
theorem dX12_places_320 : decode cX12_places 320 = .ok (.getfield 149, 3) := by decide +kernel
theorem dX12_places_323 : decode cX12_places 323 = .ok (.aload_n 0, 1) := by decide +kernel
theorem dX12_places_324 : decode cX12_places 324 = .ok (.getfield 352, 3) := by decide +kernel
theorem dX12_places_327 : decode cX12_places 327 = .ok (.iload 6, 2) := by decide +kernel
theorem dX12_places_329 : decode cX12_places 329 = .ok (.iastore, 1) := by decide +kernel
theorem dX12_places_330 : decode cX12_places 330 = .ok (.aload_n 0, 1) := by decide +kernel
theorem dX12_places_331 : decode cX12_places 331 = .ok (.getfield 152, 3) := by decide +kernel
theorem dX12_places_334 : decode cX12_places 334 = .ok (.aload_n 0, 1) := by decide +kernel
theorem dX12_places_335 : decode cX12_places 335 = .ok (.getfield 352, 3) := by decide +kernel
theorem dX12_places_338 : decode cX12_places 338 = .ok (.iload 4, 2) := by decide +kernel
theorem dX12_places_340 : decode cX12_places 340 = .ok (.iastore, 1) := by decide +kernel
theorem dX12_places_341 : decode cX12_places 341 = .ok (.aload_n 0, 1) := by decide +kernel
theorem dX12_places_342 : decode cX12_places 342 = .ok (.getfield 155, 3) := by decide +kernel
theorem dX12_places_345 : decode cX12_places 345 = .ok (.aload_n 0, 1) := by decide +kernel
theorem dX12_places_346 : decode cX12_places 346 = .ok (.getfield 352, 3) := by decide +kernel
theorem dX12_places_349 : decode cX12_places 349 = .ok (.iload 4, 2) := by decide +kernel
theorem dX12_places_351 : decode cX12_places 351 = .ok (.iload 5, 2) := by decide +kernel
theorem dX12_places_353 : decode cX12_places 353 = .ok (.iadd, 1) := by decide +kernel
theorem dX12_places_354 : decode cX12_places 354 = .ok (.iastore, 1) := by decide +kernel
theorem dX12_places_355 : decode cX12_places 355 = .ok (.aload_n 0, 1) := by decide +kernel
theorem dX12_places_356 : decode cX12_places 356 = .ok (.getfield 158, 3) := by decide +kernel
theorem dX12_places_359 : decode cX12_places 359 = .ok (.aload_n 0, 1) := by decide +kernel
theorem dX12_places_360 : decode cX12_places 360 = .ok (.getfield 352, 3) := by decide +kernel
theorem dX12_places_363 : decode cX12_places 363 = .ok (.iload 7, 2) := by decide +kernel
theorem dX12_places_365 : decode cX12_places 365 = .ok (.iastore, 1) := by decide +kernel
theorem dX12_places_366 : decode cX12_places 366 = .ok (.aload_n 0, 1) := by decide +kernel
theorem dX12_places_367 : decode cX12_places 367 = .ok (.dup, 1) := by decide +kernel
theorem dX12_places_368 : decode cX12_places 368 = .ok (.getfield 352, 3) := by decide +kernel
theorem dX12_places_371 : decode cX12_places 371 = .ok (.iconst 1, 1) := by decide +kernel
theorem dX12_places_372 : decode cX12_places 372 = .ok (.iadd, 1) := by decide +kernel
theorem dX12_places_373 : decode cX12_places 373 = .ok (.putfield 352, 3) := by decide +kernel
theorem dX12_places_376 : decode cX12_places 376 = .ok (.iconst 1, 1) := by decide +kernel
theorem dX12_places_377 : decode cX12_places 377 = .ok (.ireturn, 1) := by decide +kernel
theorem dX12_places_378 : decode cX12_places 378 = .ok (.iinc 4 1, 3) := by decide +kernel
theorem dX12_places_381 : decode cX12_places 381 = .ok (.goto (-311), 3) := by decide +kernel
theorem dX12_places_384 : decode cX12_places 384 = .ok (.iconst 0, 1) := by decide +kernel
theorem dX12_places_385 : decode cX12_places 385 = .ok (.ireturn, 1) := by decide +kernel
set_option maxRecDepth 20000 in
theorem ggX12_can_X12_isKnown : GoodIn wsX12_can wsX12_isKnown := goodIn_r _ [7, 8, 99, 100, 101, 102, 103, 104, 105, 106, 107, 108, 109, 110, 111, 112, 113, 114, 115, 116, 117, 118, 119, 120, 121, 122, 123, 124, 125, 126, 127, 128, 129, 130, 131, 132, 133, 134, 135, 136, 137, 138, 139, 140, 141, 142, 143, 144, 145, 146, 147, 148, 149, 150, 151, 152, 153, 154, 155, 156, 157, 158, 159, 160, 161, 162, 163, 164, 165, 166, 167, 168, 169, 170, 171, 172, 173, 174, 175, 176, 177, 178, 179, 180, 181, 182, 183] (by decide +kernel) (by decide +kernel)
set_option maxRecDepth 20000 in
theorem gX12_can_X12_isKnown : GoodIn wsX12_can (wsV RX12 333 RX12 yX12_isKnown wsX12_isKnown) := goodIn_app (goodIn_of _ (by decide +kernel)) ggX12_can_X12_isKnown
set_option maxRecDepth 20000 in
theorem ggX12_can_X12_isAct : GoodIn wsX12_can wsX12_isAct := goodIn_r _ [12, 13, 99, 100, 101, 102, 103, 104, 105, 106, 107, 108, 109, 110, 111, 112, 113, 114, 115, 116, 117, 118, 119, 120, 121, 122, 123, 124, 125, 126, 127, 128, 129, 130, 131, 132, 133, 134, 135, 136, 137, 138, 139, 140, 141, 142, 143, 144, 145, 146, 147, 148, 149, 150, 151, 152, 153, 154, 155, 156, 157, 158, 159, 160, 161, 162, 163, 164, 165, 166, 167, 168, 169, 170, 171, 172, 173, 174, 175, 176, 177, 178, 179, 180, 181, 182, 183] (by decide +kernel) (by decide +kernel)
set_option maxRecDepth 20000 in
theorem gX12_can_X12_isAct : GoodIn wsX12_can (wsV RX12 310 RX12 yX12_isAct wsX12_isAct) := goodIn_app (goodIn_of _ (by decide +kernel)) ggX12_can_X12_isAct
set_option maxRecDepth 20000 in
theorem ggX12_can_X12_knows : GoodIn wsX12_can wsX12_knows := goodIn_r _ [17, 18, 19, 20, 21, 22, 23, 99, 100, 101, 102, 103, 104, 105, 106, 107, 108, 109, 110, 111, 112, 113, 114, 115, 116, 117, 118, 119, 120, 121, 122, 123, 124, 125, 126, 127, 128, 129, 130, 131, 132, 133, 134, 135, 136, 137, 138, 139, 140, 141, 142, 143, 144, 145, 146, 147, 148, 149, 150, 151, 152, 153, 154, 155, 156, 157, 158, 159, 160, 161, 162, 163, 164, 165, 166, 167, 168, 169, 170, 171, 172, 173, 174, 175, 176, 177, 178, 179, 180, 181, 182, 183] (by decide +kernel) (by decide +kernel)
set_option maxRecDepth 20000 in
theorem gX12_can_X12_knows : GoodIn wsX12_can (wsV RX12 336 RX12 yX12_knows wsX12_knows) := goodIn_app (goodIn_of _ (by decide +kernel)) ggX12_can_X12_knows
set_option maxRecDepth 20000 in
theorem ggX12_can_X12_places : GoodIn wsX12_can wsX12_places := goodIn_r _ [27, 1, 28, 29, 30, 18, 31, 32, 20, 33, 34, 35, 36, 37, 38, 39, 40, 6, 41, 42, 43, 44, 45, 46, 47, 48, 49, 50, 51, 52, 53, 54, 55, 56, 57, 58, 19, 59, 60, 61, 62, 63, 2, 64, 65, 66, 67, 68, 69, 70, 71, 72, 73, 74, 75, 76, 77, 78, 79, 80, 81, 82, 83, 84, 85, 86, 87, 88, 89, 90, 91, 92, 93, 94, 95, 96, 97, 98, 99, 100, 101, 102, 103, 104, 105, 106, 107, 108, 109, 110, 111, 112, 113, 114, 115, 116, 117, 118, 119, 120, 121, 122, 123, 124, 125, 126, 127, 128, 129, 130, 131, 132, 133, 134, 135, 136, 137, 138, 139, 140, 141, 142, 143, 144, 145, 146, 147, 148, 149, 150, 151, 152, 153, 154, 155, 156, 157, 158, 159, 160, 161, 162, 163, 164, 165, 166, 167, 168, 169, 170, 171, 172, 173, 174, 175, 176, 177, 178, 179, 180, 181, 182, 183] (by decide +kernel) (by decide +kernel)
set_option maxRecDepth 20000 in
theorem gX12_can_X12_places : GoodIn wsX12_can (wsV RX12 364 RX12 yX12_places wsX12_places) := goodIn_app (goodIn_of _ (by decide +kernel)) ggX12_can_X12_places
theorem dX12_can_0 : decode cX12_can 0 = .ok (.aload_n 0, 1) := by decide +kernel
theorem dX12_can_1 : decode cX12_can 1 = .ok (.iload 5, 2) := by decide +kernel
theorem dX12_can_3 : decode cX12_can 3 = .ok (.invokevirtual 333, 3) := by decide +kernel
theorem dX12_can_6 : decode cX12_can 6 = .ok (.ifCond .eq 11, 3) := by decide +kernel
theorem dX12_can_9 : decode cX12_can 9 = .ok (.aload_n 0, 1) := by decide +kernel
theorem dX12_can_10 : decode cX12_can 10 = .ok (.iload_n 1, 1) := by decide +kernel
theorem dX12_can_11 : decode cX12_can 11 = .ok (.invokevirtual 310, 3) := by decide +kernel
theorem dX12_can_14 : decode cX12_can 14 = .ok (.ifCond .ne 5, 3) := by decide +kernel
theorem dX12_can_17 : decode cX12_can 17 = .ok (.iconst (-1), 1) := by decide +kernel
theorem dX12_can_18 : decode cX12_can 18 = .ok (.ireturn, 1) := by decide +kernel
theorem dX12_can_19 : decode cX12_can 19 = .ok (.aload_n 0, 1) := by decide +kernel
theorem dX12_can_20 : decode cX12_can 20 = .ok (.iload 5, 2) := by decide +kernel
theorem dX12_can_22 : decode cX12_can 22 = .ok (.invokevirtual 336, 3) := by decide +kernel
theorem dX12_can_25 : decode cX12_can 25 = .ok (.aload_n 0, 1) := by decide +kernel
theorem dX12_can_26 : decode cX12_can 26 = .ok (.iconst 0, 1) := by decide +kernel
theorem dX12_can_27 : decode cX12_can 27 = .ok (.putfield 352, 3) := by decide +kernel
theorem dX12_can_30 : decode cX12_can 30 = .ok (.iconst 1, 1) := by decide +kernel
theorem dX12_can_31 : decode cX12_can 31 = .ok (.istore 6, 2) := by decide +kernel
theorem dX12_can_33 : decode cX12_can 33 = .ok (.iconst 0, 1) := by decide +kernel
theorem dX12_can_34 : decode cX12_can 34 = .ok (.istore 7, 2) := by decide +kernel
theorem dX12_can_36 : decode cX12_can 36 = .ok (.iconst 0, 1) := by decide +kernel
theorem dX12_can_37 : decode cX12_can 37 = .ok (.istore 8, 2) := by decide +kernel
theorem dX12_can_39 : decode cX12_can 39 = .ok (.iconst 0, 1) := by decide +kernel
theorem dX12_can_40 : decode cX12_can 40 = .ok (.istore 9, 2) := by decide +kernel
theorem dX12_can_42 : decode cX12_can 42 = .ok (.iconst 0, 1) := by decide +kernel
theorem dX12_can_43 : decode cX12_can 43 = .ok (.istore 10, 2) := by decide +kernel
theorem dX12_can_45 : decode cX12_can 45 = .ok (.iload 10, 2) := by decide +kernel
theorem dX12_can_47 : decode cX12_can 47 = .ok (.iconst 4, 1) := by decide +kernel
theorem dX12_can_48 : decode cX12_can 48 = .ok (.if_icmp .ge 148, 3) := by decide +kernel
theorem dX12_can_51 : decode cX12_can 51 = .ok (.iload 10, 2) := by decide +kernel
theorem dX12_can_53 : decode cX12_can 53 = .ok (.ifCond .ne 7, 3) := by decide +kernel
theorem dX12_can_56 : decode cX12_can 56 = .ok (.iload_n 1, 1) := by decide +kernel
theorem dX12_can_57 : decode cX12_can 57 = .ok (.goto 25, 3) := by decide +kernel
theorem dX12_can_60 : decode cX12_can 60 = .ok (.iload 10, 2) := by decide +kernel
theorem dX12_can_62 : decode cX12_can 62 = .ok (.iconst 1, 1) := by decide +kernel
theorem dX12_can_63 : decode cX12_can 63 = .ok (.if_icmp .ne 7, 3) := by decide +kernel
theorem dX12_can_66 : decode cX12_can 66 = .ok (.iload_n 2, 1) := by decide +kernel
theorem dX12_can_67 : decode cX12_can 67 = .ok (.goto 15, 3) := by decide +kernel
theorem dX12_can_70 : decode cX12_can 70 = .ok (.iload 10, 2) := by decide +kernel
theorem dX12_can_72 : decode cX12_can 72 = .ok (.iconst 2, 1) := by decide +kernel
theorem dX12_can_73 : decode cX12_can 73 = .ok (.if_icmp .ne 7, 3) := by decide +kernel
theorem dX12_can_76 : decode cX12_can 76 = .ok (.iload_n 3, 1) := by decide +kernel
theorem dX12_can_77 : decode cX12_can 77 = .ok (.goto 5, 3) := by decide +kernel
theorem dX12_can_80 : decode cX12_can 80 = .ok (.iload 4, 2) := by decide +kernel
theorem dX12_can_82 : decode cX12_can 82 = .ok (.istore 11, 2) := by decide +kernel
theorem dX12_can_84 : decode cX12_can 84 = .ok (.iload 7, 2) := by decide +kernel
theorem dX12_can_86 : decode cX12_can 86 = .ok (.ifCond .ne 9, 3) := by decide +kernel
theorem dX12_can_89 : decode cX12_can 89 = .ok (.iload 11, 2) := by decide +kernel
theorem dX12_can_91 : decode cX12_can 91 = .ok (.iconst (-1), 1) := by decide +kernel
theorem dX12_can_92 : decode cX12_can 92 = .ok (.if_icmp .ne 7, 3) := by decide +kernel
theorem dX12_can_95 : decode cX12_can 95 = .ok (.iconst 1, 1) := by decide +kernel
theorem dX12_can_96 : decode cX12_can 96 = .ok (.goto 4, 3) := by decide +kernel
theorem dX12_can_99 : decode cX12_can 99 = .ok (.iconst 0, 1) := by decide +kernel
theorem dX12_can_100 : decode cX12_can 100 = .ok (.istore 7, 2) := by decide +kernel
theorem dX12_can_102 : decode cX12_can 102 = .ok (.iload 7, 2) := by decide +kernel
theorem dX12_can_104 : decode cX12_can 104 = .ok (.ifCond .eq 9, 3) := by decide +kernel
theorem dX12_can_107 : decode cX12_can 107 = .ok (.iload 11, 2) := by decide +kernel
theorem dX12_can_109 : decode cX12_can 109 = .ok (.iconst (-1), 1) := by decide +kernel
theorem dX12_can_110 : decode cX12_can 110 = .ok (.if_icmp .ne 28, 3) := by decide +kernel
theorem dX12_can_113 : decode cX12_can 113 = .ok (.iload 7, 2) := by decide +kernel
theorem dX12_can_115 : decode cX12_can 115 = .ok (.ifCond .ne 25, 3) := by decide +kernel
theorem dX12_can_118 : decode cX12_can 118 = .ok (.aload_n 0, 1) := by decide +kernel
theorem dX12_can_119 : decode cX12_can 119 = .ok (.iload 11, 2) := by decide +kernel
theorem dX12_can_121 : decode cX12_can 121 = .ok (.invokevirtual 310, 3) := by decide +kernel
theorem dX12_can_124 : decode cX12_can 124 = .ok (.ifCond .eq 14, 3) := by decide +kernel
theorem dX12_can_127 : decode cX12_can 127 = .ok (.iload 8, 2) := by decide +kernel
theorem dX12_can_129 : decode cX12_can 129 = .ok (.iload 11, 2) := by decide +kernel
theorem dX12_can_131 : decode cX12_can 131 = .ok (.ishr, 1) := by decide +kernel
theorem dX12_can_132 : decode cX12_can 132 = .ok (.iconst 1, 1) := by decide +kernel
theorem dX12_can_133 : decode cX12_can 133 = .ok (.iand, 1) := by decide +kernel
theorem dX12_can_134 : decode cX12_can 134 = .ok (.iconst 1, 1) := by decide +kernel
theorem dX12_can_135 : decode cX12_can 135 = .ok (.if_icmp .ne 5, 3) := by decide +kernel
theorem dX12_can_138 : decode cX12_can 138 = .ok (.iconst (-1), 1) := by decide +kernel
theorem dX12_can_139 : decode cX12_can 139 = .ok (.ireturn, 1) := by decide +kernel
theorem dX12_can_140 : decode cX12_can 140 = .ok (.iload 7, 2) := by decide +kernel
theorem dX12_can_142 : decode cX12_can 142 = .ok (.ifCond .eq 6, 3) := by decide +kernel
theorem dX12_can_145 : decode cX12_can 145 = .ok (.goto 45, 3) := by decide +kernel
theorem dX12_can_148 : decode cX12_can 148 = .ok (.iload 8, 2) := by decide +kernel
theorem dX12_can_150 : decode cX12_can 150 = .ok (.iconst 1, 1) := by decide +kernel
theorem dX12_can_151 : decode cX12_can 151 = .ok (.iload 11, 2) := by decide +kernel
theorem dX12_can_153 : decode cX12_can 153 = .ok (.ishl, 1) := by decide +kernel
theorem dX12_can_154 : decode cX12_can 154 = .ok (.ior, 1) := by decide +kernel
theorem dX12_can_155 : decode cX12_can 155 = .ok (.istore 8, 2) := by decide +kernel
theorem dX12_can_157 : decode cX12_can 157 = .ok (.iload 9, 2) := by decide +kernel
theorem dX12_can_159 : decode cX12_can 159 = .ok (.aload_n 0, 1) := by decide +kernel
theorem dX12_can_160 : decode cX12_can 160 = .ok (.getfield 92, 3) := by decide +kernel
theorem dX12_can_163 : decode cX12_can 163 = .ok (.iload 11, 2) := by decide +kernel
theorem dX12_can_165 : decode cX12_can 165 = .ok (.iaload, 1) := by decide +kernel
theorem dX12_can_166 : decode cX12_can 166 = .ok (.iadd, 1) := by decide +kernel
theorem dX12_can_167 : decode cX12_can 167 = .ok (.istore 9, 2) := by decide +kernel
theorem dX12_can_169 : decode cX12_can 169 = .ok (.iload 6, 2) := by decide +kernel
theorem dX12_can_171 : decode cX12_can 171 = .ok (.ifCond .eq 16, 3) := by decide +kernel
theorem dX12_can_174 : decode cX12_can 174 = .ok (.aload_n 0, 1) := by decide +kernel
theorem dX12_can_175 : decode cX12_can 175 = .ok (.iload 11, 2) := by decide +kernel
theorem dX12_can_177 : decode cX12_can 177 = .ok (.invokevirtual 364, 3) := by decide +kernel
theorem dX12_can_180 : decode cX12_can 180 = .ok (.ifCond .eq 7, 3) := by decide +kernel
theorem dX12_can_183 : decode cX12_can 183 = .ok (.iconst 1, 1) := by decide +kernel
theorem dX12_can_184 : decode cX12_can 184 = .ok (.goto 4, 3) := by decide +kernel
theorem dX12_can_187 : decode cX12_can 187 = .ok (.iconst 0, 1) := by decide +kernel
theorem dX12_can_188 : decode cX12_can 188 = .ok (.istore 6, 2) := by decide +kernel
theorem dX12_can_190 : decode cX12_can 190 = .ok (.iinc 10 1, 3) := by decide +kernel
theorem dX12_can_193 : decode cX12_can 193 = .ok (.goto (-148), 3) := by decide +kernel
theorem dX12_can_196 : decode cX12_can 196 = .ok (.iload 6, 2) := by decide +kernel
theorem dX12_can_198 : decode cX12_can 198 = .ok (.ifCond .eq 8, 3) := by decide +kernel
theorem dX12_can_201 : decode cX12_can 201 = .ok (.iload 9, 2) := by decide +kernel
theorem dX12_can_203 : decode cX12_can 203 = .ok (.goto 5, 3) := by decide +kernel
theorem dX12_can_206 : decode cX12_can 206 = .ok (.bipush (-2), 2) := by decide +kernel
theorem dX12_can_208 : decode cX12_can 208 = .ok (.ireturn, 1) := by decide +kernel
theorem dX12_looks_0 : decode cX12_looks 0 = .ok (.iconst 0, 1) := by decide +kernel
theorem dX12_looks_1 : decode cX12_looks 1 = .ok (.istore_n 2, 1) := by decide +kernel
theorem dX12_looks_2 : decode cX12_looks 2 = .ok (.iconst 0, 1) := by decide +kernel
theorem dX12_looks_3 : decode cX12_looks 3 = .ok (.istore_n 3, 1) := by decide +kernel
theorem dX12_looks_4 : decode cX12_looks 4 = .ok (.iconst (-1), 1) := by decide +kernel
theorem dX12_looks_5 : decode cX12_looks 5 = .ok (.istore 4, 2) := by decide +kernel
theorem dX12_looks_7 : decode cX12_looks 7 = .ok (.iconst 0, 1) := by decide +kernel
theorem dX12_looks_8 : decode cX12_looks 8 = .ok (.istore 5, 2) := by decide +kernel
theorem dX12_looks_10 : decode cX12_looks 10 = .ok (.iload 5, 2) := by decide +kernel
theorem dX12_looks_12 : decode cX12_looks 12 = .ok (.aload_n 0, 1) := by decide +kernel
theorem dX12_looks_13 : decode cX12_looks 13 = .ok (.getfield 352, 3) := by decide +kernel
theorem dX12_looks_16 : decode cX12_looks 16 = .ok (.if_icmp .ge 74, 3) := by decide +kernel
theorem dX12_looks_19 : decode cX12_looks 19 = .ok (.iload_n 2, 1) := by decide +kernel
theorem dX12_looks_20 : decode cX12_looks 20 = .ok (.aload_n 0, 1) := by decide +kernel
theorem dX12_looks_21 : decode cX12_looks 21 = .ok (.getfield 92, 3) := by decide +kernel
theorem dX12_looks_24 : decode cX12_looks 24 = .ok (.aload_n 0, 1) := by decide +kernel
theorem dX12_looks_25 : decode cX12_looks 25 = .ok (.getfield 146, 3) := by decide +kernel
theorem dX12_looks_28 : decode cX12_looks 28 = .ok (.iload 5, 2) := by decide +kernel
theorem dX12_looks_30 : decode cX12_looks 30 = .ok (.iaload, 1) := by decide +kernel
theorem dX12_looks_31 : decode cX12_looks 31 = .ok (.iaload, 1) := by decide +kernel
theorem dX12_looks_32 : decode cX12_looks 32 = .ok (.iadd, 1) := by decide +kernel
theorem dX12_looks_33 : decode cX12_looks 33 = .ok (.istore_n 2, 1) := by decide +kernel
theorem dX12_looks_34 : decode cX12_looks 34 = .ok (.iload_n 1, 1) := by decide +kernel
theorem dX12_looks_35 : decode cX12_looks 35 = .ok (.ifCond .eq 28, 3) := by decide +kernel
theorem dX12_looks_38 : decode cX12_looks 38 = .ok (.aload_n 0, 1) := by decide +kernel
theorem dX12_looks_39 : decode cX12_looks 39 = .ok (.getfield 167, 3) := by decide +kernel
theorem dX12_looks_42 : decode cX12_looks 42 = .ok (.aload_n 0, 1) := by decide +kernel
theorem dX12_looks_43 : decode cX12_looks 43 = .ok (.getfield 146, 3) := by decide +kernel
theorem dX12_looks_46 : decode cX12_looks 46 = .ok (.iload 5, 2) := by decide +kernel
theorem dX12_looks_48 : decode cX12_looks 48 = .ok (.iaload, 1) := by decide +kernel
theorem dX12_looks_49 : decode cX12_looks 49 = .ok (.iaload, 1) := by decide +kernel
theorem dX12_looks_50 : decode cX12_looks 50 = .ok (.aload_n 0, 1) := by decide +kernel
theorem dX12_looks_51 : decode cX12_looks 51 = .ok (.getfield 152, 3) := by decide +kernel
theorem dX12_looks_54 : decode cX12_looks 54 = .ok (.iload 5, 2) := by decide +kernel
theorem dX12_looks_56 : decode cX12_looks 56 = .ok (.iaload, 1) := by decide +kernel
theorem dX12_looks_57 : decode cX12_looks 57 = .ok (.if_icmp .ne 6, 3) := by decide +kernel
theorem dX12_looks_60 : decode cX12_looks 60 = .ok (.iinc 3 1, 3) := by decide +kernel
theorem dX12_looks_63 : decode cX12_looks 63 = .ok (.aload_n 0, 1) := by decide +kernel
theorem dX12_looks_64 : decode cX12_looks 64 = .ok (.getfield 158, 3) := by decide +kernel
theorem dX12_looks_67 : decode cX12_looks 67 = .ok (.iload 5, 2) := by decide +kernel
theorem dX12_looks_69 : decode cX12_looks 69 = .ok (.iaload, 1) := by decide +kernel
theorem dX12_looks_70 : decode cX12_looks 70 = .ok (.iload 4, 2) := by decide +kernel
theorem dX12_looks_72 : decode cX12_looks 72 = .ok (.if_icmp .le 12, 3) := by decide +kernel
theorem dX12_looks_75 : decode cX12_looks 75 = .ok (.aload_n 0, 1) := by decide +kernel
theorem dX12_looks_76 : decode cX12_looks 76 = .ok (.getfield 158, 3) := by decide +kernel
theorem dX12_looks_79 : decode cX12_looks 79 = .ok (.iload 5, 2) := by decide +kernel
theorem dX12_looks_81 : decode cX12_looks 81 = .ok (.iaload, 1) := by decide +kernel
theorem dX12_looks_82 : decode cX12_looks 82 = .ok (.istore 4, 2) := by decide +kernel
theorem dX12_looks_84 : decode cX12_looks 84 = .ok (.iinc 5 1, 3) := by decide +kernel
theorem dX12_looks_87 : decode cX12_looks 87 = .ok (.goto (-77), 3) := by decide +kernel
theorem dX12_looks_90 : decode cX12_looks 90 = .ok (.aload_n 0, 1) := by decide +kernel
theorem dX12_looks_91 : decode cX12_looks 91 = .ok (.getfield 367, 3) := by decide +kernel
theorem dX12_looks_94 : decode cX12_looks 94 = .ok (.iconst (-1), 1) := by decide +kernel
theorem dX12_looks_95 : decode cX12_looks 95 = .ok (.if_icmp .eq 45, 3) := by decide +kernel
theorem dX12_looks_98 : decode cX12_looks 98 = .ok (.iload_n 2, 1) := by decide +kernel
theorem dX12_looks_99 : decode cX12_looks 99 = .ok (.aload_n 0, 1) := by decide +kernel
theorem dX12_looks_100 : decode cX12_looks 100 = .ok (.getfield 370, 3) := by decide +kernel
theorem dX12_looks_103 : decode cX12_looks 103 = .ok (.if_icmp .lt 36, 3) := by decide +kernel
theorem dX12_looks_106 : decode cX12_looks 106 = .ok (.iload_n 2, 1) := by decide +kernel
theorem dX12_looks_107 : decode cX12_looks 107 = .ok (.aload_n 0, 1) := by decide +kernel
theorem dX12_looks_108 : decode cX12_looks 108 = .ok (.getfield 370, 3) := by decide +kernel
theorem dX12_looks_111 : decode cX12_looks 111 = .ok (.if_icmp .ne 29, 3) := by decide +kernel
theorem dX12_looks_114 : decode cX12_looks 114 = .ok (.iload_n 3, 1) := by decide +kernel
theorem dX12_looks_115 : decode cX12_looks 115 = .ok (.aload_n 0, 1) := by decide +kernel
theorem dX12_looks_116 : decode cX12_looks 116 = .ok (.getfield 373, 3) := by decide +kernel
theorem dX12_looks_119 : decode cX12_looks 119 = .ok (.if_icmp .lt 20, 3) := by decide +kernel
theorem dX12_looks_122 : decode cX12_looks 122 = .ok (.iload_n 3, 1) := by decide +kernel
theorem dX12_looks_123 : decode cX12_looks 123 = .ok (.aload_n 0, 1) := by decide +kernel
theorem dX12_looks_124 : decode cX12_looks 124 = .ok (.getfield 373, 3) := by decide +kernel
theorem dX12_looks_127 : decode cX12_looks 127 = .ok (.if_icmp .ne 13, 3) := by decide +kernel
theorem dX12_looks_130 : decode cX12_looks 130 = .ok (.iload 4, 2) := by decide +kernel
theorem dX12_looks_132 : decode cX12_looks 132 = .ok (.aload_n 0, 1) := by decide +kernel
theorem dX12_looks_133 : decode cX12_looks 133 = .ok (.getfield 376, 3) := by decide +kernel
theorem dX12_looks_136 : decode cX12_looks 136 = .ok (.if_icmp .lt 4, 3) := by decide +kernel
theorem dX12_looks_139 : decode cX12_looks 139 = .ok (.return_, 1) := by decide +kernel
theorem dX12_looks_140 : decode cX12_looks 140 = .ok (.aload_n 0, 1) := by decide +kernel
theorem dX12_looks_141 : decode cX12_looks 141 = .ok (.aload_n 0, 1) := by decide +kernel
theorem dX12_looks_142 : decode cX12_looks 142 = .ok (.getfield 352, 3) := by decide +kernel
theorem dX12_looks_145 : decode cX12_looks 145 = .ok (.putfield 367, 3) := by decide +kernel
theorem dX12_looks_148 : decode cX12_looks 148 = .ok (.aload_n 0, 1) := by decide +kernel
theorem dX12_looks_149 : decode cX12_looks 149 = .ok (.iload_n 2, 1) := by decide +kernel
theorem dX12_looks_150 : decode cX12_looks 150 = .ok (.putfield 370, 3) := by decide +kernel
theorem dX12_looks_153 : decode cX12_looks 153 = .ok (.aload_n 0, 1) := by decide +kernel
theorem dX12_looks_154 : decode cX12_looks 154 = .ok (.iload_n 3, 1) := by decide +kernel
theorem dX12_looks_155 : decode cX12_looks 155 = .ok (.putfield 373, 3) := by decide +kernel
theorem dX12_looks_158 : decode cX12_looks 158 = .ok (.aload_n 0, 1) := by decide +kernel
theorem dX12_looks_159 : decode cX12_looks 159 = .ok (.iload 4, 2) := by decide +kernel
theorem dX12_looks_161 : decode cX12_looks 161 = .ok (.putfield 376, 3) := by decide +kernel
theorem dX12_looks_164 : decode cX12_looks 164 = .ok (.iconst 0, 1) := by decide +kernel
theorem dX12_looks_165 : decode cX12_looks 165 = .ok (.istore 5, 2) := by decide +kernel
theorem dX12_looks_167 : decode cX12_looks 167 = .ok (.iload 5, 2) := by decide +kernel
theorem dX12_looks_169 : decode cX12_looks 169 = .ok (.aload_n 0, 1) := by decide +kernel
theorem dX12_looks_170 : decode cX12_looks 170 = .ok (.getfield 352, 3) := by decide +kernel
theorem dX12_looks_173 : decode cX12_looks 173 = .ok (.if_icmp .ge 79, 3) := by decide +kernel
theorem dX12_looks_176 : decode cX12_looks 176 = .ok (.aload_n 0, 1) := by decide +kernel
theorem dX12_looks_177 : decode cX12_looks 177 = .ok (.getfield 176, 3) := by decide +kernel
theorem dX12_looks_180 : decode cX12_looks 180 = .ok (.iload 5, 2) := by decide +kernel
theorem dX12_looks_182 : decode cX12_looks 182 = .ok (.aload_n 0, 1) := by decide +kernel
theorem dX12_looks_183 : decode cX12_looks 183 = .ok (.getfield 146, 3) := by decide +kernel
theorem dX12_looks_186 : decode cX12_looks 186 = .ok (.iload 5, 2) := by decide +kernel
theorem dX12_looks_188 : decode cX12_looks 188 = .ok (.iaload, 1) := by decide +kernel
theorem dX12_looks_189 : decode cX12_looks 189 = .ok (.iastore, 1) := by decide +kernel
theorem dX12_looks_190 : decode cX12_looks 190 = .ok (.aload_n 0, 1) := by decide +kernel
theorem dX12_looks_191 : decode cX12_looks 191 = .ok (.getfield 179, 3) := by decide +kernel
theorem dX12_looks_194 : decode cX12_looks 194 = .ok (.iload 5, 2) := by decide +kernel
theorem dX12_looks_196 : decode cX12_looks 196 = .ok (.aload_n 0, 1) := by decide +kernel
theorem dX12_looks_197 : decode cX12_looks 197 = .ok (.getfield 149, 3) := by decide +kernel
theorem dX12_looks_200 : decode cX12_looks 200 = .ok (.iload 5, 2) := by decide +kernel
theorem dX12_looks_202 : decode cX12_looks 202 = .ok (.iaload, 1) := by decide +kernel
theorem dX12_looks_203 : decode cX12_looks 203 = .ok (.iastore, 1) := by decide +kernel
theorem dX12_looks_204 : decode cX12_looks 204 = .ok (.aload_n 0, 1) := by decide +kernel
theorem dX12_looks_205 : decode cX12_looks 205 = .ok (.getfield 182, 3) := by decide +kernel
theorem dX12_looks_208 : decode cX12_looks 208 = .ok (.iload 5, 2) := by decide +kernel
theorem dX12_looks_210 : decode cX12_looks 210 = .ok (.aload_n 0, 1) := by decide +kernel
theorem dX12_looks_211 : decode cX12_looks 211 = .ok (.getfield 152, 3) := by decide +kernel
theorem dX12_looks_214 : decode cX12_looks 214 = .ok (.iload 5, 2) := by decide +kernel
theorem dX12_looks_216 : decode cX12_looks 216 = .ok (.iaload, 1) := by decide +kernel
theorem dX12_looks_217 : decode cX12_looks 217 = .ok (.iastore, 1) := by decide +kernel
theorem dX12_looks_218 : decode cX12_looks 218 = .ok (.aload_n 0, 1) := by decide +kernel
theorem dX12_looks_219 : decode cX12_looks 219 = .ok (.getfield 185, 3) := by decide +kernel
theorem dX12_looks_222 : decode cX12_looks 222 = .ok (.iload 5, 2) := by decide +kernel
theorem dX12_looks_224 : decode cX12_looks 224 = .ok (.aload_n 0, 1) := by decide +kernel
theorem dX12_looks_225 : decode cX12_looks 225 = .ok (.getfield 155, 3) := by decide +kernel
theorem dX12_looks_228 : decode cX12_looks 228 = .ok (.iload 5, 2) := by decide +kernel
theorem dX12_looks_230 : decode cX12_looks 230 = .ok (.iaload, 1) := by decide +kernel
theorem dX12_looks_231 : decode cX12_looks 231 = .ok (.iastore, 1) := by decide +kernel
theorem dX12_looks_232 : decode cX12_looks 232 = .ok (.aload_n 0, 1) := by decide +kernel
theorem dX12_looks_233 : decode cX12_looks 233 = .ok (.getfield 188, 3) := by decide +kernel
theorem dX12_looks_236 : decode cX12_looks 236 = .ok (.iload 5, 2) := by decide +kernel
theorem dX12_looks_238 : decode cX12_looks 238 = .ok (.aload_n 0, 1) := by decide +kernel
theorem dX12_looks_239 : decode cX12_looks 239 = .ok (.getfield 158, 3) := by decide +kernel
theorem dX12_looks_242 : decode cX12_looks 242 = .ok (.iload 5, 2) := by decide +kernel
theorem dX12_looks_244 : decode cX12_looks 244 = .ok (.iaload, 1) := by decide +kernel
theorem dX12_looks_245 : decode cX12_looks 245 = .ok (.iastore, 1) := by decide +kernel
theorem dX12_looks_246 : decode cX12_looks 246 = .ok (.iinc 5 1, 3) := by decide +kernel
theorem dX12_looks_249 : decode cX12_looks 249 = .ok (.goto (-82), 3) := by decide +kernel
theorem dX12_looks_252 : decode cX12_looks 252 = .ok (.return_, 1) := by decide +kernel
set_option maxRecDepth 20000 in
theorem ggX12_makes_X12_knows : GoodIn wsX12_makes wsX12_knows := goodIn_r _ [23, 24, 25, 26, 27, 28, 29, 111, 112, 113, 114, 115, 116, 117, 118, 119, 120, 121, 122, 123, 124, 125, 126, 127, 128, 129, 130, 131, 132, 133, 134, 135, 136, 137, 138, 139, 140, 141, 142, 143, 144, 145, 146, 147, 148, 149, 150, 151, 152, 153, 154, 155, 156, 157, 158, 159, 160, 161, 162, 163, 164, 165, 166, 167, 168, 169, 170, 171, 172, 173, 174, 175, 176, 177, 178, 179, 180, 181, 182, 183, 184, 185, 186, 187, 188, 189, 190, 191, 192, 193, 194, 195] (by decide +kernel) (by decide +kernel)
set_option maxRecDepth 20000 in
theorem gX12_makes_X12_knows : GoodIn wsX12_makes (wsV RX12 336 RX12 yX12_knows wsX12_knows) := goodIn_app (goodIn_of _ (by decide +kernel)) ggX12_makes_X12_knows
set_option maxRecDepth 20000 in
theorem ggX12_makes_X12_looks : GoodIn wsX12_makes wsX12_looks := goodIn_r _ [33, 1, 34, 5, 8, 35, 36, 2, 18, 37, 38, 9, 12, 39, 13, 15, 40, 17, 111, 112, 113, 114, 115, 116, 117, 118, 119, 120, 121, 122, 123, 124, 125, 126, 127, 128, 129, 130, 131, 132, 133, 134, 135, 136, 137, 138, 139, 140, 141, 142, 143, 144, 145, 146, 147, 148, 149, 150, 151, 152, 153, 154, 155, 156, 157, 158, 159, 160, 161, 162, 163, 164, 165, 166, 167, 168, 169, 170, 171, 172, 173, 174, 175, 176, 177, 178, 179, 180, 181, 182, 183, 184, 185, 186, 187, 188, 189, 190, 191, 192, 193, 194, 195] (by decide +kernel) (by decide +kernel)
set_option maxRecDepth 20000 in
theorem gX12_makes_X12_looks : GoodIn wsX12_makes (wsV RX12 379 RX12 yX12_looks wsX12_looks) := goodIn_app (goodIn_of _ (by decide +kernel)) ggX12_makes_X12_looks
set_option maxRecDepth 20000 in
theorem ggX12_makes_X12_places : GoodIn wsX12_makes wsX12_places := goodIn_r _ [44, 1, 40, 45, 5, 24, 46, 47, 26, 48, 49, 39, 35, 36, 50, 51, 52, 22, 53, 54, 55, 56, 57, 58, 59, 60, 61, 62, 63, 64, 65, 66, 67, 68, 69, 70, 25, 71, 72, 73, 74, 75, 34, 76, 77, 78, 79, 80, 81, 82, 83, 84, 85, 86, 87, 88, 89, 90, 91, 92, 93, 94, 95, 96, 97, 98, 99, 100, 101, 102, 103, 104, 105, 106, 107, 108, 109, 110, 111, 112, 113, 114, 115, 116, 117, 118, 119, 120, 121, 122, 123, 124, 125, 126, 127, 128, 129, 130, 131, 132, 133, 134, 135, 136, 137, 138, 139, 140, 141, 142, 143, 144, 145, 146, 147, 148, 149, 150, 151, 152, 153, 154, 155, 156, 157, 158, 159, 160, 161, 162, 163, 164, 165, 166, 167, 168, 169, 170, 171, 172, 173, 174, 175, 176, 177, 178, 179, 180, 181, 182, 183, 184, 185, 186, 187, 188, 189, 190, 191, 192, 193, 194, 195] (by decide +kernel) (by decide +kernel)
set_option maxRecDepth 20000 in
theorem gX12_makes_X12_places : GoodIn wsX12_makes (wsV RX12 364 RX12 yX12_places wsX12_places) := goodIn_app (goodIn_of _ (by decide +kernel)) ggX12_makes_X12_places
theorem dX12_makes_0 : decode cX12_makes 0 = .ok (.aload_n 0, 1) := by decide +kernel
theorem dX12_makes_1 : decode cX12_makes 1 = .ok (.iload_n 1, 1) := by decide +kernel
theorem dX12_makes_2 : decode cX12_makes 2 = .ok (.invokevirtual 336, 3) := by decide +kernel
theorem dX12_makes_5 : decode cX12_makes 5 = .ok (.aload_n 0, 1) := by decide +kernel
